/-! ===== Matrix: clearToUnit (printed by wip/gen/rM7.py) ===== -/
section M7
variable {G : jg} {d : Nat} {Q : jq} {rc rs : Nat} {M : mheap} {wa la cap : Nat → Nat} {N eu dv hi lo dk : Nat} {V : Nat → Int}
theorem m_unit {mx ar b r0 c0 n : Nat} (hG : kG G) (hK : KJI wa la cap N hi lo) (hS : KS M wa la cap N eu dv hi lo dk V) (hM : MXT M wa mx ar b r0 c0) (hb : b + 256 < N) (hb7 : 13 ≤ b) (hcb : ∀ p, b ≤ p → p ≤ b + 256 → 1 ≤ cap p) (hn : n ≤ 16) (k : ∀ (M' : mheap) (V' : Nat → Int), KS M' wa la cap N eu dv hi lo dk V' → MXT M' wa mx ar b n n → V' (b + 256) = 1 → (∀ i j, i < n → j < n → V' (b + (16 * i + j)) = if i = j then 1 else 0) → (∀ p, p < b ∨ b + 256 < p → V' p = V p) → (∀ x, x ≠ mx → (∀ p, p < N → x ≠ wa p ∧ x ≠ la p) → M' x = M x) → Q (.returned none) M' rc rs) : jj G kM_clearToUnit (d + 2) Q rc rs 0 (jj_ent [.ref mx, .int (nI n)] 3) [] M := by
  have hI := hK.1
  have hm := hM.1
  show jj G kM_clearToUnit (d + 2) Q rc rs 0 [some (.ref mx), some (.int (nI (n))), none] [] M
  refine jj_aload_n (pc := 0) kM_clearToUnit_d0 rfl ?_
  refine jj_iload_n (pc := 1) kM_clearToUnit_d1 rfl ?_
  refine jj_iload_n (pc := 2) kM_clearToUnit_d2 rfl ?_
  refine jj_callV (pc := 3) (b := mx) (As := [.int (nI (n)), .int (nI (n))]) kM_clearToUnit_d3 (kvM_M_clear hG) (kG_cl hG rfl) rfl hm rfl rfl rfl (Nat.le_of_ble_eq_true rfl) (Nat.le_of_ble_eq_true rfl) (jj_bare0 rfl) ?_
  refine m_clear hG hK hS hM hb hb7 (hcb _ (by omega) (by omega)) hn hn (fun M1 V1 hS1 hM1 v1 v0 vo f1 => ?_)
  show jj G kM_clearToUnit (d + 2) Q rc rs 6 [some (.ref mx), some (.int (nI (n))), none] [] M1
  refine jn_iconst (pc := 6) 0 kM_clearToUnit_d6 (by decide) ?_
  refine jj_istore_n (pc := 7) kM_clearToUnit_d7 (Nat.le_of_ble_eq_true rfl) ?_
  show jj G kM_clearToUnit (d + 2) Q rc rs 8 [some (.ref mx), some (.int (nI (n))), some (.int (nI (0)))] [] M1
  show jj G kM_clearToUnit (d + 2) Q rc rs 8 [some (.ref mx), some (.int (nI (n))), some (.int (nI (0)))] [] M1
  have loop : ∀ mu i, n = i + mu → ∀ (M9 : mheap) (V9 : Nat → Int), KS M9 wa la cap N eu dv hi lo dk V9 → MXT M9 wa mx ar b n n → V9 (b + 256) = 1 → (∀ i' j', i' < n → j' < n → V9 (b + (16 * i' + j')) = if i' = j' ∧ i' < i then 1 else 0) → (∀ p, p < b ∨ b + 256 < p → V9 p = V p) → (∀ x, x ≠ mx → (∀ p, p < N → x ≠ wa p ∧ x ≠ la p) → M9 x = M x) → jj G kM_clearToUnit (d + 2) Q rc rs 8 [some (.ref mx), some (.int (nI (n))), some (.int (nI (i)))] [] M9 := by
    intro mu
    induction mu with
    | zero =>
      intro i hk M9 V9 hS9 hM9 u1 u0 uo f9
      have e9 : n = i := by omega
      subst e9
      have h9m := hM9.1
      refine jj_iload_n (pc := 8) kM_clearToUnit_d8 rfl ?_
      refine jj_iload_n (pc := 9) kM_clearToUnit_d9 rfl ?_
      refine jn_icmp_ge (pc := 10) (tgt := 28) kM_clearToUnit_d10 (by decide) (by omega) (by omega) (fun _ => ?_) (fun c => by exfalso; omega)
      exact jj_vret (pc := 28) kM_clearToUnit_d28 rfl (k M9 V9 hS9 hM9 u1 (fun i j hi hj => by
        rw [u0 i j hi hj]
        by_cases e : i = j
        · rw [if_pos e, if_pos ⟨e, hi⟩]
        · rw [if_neg e, if_neg (fun h => e h.1)]) uo f9)
    | succ mu ih =>
      intro i hk M9 V9 hS9 hM9 u1 u0 uo f9
      have h9m := hM9.1
      have hp : b + (16 * i + i) < N := by omega
      obtain ⟨T9, t9, hT9, _, _⟩ := hS9.1 (b + (16 * i + i)) hp
      refine jj_iload_n (pc := 8) kM_clearToUnit_d8 rfl ?_
      refine jj_iload_n (pc := 9) kM_clearToUnit_d9 rfl ?_
      refine jn_icmp_ge (pc := 10) (tgt := 28) kM_clearToUnit_d10 (by decide) (by omega) (by omega) (fun c => by exfalso; omega) (fun _ => ?_)
      refine jj_aload_n (pc := 13) kM_clearToUnit_d13 rfl ?_
      refine jj_iload_n (pc := 14) kM_clearToUnit_d14 rfl ?_
      refine jj_iload_n (pc := 15) kM_clearToUnit_d15 rfl ?_
      refine jj_callV (pc := 16) (b := mx) (As := [.int (nI (i)), .int (nI (i))]) kM_clearToUnit_d16 (kvM_M_at hG) (kG_cl hG rfl) rfl h9m rfl rfl rfl (Nat.le_of_ble_eq_true rfl) (Nat.le_of_ble_eq_true rfl) (jj_bare0 rfl) ?_
      refine m_at hG hM9 (by omega) (by omega) ?_
      show jj G kM_clearToUnit (d + 2) Q rc rs 19 [some (.ref mx), some (.int (nI (n))), some (.int (nI (i)))] [.ref (wa (b + (16 * i + i)))] M9
      refine jj_callV (pc := 19) (b := (wa (b + (16 * i + i)))) (As := []) kM_clearToUnit_d19 (kvM_W_putOne hG) (kG_cl hG rfl) rfl hT9 rfl rfl rfl (Nat.le_of_ble_eq_true rfl) (Nat.le_of_ble_eq_true rfl) (jj_bare0 rfl) ?_
      refine w_putOne hG hI hS9.1 hp (hcb _ (by omega) (by omega)) (fun M8 hc8 hw8 => ?_)
      show jj G kM_clearToUnit (d + 2) Q rc rs 22 [some (.ref mx), some (.int (nI (n))), some (.int (nI (i)))] [] M8
      refine jn_iinc (pc := 22) (i + 1) kM_clearToUnit_d22 rfl (nI_1 _) ?_
      refine jj_goto (pc := 25) (tgt := 8) kM_clearToUnit_d25 (by decide) ?_
      show jj G kM_clearToUnit (d + 2) Q rc rs 8 [some (.ref mx), some (.int (nI (n))), some (.int (nI (i + 1)))] [] M8
      refine ih (i + 1) (by omega) M8 _ (hS9.wt hK hp hw8 hc8) (hM9.ef hS9 (hw8.ef hp)) (by rw [vup_ne _ _ (by omega)]; exact u1) (fun i' j' h1 h2 => ?_) (fun p h => by rw [vup_ne _ _ (by omega)]; exact uo p h) (fun x h1 h2 => (hw8 x (h2 _ hp).1 (h2 _ hp).2).trans (f9 x h1 h2))
      by_cases e : i' = i ∧ j' = i
      · rw [e.1, e.2, vup_at, if_pos ⟨rfl, by omega⟩]
      · rw [vup_ne _ _ (by omega), u0 i' j' h1 h2]
        by_cases e2 : i' = j' ∧ i' < i
        · rw [if_pos e2, if_pos ⟨e2.1, by omega⟩]
        · rw [if_neg e2, if_neg (by omega)]
  exact loop n 0 (by omega) M1 V1 hS1 hM1 v1 (fun i j hi hj => by rw [v0 i j hi hj, if_neg (by omega)]) vo f1
end M7
