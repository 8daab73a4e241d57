/-! ===== Matrix: negate, scale, divide (printed by wip/gen/rM2.py) ===== -/
section M2
variable {G : jg} {d : Nat} {Q : jq} {rc rs : Nat} {M : mheap} {wa la cap : Nat → Nat} {N eu dv hi lo dk : Nat} {V : Nat → Int}
theorem m_negate {mx ar b r c : Nat} (hG : kG G) (hK : KJI wa la cap N hi lo) (hS : KS M wa la cap N eu dv hi lo dk V) (hM : MXT M wa mx ar b r c) (hb : b + 256 < N) (hb7 : 13 ≤ b) (hr : r ≤ 16) (hcc : c ≤ 16) (k : ∀ (M' : mheap) (V' : Nat → Int), KS M' wa la cap N eu dv hi lo dk V' → MXT M' wa mx ar b r c → V' (b + 256) = -V (b + 256) → (∀ i' j', i' < r → j' < c → V' (b + (16 * i' + j')) = -V (b + (16 * i' + j'))) → (∀ p, 7 ≤ p → p ≠ b + 256 → (∀ i' j', i' < r → j' < c → p ≠ b + (16 * i' + j')) → V' p = V p) → EF M M' wa la N eu dv hi lo → Q (.returned none) M' rc rs) : jj G kM_negate (d + 1) Q rc rs 0 (jj_ent [.ref mx] 3) [] M := by
  obtain ⟨hI, hN, hcap, hdi⟩ := id hK
  have hc := hS.1
  have hm := hM.1
  obtain ⟨T1, t1, hT1, _, _⟩ := hc (b + 256) hb
  show jj G kM_negate (d + 1) Q rc rs 0 [some (.ref mx), none, none] [] M
  refine jj_aload_n (pc := 0) kM_negate_d0 rfl ?_
  refine jj_getf (pc := 1) kM_negate_d1 (kfM_common hG) hm rfl ?_
  refine jj_callV (pc := 4) (b := (wa (b + 256))) (As := []) kM_negate_d4 (kvM_W_negate hG) (kG_cl hG rfl) rfl hT1 rfl rfl rfl (Nat.le_of_ble_eq_true rfl) (Nat.le_of_ble_eq_true rfl) (jj_bare0 rfl) ?_
  refine w_negate hG hI hc hb (fun M2 hc2 hw2 => ?_)
  show jj G kM_negate (d + 1) Q rc rs 7 [some (.ref mx), none, none] [] M2
  have hm2 := (hM.ef hS (hw2.ef hb)).1
  refine jn_iconst (pc := 7) 0 kM_negate_d7 (by decide) ?_
  refine jj_istore_n (pc := 8) kM_negate_d8 (Nat.le_of_ble_eq_true rfl) ?_
  show jj G kM_negate (d + 1) Q rc rs 9 [some (.ref mx), some (.int (nI (0))), none] [] M2
  show jj G kM_negate (d + 1) Q rc rs 9 [some (.ref mx), some (.int (nI (0))), none] [] M2
  have outer : ∀ mu i, r = i + mu → ∀ (oj : Option Value) (M9 : mheap) (V9 : Nat → Int), KS M9 wa la cap N eu dv hi lo dk V9 → MXT M9 wa mx ar b r c → V9 (b + 256) = -V (b + 256) → (∀ i' j', thru c i 0 i' j' → V9 (b + (16 * i' + j')) = -V (b + (16 * i' + j'))) → (∀ p, 7 ≤ p → p ≠ b + 256 → (∀ i' j', thru c i 0 i' j' → p ≠ b + (16 * i' + j')) → V9 p = V p) → EF M M9 wa la N eu dv hi lo → jj G kM_negate (d + 1) Q rc rs 9 [some (.ref mx), some (.int (nI (i))), (oj)] [] M9 := by
    intro mu
    induction mu with
    | zero =>
      intro i hk oj M9 V9 hS9 hM9 v1 v0 vo f9
      have e9 : r = i := by omega
      subst e9
      have h9m := hM9.1
      refine jj_iload_n (pc := 9) kM_negate_d9 rfl ?_
      refine jj_aload_n (pc := 10) kM_negate_d10 rfl ?_
      refine jj_getf (pc := 11) kM_negate_d11 (kfM_rows hG) h9m rfl ?_
      refine jn_icmp_ge (pc := 14) (tgt := 48) kM_negate_d14 (by decide) (by omega) (by omega) (fun _ => ?_) (fun c => by exfalso; omega)
      exact jj_vret (pc := 48) kM_negate_d48 rfl (k M9 V9 hS9 hM9 v1 (fun i j hi hj => v0 i j ⟨hj, Or.inl hi⟩) (fun p h1 h2 h3 => vo p h1 h2 (fun i' j' h => by obtain ⟨g1, g2⟩ := h; exact h3 i' j' (by omega) g1)) f9)
    | succ mu ih =>
      intro i hk oj M9 V9 hS9 hM9 v1 v0 vo f9
      have h9m := hM9.1
      refine jj_iload_n (pc := 9) kM_negate_d9 rfl ?_
      refine jj_aload_n (pc := 10) kM_negate_d10 rfl ?_
      refine jj_getf (pc := 11) kM_negate_d11 (kfM_rows hG) h9m rfl ?_
      refine jn_icmp_ge (pc := 14) (tgt := 48) kM_negate_d14 (by decide) (by omega) (by omega) (fun c => by exfalso; omega) (fun _ => ?_)
      refine jn_iconst (pc := 17) 0 kM_negate_d17 (by decide) ?_
      refine jj_istore_n (pc := 18) kM_negate_d18 (Nat.le_of_ble_eq_true rfl) ?_
      show jj G kM_negate (d + 1) Q rc rs 19 [some (.ref mx), some (.int (nI (i))), some (.int (nI (0)))] [] M9
      show jj G kM_negate (d + 1) Q rc rs 19 [some (.ref mx), some (.int (nI (i))), some (.int (nI (0)))] [] M9
      have inner : ∀ mu2 j, c = j + mu2 → ∀ (M9 : mheap) (V9 : Nat → Int), KS M9 wa la cap N eu dv hi lo dk V9 → MXT M9 wa mx ar b r c → V9 (b + 256) = -V (b + 256) → (∀ i' j', thru c i j i' j' → V9 (b + (16 * i' + j')) = -V (b + (16 * i' + j'))) → (∀ p, 7 ≤ p → p ≠ b + 256 → (∀ i' j', thru c i j i' j' → p ≠ b + (16 * i' + j')) → V9 p = V p) → EF M M9 wa la N eu dv hi lo → jj G kM_negate (d + 1) Q rc rs 19 [some (.ref mx), some (.int (nI (i))), some (.int (nI (j)))] [] M9 := by
        intro mu2
        induction mu2 with
        | zero =>
          intro j hk2 M9 V9 hS9 hM9 v1 v0 vo f9
          have e9 : c = j := by omega
          subst e9
          have h9m := hM9.1
          refine jj_iload_n (pc := 19) kM_negate_d19 rfl ?_
          refine jj_aload_n (pc := 20) kM_negate_d20 rfl ?_
          refine jj_getf (pc := 21) kM_negate_d21 (kfM_columns hG) h9m rfl ?_
          refine jn_icmp_ge (pc := 24) (tgt := 42) kM_negate_d24 (by decide) (by omega) (by omega) (fun _ => ?_) (fun c => by exfalso; omega)
          refine jn_iinc (pc := 42) (i + 1) kM_negate_d42 rfl (nI_1 _) ?_
          refine jj_goto (pc := 45) (tgt := 9) kM_negate_d45 (by decide) ?_
          show jj G kM_negate (d + 1) Q rc rs 9 [some (.ref mx), some (.int (nI (i + 1))), some (.int (nI (c)))] [] M9
          refine ih (i + 1) (by omega) _ M9 V9 hS9 hM9 v1 (fun i' j' h => v0 i' j' ?_) (fun p h1 h2 h3 => vo p h1 h2 (fun i' j' h => h3 i' j' ?_)) f9
          · obtain ⟨g1, g2⟩ := h
            exact ⟨g1, by omega⟩
          · obtain ⟨g1, g2⟩ := h
            exact ⟨g1, by omega⟩
        | succ mu2 ih2 =>
          intro j hk2 M9 V9 hS9 hM9 v1 v0 vo f9
          have h9m := hM9.1
          have hp : b + (16 * i + j) < N := by omega
          have hold9 : V9 (b + (16 * i + j)) = V (b + (16 * i + j)) := vo _ (by omega) (by omega) (fun i' j' h e => by obtain ⟨g1, g2⟩ := h; omega)
          refine jj_iload_n (pc := 19) kM_negate_d19 rfl ?_
          refine jj_aload_n (pc := 20) kM_negate_d20 rfl ?_
          refine jj_getf (pc := 21) kM_negate_d21 (kfM_columns hG) h9m rfl ?_
          refine jn_icmp_ge (pc := 24) (tgt := 42) kM_negate_d24 (by decide) (by omega) (by omega) (fun c => by exfalso; omega) (fun _ => ?_)
          obtain ⟨T9, t9, hT9, _, _⟩ := hS9.1 (b + (16 * i + j)) hp
          refine jj_aload_n (pc := 27) kM_negate_d27 rfl ?_
          refine jj_iload_n (pc := 28) kM_negate_d28 rfl ?_
          refine jj_iload_n (pc := 29) kM_negate_d29 rfl ?_
          refine jj_callV (pc := 30) (b := mx) (As := [.int (nI (i)), .int (nI (j))]) kM_negate_d30 (kvM_M_at hG) (kG_cl hG rfl) rfl h9m rfl rfl rfl (Nat.le_of_ble_eq_true rfl) (Nat.le_of_ble_eq_true rfl) (jj_bare0 rfl) ?_
          refine m_at hG hM9 (by omega) (by omega) ?_
          show jj G kM_negate (d + 1) Q rc rs 33 [some (.ref mx), some (.int (nI (i))), some (.int (nI (j)))] [.ref (wa (b + (16 * i + j)))] M9
          refine jj_callV (pc := 33) (b := (wa (b + (16 * i + j)))) (As := []) kM_negate_d33 (kvM_W_negate hG) (kG_cl hG rfl) rfl hT9 rfl rfl rfl (Nat.le_of_ble_eq_true rfl) (Nat.le_of_ble_eq_true rfl) (jj_bare0 rfl) ?_
          refine w_negate hG hI hS9.1 hp (fun M8 hc8 hw8 => ?_)
          show jj G kM_negate (d + 1) Q rc rs 36 [some (.ref mx), some (.int (nI (i))), some (.int (nI (j)))] [] M8
          have hat : vup V9 (b + (16 * i + j)) (-V9 (b + (16 * i + j))) (b + (16 * i + j)) = -V (b + (16 * i + j)) := by rw [vup_at, hold9]
          have hot : ∀ p, 7 ≤ p → p ≠ b + (16 * i + j) → vup V9 (b + (16 * i + j)) (-V9 (b + (16 * i + j))) p = V9 p := fun p _ h => by rw [vup_ne _ _ h]
          refine jn_iinc (pc := 36) (j + 1) kM_negate_d36 rfl (nI_1 _) ?_
          refine jj_goto (pc := 39) (tgt := 19) kM_negate_d39 (by decide) ?_
          show jj G kM_negate (d + 1) Q rc rs 19 [some (.ref mx), some (.int (nI (i))), some (.int (nI (j + 1)))] [] M8
          refine ih2 (j + 1) (by omega) M8 _ (hS9.wt hK hp hw8 hc8) (hM9.ef hS9 (hw8.ef hp)) ((hot _ (by omega) (by omega)).trans v1) (fun i' j' h => ?_) (fun p h1 h2 h3 => ?_) (f9.trans (hw8.ef hp))
          · obtain ⟨g1, g2⟩ := h
            by_cases e : i' = i ∧ j' = j
            · obtain ⟨e1, e2⟩ := e
              subst e1 e2
              exact hat
            · rw [hot _ (by omega) (by omega)]
              exact v0 i' j' ⟨g1, by omega⟩
          · rw [hot p h1 (h3 i j ⟨by omega, Or.inr ⟨rfl, by omega⟩⟩)]
            exact vo p h1 h2 (fun i' j' h => h3 i' j' (by obtain ⟨g1, g2⟩ := h; exact ⟨g1, by omega⟩))
      exact inner c 0 (by omega) M9 V9 hS9 hM9 v1 v0 vo f9
  refine outer r 0 (by omega) none M2 _ (hS.wt hK hb hw2 hc2) (hM.ef hS (hw2.ef hb)) (by rw [vup_at]) (fun i' j' h => ?_) (fun p h1 h2 h3 => by rw [vup_ne _ _ h2]) (hw2.ef hb)
  obtain ⟨_, g⟩ := h
  omega
end M2
