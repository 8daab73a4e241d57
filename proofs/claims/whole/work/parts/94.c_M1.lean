/-! ===== Matrix: at, clear (printed by wip/gen/rM1.py) ===== -/
/-- a matrix at mx: its cells are the places b, b + 1 .., COMMON the place b + 256 -/
def MXT (M : mheap) (wa : Nat → Nat) (mx ar b r c : Nat) : Prop := M mx = some (.inl nM, [.int (nI r), .int (nI c), .ref (wa (b + 256)), .ref ar]) ∧ M ar = some (.inr 3, (List.range 256).map (fun i => Value.ref (wa (b + i))))
theorem EF.arr {M M' : mheap} {wa la cap : Nat → Nat} {N eu dv hi lo : Nat} {V : Nat → Int} {n x : Nat} {fs : List Value} (h : EF M M' wa la N eu dv hi lo) (hc : CW M wa la cap N V) {r px pf py po ps od : Nat} (hU : US M wa eu dv hi lo 0 r px pf py po ps od) (hx : M x = some (.inr n, fs)) (hn : n ≠ 0) : M' x = some (.inr n, fs) := by
  obtain ⟨_, ⟨d1, ⟨H, d2, _⟩, L, d3, _⟩, _, a, b, c, d9, e1⟩ := hU
  rw [h x (fun p hp => ?_) (fun e => by rw [e, d2] at hx; exact hn (by cases hx; rfl)) (fun e => by rw [e, d3] at hx; exact hn (by cases hx; rfl)) (fun e => by rw [e, e1] at hx; cases hx) (fun e => by rw [e, d1] at hx; cases hx)]
  · exact hx
  · obtain ⟨D, c, a1, a2, _⟩ := hc p hp
    exact ⟨fun e => (by rw [e, a1] at hx; cases hx), fun e => (by rw [e, a2] at hx; exact hn (by cases hx; rfl))⟩
theorem MXT.ef {M M' : mheap} {wa la cap : Nat → Nat} {N eu dv hi lo dk : Nat} {V : Nat → Int} {mx ar b r c : Nat} (h : MXT M wa mx ar b r c) (hS : KS M wa la cap N eu dv hi lo dk V) (hf : EF M M' wa la N eu dv hi lo) : MXT M' wa mx ar b r c := by
  obtain ⟨hc, ⟨r', px, pf, py, po, ps, od, hU⟩, _⟩ := hS
  exact ⟨hf.obj hc hU h.1 (by decide) (by decide) (by decide), hf.arr hc hU h.2 (by decide)⟩
/-- the cells that two loops have been through: all rows before i, and j cells of row i -/
def thru (c i j i' j' : Nat) : Prop := j' < c ∧ (i' < i ∨ (i' = i ∧ j' < j))
theorem cell_inj {i j i' j' : Nat} (hj : j < 16) (hj' : j' < 16) (h : 16 * i + j = 16 * i' + j') : i = i' ∧ j = j' := by omega
section M1
variable {G : jg} {d : Nat} {Q : jq} {rc rs : Nat} {M : mheap} {wa la cap : Nat → Nat} {N eu dv hi lo dk : Nat} {V : Nat → Int}
theorem m_at {mx ar b r c i j : Nat} (hG : kG G) (hM : MXT M wa mx ar b r c) (hi16 : i < 16) (hj16 : j < 16) (k : Q (.returned (some (.ref (wa (b + (16 * i + j)))))) M rc rs) : jj G kM_at d Q rc rs 0 (jj_ent [.ref mx, .int (nI i), .int (nI j)] 3) [] M := by
  obtain ⟨hm, har⟩ := hM
  show jj G kM_at (d) Q rc rs 0 [some (.ref mx), some (.int (nI (i))), some (.int (nI (j)))] [] M
  refine jj_aload_n (pc := 0) kM_at_d0 rfl ?_
  refine jj_getf (pc := 1) kM_at_d1 (kfM_cells hG) hm rfl ?_
  refine jj_iload_n (pc := 4) kM_at_d4 rfl ?_
  refine jn_bipush (pc := 5) 16 kM_at_d5 (by decide) ?_
  refine jn_imul (pc := 7) (16 * i) kM_at_d7 (by omega) ?_
  refine jj_iload_n (pc := 8) kM_at_d8 rfl ?_
  refine jn_iadd (pc := 9) (16 * i + j) kM_at_d9 (by omega) ?_
  refine jj_aald (pc := 10) (i := 16 * i + j) kM_at_d10 (kG_t hG rfl) har rfl (by rw [List.length_map, List.length_range]; decide) (by rw [List.getElem?_map, List.getElem?_range (by omega)]; rfl) ?_
  exact jj_aret (pc := 11) kM_at_d11 rfl (by first | exact Or.inl ⟨_, rfl⟩ | exact Or.inr ⟨_, rfl⟩) k
theorem m_clear {mx ar b r0 c0 r c : Nat} (hG : kG G) (hK : KJI wa la cap N hi lo) (hS : KS M wa la cap N eu dv hi lo dk V) (hM : MXT M wa mx ar b r0 c0) (hb : b + 256 < N) (hb7 : 13 ≤ b) (hcb : 1 ≤ cap (b + 256)) (hr : r ≤ 16) (hcc : c ≤ 16) (k : ∀ (M' : mheap) (V' : Nat → Int), KS M' wa la cap N eu dv hi lo dk V' → MXT M' wa mx ar b r c → V' (b + 256) = 1 → (∀ i j, i < r → j < c → V' (b + (16 * i + j)) = 0) → (∀ p, p < b ∨ b + 256 < p → V' p = V p) → (∀ x, x ≠ mx → (∀ p, p < N → x ≠ wa p ∧ x ≠ la p) → M' x = M x) → Q (.returned none) M' rc rs) : jj G kM_clear (d + 1) Q rc rs 0 (jj_ent [.ref mx, .int (nI r), .int (nI c)] 5) [] M := by
  obtain ⟨hI, hN, hcap, hdi⟩ := id hK
  obtain ⟨hc, ⟨r', px, pf, py, po, ps, od, hU⟩, hdk⟩ := id hS
  obtain ⟨hm, har⟩ := id hM
  obtain ⟨_, ⟨d1, ⟨H, d2, lH⟩, L, d3, lL⟩, ho, ea, eb, ec, ed, e1⟩ := id hU
  have nw : ∀ p, p < N → wa p ≠ mx := fun p hp e => by obtain ⟨D9, c9, h91, _, _⟩ := hc p hp; rw [e, hm] at h91; cases h91
  have nl : ∀ p, p < N → la p ≠ mx := fun p hp e => by obtain ⟨D9, c9, _, h92, _⟩ := hc p hp; rw [e, hm] at h92; cases h92
  have n1 : dv ≠ mx := fun e => by rw [e, hm] at d1; cases d1
  have n2 : hi ≠ mx := fun e => by rw [e, hm] at d2; cases d2
  have n3 : lo ≠ mx := fun e => by rw [e, hm] at d3; cases d3
  have n4 : eu ≠ mx := fun e => by rw [e, hm] at e1; cases e1
  have n5 : dk ≠ mx := fun e => by rw [e, hm] at hdk; cases hdk
  have n6 : ar ≠ mx := fun e => by rw [e, hm] at har; cases har
  show jj G kM_clear (d + 1) Q rc rs 0 [some (.ref mx), some (.int (nI (r))), some (.int (nI (c))), none, none] [] M
  refine jj_aload_n (pc := 0) kM_clear_d0 rfl ?_
  refine jj_iload_n (pc := 1) kM_clear_d1 rfl ?_
  refine jj_putf (pc := 2) kM_clear_d2 (kpM_rows hG) hm (by rfl) rfl ?_
  refine jn_gen (fun M101 hM102 => ?_)
  have h103 : M101 mx = some (.inl nM, [.int (nI (r)), .int (nI (c0)), .ref (wa (b + 256)), .ref ar]) := by rw [hM102]; exact jj_up_at _ _ _
  refine jj_aload_n (pc := 5) kM_clear_d5 rfl ?_
  refine jj_iload_n (pc := 6) kM_clear_d6 rfl ?_
  refine jj_putf (pc := 7) kM_clear_d7 (kpM_columns hG) h103 (by rfl) rfl ?_
  refine jn_gen (fun M104 hM105 => ?_)
  have h106 : M104 mx = some (.inl nM, [.int (nI (r)), .int (nI (c)), .ref (wa (b + 256)), .ref ar]) := by rw [hM105]; exact jj_up_at _ _ _
  have hf1 : ∀ x, x ≠ mx → M104 x = M x := fun x hx => by rw [hM105, jj_up_ne _ _ hx, hM102, jj_up_ne _ _ hx]
  have hc1 : CW M104 wa la cap N V := hc.kept (fun p hp => ⟨hf1 _ (nw p hp), hf1 _ (nl p hp)⟩)
  have hS1 : KS M104 wa la cap N eu dv hi lo dk V := ⟨hc1, ⟨r', px, pf, py, po, ps, od, hU.1, ⟨(hf1 _ n1).trans d1, ⟨H, (hf1 _ n2).trans d2, lH⟩, L, (hf1 _ n3).trans d3, lL⟩, ho, ea, eb, ec, ed, (hf1 _ n4).trans e1⟩, (hf1 _ n5).trans hdk⟩
  have hM1 : MXT M104 wa mx ar b r c := ⟨h106, (hf1 _ n6).trans har⟩
  obtain ⟨T1, t1, hT1, _, _⟩ := hc1 (b + 256) hb
  refine jj_aload_n (pc := 10) kM_clear_d10 rfl ?_
  refine jj_getf (pc := 11) kM_clear_d11 (kfM_common hG) h106 rfl ?_
  refine jj_callV (pc := 14) (b := (wa (b + 256))) (As := []) kM_clear_d14 (kvM_W_putOne hG) (kG_cl hG rfl) rfl hT1 rfl rfl rfl (Nat.le_of_ble_eq_true rfl) (Nat.le_of_ble_eq_true rfl) (jj_bare0 rfl) ?_
  refine w_putOne hG hI hc1 hb hcb (fun M2 hc2 hw2 => ?_)
  show jj G kM_clear (d + 1) Q rc rs 17 [some (.ref mx), some (.int (nI (r))), some (.int (nI (c))), none, none] [] M2
  have hS2 := hS1.wt hK hb hw2 hc2
  have hM2 := hM1.ef hS1 (hw2.ef hb)
  have hf2 : ∀ x, x ≠ mx → (∀ p, p < N → x ≠ wa p ∧ x ≠ la p) → M2 x = M x := fun x h1 h2 => (hw2 x (h2 _ hb).1 (h2 _ hb).2).trans (hf1 x h1)
  refine jn_iconst (pc := 17) 0 kM_clear_d17 (by decide) ?_
  refine jj_istore_n (pc := 18) kM_clear_d18 (Nat.le_of_ble_eq_true rfl) ?_
  show jj G kM_clear (d + 1) Q rc rs 19 [some (.ref mx), some (.int (nI (r))), some (.int (nI (c))), some (.int (nI (0))), none] [] M2
  show jj G kM_clear (d + 1) Q rc rs 19 [some (.ref mx), some (.int (nI (r))), some (.int (nI (c))), some (.int (nI (0))), none] [] M2
  have outer : ∀ mu i, r = i + mu → ∀ (o4 : Option Value) (M9 : mheap) (V9 : Nat → Int), KS M9 wa la cap N eu dv hi lo dk V9 → MXT M9 wa mx ar b r c → V9 (b + 256) = 1 → (∀ i' j', thru c i 0 i' j' → V9 (b + (16 * i' + j')) = 0) → (∀ p, p < b ∨ b + 256 < p → V9 p = V p) → (∀ x, x ≠ mx → (∀ p, p < N → x ≠ wa p ∧ x ≠ la p) → M9 x = M x) → jj G kM_clear (d + 1) Q rc rs 19 [some (.ref mx), some (.int (nI (r))), some (.int (nI (c))), some (.int (nI (i))), (o4)] [] M9 := by
    intro mu
    induction mu with
    | zero =>
      intro i hk o4 M9 V9 hS9 hM9 v1 v0 vo f9
      have e9 : r = i := by omega
      subst e9
      have h9m := hM9.1
      refine jj_iload_n (pc := 19) kM_clear_d19 rfl ?_
      refine jj_aload_n (pc := 20) kM_clear_d20 rfl ?_
      refine jj_getf (pc := 21) kM_clear_d21 (kfM_rows hG) h9m rfl ?_
      refine jn_icmp_ge (pc := 24) (tgt := 61) kM_clear_d24 (by decide) (by omega) (by omega) (fun _ => ?_) (fun c => by exfalso; omega)
      exact jj_vret (pc := 61) kM_clear_d61 rfl (k M9 V9 hS9 hM9 v1 (fun i j hi hj => v0 i j ⟨hj, Or.inl hi⟩) vo f9)
    | succ mu ih =>
      intro i hk o4 M9 V9 hS9 hM9 v1 v0 vo f9
      have h9m := hM9.1
      refine jj_iload_n (pc := 19) kM_clear_d19 rfl ?_
      refine jj_aload_n (pc := 20) kM_clear_d20 rfl ?_
      refine jj_getf (pc := 21) kM_clear_d21 (kfM_rows hG) h9m rfl ?_
      refine jn_icmp_ge (pc := 24) (tgt := 61) kM_clear_d24 (by decide) (by omega) (by omega) (fun c => by exfalso; omega) (fun _ => ?_)
      refine jn_iconst (pc := 27) 0 kM_clear_d27 (by decide) ?_
      refine jj_istore (pc := 28) kM_clear_d28 (Nat.le_of_ble_eq_true rfl) ?_
      show jj G kM_clear (d + 1) Q rc rs 30 [some (.ref mx), some (.int (nI (r))), some (.int (nI (c))), some (.int (nI (i))), some (.int (nI (0)))] [] M9
      show jj G kM_clear (d + 1) Q rc rs 30 [some (.ref mx), some (.int (nI (r))), some (.int (nI (c))), some (.int (nI (i))), some (.int (nI (0)))] [] M9
      have inner : ∀ mu2 j, c = j + mu2 → ∀ (M9 : mheap) (V9 : Nat → Int), KS M9 wa la cap N eu dv hi lo dk V9 → MXT M9 wa mx ar b r c → V9 (b + 256) = 1 → (∀ i' j', thru c i j i' j' → V9 (b + (16 * i' + j')) = 0) → (∀ p, p < b ∨ b + 256 < p → V9 p = V p) → (∀ x, x ≠ mx → (∀ p, p < N → x ≠ wa p ∧ x ≠ la p) → M9 x = M x) → jj G kM_clear (d + 1) Q rc rs 30 [some (.ref mx), some (.int (nI (r))), some (.int (nI (c))), some (.int (nI (i))), some (.int (nI (j)))] [] M9 := by
        intro mu2
        induction mu2 with
        | zero =>
          intro j hk2 M9 V9 hS9 hM9 v1 v0 vo f9
          have e9 : c = j := by omega
          subst e9
          have h9m := hM9.1
          refine jj_iload (pc := 30) kM_clear_d30 rfl ?_
          refine jj_aload_n (pc := 32) kM_clear_d32 rfl ?_
          refine jj_getf (pc := 33) kM_clear_d33 (kfM_columns hG) h9m rfl ?_
          refine jn_icmp_ge (pc := 36) (tgt := 55) kM_clear_d36 (by decide) (by omega) (by omega) (fun _ => ?_) (fun c => by exfalso; omega)
          refine jn_iinc (pc := 55) (i + 1) kM_clear_d55 rfl (nI_1 _) ?_
          refine jj_goto (pc := 58) (tgt := 19) kM_clear_d58 (by decide) ?_
          show jj G kM_clear (d + 1) Q rc rs 19 [some (.ref mx), some (.int (nI (r))), some (.int (nI (c))), some (.int (nI (i + 1))), some (.int (nI (c)))] [] M9
          refine ih (i + 1) (by omega) _ M9 V9 hS9 hM9 v1 (fun i' j' h => v0 i' j' ?_) vo f9
          obtain ⟨h1, h2⟩ := h
          exact ⟨h1, by omega⟩
        | succ mu2 ih2 =>
          intro j hk2 M9 V9 hS9 hM9 v1 v0 vo f9
          have h9m := hM9.1
          have hp : b + (16 * i + j) < N := by omega
          obtain ⟨T9, t9, hT9, _, _⟩ := hS9.1 (b + (16 * i + j)) hp
          refine jj_iload (pc := 30) kM_clear_d30 rfl ?_
          refine jj_aload_n (pc := 32) kM_clear_d32 rfl ?_
          refine jj_getf (pc := 33) kM_clear_d33 (kfM_columns hG) h9m rfl ?_
          refine jn_icmp_ge (pc := 36) (tgt := 55) kM_clear_d36 (by decide) (by omega) (by omega) (fun c => by exfalso; omega) (fun _ => ?_)
          refine jj_aload_n (pc := 39) kM_clear_d39 rfl ?_
          refine jj_iload_n (pc := 40) kM_clear_d40 rfl ?_
          refine jj_iload (pc := 41) kM_clear_d41 rfl ?_
          refine jj_callV (pc := 43) (b := mx) (As := [.int (nI (i)), .int (nI (j))]) kM_clear_d43 (kvM_M_at hG) (kG_cl hG rfl) rfl h9m rfl rfl rfl (Nat.le_of_ble_eq_true rfl) (Nat.le_of_ble_eq_true rfl) (jj_bare0 rfl) ?_
          refine m_at hG hM9 (by omega) (by omega) ?_
          show jj G kM_clear (d + 1) Q rc rs 46 [some (.ref mx), some (.int (nI (r))), some (.int (nI (c))), some (.int (nI (i))), some (.int (nI (j)))] [.ref (wa (b + (16 * i + j)))] M9
          refine jj_callV (pc := 46) (b := (wa (b + (16 * i + j)))) (As := []) kM_clear_d46 (kvM_W_putZero hG) (kG_cl hG rfl) rfl hT9 rfl rfl rfl (Nat.le_of_ble_eq_true rfl) (Nat.le_of_ble_eq_true rfl) (jj_bare0 rfl) ?_
          refine w_putZero hG hI hS9.1 hp (fun M8 hc8 hw8 => ?_)
          show jj G kM_clear (d + 1) Q rc rs 49 [some (.ref mx), some (.int (nI (r))), some (.int (nI (c))), some (.int (nI (i))), some (.int (nI (j)))] [] M8
          refine jn_iinc (pc := 49) (j + 1) kM_clear_d49 rfl (nI_1 _) ?_
          refine jj_goto (pc := 52) (tgt := 30) kM_clear_d52 (by decide) ?_
          show jj G kM_clear (d + 1) Q rc rs 30 [some (.ref mx), some (.int (nI (r))), some (.int (nI (c))), some (.int (nI (i))), some (.int (nI (j + 1)))] [] M8
          refine ih2 (j + 1) (by omega) M8 _ (hS9.wt hK hp hw8 hc8) (hM9.ef hS9 (hw8.ef hp)) (by rw [vup_ne _ _ (by omega)]; exact v1) (fun i' j' h => ?_) (fun p h => by rw [vup_ne _ _ (by omega)]; exact vo p h) (fun x h1 h2 => (hw8 x (h2 _ hp).1 (h2 _ hp).2).trans (f9 x h1 h2))
          obtain ⟨g1, g2⟩ := h
          by_cases e : b + (16 * i' + j') = b + (16 * i + j)
          · rw [e, vup_at]
          · rw [vup_ne _ _ e]; exact v0 i' j' ⟨g1, by omega⟩
      refine inner c 0 (by omega) M9 V9 hS9 hM9 v1 v0 vo f9
  refine outer r 0 (by omega) none M2 _ hS2 hM2 (by rw [vup_at]) (fun i' j' h => ?_) (fun p h => by rw [vup_ne _ _ (by omega)]) hf2
  obtain ⟨_, g⟩ := h
  omega
end M1
