/-! ===== Elimination: eliminate (printed by wip/gen/rE5.py) ===== -/
section ZA
variable {G : jg} {Y : jm} {d : Nat} {Q : jq} {rc rs pc : Nat} {L : List (Option Value)} {st : List Value} {M : mheap}
theorem jn_zald {a i : Nat} {D : List Int32} {v : Int32} (hd : decode Y.2.1 pc = .ok (.baload, 1)) (hT : (G.2.2.1[2]?).map (·.2) = some .boolean) (hM : M a = some (.inr 2, D.map .int)) (hl : D.length < 2 ^ 31) (hi : i < D.length) (hv : D.getD i 0 = v) (k : jj G Y d Q rc rs (pc + 1) L (.int v :: st) M) : jj G Y d Q rc rs pc L (.int (nI i) :: .ref a :: st) M := jj_zald hd hT hM rfl (by rw [List.length_map]; exact hl) (by rw [← hv]; exact gd_int hi) k
theorem jn_zast {a i : Nat} {D : List Int32} {v : Int32} (hd : decode Y.2.1 pc = .ok (.bastore, 1)) (hT : (G.2.2.1[2]?).map (·.2) = some .boolean) (hM : M a = some (.inr 2, D.map .int)) (hl : D.length < 2 ^ 31) (hi : i < D.length) (hn : narrow .boolean (.int v) = .int v) (k : jj G Y d Q rc rs (pc + 1) L st (jj_up M a (.inr 2, (D.set i v).map .int))) : jj G Y d Q rc rs pc L (.int v :: .int (nI i) :: .ref a :: st) M := jj_zast hd hT hM rfl (by rw [List.length_map]; exact hl) (by rw [List.length_map]; exact hi) hn (by rw [gd_set]; exact k)
end ZA
/-- the grid as a matrix -/
def gz (V : Nat → Int) (g : Nat → Nat) : imat := fun i j => V (g (32 * i + j))
section E5
variable {G : jg} {d : Nat} {Q : jq} {rc rs : Nat} {M : mheap} {wa la cap : Nat → Nat} {N eu dv hi lo dk el ra pa ia ga rk sw m w : Nat} {P B : List Int32} {g : Nat → Nat} {V : Nat → Int}
theorem ELT.upp {M' : mheap} {P' : List Int32} (hL : ELT M wa el ra pa ia ga dk rk sw m w P B g) (hu : ∀ x, x ≠ pa → M' x = M x) (hg : M' pa = some (.inr 0, P'.map .int)) (hp : P'.length = 16) : ELT M' wa el ra pa ia ga dk rk sw m w P' B g := by
  obtain ⟨h1, h2, ⟨h3, l3⟩, ⟨h4, l4⟩, h5, h6⟩ := hL
  exact ⟨(hu _ (fun e => by rw [e, h3] at h1; cases h1)).trans h1, (hu _ (fun e => by rw [e, h3] at h2; cases h2)).trans h2, ⟨hg, hp⟩, ⟨(hu _ (fun e => by rw [e, h3] at h4; cases h4)).trans h4, l4⟩, (hu _ (fun e => by rw [e, h3] at h5; cases h5)).trans h5, h6⟩
theorem ELT.upi {M' : mheap} {B' : List Int32} (hL : ELT M wa el ra pa ia ga dk rk sw m w P B g) (hu : ∀ x, x ≠ ia → M' x = M x) (hg : M' ia = some (.inr 2, B'.map .int)) (hp : B'.length = 32) : ELT M' wa el ra pa ia ga dk rk sw m w P B' g := by
  obtain ⟨h1, h2, ⟨h3, l3⟩, ⟨h4, l4⟩, h5, h6⟩ := hL
  exact ⟨(hu _ (fun e => by rw [e, h4] at h1; cases h1)).trans h1, (hu _ (fun e => by rw [e, h4] at h2; cases h2)).trans h2, ⟨(hu _ (fun e => by rw [e, h4] at h3; cases h3)).trans h3, l3⟩, ⟨hg, hp⟩, (hu _ (fun e => by rw [e, h4] at h5; cases h5)).trans h5, h6⟩
theorem e_rows {c lm : Nat} (hG : kG G) (hK : KJI wa la cap N hi lo) (hS : KS M wa la cap N eu dv hi lo dk V) (hJ : LJ wa la cap N eu dv hi lo dk el ra pa ia ga) (hL : ELT M wa el ra pa ia ga dk rk sw m w P B g) (hw : w ≤ 32) (hc : c < w) (hrk : rk < m) (hm : m ≤ 16) (hl1 : ∀ i j, rk ≤ i → i < m → j < w → lc (V (g (32 * i + j))) ≤ 63) (h33 : V 33 ≠ 0) (hex : ∀ i j, rk < i → i < m → c < j → j < w → ∃ z : Int, z * V 33 = V (g (32 * rk + c)) * V (g (32 * i + j)) - V (g (32 * i + c)) * V (g (32 * rk + j)) ∧ lc z ≤ 63) (k : ∀ (M' : mheap) (V' : Nat → Int), KS M' wa la cap N eu dv hi lo dk V' → EF M M' wa la N eu dv hi lo → (∀ p, 13 ≤ p → (∀ i' j', rk < i' → i' < m → c ≤ j' → j' < w → p ≠ g (32 * i' + j')) → V' p = V p) → (∀ i, rk < i → i < m → V' (g (32 * i + c)) = 0 ∧ ∀ j, c < j → j < w → V' (g (32 * i + j)) * V 33 = V (g (32 * rk + c)) * V (g (32 * i + j)) - V (g (32 * i + c)) * V (g (32 * rk + j))) → jj G kE_eliminate (d + 6) Q rc rs 85 [some (.ref el), some (.int (nI (lm))), some (.int (nI (c))), some (.int (nI (m)))] [] M') : jj G kE_eliminate (d + 6) Q rc rs 65 [some (.ref el), some (.int (nI (lm))), some (.int (nI (c))), some (.int (nI (rk + 1)))] [] M := by
  have hGP := hL.2.2.2.2.2
  have loop : ∀ mu i, m = i + mu → rk < i → ∀ (M9 : mheap) (V9 : Nat → Int), KS M9 wa la cap N eu dv hi lo dk V9 → EF M M9 wa la N eu dv hi lo → (∀ p, 13 ≤ p → (∀ i' j', rk < i' → i' < i → c ≤ j' → j' < w → p ≠ g (32 * i' + j')) → V9 p = V p) → (∀ i', rk < i' → i' < i → V9 (g (32 * i' + c)) = 0 ∧ ∀ j, c < j → j < w → V9 (g (32 * i' + j)) * V 33 = V (g (32 * rk + c)) * V (g (32 * i' + j)) - V (g (32 * i' + c)) * V (g (32 * rk + j))) → jj G kE_eliminate (d + 6) Q rc rs 65 [some (.ref el), some (.int (nI (lm))), some (.int (nI (c))), some (.int (nI (i)))] [] M9 := by
    intro mu
    induction mu with
    | zero =>
      intro i hk hri M9 V9 hS9 f9 o9 e9
      have ei : m = i := by omega
      subst ei
      have hl9 := (hL.ef hJ f9).1
      refine jj_iload_n (pc := 65) kE_eliminate_d65 rfl ?_
      refine jj_aload_n (pc := 66) kE_eliminate_d66 rfl ?_
      refine jj_getf (pc := 67) kE_eliminate_d67 (kfE_rows hG) hl9 rfl ?_
      refine jn_icmp_ge (pc := 70) (tgt := 85) kE_eliminate_d70 (by decide) (by omega) (by omega) (fun _ => ?_) (fun c => by exfalso; omega)
      show jj G kE_eliminate (d + 6) Q rc rs 85 [some (.ref el), some (.int (nI (lm))), some (.int (nI (c))), some (.int (nI (m)))] [] M9
      exact k M9 V9 hS9 f9 o9 e9
    | succ mu ih =>
      intro i hk hri M9 V9 hS9 f9 o9 e9
      have hL9 := hL.ef hJ f9
      have hl9 := hL9.1
      have vr : ∀ j, j < w → V9 (g (32 * rk + j)) = V (g (32 * rk + j)) := fun j hj => by
        have := hGP.1 (32 * rk + j) (by omega)
        exact o9 _ (by omega) (fun i' j' a b _ _ => hGP.ne (by omega) (by omega) (by omega) (by omega) (by omega))
      have vi : ∀ j, j < w → V9 (g (32 * i + j)) = V (g (32 * i + j)) := fun j hj => by
        have := hGP.1 (32 * i + j) (by omega)
        exact o9 _ (by omega) (fun i' j' a b _ _ => hGP.ne (by omega) (by omega) (by omega) (by omega) (by omega))
      have v33 : V9 33 = V 33 := o9 _ (by omega) (fun i' j' a b _ _ => by have := hGP.1 (32 * i' + j') (by omega); omega)
      refine jj_iload_n (pc := 65) kE_eliminate_d65 rfl ?_
      refine jj_aload_n (pc := 66) kE_eliminate_d66 rfl ?_
      refine jj_getf (pc := 67) kE_eliminate_d67 (kfE_rows hG) hl9 rfl ?_
      refine jn_icmp_ge (pc := 70) (tgt := 85) kE_eliminate_d70 (by decide) (by omega) (by omega) (fun c => by exfalso; omega) (fun _ => ?_)
      refine jj_aload_n (pc := 73) kE_eliminate_d73 rfl ?_
      refine jj_iload_n (pc := 74) kE_eliminate_d74 rfl ?_
      refine jj_iload_n (pc := 75) kE_eliminate_d75 rfl ?_
      refine jj_callV (pc := 76) (b := el) (As := [.int (nI (i)), .int (nI (c))]) kE_eliminate_d76 (kvE_E_clearRow hG) (kG_cl hG rfl) rfl hl9 rfl rfl rfl (Nat.le_of_ble_eq_true rfl) (Nat.le_of_ble_eq_true rfl) (jj_bare0 rfl) ?_
      refine e_clearRow hG hK hS9 hJ hL9 hw hc hri (by omega) (fun j hj => by rw [vr j hj]; exact hl1 rk j (Nat.le_refl _) hrk hj) (fun j hj => by rw [vi j hj]; exact hl1 i j (by omega) (by omega) hj) (by rw [v33]; exact h33) (fun j a b => by rw [v33, vr c hc, vi j b, vi c hc, vr j b]; exact hex i j hri (by omega) a b) (fun M8 V8 hS8 f8 o8 z8 e8 => ?_)
      have hl8 := ((hL.ef hJ (f9.trans f8))).1
      show jj G kE_eliminate (d + 6) Q rc rs 79 [some (.ref el), some (.int (nI (lm))), some (.int (nI (c))), some (.int (nI (i)))] [] M8
      refine jn_iinc (pc := 79) (i + 1) kE_eliminate_d79 rfl (nI_1 _) ?_
      refine jj_goto (pc := 82) (tgt := 65) kE_eliminate_d82 (by decide) ?_
      show jj G kE_eliminate (d + 6) Q rc rs 65 [some (.ref el), some (.int (nI (lm))), some (.int (nI (c))), some (.int (nI (i + 1)))] [] M8
      refine ih (i + 1) (by omega) (by omega) M8 V8 hS8 (f9.trans f8) (fun p p1 p2 => ?_) (fun i' a b => ?_)
      · rw [o8 p p1 (fun j a b => p2 i j hri (by omega) a b)]
        exact o9 p p1 (fun i' j' a b => p2 i' j' a (by omega))
      · by_cases e : i' = i
        · rw [e]
          refine ⟨z8, fun j a b => ?_⟩
          have := e8 j a b
          rw [v33, vr c hc, vi j b, vi c hc, vr j b] at this
          exact this
        · have hk8 : ∀ j, j < w → V8 (g (32 * i' + j)) = V9 (g (32 * i' + j)) := fun j hj => by
            have := hGP.1 (32 * i' + j) (by omega)
            exact o8 _ (by omega) (fun j' _ _ => hGP.ne (by omega) (by omega) (by omega) (by omega) (by omega))
          obtain ⟨q1, q2⟩ := e9 i' a (by omega)
          exact ⟨by rw [hk8 c hc]; exact q1, fun j a b => by rw [hk8 j b]; exact q2 j a b⟩
  exact loop (m - (rk + 1)) (rk + 1) (by omega) (by omega) M V hS (fun _ _ _ _ _ _ => rfl) (fun _ _ _ => rfl) (fun i' a b => by omega)
theorem e_pivot {c lm : Nat} {o9 : Option Value} (hG : kG G) (hK : KJI wa la cap N hi lo) (hS : KS M wa la cap N eu dv hi lo dk V) (hJ : LJ wa la cap N eu dv hi lo dk el ra pa ia ga) (hL : ELT M wa el ra pa ia ga dk rk sw m w P B g) (hw : w ≤ 32) (hc : c < w) (hrk : rk < m) (hm : m ≤ 16) (hl1 : ∀ i j, rk ≤ i → i < m → j < w → lc (V (g (32 * i + j))) ≤ 63) (h33 : V 33 ≠ 0) (hex : ∀ i j, rk < i → i < m → c < j → j < w → ∃ z : Int, z * V 33 = V (g (32 * rk + c)) * V (g (32 * i + j)) - V (g (32 * i + c)) * V (g (32 * rk + j)) ∧ lc z ≤ 63) (k : ∀ (M' : mheap) (V' : Nat → Int) (o3 : Option Value), KS M' wa la cap N eu dv hi lo dk V' → ELT M' wa el ra pa ia ga dk (rk + 1) sw m w (P.set rk (nI c)) (B.set c (nI 1)) g → EFX (fun x => x = el ∨ x = pa ∨ x = ia ∨ x = ga) M M' wa la N eu dv hi lo → (∀ p, 13 ≤ p → p ≠ 33 → (∀ i' j', rk < i' → i' < m → c ≤ j' → j' < w → p ≠ g (32 * i' + j')) → V' p = V p) → V' 33 = V (g (32 * rk + c)) → (∀ i, rk < i → i < m → V' (g (32 * i + c)) = 0 ∧ ∀ j, c < j → j < w → V' (g (32 * i + j)) * V 33 = V (g (32 * rk + c)) * V (g (32 * i + j)) - V (g (32 * i + c)) * V (g (32 * rk + j))) → jj G kE_eliminate (d + 6) Q rc rs 128 [some (.ref el), some (.int (nI (lm))), some (.int (nI (c))), (o3)] [] M') : jj G kE_eliminate (d + 6) Q rc rs 58 [some (.ref el), some (.int (nI (lm))), some (.int (nI (c))), (o9)] [] M := by
  obtain ⟨h547, c17, c33, c34, c64, f1, f2, f3, f4, f5, n1, n2, n3, n4, n5⟩ := id hJ
  have hI := hK.1
  have hGP := hL.2.2.2.2.2
  have hl0 := hL.1
  refine jj_aload_n (pc := 58) kE_eliminate_d58 rfl ?_
  refine jj_getf (pc := 59) kE_eliminate_d59 (kfE_rank hG) hl0 rfl ?_
  refine jn_iconst (pc := 62) 1 kE_eliminate_d62 (by decide) ?_
  refine jn_iadd (pc := 63) (rk + 1) kE_eliminate_d63 (by omega) ?_
  refine jj_istore_n (pc := 64) kE_eliminate_d64 (Nat.le_of_ble_eq_true rfl) ?_
  show jj G kE_eliminate (d + 6) Q rc rs 65 [some (.ref el), some (.int (nI (lm))), some (.int (nI (c))), some (.int (nI (rk + 1)))] [] M
  show jj G kE_eliminate (d + 6) Q rc rs 65 [some (.ref el), some (.int (nI (lm))), some (.int (nI (c))), some (.int (nI (rk + 1)))] [] M
  refine e_rows hG hK hS hJ hL hw hc hrk hm hl1 h33 hex (fun M1 V1 hS1 hf1 o1 e1 => ?_)
  have hL1 := hL.ef hJ hf1
  have hl1b := hL1.1
  have gp := hGP.1 (32 * rk + c) (by omega)
  have vp : V1 (g (32 * rk + c)) = V (g (32 * rk + c)) := o1 _ (by omega) (fun i' j' a b _ _ => hGP.ne (by omega) (by omega) (by omega) (by omega) (by omega))
  obtain ⟨T3, t3, hT3, _, _⟩ := hS1.1 33 (by omega)
  show jj G kE_eliminate (d + 6) Q rc rs 85 [some (.ref el), some (.int (nI (lm))), some (.int (nI (c))), some (.int (nI (m)))] [] M1
  refine jj_aload_n (pc := 85) kE_eliminate_d85 rfl ?_
  refine jj_getf (pc := 86) kE_eliminate_d86 (kfE_last hG) hl1b rfl ?_
  refine jj_aload_n (pc := 89) kE_eliminate_d89 rfl ?_
  refine jj_aload_n (pc := 90) kE_eliminate_d90 rfl ?_
  refine jj_getf (pc := 91) kE_eliminate_d91 (kfE_rank hG) hl1b rfl ?_
  refine jj_iload_n (pc := 94) kE_eliminate_d94 rfl ?_
  refine jj_callV (pc := 95) (b := el) (As := [.int (nI (rk)), .int (nI (c))]) kE_eliminate_d95 (kvE_E_at hG) (kG_cl hG rfl) rfl hl1b rfl rfl rfl (Nat.le_of_ble_eq_true rfl) (Nat.le_of_ble_eq_true rfl) (jj_bare0 rfl) ?_
  refine e_at hG hL1 (by omega) (by omega) ?_
  show jj G kE_eliminate (d + 6) Q rc rs 98 [some (.ref el), some (.int (nI (lm))), some (.int (nI (c))), some (.int (nI (m)))] [.ref (wa (g (32 * rk + c))), .ref (wa 33)] M1
  refine jj_callV (pc := 98) (b := (wa 33)) (As := [.ref (wa (g (32 * rk + c)))]) kE_eliminate_d98 (kvE_W_copy hG) (kG_cl hG rfl) rfl hT3 rfl rfl rfl (Nat.le_of_ble_eq_true rfl) (Nat.le_of_ble_eq_true rfl) (jj_bare0 rfl) ?_
  refine w_copy hG hI hS1.1 (t := 33) (u := (g (32 * rk + c))) (by omega) (by omega) (by rw [vp, c33]; exact lc_room (Nat.le_trans (hl1 rk c (Nat.le_refl _) hrk hc) (by omega))) (fun M2 hc2 hw2 => ?_)
  have hS2 := hS1.wt hK (by omega) hw2 hc2
  have hL2 := hL1.ef hJ (hw2.ef (by omega))
  have hl2 := hL2.1
  obtain ⟨hpa, lpa⟩ := hL2.2.2.1
  obtain ⟨hia, lia⟩ := hL2.2.2.2.1
  show jj G kE_eliminate (d + 6) Q rc rs 101 [some (.ref el), some (.int (nI (lm))), some (.int (nI (c))), some (.int (nI (m)))] [] M2
  refine jj_aload_n (pc := 101) kE_eliminate_d101 rfl ?_
  refine jj_getf (pc := 102) kE_eliminate_d102 (kfE_pivotColumns hG) hl2 rfl ?_
  refine jj_aload_n (pc := 105) kE_eliminate_d105 rfl ?_
  refine jj_getf (pc := 106) kE_eliminate_d106 (kfE_rank hG) hl2 rfl ?_
  refine jj_iload_n (pc := 109) kE_eliminate_d109 rfl ?_
  refine jn_iast (pc := 110) kE_eliminate_d110 (kG_t hG rfl) hpa (by omega) (by omega) ?_
  refine jn_gen (fun M101 hM102 => ?_)
  have h103 : M101 el = some (.inl nE, [.ref ra, .ref pa, .ref ia, .ref (wa 33), .int (nI (rk)), .int (nI (sw)), .int (nI (m)), .int (nI (w)), .ref ga, .ref (wa 34), .ref dk]) := by rw [hM102, jj_up_ne _ _ (fun e => by have q1 := hl2; rw [e, hpa] at q1; cases q1)]; exact hl2
  have h104 : M101 ia = some (.inr 2, (B).map .int) := by rw [hM102, jj_up_ne _ _ (Ne.symm (fun e => by rw [e, hia] at hpa; cases hpa))]; exact hia
  have h105 : M101 pa = some (.inr 0, ((P).set (rk) ((nI (c)))).map .int) := by rw [hM102]; exact jj_up_at _ _ _
  refine jj_aload_n (pc := 111) kE_eliminate_d111 rfl ?_
  refine jj_getf (pc := 112) kE_eliminate_d112 (kfE_isPivot hG) h103 rfl ?_
  refine jj_iload_n (pc := 115) kE_eliminate_d115 rfl ?_
  refine jn_iconst (pc := 116) 1 kE_eliminate_d116 (by decide) ?_
  refine jn_zast (pc := 117) kE_eliminate_d117 (kG_t hG rfl) h104 (by omega) (by omega) (by decide) ?_
  refine jn_gen (fun M106 hM107 => ?_)
  have h108 : M106 el = some (.inl nE, [.ref ra, .ref pa, .ref ia, .ref (wa 33), .int (nI (rk)), .int (nI (sw)), .int (nI (m)), .int (nI (w)), .ref ga, .ref (wa 34), .ref dk]) := by rw [hM107, jj_up_ne _ _ (fun e => by have q1 := h103; rw [e, h104] at q1; cases q1)]; exact h103
  have h109 : M106 pa = some (.inr 0, ((P).set (rk) ((nI (c)))).map .int) := by rw [hM107, jj_up_ne _ _ (fun e => by rw [e, hia] at hpa; cases hpa)]; exact h105
  have h110 : M106 ia = some (.inr 2, ((B).set (c) ((nI (1)))).map .int) := by rw [hM107]; exact jj_up_at _ _ _
  refine jj_aload_n (pc := 118) kE_eliminate_d118 rfl ?_
  refine jj_dup (pc := 119) kE_eliminate_d119 rfl ?_
  refine jj_getf (pc := 120) kE_eliminate_d120 (kfE_rank hG) h108 rfl ?_
  refine jn_iconst (pc := 123) 1 kE_eliminate_d123 (by decide) ?_
  refine jn_iadd (pc := 124) (rk + 1) kE_eliminate_d124 (by omega) ?_
  refine jj_putf (pc := 125) kE_eliminate_d125 (kpE_rank hG) h108 (by rfl) rfl ?_
  refine jn_gen (fun M111 hM112 => ?_)
  have h113 : M111 pa = some (.inr 0, ((P).set (rk) ((nI (c)))).map .int) := by rw [hM112, jj_up_ne _ _ (fun e => by have q1 := h109; rw [e, h108] at q1; cases q1)]; exact h109
  have h114 : M111 ia = some (.inr 2, ((B).set (c) ((nI (1)))).map .int) := by rw [hM112, jj_up_ne _ _ (fun e => by have q1 := h110; rw [e, h108] at q1; cases q1)]; exact h110
  have h115 : M111 el = some (.inl nE, [.ref ra, .ref pa, .ref ia, .ref (wa 33), .int (nI (rk + 1)), .int (nI (sw)), .int (nI (m)), .int (nI (w)), .ref ga, .ref (wa 34), .ref dk]) := by rw [hM112]; exact jj_up_at _ _ _
  show jj G kE_eliminate (d + 6) Q rc rs 128 [some (.ref el), some (.int (nI (lm))), some (.int (nI (c))), some (.int (nI (m)))] [] M111
  have u3 : ∀ x, x ≠ pa → M101 x = M2 x := fun x hx => by rw [hM102, jj_up_ne _ _ hx]
  have u4 : ∀ x, x ≠ ia → M106 x = M101 x := fun x hx => by rw [hM107, jj_up_ne _ _ hx]
  have u5 : ∀ x, x ≠ el → M111 x = M106 x := fun x hx => by rw [hM112, jj_up_ne _ _ hx]
  have hL3 := hL2.upp u3 h105 (by rw [List.length_set]; exact lpa)
  have hL4 := hL3.upi u4 h110 (by rw [List.length_set]; exact lia)
  have hL5 := hL4.upo u5 h115
  have hS5 := ((hS2.up f3 n3 u3).up f4 n4 u4).up f1 n2 u5
  have hF : EFX (fun x => x = el ∨ x = pa ∨ x = ia ∨ x = ga) M M2 wa la N eu dv hi lo := (hf1.trans (hw2.ef (by omega))).efx
  have hF5 := ((hF.trans (EFX.up u3 (Or.inr (Or.inl rfl)))).trans (EFX.up u4 (Or.inr (Or.inr (Or.inl rfl))))).trans (EFX.up u5 (Or.inl rfl))
  refine k M111 _ _ hS5 hL5 hF5 (fun p p1 p2 p3 => by rw [vup_ne _ _ p2]; exact o1 p p1 p3) (by rw [vup_at, vp]) (fun i a b => ?_)
  obtain ⟨q1, q2⟩ := e1 i a b
  refine ⟨?_, fun j x y => ?_⟩
  · have := hGP.1 (32 * i + c) (by omega)
    rw [vup_ne _ _ (by omega)]; exact q1
  · have := hGP.1 (32 * i + j) (by omega)
    rw [vup_ne _ _ (by omega)]; exact q2 j x y
end E5
