/-! ===== Elimination: clearRow (printed by wip/gen/rE3.py) ===== -/
theorem lc_mul (a b : Int) : lc (a * b) ≤ lc a + lc b := by
  refine lc_le ?_
  rw [Int.natAbs_mul, Nat.pow_add]
  exact Nat.mul_lt_mul'' (lc_lt a) (lc_lt b)
theorem lc_sub {a b : Int} {n : Nat} (ha : lc a ≤ n) (hb : lc b ≤ n) : lc (a - b) ≤ n + 1 := by
  refine lc_le ?_
  have h1 := Nat.lt_of_lt_of_le (lc_lt a) (Nat.pow_le_pow_right (show 0 < BB by decide) ha)
  have h2 := Nat.lt_of_lt_of_le (lc_lt b) (Nat.pow_le_pow_right (show 0 < BB by decide) hb)
  rw [Nat.pow_succ]
  obtain ⟨t, ht⟩ : ∃ t, BB ^ n = t := ⟨_, rfl⟩
  rw [ht] at h1 h2 ⊢
  have h3 : t * 2 ≤ t * BB := Nat.mul_le_mul_left _ (by decide)
  omega
theorem lc_add {a b : Int} {n : Nat} (ha : lc a ≤ n) (hb : lc b ≤ n) : lc (a + b) ≤ n + 1 := by
  have := lc_sub ha (b := -b) (n := n) (Nat.le_trans (lc_mono (by omega)) hb)
  rw [Int.sub_neg] at this
  exact this
theorem tdiv_is {z L a : Int} (h : z * L = a) (hL : L ≠ 0) : a.tdiv L = z := by rw [← h, Int.mul_tdiv_cancel _ hL]
theorem lc_room {z : Int} {n : Nat} (h : lc z ≤ n) : z.natAbs < BB ^ n := Nat.lt_of_lt_of_le (lc_lt z) (Nat.pow_le_pow_right (by decide) h)
section E3
variable {G : jg} {d : Nat} {Q : jq} {rc rs : Nat} {M : mheap} {wa la cap : Nat → Nat} {N eu dv hi lo dk el ra pa ia ga rk sw m w : Nat} {P B : List Int32} {g : Nat → Nat} {V : Nat → Int}
theorem e_clearRow {i c : Nat} (hG : kG G) (hK : KJI wa la cap N hi lo) (hS : KS M wa la cap N eu dv hi lo dk V) (hJ : LJ wa la cap N eu dv hi lo dk el ra pa ia ga) (hL : ELT M wa el ra pa ia ga dk rk sw m w P B g) (hw : w ≤ 32) (hc : c < w) (hrk : rk < i) (hi16 : i < 16) (hl1 : ∀ j, j < w → lc (V (g (32 * rk + j))) ≤ 63) (hl2 : ∀ j, j < w → lc (V (g (32 * i + j))) ≤ 63) (h33 : V 33 ≠ 0) (hex : ∀ j, c < j → j < w → ∃ z : Int, z * V 33 = V (g (32 * rk + c)) * V (g (32 * i + j)) - V (g (32 * i + c)) * V (g (32 * rk + j)) ∧ lc z ≤ 63) (k : ∀ (M' : mheap) (V' : Nat → Int), KS M' wa la cap N eu dv hi lo dk V' → EF M M' wa la N eu dv hi lo → (∀ p, 13 ≤ p → (∀ j, c ≤ j → j < w → p ≠ (g (32 * i + j))) → V' p = V p) → V' (g (32 * i + c)) = 0 → (∀ j, c < j → j < w → V' (g (32 * i + j)) * V 33 = V (g (32 * rk + c)) * V (g (32 * i + j)) - V (g (32 * i + c)) * V (g (32 * rk + j))) → Q (.returned none) M' rc rs) : jj G kE_clearRow (d + 5) Q rc rs 0 (jj_ent [.ref el, .int (nI i), .int (nI c)] 4) [] M := by
  obtain ⟨hI, hN, hcap, hdi⟩ := id hK
  obtain ⟨h547, c17, c33, c34, c64, f1, f2, f3, f4, f5, n1, n2, n3, n4, n5⟩ := id hJ
  have hGP := hL.2.2.2.2.2
  have hl0 := hL.1
  show jj G kE_clearRow (d + 5) Q rc rs 0 [some (.ref el), some (.int (nI (i))), some (.int (nI (c))), none] [] M
  refine jj_iload_n (pc := 0) kE_clearRow_d0 rfl ?_
  refine jn_iconst (pc := 1) 1 kE_clearRow_d1 (by decide) ?_
  refine jn_iadd (pc := 2) (c + 1) kE_clearRow_d2 (by omega) ?_
  refine jj_istore_n (pc := 3) kE_clearRow_d3 (Nat.le_of_ble_eq_true rfl) ?_
  show jj G kE_clearRow (d + 5) Q rc rs 4 [some (.ref el), some (.int (nI (i))), some (.int (nI (c))), some (.int (nI (c + 1)))] [] M
  show jj G kE_clearRow (d + 5) Q rc rs 4 [some (.ref el), some (.int (nI (i))), some (.int (nI (c))), some (.int (nI (c + 1)))] [] M
  have loop : ∀ mu x, w = x + mu → c < x → ∀ (M9 : mheap) (V9 : Nat → Int), KS M9 wa la cap N eu dv hi lo dk V9 → EF M M9 wa la N eu dv hi lo → (∀ p, 13 ≤ p → (∀ j, c < j → j < x → p ≠ (g (32 * i + j))) → V9 p = V p) → (∀ j, c < j → j < x → V9 (g (32 * i + j)) * V 33 = V (g (32 * rk + c)) * V (g (32 * i + j)) - V (g (32 * i + c)) * V (g (32 * rk + j))) → jj G kE_clearRow (d + 5) Q rc rs 4 [some (.ref el), some (.int (nI (i))), some (.int (nI (c))), some (.int (nI (x)))] [] M9 := by
    intro mu
    induction mu with
    | zero =>
      intro x hk hcx M9 V9 hS9 f9 o9 e9
      have ew : w = x := by omega
      subst ew
      have hL9 := hL.ef hJ f9
      have hl9 := hL9.1
      have gc := hGP.1 (32 * i + c) (by omega)
      obtain ⟨hc0, ⟨r_b, px_b, pf_b, py_b, po_b, ps_b, od_b, hU0⟩, hdk0⟩ := id hS9
      have hf0 : EF M9 M9 wa la N eu dv hi lo := fun _ _ _ _ _ _ => rfl
      obtain ⟨V0, hV0⟩ : ∃ V0, V9 = V0 := ⟨_, rfl⟩
      rw [hV0] at hc0
      have hn0 := hU0.1
      have b_r0 := hn0.2.1
      have b_x0 := hn0.2.2.1
      have b_f0 := hn0.2.2.2.1
      have hdv0 := hU0.2.1
      obtain ⟨ea0, eb0, ec0, ed0, hE0⟩ := hU0.2.2.2
      have hD0 := hdv0.1
      show jj G kE_clearRow (d + 5) Q rc rs 4 [some (.ref el), some (.int (nI (i))), some (.int (nI (c))), some (.int (nI (w)))] [] M9
      refine jj_iload_n (pc := 4) kE_clearRow_d4 rfl ?_
      refine jj_aload_n (pc := 5) kE_clearRow_d5 rfl ?_
      refine jj_getf (pc := 6) kE_clearRow_d6 (kfE_width hG) hl9 rfl ?_
      refine jn_icmp_ge (pc := 9) (tgt := 123) kE_clearRow_d9 (by decide) (by omega) (by omega) (fun _ => ?_) (fun c => by exfalso; omega)
      refine jj_aload_n (pc := 123) kE_clearRow_d123 rfl ?_
      refine jj_iload_n (pc := 124) kE_clearRow_d124 rfl ?_
      refine jj_iload_n (pc := 125) kE_clearRow_d125 rfl ?_
      refine jj_callV (pc := 126) (b := el) (As := [.int (nI (i)), .int (nI (c))]) kE_clearRow_d126 (kvE_E_at hG) (kG_cl hG rfl) rfl hl9 rfl rfl rfl (Nat.le_of_ble_eq_true rfl) (Nat.le_of_ble_eq_true rfl) (jj_bare0 rfl) ?_
      refine e_at hG hL9 (by omega) (by omega) ?_
      show jj G kE_clearRow (d + 5) Q rc rs 129 [some (.ref el), some (.int (nI (i))), some (.int (nI (c))), some (.int (nI (w)))] [.ref (wa (g (32 * i + c)))] M9
      obtain ⟨Tg32ic_0, tg32ic_0, hTg32ic_0, _, _⟩ := hc0 (g (32 * i + c)) (by omega)
      refine jj_callV (pc := 129) (b := (wa (g (32 * i + c)))) (As := []) kE_clearRow_d129 (kvE_W_putZero hG) (kG_cl hG rfl) rfl hTg32ic_0 rfl rfl rfl (Nat.le_of_ble_eq_true rfl) (Nat.le_of_ble_eq_true rfl) (jj_bare0 rfl) ?_
      refine w_putZero hG hI hc0 (by omega) (fun M1 hcx1 hw1  => ?_) 
      obtain ⟨V1, hV1⟩ : ∃ W, vup V0 (g (32 * i + c)) (0) = W := ⟨_, rfl⟩
      have hc1 : CW M1 wa la cap N V1 := by rw [← hV1]; exact hcx1
      have at1 : V1 (g (32 * i + c)) = 0 := by rw [← hV1, vup_at]
      have ot1 : ∀ p, p ≠ (g (32 * i + c)) → V1 p = V0 p := fun p hp => by rw [← hV1, vup_ne _ _ hp]
      have hU1 := hU0.wt hc0 hdi (by omega) hw1
      have hf1 := hf0.trans (hw1.ef (by omega))
      have q1_el := (hw1.ef (eu := eu) (dv := dv) (hi := hi) (lo := lo) (by omega)).obj hc0 hU0 hl9 (by decide) (by decide) (by decide)
      have q1_dk := (hw1.ef (eu := eu) (dv := dv) (hi := hi) (lo := lo) (by omega)).obj hc0 hU0 hdk0 (by decide) (by decide) (by decide)
      have hn1 := hU1.1
      have b_r1 := hn1.2.1
      have b_x1 := hn1.2.2.1
      have b_f1 := hn1.2.2.2.1
      have hdv1 := hU1.2.1
      obtain ⟨ea1, eb1, ec1, ed1, hE1⟩ := hU1.2.2.2
      have hD1 := hdv1.1
      show jj G kE_clearRow (d + 5) Q rc rs 132 [some (.ref el), some (.int (nI (i))), some (.int (nI (c))), some (.int (nI (w)))] [] M1
      exact jj_vret (pc := 132) kE_clearRow_d132 rfl (k M1 V1 ⟨hc1, ⟨r_b, px_b, pf_b, py_b, po_b, ps_b, od_b, hU1⟩, q1_dk⟩ (f9.trans hf1) (fun p p1 p2 => by rw [ot1 p (p2 c (Nat.le_refl _) hc), ← hV0]; exact o9 p p1 (fun j a b => p2 j (by omega) b)) at1 (fun j a b => by rw [ot1 _ (hGP.ne (by omega) (by omega) (by omega) (by omega) (by omega)), ← hV0]; exact e9 j a b))
    | succ mu ih =>
      intro x hk hcx M9 V9 hS9 f9 o9 e9
      have hL9 := hL.ef hJ f9
      have hl9 := hL9.1
      have g1 := hGP.1 (32 * rk + c) (by omega)
      have g2 := hGP.1 (32 * i + x) (by omega)
      have g3 := hGP.1 (32 * i + c) (by omega)
      have g4 := hGP.1 (32 * rk + x) (by omega)
      obtain ⟨hc0, ⟨r_b, px_b, pf_b, py_b, po_b, ps_b, od_b, hU0⟩, hdk0⟩ := id hS9
      have hf0 : EF M9 M9 wa la N eu dv hi lo := fun _ _ _ _ _ _ => rfl
      obtain ⟨V0, hV0⟩ : ∃ V0, V9 = V0 := ⟨_, rfl⟩
      rw [hV0] at hc0
      have hn0 := hU0.1
      have b_r0 := hn0.2.1
      have b_x0 := hn0.2.2.1
      have b_f0 := hn0.2.2.2.1
      have hdv0 := hU0.2.1
      obtain ⟨ea0, eb0, ec0, ed0, hE0⟩ := hU0.2.2.2
      have hD0 := hdv0.1
      have v1 : V0 (g (32 * rk + c)) = V (g (32 * rk + c)) := by rw [← hV0]; exact o9 _ (by omega) (fun j a b => hGP.ne (by omega) (by omega) (by omega) (by omega) (by omega))
      have v2 : V0 (g (32 * i + x)) = V (g (32 * i + x)) := by rw [← hV0]; exact o9 _ (by omega) (fun j a b => hGP.ne (by omega) (by omega) (by omega) (by omega) (by omega))
      have v3 : V0 (g (32 * i + c)) = V (g (32 * i + c)) := by rw [← hV0]; exact o9 _ (by omega) (fun j a b => hGP.ne (by omega) (by omega) (by omega) (by omega) (by omega))
      have v4 : V0 (g (32 * rk + x)) = V (g (32 * rk + x)) := by rw [← hV0]; exact o9 _ (by omega) (fun j a b => hGP.ne (by omega) (by omega) (by omega) (by omega) (by omega))
      have v5 : V0 33 = V 33 := by rw [← hV0]; exact o9 _ (by omega) (fun j a b => by have := hGP.1 (32 * i + j) (by omega); omega)
      have w1 : lc (V0 (g (32 * rk + c))) ≤ 63 := by rw [v1]; exact hl1 c hc
      have w2 : lc (V0 (g (32 * i + x))) ≤ 63 := by rw [v2]; exact hl2 x (by omega)
      have w3 : lc (V0 (g (32 * i + c))) ≤ 63 := by rw [v3]; exact hl2 c hc
      have w4 : lc (V0 (g (32 * rk + x))) ≤ 63 := by rw [v4]; exact hl1 x (by omega)
      obtain ⟨zz, hz1, hz2⟩ := hex x hcx (by omega)
      show jj G kE_clearRow (d + 5) Q rc rs 4 [some (.ref el), some (.int (nI (i))), some (.int (nI (c))), some (.int (nI (x)))] [] M9
      refine jj_iload_n (pc := 4) kE_clearRow_d4 rfl ?_
      refine jj_aload_n (pc := 5) kE_clearRow_d5 rfl ?_
      refine jj_getf (pc := 6) kE_clearRow_d6 (kfE_width hG) hl9 rfl ?_
      refine jn_icmp_ge (pc := 9) (tgt := 123) kE_clearRow_d9 (by decide) (by omega) (by omega) (fun c => by exfalso; omega) (fun _ => ?_)
      have main : jj G kE_clearRow (d + 5) Q rc rs 39 [some (.ref el), some (.int (nI (i))), some (.int (nI (c))), some (.int (nI (x)))] [] M9 := by
        refine jj_aload_n (pc := 39) kE_clearRow_d39 rfl ?_
        refine jj_getf (pc := 40) kE_clearRow_d40 (kfE_desk hG) hl9 rfl ?_
        refine jj_aload_n (pc := 43) kE_clearRow_d43 rfl ?_
        refine jj_aload_n (pc := 44) kE_clearRow_d44 rfl ?_
        refine jj_getf (pc := 45) kE_clearRow_d45 (kfE_rank hG) hl9 rfl ?_
        refine jj_iload_n (pc := 48) kE_clearRow_d48 rfl ?_
        refine jj_callV (pc := 49) (b := el) (As := [.int (nI (rk)), .int (nI (c))]) kE_clearRow_d49 (kvE_E_at hG) (kG_cl hG rfl) rfl hl9 rfl rfl rfl (Nat.le_of_ble_eq_true rfl) (Nat.le_of_ble_eq_true rfl) (jj_bare0 rfl) ?_
        refine e_at hG hL9 (by omega) (by omega) ?_
        show jj G kE_clearRow (d + 5) Q rc rs 52 [some (.ref el), some (.int (nI (i))), some (.int (nI (c))), some (.int (nI (x)))] [.ref (wa (g (32 * rk + c))), .ref dk] M9
        refine jj_aload_n (pc := 52) kE_clearRow_d52 rfl ?_
        refine jj_iload_n (pc := 53) kE_clearRow_d53 rfl ?_
        refine jj_iload_n (pc := 54) kE_clearRow_d54 rfl ?_
        refine jj_callV (pc := 55) (b := el) (As := [.int (nI (i)), .int (nI (x))]) kE_clearRow_d55 (kvE_E_at hG) (kG_cl hG rfl) rfl hl9 rfl rfl rfl (Nat.le_of_ble_eq_true rfl) (Nat.le_of_ble_eq_true rfl) (jj_bare0 rfl) ?_
        refine e_at hG hL9 (by omega) (by omega) ?_
        show jj G kE_clearRow (d + 5) Q rc rs 58 [some (.ref el), some (.int (nI (i))), some (.int (nI (c))), some (.int (nI (x)))] [.ref (wa (g (32 * i + x))), .ref (wa (g (32 * rk + c))), .ref dk] M9
        refine jj_aload_n (pc := 58) kE_clearRow_d58 rfl ?_
        refine jj_iload_n (pc := 59) kE_clearRow_d59 rfl ?_
        refine jj_iload_n (pc := 60) kE_clearRow_d60 rfl ?_
        refine jj_callV (pc := 61) (b := el) (As := [.int (nI (i)), .int (nI (c))]) kE_clearRow_d61 (kvE_E_at hG) (kG_cl hG rfl) rfl hl9 rfl rfl rfl (Nat.le_of_ble_eq_true rfl) (Nat.le_of_ble_eq_true rfl) (jj_bare0 rfl) ?_
        refine e_at hG hL9 (by omega) (by omega) ?_
        show jj G kE_clearRow (d + 5) Q rc rs 64 [some (.ref el), some (.int (nI (i))), some (.int (nI (c))), some (.int (nI (x)))] [.ref (wa (g (32 * i + c))), .ref (wa (g (32 * i + x))), .ref (wa (g (32 * rk + c))), .ref dk] M9
        refine jj_aload_n (pc := 64) kE_clearRow_d64 rfl ?_
        refine jj_aload_n (pc := 65) kE_clearRow_d65 rfl ?_
        refine jj_getf (pc := 66) kE_clearRow_d66 (kfE_rank hG) hl9 rfl ?_
        refine jj_iload_n (pc := 69) kE_clearRow_d69 rfl ?_
        refine jj_callV (pc := 70) (b := el) (As := [.int (nI (rk)), .int (nI (x))]) kE_clearRow_d70 (kvE_E_at hG) (kG_cl hG rfl) rfl hl9 rfl rfl rfl (Nat.le_of_ble_eq_true rfl) (Nat.le_of_ble_eq_true rfl) (jj_bare0 rfl) ?_
        refine e_at hG hL9 (by omega) (by omega) ?_
        show jj G kE_clearRow (d + 5) Q rc rs 73 [some (.ref el), some (.int (nI (i))), some (.int (nI (c))), some (.int (nI (x)))] [.ref (wa (g (32 * rk + x))), .ref (wa (g (32 * i + c))), .ref (wa (g (32 * i + x))), .ref (wa (g (32 * rk + c))), .ref dk] M9
        refine jn_iconst (pc := 73) 1 kE_clearRow_d73 (by decide) ?_
        have m1 := lc_mul (V0 (g (32 * rk + c))) (V0 (g (32 * i + x)))
        have m2 := lc_mul (V0 (g (32 * i + c))) (V0 (g (32 * rk + x)))
        refine jn_top (.int (sg (-1))) (congrArg Value.int (by decide)) ?_
        have hSk0 : KS M9 wa la cap N eu dv hi lo dk V0 := ⟨hc0, ⟨r_b, px_b, pf_b, py_b, po_b, ps_b, od_b, hU0⟩, hdk0⟩
        refine jj_callV (pc := 74) (b := dk) (As := [.ref (wa (g (32 * rk + c))), .ref (wa (g (32 * i + x))), .ref (wa (g (32 * i + c))), .ref (wa (g (32 * rk + x))), .int (sg (-1))]) kE_clearRow_d74 (kvE_K_cross hG) (kG_cl hG rfl) rfl hdk0 rfl rfl rfl (Nat.le_of_ble_eq_true rfl) (Nat.le_of_ble_eq_true rfl) (jj_bare0 rfl) ?_
        refine k_cross hG hK hSk0 (ls := (-1)) (z := V0 (g (32 * rk + c)) * V0 (g (32 * i + x)) - V0 (g (32 * i + c)) * V0 (g (32 * rk + x))) (a := (g (32 * rk + c))) (x := (g (32 * i + x))) (b := (g (32 * i + c))) (y := (g (32 * rk + x))) (by omega) (by omega) (by omega) (by omega) (by omega) (by omega) (by omega) (by omega) (by omega) (by omega) (by omega) (by omega) (by omega) (by omega) (by rw [if_pos (by decide)]) (fun M1 hSx1 hw1 => ?_)
        obtain ⟨V1, hV1⟩ : ∃ W, vup (vup (vup V0 7 (V0 (g (32 * rk + c)) * V0 (g (32 * i + x)))) 8 (V0 (g (32 * i + c)) * V0 (g (32 * rk + x)))) 9 (V0 (g (32 * rk + c)) * V0 (g (32 * i + x)) - V0 (g (32 * i + c)) * V0 (g (32 * rk + x))) = W := ⟨_, rfl⟩
        have hS1 : KS M1 wa la cap N eu dv hi lo dk V1 := by rw [← hV1]; exact hSx1
        have at1 : V1 9 = V0 (g (32 * rk + c)) * V0 (g (32 * i + x)) - V0 (g (32 * i + c)) * V0 (g (32 * rk + x)) := by rw [← hV1, vup_at]
        have ot1 : ∀ p, p ≠ 7 → p ≠ 8 → p ≠ 9 → V1 p = V0 p := fun p h1 h2 h3 => by rw [← hV1, vup_ne _ _ h3, vup_ne _ _ h2, vup_ne _ _ h1]
        obtain ⟨hc1, ⟨r_1, px_1, pf_1, py_1, po_1, ps_1, od_1, hU1⟩, _⟩ := id hS1
        have hf1 := hf0.trans hw1
        have q1_el := hw1.obj hc0 hU0 hl9 (by decide) (by decide) (by decide)
        have q1_dk := hw1.obj hc0 hU0 hdk0 (by decide) (by decide) (by decide)
        have hn1 := hU1.1
        have b_r1 := hn1.2.1
        have b_x1 := hn1.2.2.1
        have b_f1 := hn1.2.2.2.1
        have hdv1 := hU1.2.1
        obtain ⟨ea1, eb1, ec1, ed1, hE1⟩ := hU1.2.2.2
        have hD1 := hdv1.1
        show jj G kE_clearRow (d + 5) Q rc rs 77 [some (.ref el), some (.int (nI (i))), some (.int (nI (c))), some (.int (nI (x)))] [] M1
        have l9 : lc (V1 9) ≤ 252 := by rw [at1]; exact Nat.le_trans (lc_sub (n := 126) (by omega) (by omega)) (by omega)
        have v33 : V1 33 = V 33 := by rw [ot1 _ (by omega) (by omega) (by omega), v5]
        refine jj_aload_n (pc := 77) kE_clearRow_d77 rfl ?_
        refine jj_getf (pc := 78) kE_clearRow_d78 (kfE_desk hG) q1_el rfl ?_
        refine jj_getf (pc := 81) kE_clearRow_d81 (kfE_K_divider hG) q1_dk rfl ?_
        refine jj_aload_n (pc := 84) kE_clearRow_d84 rfl ?_
        refine jj_getf (pc := 85) kE_clearRow_d85 (kfE_desk hG) q1_el rfl ?_
        refine jj_getf (pc := 88) kE_clearRow_d88 (kfE_K_sum hG) q1_dk rfl ?_
        refine jj_aload_n (pc := 91) kE_clearRow_d91 rfl ?_
        refine jj_getf (pc := 92) kE_clearRow_d92 (kfE_last hG) q1_el rfl ?_
        refine jj_callV (pc := 95) (b := dv) (As := [.ref (wa 9), .ref (wa 33)]) kE_clearRow_d95 (kvE_D_divide hG) (kG_cl hG rfl) rfl hD1 rfl rfl rfl (Nat.le_of_ble_eq_true rfl) (Nat.le_of_ble_eq_true rfl) (jj_bare0 rfl) ?_
        refine d_divide hG hI hc1 hdv1 hdi (by omega) (by omega) (by omega) (by omega) hn1.nqr (by omega) (by omega) (by omega) (by omega) l9 (by rw [hcap 0 (by omega)]; exact l9) (by rw [hcap r_1 (by omega)]; exact l9) (fun M2 hcx2 hdx2 hw2 => ?_)
        obtain ⟨V2, hV2⟩ : ∃ W, vup (vup V1 0 ((V1 9).tdiv (V1 33))) r_1 ((V1 9).tmod (V1 33)) = W := ⟨_, rfl⟩
        have hc2 : CW M2 wa la cap N V2 := by rw [← hV2]; exact hcx2
        have at2 : V2 0 = (V1 9).tdiv (V1 33) := by rw [← hV2, vup_ne _ _ hn1.nqr, vup_at]
        have rt2 : V2 r_1 = (V1 9).tmod (V1 33) := by rw [← hV2, vup_at]
        have ot2 : ∀ p, p ≠ 0 → p ≠ r_1 → V2 p = V1 p := fun p h1 h2 => by rw [← hV2, vup_ne _ _ h2, vup_ne _ _ h1]
        have hU2 := hU1.div hc1 hdx2 hw2
        have hf2 := hf1.trans (hw2.ef (eu := eu) (dv := dv))
        have q2_el := (hw2.ef (eu := eu) (dv := dv)).obj hc1 hU1 q1_el (by decide) (by decide) (by decide)
        have q2_dk := (hw2.ef (eu := eu) (dv := dv)).obj hc1 hU1 q1_dk (by decide) (by decide) (by decide)
        have hn2 := hU2.1
        have b_r2 := hn2.2.1
        have b_x2 := hn2.2.2.1
        have b_f2 := hn2.2.2.2.1
        have hdv2 := hU2.2.1
        obtain ⟨ea2, eb2, ec2, ed2, hE2⟩ := hU2.2.2.2
        have hD2 := hdv2.1
        show jj G kE_clearRow (d + 5) Q rc rs 98 [some (.ref el), some (.int (nI (i))), some (.int (nI (c))), some (.int (nI (x)))] [] M2
        have q0 : V2 0 = zz := by rw [at2, v33, at1, v1, v2, v3, v4]; exact tdiv_is hz1 h33
        have hL8 := hL9.ef hJ hf2
        refine jj_aload_n (pc := 98) kE_clearRow_d98 rfl ?_
        refine jj_iload_n (pc := 99) kE_clearRow_d99 rfl ?_
        refine jj_iload_n (pc := 100) kE_clearRow_d100 rfl ?_
        refine jj_callV (pc := 101) (b := el) (As := [.int (nI (i)), .int (nI (x))]) kE_clearRow_d101 (kvE_E_at hG) (kG_cl hG rfl) rfl q2_el rfl rfl rfl (Nat.le_of_ble_eq_true rfl) (Nat.le_of_ble_eq_true rfl) (jj_bare0 rfl) ?_
        refine e_at hG hL8 (by omega) (by omega) ?_
        show jj G kE_clearRow (d + 5) Q rc rs 104 [some (.ref el), some (.int (nI (i))), some (.int (nI (c))), some (.int (nI (x)))] [.ref (wa (g (32 * i + x)))] M2
        obtain ⟨Tg32ix_2, tg32ix_2, hTg32ix_2, _, _⟩ := hc2 (g (32 * i + x)) (by omega)
        refine jj_aload_n (pc := 104) kE_clearRow_d104 rfl ?_
        refine jj_getf (pc := 105) kE_clearRow_d105 (kfE_desk hG) q2_el rfl ?_
        refine jj_getf (pc := 108) kE_clearRow_d108 (kfE_K_divider hG) q2_dk rfl ?_
        refine jj_getf (pc := 111) kE_clearRow_d111 (kfE_D_quotient hG) hD2 rfl ?_
        refine jj_callV (pc := 114) (b := (wa (g (32 * i + x)))) (As := [.ref (wa 0)]) kE_clearRow_d114 (kvE_W_copy hG) (kG_cl hG rfl) rfl hTg32ix_2 rfl rfl rfl (Nat.le_of_ble_eq_true rfl) (Nat.le_of_ble_eq_true rfl) (jj_bare0 rfl) ?_
        refine w_copy hG hI hc2 (by omega) (by omega : 0 < N) (by rw [q0, c64 _ g2.1 g2.2]; exact lc_room (by omega)) (fun M3 hcx3 hw3  => ?_) 
        obtain ⟨V3, hV3⟩ : ∃ W, vup V2 (g (32 * i + x)) (V2 0) = W := ⟨_, rfl⟩
        have hc3 : CW M3 wa la cap N V3 := by rw [← hV3]; exact hcx3
        have at3 : V3 (g (32 * i + x)) = V2 0 := by rw [← hV3, vup_at]
        have ot3 : ∀ p, p ≠ (g (32 * i + x)) → V3 p = V2 p := fun p hp => by rw [← hV3, vup_ne _ _ hp]
        have hU3 := hU2.wt hc2 hdi (by omega) hw3
        have hf3 := hf2.trans (hw3.ef (by omega))
        have q3_el := (hw3.ef (eu := eu) (dv := dv) (hi := hi) (lo := lo) (by omega)).obj hc2 hU2 q2_el (by decide) (by decide) (by decide)
        have q3_dk := (hw3.ef (eu := eu) (dv := dv) (hi := hi) (lo := lo) (by omega)).obj hc2 hU2 q2_dk (by decide) (by decide) (by decide)
        have hn3 := hU3.1
        have b_r3 := hn3.2.1
        have b_x3 := hn3.2.2.1
        have b_f3 := hn3.2.2.2.1
        have hdv3 := hU3.2.1
        obtain ⟨ea3, eb3, ec3, ed3, hE3⟩ := hU3.2.2.2
        have hD3 := hdv3.1
        show jj G kE_clearRow (d + 5) Q rc rs 117 [some (.ref el), some (.int (nI (i))), some (.int (nI (c))), some (.int (nI (x)))] [] M3
        have vv : ∀ p, 13 ≤ p → p ≠ (g (32 * i + x)) → V3 p = V9 p := fun p p1 p2 => by rw [ot3 p p2, ot2 p (by omega) (by omega), ot1 p (by omega) (by omega) (by omega), hV0]
        refine jn_iinc (pc := 117) (x + 1) kE_clearRow_d117 rfl (nI_1 _) ?_
        refine jj_goto (pc := 120) (tgt := 4) kE_clearRow_d120 (by decide) ?_
        show jj G kE_clearRow (d + 5) Q rc rs 4 [some (.ref el), some (.int (nI (i))), some (.int (nI (c))), some (.int (nI (x + 1)))] [] M3
        refine ih (x + 1) (by omega) (by omega) M3 V3 ⟨hc3, ⟨r_1, px_1, pf_1, py_1, po_1, ps_1, od_1, hU3⟩, q3_dk⟩ (f9.trans hf3) (fun p p1 p2 => ?_) (fun j a b => ?_)
        · rw [vv p p1 (p2 x hcx (by omega))]
          exact o9 p p1 (fun j a b => p2 j a (by omega))
        · by_cases e : j = x
          · rw [e, at3, q0]; exact hz1
          · have := hGP.1 (32 * i + j) (by omega)
            rw [vv _ (by omega) (hGP.ne (by omega) (by omega) (by omega) (by omega) (by omega))]
            exact e9 j a (by omega)
      refine jj_aload_n (pc := 12) kE_clearRow_d12 rfl ?_
      refine jj_iload_n (pc := 13) kE_clearRow_d13 rfl ?_
      refine jj_iload_n (pc := 14) kE_clearRow_d14 rfl ?_
      refine jj_callV (pc := 15) (b := el) (As := [.int (nI (i)), .int (nI (x))]) kE_clearRow_d15 (kvE_E_at hG) (kG_cl hG rfl) rfl hl9 rfl rfl rfl (Nat.le_of_ble_eq_true rfl) (Nat.le_of_ble_eq_true rfl) (jj_bare0 rfl) ?_
      refine e_at hG hL9 (by omega) (by omega) ?_
      show jj G kE_clearRow (d + 5) Q rc rs 18 [some (.ref el), some (.int (nI (i))), some (.int (nI (c))), some (.int (nI (x)))] [.ref (wa (g (32 * i + x)))] M9
      obtain ⟨Tn101, tn101, hTn101, _, _, hZn101⟩ := hc0 (g (32 * i + x)) (by omega)
      have eZn101 := hZn101.cnt
      subst eZn101
      have bZn101 := hc0.lc (p := (g (32 * i + x))) (by omega)
      have bYn101 := hI.2.2 (g (32 * i + x)) (by omega)
      refine jj_getf (pc := 18) kE_clearRow_d18 (kfE_W_count hG) hTn101 rfl ?_
      refine jn_if_gt (pc := 21) (tgt := 39) kE_clearRow_d21 (by decide) (by omega) (fun c1 => ?_) (fun c1 => ?_)
      · skip
        exact main
      · skip
        refine jj_aload_n (pc := 24) kE_clearRow_d24 rfl ?_
        refine jj_aload_n (pc := 25) kE_clearRow_d25 rfl ?_
        refine jj_getf (pc := 26) kE_clearRow_d26 (kfE_rank hG) hl9 rfl ?_
        refine jj_iload_n (pc := 29) kE_clearRow_d29 rfl ?_
        refine jj_callV (pc := 30) (b := el) (As := [.int (nI (rk)), .int (nI (x))]) kE_clearRow_d30 (kvE_E_at hG) (kG_cl hG rfl) rfl hl9 rfl rfl rfl (Nat.le_of_ble_eq_true rfl) (Nat.le_of_ble_eq_true rfl) (jj_bare0 rfl) ?_
        refine e_at hG hL9 (by omega) (by omega) ?_
        show jj G kE_clearRow (d + 5) Q rc rs 33 [some (.ref el), some (.int (nI (i))), some (.int (nI (c))), some (.int (nI (x)))] [.ref (wa (g (32 * rk + x)))] M9
        obtain ⟨Tn102, tn102, hTn102, _, _, hZn102⟩ := hc0 (g (32 * rk + x)) (by omega)
        have eZn102 := hZn102.cnt
        subst eZn102
        have bZn102 := hc0.lc (p := (g (32 * rk + x))) (by omega)
        have bYn102 := hI.2.2 (g (32 * rk + x)) (by omega)
        refine jj_getf (pc := 33) kE_clearRow_d33 (kfE_W_count hG) hTn102 rfl ?_
        refine jn_if_le (pc := 36) (tgt := 117) kE_clearRow_d36 (by decide) (by omega) (fun c2 => ?_) (fun c2 => ?_)
        · skip
          refine jn_iinc (pc := 117) (x + 1) kE_clearRow_d117 rfl (nI_1 _) ?_
          refine jj_goto (pc := 120) (tgt := 4) kE_clearRow_d120 (by decide) ?_
          show jj G kE_clearRow (d + 5) Q rc rs 4 [some (.ref el), some (.int (nI (i))), some (.int (nI (c))), some (.int (nI (x + 1)))] [] M9
          refine ih (x + 1) (by omega) (by omega) M9 V0 (by rw [← hV0]; exact hS9) f9 (fun p p1 p2 => ?_) (fun j a b => ?_)
          · rw [← hV0]; exact o9 p p1 (fun j a b => p2 j a (by omega))
          · by_cases e : j = x
            · have z1 := lc_nil (show lc (V0 (g (32 * i + x))) ≤ 0 by omega)
              have z2 := lc_nil (show lc (V0 (g (32 * rk + x))) ≤ 0 by omega)
              rw [e, ← v2, ← v4, z1, z2]
              simp
            · rw [← hV0]; exact e9 j a (by omega)
        · skip
          exact main
  exact loop (w - (c + 1)) (c + 1) (by omega) (by omega) M V hS (fun _ _ _ _ _ _ => rfl) (fun _ _ _ => rfl) (fun j a b => by omega)
end E3
