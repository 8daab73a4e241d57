/-! ===== ExactForms: draftProduct, multiply (printed by wip/gen/rX8.py) ===== -/
theorem bb_mul2 {a b : Int} (ha : lc a ≤ 125) (hb : lc b ≤ 125) : (a * b).natAbs < BB ^ 250 := by
  refine lc_room (Nat.le_trans (lc_mul a b) ?_)
  omega
theorem sum_room2 {z : Int} {n t : Nat} (ht : BB ^ 250 = t) (hn : n ≤ 40) (h : z.natAbs ≤ n * t) : lc z ≤ 251 := by
  refine lc_le ?_
  have e : BB ^ 251 = t * BB := by rw [← ht]; exact Nat.pow_succ BB 250
  have t0 : 0 < t := by rw [← ht]; exact Nat.pow_pos (by decide)
  have h1 : n * t ≤ 40 * t := Nat.mul_le_mul_right _ hn
  have h2 : t * 41 ≤ t * BB := Nat.mul_le_mul_left _ (by decide)
  omega
section X8
variable {G : jg} {d : Nat} {Q : jq} {rc rs : Nat} {M : mheap} {wa la cap oa : Nat → Nat} {eu dv hi lo : Nat} {V : Nat → Int} {sc : Int32} {R C : Nat → Nat}
theorem x_draftProduct {n m i j bd bn bm : Nat} (hG : kG G) (hJ : XJ wa la cap oa eu dv hi lo) (hS : KS M wa la cap 3122 eu dv hi lo (oa 3) V) (hO : XO M wa oa sc R C) (ebd : bd = 2865) (ebn : bn = 809 + 257 * n) (ebm : bm = 809 + 257 * m) (hn : n < 8) (hm : m < 8) (hi16 : i < 16) (hj16 : j < 16) (s4n : C n ≤ 16) (h0 : V (bd + (16 * i + j)) = 0) (k : ∀ (M' : mheap) (V' : Nat → Int), KS M' wa la cap 3122 eu dv hi lo (oa 3) V' → EF M M' wa la 3122 eu dv hi lo → V' (bd + (16 * i + j)) = isum (fun t => V (bn + (16 * i + t)) * V (bm + (16 * t + j))) (C n) → (∀ p, 10 ≤ p → p ≠ (bd + (16 * i + j)) → V' p = V p) → Q (.returned none) M' rc rs) : jj G kX_draftProduct (d + 8) Q rc rs 0 (jj_ent [.ref (oa 0), .ref (oa (13 + n)), .ref (oa (13 + m)), .int (nI i), .int (nI j)] 7) [] M := by
  have hK := hJ.1
  obtain ⟨hI, hN, hcap, hdi⟩ := id hK
  obtain ⟨kk, ekk⟩ : ∃ k, C n = k := ⟨_, rfl⟩
  rw [ekk] at k s4n
  have hMd := hO.dr ebd
  have hx := hO.1
  have hmd := hMd.1
  have l1 : ∀ p, 809 ≤ p → p < 2865 → lc (V p) ≤ 125 := fun p _ _ => by
    have := hS.1.lc (p := p) (by omega)
    rw [hJ.cap125 (by omega) (by omega)] at this
    exact this
  obtain ⟨tt, ett⟩ : ∃ t, BB ^ 250 = t := ⟨_, rfl⟩
  show jj G kX_draftProduct (d + 8) Q rc rs 0 [some (.ref (oa 0)), some (.ref (oa (13 + n))), some (.ref (oa (13 + m))), some (.int (nI (i))), some (.int (nI (j))), none, none] [] M
  refine jj_aload_n (pc := 0) kX_draftProduct_d0 rfl ?_
  refine jj_getf (pc := 1) kX_draftProduct_d1 (kfX_draft hG) hx rfl ?_
  refine jj_iload_n (pc := 4) kX_draftProduct_d4 rfl ?_
  refine jj_iload (pc := 5) kX_draftProduct_d5 rfl ?_
  refine jj_callV (pc := 7) (b := (oa 21)) (As := [.int (nI (i)), .int (nI (j))]) kX_draftProduct_d7 (kvX_M_at hG) (kG_cl hG rfl) rfl hmd rfl rfl rfl (Nat.le_of_ble_eq_true rfl) (Nat.le_of_ble_eq_true rfl) (jj_bare0 rfl) ?_
  refine m_at hG hMd hi16 hj16 ?_
  show jj G kX_draftProduct (d + 8) Q rc rs 10 [some (.ref (oa 0)), some (.ref (oa (13 + n))), some (.ref (oa (13 + m))), some (.int (nI (i))), some (.int (nI (j))), none, none] [.ref (wa (bd + (16 * i + j)))] M
  refine jj_astore (pc := 10) kX_draftProduct_d10 (Nat.le_of_ble_eq_true rfl) ?_
  show jj G kX_draftProduct (d + 8) Q rc rs 12 [some (.ref (oa 0)), some (.ref (oa (13 + n))), some (.ref (oa (13 + m))), some (.int (nI (i))), some (.int (nI (j))), some (.ref (wa (bd + (16 * i + j)))), none] [] M
  refine jn_iconst (pc := 12) 0 kX_draftProduct_d12 (by decide) ?_
  refine jj_istore (pc := 13) kX_draftProduct_d13 (Nat.le_of_ble_eq_true rfl) ?_
  show jj G kX_draftProduct (d + 8) Q rc rs 15 [some (.ref (oa 0)), some (.ref (oa (13 + n))), some (.ref (oa (13 + m))), some (.int (nI (i))), some (.int (nI (j))), some (.ref (wa (bd + (16 * i + j)))), some (.int (nI (0)))] [] M
  show jj G kX_draftProduct (d + 8) Q rc rs 15 [some (.ref (oa 0)), some (.ref (oa (13 + n))), some (.ref (oa (13 + m))), some (.int (nI (i))), some (.int (nI (j))), some (.ref (wa (bd + (16 * i + j)))), some (.int (nI (0)))] [] M
  have loop : ∀ mu t, kk = t + mu → ∀ (M9 : mheap) (V9 : Nat → Int), KS M9 wa la cap 3122 eu dv hi lo (oa 3) V9 → EF M M9 wa la 3122 eu dv hi lo → V9 (bd + (16 * i + j)) = isum (fun t => V (bn + (16 * i + t)) * V (bm + (16 * t + j))) t → (V9 (bd + (16 * i + j))).natAbs ≤ t * tt → (∀ p, 10 ≤ p → p ≠ (bd + (16 * i + j)) → V9 p = V p) → jj G kX_draftProduct (d + 8) Q rc rs 15 [some (.ref (oa 0)), some (.ref (oa (13 + n))), some (.ref (oa (13 + m))), some (.int (nI (i))), some (.int (nI (j))), some (.ref (wa (bd + (16 * i + j)))), some (.int (nI (t)))] [] M9 := by
    intro mu
    induction mu with
    | zero =>
      intro t hk M9 V9 hS9 f9 e9 b9 o9
      have et : kk = t := by omega
      subst et
      have hO9 := hO.ef hJ f9
      have hx9 := hO9.1
      have hMn9 := hO9.2.2.2.2.2.2.2 n (by omega)
      rw [← ebn, ekk] at hMn9
      have hmn9 := hMn9.1
      have hMm9 := hO9.2.2.2.2.2.2.2 m (by omega)
      rw [← ebm] at hMm9
      have hmm9 := hMm9.1
      refine jj_iload (pc := 15) kX_draftProduct_d15 rfl ?_
      refine jj_aload_n (pc := 17) kX_draftProduct_d17 rfl ?_
      refine jj_getf (pc := 18) kX_draftProduct_d18 (kfX_M_columns hG) hmn9 rfl ?_
      refine jn_icmp_ge (pc := 21) (tgt := 70) kX_draftProduct_d21 (by decide) (by omega) (by omega) (fun _ => ?_) (fun c => by exfalso; omega)
      exact jj_vret (pc := 70) kX_draftProduct_d70 rfl (k M9 V9 hS9 f9 e9 o9)
    | succ mu ih =>
      intro t hk M9 V9 hS9 f9 e9 b9 o9
      have hO9 := hO.ef hJ f9
      have hx9 := hO9.1
      have hMn9 := hO9.2.2.2.2.2.2.2 n (by omega)
      rw [← ebn, ekk] at hMn9
      have hmn9 := hMn9.1
      have hMm9 := hO9.2.2.2.2.2.2.2 m (by omega)
      rw [← ebm] at hMm9
      have hmm9 := hMm9.1
      have vn : V9 (bn + (16 * i + t)) = V (bn + (16 * i + t)) := o9 _ (by omega) (by omega)
      have vm : V9 (bm + (16 * t + j)) = V (bm + (16 * t + j)) := o9 _ (by omega) (by omega)
      have ln := l1 (bn + (16 * i + t)) (by omega) (by omega)
      have lm := l1 (bm + (16 * t + j)) (by omega) (by omega)
      have m1 := lc_mul (V (bn + (16 * i + t))) (V (bm + (16 * t + j)))
      have bb := bb_mul2 ln lm
      have lz : lc (V9 (bd + (16 * i + j))) ≤ 251 := sum_room2 ett (by omega) b9
      have cd : cap (bd + (16 * i + j)) = 252 := hJ.cap252 (by omega) (by omega)
      obtain ⟨hc0, ⟨r_b, px_b, pf_b, py_b, po_b, ps_b, od_b, hU0⟩, hdk0⟩ := id hS9
      have hf0 : EF M9 M9 wa la 3122 eu dv hi lo := fun _ _ _ _ _ _ => rfl
      obtain ⟨V0, hV0⟩ : ∃ V0, V9 = V0 := ⟨_, rfl⟩
      rw [hV0] at hc0
      have hn0 := hU0.1
      have b_r0 := hn0.2.1
      have b_x0 := hn0.2.2.1
      have b_f0 := hn0.2.2.2.1
      have hdv0 := hU0.2.1
      obtain ⟨ea0, eb0, ec0, ed0, hE0⟩ := hU0.2.2.2
      have hD0 := hdv0.1
      rw [hV0] at vn vm lz e9 b9 o9
      show jj G kX_draftProduct (d + 8) Q rc rs 15 [some (.ref (oa 0)), some (.ref (oa (13 + n))), some (.ref (oa (13 + m))), some (.int (nI (i))), some (.int (nI (j))), some (.ref (wa (bd + (16 * i + j)))), some (.int (nI (t)))] [] M9
      refine jj_iload (pc := 15) kX_draftProduct_d15 rfl ?_
      refine jj_aload_n (pc := 17) kX_draftProduct_d17 rfl ?_
      refine jj_getf (pc := 18) kX_draftProduct_d18 (kfX_M_columns hG) hmn9 rfl ?_
      refine jn_icmp_ge (pc := 21) (tgt := 70) kX_draftProduct_d21 (by decide) (by omega) (by omega) (fun c => by exfalso; omega) (fun _ => ?_)
      refine jj_aload_n (pc := 24) kX_draftProduct_d24 rfl ?_
      refine jj_getf (pc := 25) kX_draftProduct_d25 (kfX_desk hG) hx9 rfl ?_
      refine jj_getf (pc := 28) kX_draftProduct_d28 (kfX_K_left hG) hdk0 rfl ?_
      refine jj_aload_n (pc := 31) kX_draftProduct_d31 rfl ?_
      refine jj_iload_n (pc := 32) kX_draftProduct_d32 rfl ?_
      refine jj_iload (pc := 33) kX_draftProduct_d33 rfl ?_
      refine jj_callV (pc := 35) (b := (oa (13 + n))) (As := [.int (nI (i)), .int (nI (t))]) kX_draftProduct_d35 (kvX_M_at hG) (kG_cl hG rfl) rfl hmn9 rfl rfl rfl (Nat.le_of_ble_eq_true rfl) (Nat.le_of_ble_eq_true rfl) (jj_bare0 rfl) ?_
      refine m_at hG hMn9 (by omega) (by omega) ?_
      show jj G kX_draftProduct (d + 8) Q rc rs 38 [some (.ref (oa 0)), some (.ref (oa (13 + n))), some (.ref (oa (13 + m))), some (.int (nI (i))), some (.int (nI (j))), some (.ref (wa (bd + (16 * i + j)))), some (.int (nI (t)))] [.ref (wa (bn + (16 * i + t))), .ref (wa 7)] M9
      refine jj_aload_n (pc := 38) kX_draftProduct_d38 rfl ?_
      refine jj_iload (pc := 39) kX_draftProduct_d39 rfl ?_
      refine jj_iload (pc := 41) kX_draftProduct_d41 rfl ?_
      refine jj_callV (pc := 43) (b := (oa (13 + m))) (As := [.int (nI (t)), .int (nI (j))]) kX_draftProduct_d43 (kvX_M_at hG) (kG_cl hG rfl) rfl hmm9 rfl rfl rfl (Nat.le_of_ble_eq_true rfl) (Nat.le_of_ble_eq_true rfl) (jj_bare0 rfl) ?_
      refine m_at hG hMm9 (by omega) (by omega) ?_
      show jj G kX_draftProduct (d + 8) Q rc rs 46 [some (.ref (oa 0)), some (.ref (oa (13 + n))), some (.ref (oa (13 + m))), some (.int (nI (i))), some (.int (nI (j))), some (.ref (wa (bd + (16 * i + j)))), some (.int (nI (t)))] [.ref (wa (bm + (16 * t + j))), .ref (wa (bn + (16 * i + t))), .ref (wa 7)] M9
      obtain ⟨T7_0, t7_0, hT7_0, _, _⟩ := hc0 7 (by omega)
      refine jj_callV (pc := 46) (b := (wa 7)) (As := [.ref (wa (bn + (16 * i + t))), .ref (wa (bm + (16 * t + j)))]) kX_draftProduct_d46 (kvX_W_product hG) (kG_cl hG rfl) rfl hT7_0 rfl rfl rfl (Nat.le_of_ble_eq_true rfl) (Nat.le_of_ble_eq_true rfl) (jj_bare0 rfl) ?_
      refine w_product hG hI hc0 (by omega : 7 < 3122) (by omega) (by omega) (by omega) (by omega) (by rw [hcap 7 (by omega), vn, vm]; omega) (fun M1 hcx1 hw1  => ?_) 
      obtain ⟨V1, hV1⟩ : ∃ W, vup V0 7 (V0 (bn + (16 * i + t)) * V0 (bm + (16 * t + j))) = W := ⟨_, rfl⟩
      have hc1 : CW M1 wa la cap 3122 V1 := by rw [← hV1]; exact hcx1
      have at1 : V1 7 = V0 (bn + (16 * i + t)) * V0 (bm + (16 * t + j)) := by rw [← hV1, vup_at]
      have ot1 : ∀ p, p ≠ 7 → V1 p = V0 p := fun p hp => by rw [← hV1, vup_ne _ _ hp]
      have hU1 := hU0.wt hc0 hdi (by omega) hw1
      have hf1 := hf0.trans (hw1.ef (by omega))
      have q1_oa0 := (hw1.ef (eu := eu) (dv := dv) (hi := hi) (lo := lo) (by omega)).obj hc0 hU0 hx9 (by decide) (by decide) (by decide)
      have q1_oa13n := (hw1.ef (eu := eu) (dv := dv) (hi := hi) (lo := lo) (by omega)).obj hc0 hU0 hmn9 (by decide) (by decide) (by decide)
      have q1_oa13m := (hw1.ef (eu := eu) (dv := dv) (hi := hi) (lo := lo) (by omega)).obj hc0 hU0 hmm9 (by decide) (by decide) (by decide)
      have q1_oa3 := (hw1.ef (eu := eu) (dv := dv) (hi := hi) (lo := lo) (by omega)).obj hc0 hU0 hdk0 (by decide) (by decide) (by decide)
      have hn1 := hU1.1
      have b_r1 := hn1.2.1
      have b_x1 := hn1.2.2.1
      have b_f1 := hn1.2.2.2.1
      have hdv1 := hU1.2.1
      obtain ⟨ea1, eb1, ec1, ed1, hE1⟩ := hU1.2.2.2
      have hD1 := hdv1.1
      show jj G kX_draftProduct (d + 8) Q rc rs 49 [some (.ref (oa 0)), some (.ref (oa (13 + n))), some (.ref (oa (13 + m))), some (.int (nI (i))), some (.int (nI (j))), some (.ref (wa (bd + (16 * i + j)))), some (.int (nI (t)))] [] M1
      rw [vn, vm] at at1
      have vd : V1 (bd + (16 * i + j)) = V0 (bd + (16 * i + j)) := ot1 _ (by omega)
      have l7 : lc (V1 7) ≤ 250 := by rw [at1]; omega
      obtain ⟨Tbd16ij_1, tbd16ij_1, hTbd16ij_1, _, _⟩ := hc1 (bd + (16 * i + j)) (by omega)
      refine jj_aload (pc := 49) kX_draftProduct_d49 rfl ?_
      refine jj_aload (pc := 51) kX_draftProduct_d51 rfl ?_
      refine jj_aload_n (pc := 53) kX_draftProduct_d53 rfl ?_
      refine jj_getf (pc := 54) kX_draftProduct_d54 (kfX_desk hG) q1_oa0 rfl ?_
      refine jj_getf (pc := 57) kX_draftProduct_d57 (kfX_K_left hG) q1_oa3 rfl ?_
      refine jn_iconst (pc := 60) 0 kX_draftProduct_d60 (by decide) ?_
      refine jn_top (.int (sg 0)) (congrArg Value.int (by decide)) ?_
      refine jj_callV (pc := 61) (b := (wa (bd + (16 * i + j)))) (As := [.ref (wa (bd + (16 * i + j))), .ref (wa 7), .int (sg 0)]) kX_draftProduct_d61 (kvX_W_sum hG) (kG_cl hG rfl) rfl hTbd16ij_1 rfl rfl rfl (Nat.le_of_ble_eq_true rfl) (Nat.le_of_ble_eq_true rfl) (jj_bare0 rfl) ?_
      refine w_sum hG hI hc1 (u := (bd + (16 * i + j))) (v := 7) (ls := 0) (by omega : (bd + (16 * i + j)) < 3122) (by omega) (by omega) (by rw [cd, vd]; omega) (by rw [cd]; omega) (by rw [if_neg (by decide)]) (fun M2 hcx2 hw2  => ?_) 
      obtain ⟨V2, hV2⟩ : ∃ W, vup V1 (bd + (16 * i + j)) (V1 (bd + (16 * i + j)) + V1 7) = W := ⟨_, rfl⟩
      have hc2 : CW M2 wa la cap 3122 V2 := by rw [← hV2]; exact hcx2
      have at2 : V2 (bd + (16 * i + j)) = V1 (bd + (16 * i + j)) + V1 7 := by rw [← hV2, vup_at]
      have ot2 : ∀ p, p ≠ (bd + (16 * i + j)) → V2 p = V1 p := fun p hp => by rw [← hV2, vup_ne _ _ hp]
      have hU2 := hU1.wt hc1 hdi (by omega) hw2
      have hf2 := hf1.trans (hw2.ef (by omega))
      have q2_oa0 := (hw2.ef (eu := eu) (dv := dv) (hi := hi) (lo := lo) (by omega)).obj hc1 hU1 q1_oa0 (by decide) (by decide) (by decide)
      have q2_oa13n := (hw2.ef (eu := eu) (dv := dv) (hi := hi) (lo := lo) (by omega)).obj hc1 hU1 q1_oa13n (by decide) (by decide) (by decide)
      have q2_oa13m := (hw2.ef (eu := eu) (dv := dv) (hi := hi) (lo := lo) (by omega)).obj hc1 hU1 q1_oa13m (by decide) (by decide) (by decide)
      have q2_oa3 := (hw2.ef (eu := eu) (dv := dv) (hi := hi) (lo := lo) (by omega)).obj hc1 hU1 q1_oa3 (by decide) (by decide) (by decide)
      have hn2 := hU2.1
      have b_r2 := hn2.2.1
      have b_x2 := hn2.2.2.1
      have b_f2 := hn2.2.2.2.1
      have hdv2 := hU2.2.1
      obtain ⟨ea2, eb2, ec2, ed2, hE2⟩ := hU2.2.2.2
      have hD2 := hdv2.1
      show jj G kX_draftProduct (d + 8) Q rc rs 64 [some (.ref (oa 0)), some (.ref (oa (13 + n))), some (.ref (oa (13 + m))), some (.int (nI (i))), some (.int (nI (j))), some (.ref (wa (bd + (16 * i + j)))), some (.int (nI (t)))] [] M2
      rw [vd, at1] at at2
      refine jn_iinc (pc := 64) (t + 1) kX_draftProduct_d64 rfl (nI_1 _) ?_
      refine jj_goto (pc := 67) (tgt := 15) kX_draftProduct_d67 (by decide) ?_
      show jj G kX_draftProduct (d + 8) Q rc rs 15 [some (.ref (oa 0)), some (.ref (oa (13 + n))), some (.ref (oa (13 + m))), some (.int (nI (i))), some (.int (nI (j))), some (.ref (wa (bd + (16 * i + j)))), some (.int (nI (t + 1)))] [] M2
      refine ih (t + 1) (by omega) M2 V2 ⟨hc2, ⟨r_b, px_b, pf_b, py_b, po_b, ps_b, od_b, hU2⟩, q2_oa3⟩ (f9.trans hf2) ?_ ?_ (fun p p1 p2 => by rw [ot2 p p2, ot1 p (by omega)]; exact o9 p p1 p2)
      · rw [at2, e9]; rfl
      · rw [at2, Nat.succ_mul t]
        rw [ett] at bb
        omega
  exact loop kk 0 (by omega) M V hS (fun _ _ _ _ _ _ => rfl) (by rw [h0]; rfl) (by rw [h0]; exact Nat.zero_le _) (fun _ _ _ => rfl)
end X8
section X8b
variable {G : jg} {d : Nat} {Q : jq} {rc rs : Nat} {M : mheap} {wa la cap oa : Nat → Nat} {eu dv hi lo : Nat} {σ : rst}
theorem isum_qsum {f : Nat → Int} {h : Nat → Rat} {c : Rat} {n : Nat} (e : ∀ t, t < n → ((f t : Int) : Rat) = h t * c) : ((isum f n : Int) : Rat) = qsum h n * c := by
  rw [isum_cast, Rat.mul_comm, qsum_mul]
  exact qsum_congr (fun t ht => by rw [e t ht, Rat.mul_comm])
theorem xp_multiply {x y z : Int32} (hG : kG G) (hJ : XJ wa la cap oa eu dv hi lo) (hT : XT M wa la cap oa eu dv hi lo σ) (hrc : 1 ≤ rc) (hrs : 6 ≤ rs) (kr : ∀ (M' : mheap)  (σ' : rst), semMul σ x y z 0 σ' → XT M' wa la cap oa eu dv hi lo σ' → XF oa M M' wa la eu dv hi lo → Q (.returned none) M' rc rs) (kt : ∀ (M' : mheap) (cd ci : Nat), semMul σ x y z cd σ → (cd = 1 ∧ ci = 4 ∨ cd = 2 ∧ ci = 5 ∨ cd = 3 ∧ ci = 6) → XT M' wa la cap oa eu dv hi lo σ → XF oa M M' wa la eu dv hi lo → ∀ x, M' x = none → Q (.threw x) (jj_up M' x (.inl ci, [])) (rc - 1) (rs - 6)) : jj G kX_multiply (d + 9) Q rc rs 0 (jj_ent [.ref (oa 0), .int x, .int y, .int z] 8) [] M := by
  obtain ⟨V, sc, R, C, hS, hO, hV⟩ := id hT
  have hK := hJ.1
  have hI := hK.1
  have hx := hO.1
  show jj G kX_multiply (d + 9) Q rc rs 0 [some (.ref (oa 0)), some (.int (x)), some (.int (y)), some (.int (z)), none, none, none, none] [] M
  refine jj_aload_n (pc := 0) kX_multiply_d0 rfl ?_
  refine jj_iload_n (pc := 1) kX_multiply_d1 rfl ?_
  refine jj_callV (pc := 2) (b := (oa 0)) (As := [.int (x)]) kX_multiply_d2 (kvX_X_register hG) (kG_cl hG rfl) rfl hx rfl rfl rfl (Nat.le_of_ble_eq_true rfl) (Nat.le_of_ble_eq_true rfl) (jj_bare0 rfl) ?_
  refine x_register hG hO hrc hrs (fun t ht et => ?_) (fun h y hy => kt M 1 4 (Or.inl ⟨fun g => h g.1, rfl, rfl⟩) (by omega) hT (fun _ _ _ => rfl) y hy)
  subst et
  show jj G kX_multiply (d + 9) Q rc rs 5 [some (.ref (oa 0)), some (.int (nI (t))), some (.int (y)), some (.int (z)), none, none, none, none] [.ref (oa (13 + t))] M
  refine jj_pop (pc := 5) kX_multiply_d5 rfl ?_
  refine jj_aload_n (pc := 6) kX_multiply_d6 rfl ?_
  refine jj_iload_n (pc := 7) kX_multiply_d7 rfl ?_
  refine jj_callV (pc := 8) (b := (oa 0)) (As := [.int (y)]) kX_multiply_d8 (kvX_X_register hG) (kG_cl hG rfl) rfl hx rfl rfl rfl (Nat.le_of_ble_eq_true rfl) (Nat.le_of_ble_eq_true rfl) (jj_bare0 rfl) ?_
  refine x_register hG hO hrc hrs (fun n hn en => ?_) (fun h y hy => kt M 1 4 (Or.inl ⟨fun g => h g.2.1, rfl, rfl⟩) (by omega) hT (fun _ _ _ => rfl) y hy)
  subst en
  show jj G kX_multiply (d + 9) Q rc rs 11 [some (.ref (oa 0)), some (.int (nI (t))), some (.int (nI (n))), some (.int (z)), none, none, none, none] [.ref (oa (13 + n))] M
  obtain ⟨ern, ecn, s1n, s2n, s3n, s4n, hNn⟩ := hV.1 n hn
  obtain ⟨bn, ebn⟩ : ∃ b, b = 809 + 257 * n := ⟨_, rfl⟩
  have hMn := hO.2.2.2.2.2.2.2 n (by omega)
  rw [← ebn] at hMn hNn
  have hmn := hMn.1
  refine jj_astore (pc := 11) kX_multiply_d11 (Nat.le_of_ble_eq_true rfl) ?_
  show jj G kX_multiply (d + 9) Q rc rs 13 [some (.ref (oa 0)), some (.int (nI (t))), some (.int (nI (n))), some (.int (z)), some (.ref (oa (13 + n))), none, none, none] [] M
  refine jj_aload_n (pc := 13) kX_multiply_d13 rfl ?_
  refine jj_iload_n (pc := 14) kX_multiply_d14 rfl ?_
  refine jj_callV (pc := 15) (b := (oa 0)) (As := [.int (z)]) kX_multiply_d15 (kvX_X_register hG) (kG_cl hG rfl) rfl hx rfl rfl rfl (Nat.le_of_ble_eq_true rfl) (Nat.le_of_ble_eq_true rfl) (jj_bare0 rfl) ?_
  refine x_register hG hO hrc hrs (fun m hm em => ?_) (fun h y hy => kt M 1 4 (Or.inl ⟨fun g => h g.2.2, rfl, rfl⟩) (by omega) hT (fun _ _ _ => rfl) y hy)
  subst em
  show jj G kX_multiply (d + 9) Q rc rs 18 [some (.ref (oa 0)), some (.int (nI (t))), some (.int (nI (n))), some (.int (nI (m))), some (.ref (oa (13 + n))), none, none, none] [.ref (oa (13 + m))] M
  obtain ⟨erm, ecm, s1m, s2m, s3m, s4m, hNm⟩ := hV.1 m hm
  obtain ⟨bm, ebm⟩ : ∃ b, b = 809 + 257 * m := ⟨_, rfl⟩
  have hMm := hO.2.2.2.2.2.2.2 m (by omega)
  rw [← ebm] at hMm hNm
  have hmm := hMm.1
  refine jj_astore (pc := 18) kX_multiply_d18 (Nat.le_of_ble_eq_true rfl) ?_
  show jj G kX_multiply (d + 9) Q rc rs 20 [some (.ref (oa 0)), some (.int (nI (t))), some (.int (nI (n))), some (.int (nI (m))), some (.ref (oa (13 + n))), some (.ref (oa (13 + m))), none, none] [] M
  refine jj_aload (pc := 20) kX_multiply_d20 rfl ?_
  refine jj_getf (pc := 22) kX_multiply_d22 (kfX_M_columns hG) hmn rfl ?_
  refine jj_aload (pc := 25) kX_multiply_d25 rfl ?_
  refine jj_getf (pc := 27) kX_multiply_d27 (kfX_M_rows hG) hmm rfl ?_
  refine jn_icmp_eq (pc := 30) (tgt := 43) kX_multiply_d30 (by decide) (by omega) (by omega) (fun c1 => ?_) (fun c1 => ?_)
  · skip
    obtain ⟨rr, err⟩ : ∃ r, R n = r := ⟨_, rfl⟩
    obtain ⟨cc, ecc⟩ : ∃ c, C m = c := ⟨_, rfl⟩
    rw [err] at ern s1n s2n
    rw [ecc] at ecm s3m s4m
    rw [err] at hMn hmn hNn
    rw [ecc] at hMm hmm hNm
    obtain ⟨bd, ebd⟩ : ∃ b, b = 2865 := ⟨_, rfl⟩
    have hMd := hO.dr ebd
    have hmd := hMd.1
    show jj G kX_multiply (d + 9) Q rc rs 43 [some (.ref (oa 0)), some (.int (nI (t))), some (.int (nI (n))), some (.int (nI (m))), some (.ref (oa (13 + n))), some (.ref (oa (13 + m))), none, none] [] M
    refine jj_aload_n (pc := 43) kX_multiply_d43 rfl ?_
    refine jj_getf (pc := 44) kX_multiply_d44 (kfX_draft hG) hx rfl ?_
    refine jj_aload (pc := 47) kX_multiply_d47 rfl ?_
    refine jj_getf (pc := 49) kX_multiply_d49 (kfX_M_rows hG) hmn rfl ?_
    refine jj_aload (pc := 52) kX_multiply_d52 rfl ?_
    refine jj_getf (pc := 54) kX_multiply_d54 (kfX_M_columns hG) hmm rfl ?_
    refine jj_callV (pc := 57) (b := (oa 21)) (As := [.int (nI (rr)), .int (nI (cc))]) kX_multiply_d57 (kvX_M_clear hG) (kG_cl hG rfl) rfl hmd rfl rfl rfl (Nat.le_of_ble_eq_true rfl) (Nat.le_of_ble_eq_true rfl) (jj_bare0 rfl) ?_
    refine m_clear hG hK hS hMd (by omega) (by omega) (by have := (hJ.capw (p := bd + 256) (by omega) (by omega)).2; exact this) s2n s4m (fun M1 V1 hS1 hM1 v1 v0 vo f1 => ?_)
    obtain ⟨R1, C1, hO1, e8, f8, rk1, hF1⟩ := hO.draft hJ hM1 ebd f1
    have hx1 := hO1.1
    have hMd1 := hO1.dr ebd
    rw [e8, f8] at hMd1
    have hmd1 := hMd1.1
    have hMn1 := hO1.2.2.2.2.2.2.2 n (by omega)
    rw [← ebn, (rk1 n hn).1, (rk1 n hn).2, err] at hMn1
    have hmn1 := hMn1.1
    have hMm1 := hO1.2.2.2.2.2.2.2 m (by omega)
    rw [← ebm, (rk1 m hm).1, (rk1 m hm).2, ecc] at hMm1
    have hmm1 := hMm1.1
    obtain ⟨T1, t1, hT1, _, _⟩ := hS1.1 (bd + 256) (by omega)
    have l1 : ∀ p, 809 ≤ p → p < 2865 → lc (V1 p) ≤ 125 := fun p _ _ => by
      have := hS1.1.lc (p := p) (by omega)
      rw [hJ.cap125 (by omega) (by omega)] at this
      exact this
    show jj G kX_multiply (d + 9) Q rc rs 60 [some (.ref (oa 0)), some (.int (nI (t))), some (.int (nI (n))), some (.int (nI (m))), some (.ref (oa (13 + n))), some (.ref (oa (13 + m))), none, none] [] M1
    refine jj_aload_n (pc := 60) kX_multiply_d60 rfl ?_
    refine jj_getf (pc := 61) kX_multiply_d61 (kfX_draft hG) hx1 rfl ?_
    refine jj_getf (pc := 64) kX_multiply_d64 (kfX_M_common hG) hmd1 rfl ?_
    refine jj_aload (pc := 67) kX_multiply_d67 rfl ?_
    refine jj_getf (pc := 69) kX_multiply_d69 (kfX_M_common hG) hmn1 rfl ?_
    refine jj_aload (pc := 72) kX_multiply_d72 rfl ?_
    refine jj_getf (pc := 74) kX_multiply_d74 (kfX_M_common hG) hmm1 rfl ?_
    refine jj_callV (pc := 77) (b := (wa (bd + 256))) (As := [.ref (wa (bn + 256)), .ref (wa (bm + 256))]) kX_multiply_d77 (kvX_W_product hG) (kG_cl hG rfl) rfl hT1 rfl rfl rfl (Nat.le_of_ble_eq_true rfl) (Nat.le_of_ble_eq_true rfl) (jj_bare0 rfl) ?_
    refine w_product hG hI hS1.1 (t := bd + 256) (u := bn + 256) (v := bm + 256) (by omega) (by omega) (by omega) (by omega) (by omega) (by rw [hJ.cap252 (by omega) (by omega)]; have a := l1 (bn + 256) (by omega) (by omega); have b := l1 (bm + 256) (by omega) (by omega); omega) (fun M2 hc2 hw2 => ?_)
    have hS2x := hS1.wt hK (by omega) hw2 hc2
    have hw2e : EF M1 M2 wa la 3122 eu dv hi lo := hw2.ef (by omega)
    have hO2 := hO1.ef hJ hw2e
    have hF2 := hF1.trans (hw2e.efx (X := XAD oa))
    obtain ⟨Vb, eVb⟩ : ∃ W, vup V1 (bd + 256) (V1 (bn + 256) * V1 (bm + 256)) = W := ⟨_, rfl⟩
    have hS2 : KS M2 wa la cap 3122 eu dv hi lo (oa 3) Vb := by rw [← eVb]; exact hS2x
    have vb0 : Vb (bd + 256) = V (bn + 256) * V (bm + 256) := by rw [← eVb, vup_at, vo _ (by omega), vo _ (by omega)]
    have vb1 : ∀ p, p < bd → Vb p = V p := fun p hp => by rw [← eVb, vup_ne _ _ (by omega)]; exact vo _ (Or.inl hp)
    have vb2 : ∀ i j, i < rr → j < cc → Vb (bd + (16 * i + j)) = 0 := fun i j hi' hj' => by rw [← eVb, vup_ne _ _ (by omega)]; exact v0 i j hi' hj'
    have hx2 := hO2.1
    have hMd2 := hO2.dr ebd
    rw [e8, f8] at hMd2
    have hmd2 := hMd2.1
    have hMn2 := hO2.2.2.2.2.2.2.2 n (by omega)
    rw [← ebn, (rk1 n hn).1, (rk1 n hn).2, err] at hMn2
    have hmn2 := hMn2.1
    have hMm2 := hO2.2.2.2.2.2.2.2 m (by omega)
    rw [← ebm, (rk1 m hm).1, (rk1 m hm).2, ecc] at hMm2
    have hmm2 := hMm2.1
    show jj G kX_multiply (d + 9) Q rc rs 80 [some (.ref (oa 0)), some (.int (nI (t))), some (.int (nI (n))), some (.int (nI (m))), some (.ref (oa (13 + n))), some (.ref (oa (13 + m))), none, none] [] M2
    refine jn_iconst (pc := 80) 0 kX_multiply_d80 (by decide) ?_
    refine jj_istore (pc := 81) kX_multiply_d81 (Nat.le_of_ble_eq_true rfl) ?_
    show jj G kX_multiply (d + 9) Q rc rs 83 [some (.ref (oa 0)), some (.int (nI (t))), some (.int (nI (n))), some (.int (nI (m))), some (.ref (oa (13 + n))), some (.ref (oa (13 + m))), some (.int (nI (0))), none] [] M2
    show jj G kX_multiply (d + 9) Q rc rs 83 [some (.ref (oa 0)), some (.int (nI (t))), some (.int (nI (n))), some (.int (nI (m))), some (.ref (oa (13 + n))), some (.ref (oa (13 + m))), some (.int (nI (0))), none] [] M2
    have fin : ∀ (oj : Option Value) (M9 : mheap) (V9 : Nat → Int), KS M9 wa la cap 3122 eu dv hi lo (oa 3) V9 → EF M2 M9 wa la 3122 eu dv hi lo → (∀ p, 10 ≤ p → (∀ i' j', i' < rr → j' < cc → p ≠ (bd + (16 * i' + j'))) → V9 p = Vb p) → (∀ i' j', i' < rr → j' < cc → V9 (bd + (16 * i' + j')) = isum (fun t => V (bn + (16 * i' + t)) * V (bm + (16 * t + j'))) (C n)) → jj G kX_multiply (d + 9) Q rc rs 130 [some (.ref (oa 0)), some (.int (nI (t))), some (.int (nI (n))), some (.int (nI (m))), some (.ref (oa (13 + n))), some (.ref (oa (13 + m))), some (.int (nI (rr))), (oj)] [] M9 := by
      intro oj M9 V9 hS9 f9 o9 v9
      have hO9 := hO2.ef hJ f9
      have hx9 := hO9.1
      have hMd9 := hO9.dr ebd
      rw [e8, f8] at hMd9
      have hmd9 := hMd9.1
      have hMn9 := hO9.2.2.2.2.2.2.2 n (by omega)
      rw [← ebn, (rk1 n hn).1, (rk1 n hn).2, err] at hMn9
      have hmn9 := hMn9.1
      have hMm9 := hO9.2.2.2.2.2.2.2 m (by omega)
      rw [← ebm, (rk1 m hm).1, (rk1 m hm).2, ecc] at hMm9
      have hmm9 := hMm9.1
      have ov9 : ∀ p, 13 ≤ p → p < 2865 → V9 p = V p := fun p p1 p2 => by rw [o9 p (by omega) (fun i' j' h1 h2 => by omega)]; exact vb1 p (by omega)
      have hF9 := hF2.trans (f9.efx (X := XAD oa))
      have c9 : V9 (bd + 256) = V (bn + 256) * V (bm + 256) := by rw [o9 _ (by omega) (fun i' j' h1 h2 => by omega)]; exact vb0
      have pn := hNn.1
      have pm := hNm.1
      have hH : HAS V9 2865 rr cc (fun t => qsum (fun x => σ.2.2 n (t / cc * C n + x) * σ.2.2 m (x * cc + t % cc)) (C n)) := by
        rw [← ebd]
        refine ⟨by rw [c9]; have := Int.mul_pos pn pm; omega, fun i j hi' hj' => ?_⟩
        have d1 : (i * cc + j) / cc = i := by rw [Nat.mul_comm, Nat.mul_add_div (by omega), Nat.div_eq_of_lt hj', Nat.add_zero]
        have d2 : (i * cc + j) % cc = j := by rw [Nat.mul_comm, Nat.mul_add_mod, Nat.mod_eq_of_lt hj']
        rw [v9 i j hi' hj', c9]
        dsimp only
        rw [d1, d2, Rat.intCast_mul]
        refine isum_qsum (fun t ht => ?_)
        rw [Rat.intCast_mul, hNn.2.1.2 i t hi' ht, hNm.2.1.2 t j (by omega) hj']
        grind
      have hx9 := hO9.1
      show jj G kX_multiply (d + 9) Q rc rs 130 [some (.ref (oa 0)), some (.int (nI (t))), some (.int (nI (n))), some (.int (nI (m))), some (.ref (oa (13 + n))), some (.ref (oa (13 + m))), some (.int (nI (rr))), (oj)] [] M9
      refine jj_aload_n (pc := 130) kX_multiply_d130 rfl ?_
      refine jj_callV (pc := 131) (b := (oa 0)) (As := []) kX_multiply_d131 (kvX_X_reduceDraft hG) (kG_cl hG rfl) rfl hx9 rfl rfl rfl (Nat.le_of_ble_eq_true rfl) (Nat.le_of_ble_eq_true rfl) (jj_bare0 rfl) ?_
      refine x_reduceDraft hG hJ hS9 hO9 (q := (fun t => qsum (fun x => σ.2.2 n (t / cc * C n + x) * σ.2.2 m (x * cc + t % cc)) (C n))) (by omega) (by omega) (by omega) (by omega) (by rw [e8, f8]; exact hH) (fun Ma Va hSa hOa hNa va wa9 => ?_)
      have hxa := hOa.1
      have hFa := hF9.trans wa9.efx
      have ova : ∀ p, 13 ≤ p → p < 2865 → Va p = V p := fun p p1 p2 => by rw [va p p1 p2]; exact ov9 p p1 p2
      show jj G kX_multiply (d + 9) Q rc rs 134 [some (.ref (oa 0)), some (.int (nI (t))), some (.int (nI (n))), some (.int (nI (m))), some (.ref (oa (13 + n))), some (.ref (oa (13 + m))), some (.int (nI (rr))), (oj)] [] Ma
      refine jj_aload_n (pc := 134) kX_multiply_d134 rfl ?_
      refine jj_iload_n (pc := 135) kX_multiply_d135 rfl ?_
      refine jj_callV (pc := 136) (b := (oa 0)) (As := [.int (nI (t))]) kX_multiply_d136 (kvX_X_keepDraft hG) (kG_cl hG rfl) rfl hxa rfl rfl rfl (Nat.le_of_ble_eq_true rfl) (Nat.le_of_ble_eq_true rfl) (jj_bare0 rfl) ?_
      refine x_keepDraft hG hJ hSa hOa (q := (fun t => qsum (fun x => σ.2.2 n (t / cc * C n + x) * σ.2.2 m (x * cc + t % cc)) (C n))) (by omega) (by omega) (by omega) (by omega) ht hNa hrc hrs (fun Mb Vb hfit hSb hOb hNb vb hFb => ?_) (fun hnf y hy => kt Ma 3 6 (Or.inr ⟨t, n, m, ht, rfl, hn, rfl, hm, rfl, Or.inr ⟨by omega, by rw [← ern, ← ecm, ← ecn]; exact Or.inr ⟨by rw [e8, f8] at hnf; exact hnf, rfl, rfl⟩⟩⟩) (by omega) ⟨Va, sc, R1, C1, hSa, hOa, hV.keep (fun p p1 p2 => ova p (by omega) p2) (ova 15 (by omega) (by omega)) (ova 16 (by omega) (by omega)) rk1⟩ hFa y hy)
      rw [e8, f8] at hfit hNb
      show jj G kX_multiply (d + 9) Q rc rs 139 [some (.ref (oa 0)), some (.int (nI (t))), some (.int (nI (n))), some (.int (nI (m))), some (.ref (oa (13 + n))), some (.ref (oa (13 + m))), some (.int (nI (rr))), (oj)] [] Mb
      exact jj_vret (pc := 139) kX_multiply_d139 rfl (kr Mb _ (Or.inr ⟨t, n, m, ht, rfl, hn, rfl, hm, rfl, Or.inr ⟨by omega, by rw [← ern, ← ecm, ← ecn]; exact Or.inl ⟨hfit, rfl, rfl⟩⟩⟩) ⟨Vb, -1, _, _, hSb, hOb, hV.put (n := t) (r := rr) (c := cc) (q := (fun t => qsum (fun x => σ.2.2 n (t / cc * C n + x) * σ.2.2 m (x * cc + t % cc)) (C n))) ht (fun p _ _ p3 => by rw [vb p (by omega) p3]; exact ova p (by omega) (by omega)) (fun k hk => by show (if k = t then R1 8 else R1 k) = _; rw [e8, (rk1 k hk).1]) (fun k hk => by show (if k = t then C1 8 else C1 k) = _; rw [f8, (rk1 k hk).2]) (by omega) (by omega) (by omega) (by omega) hNb⟩ (hFa.trans hFb))
    have outer : ∀ mu i, rr = i + mu → ∀ (oj : Option Value) (M9 : mheap) (V9 : Nat → Int), KS M9 wa la cap 3122 eu dv hi lo (oa 3) V9 → EF M2 M9 wa la 3122 eu dv hi lo → (∀ p, 10 ≤ p → (∀ i' j', i' < rr → j' < cc → p ≠ (bd + (16 * i' + j'))) → V9 p = Vb p) → (∀ i' j', i' < rr → j' < cc → ¬ thru cc i 0 i' j' → V9 (bd + (16 * i' + j')) = Vb (bd + (16 * i' + j'))) → (∀ i' j', i' < rr → thru cc i 0 i' j' → V9 (bd + (16 * i' + j')) = isum (fun t => V (bn + (16 * i' + t)) * V (bm + (16 * t + j'))) (C n)) → jj G kX_multiply (d + 9) Q rc rs 83 [some (.ref (oa 0)), some (.int (nI (t))), some (.int (nI (n))), some (.int (nI (m))), some (.ref (oa (13 + n))), some (.ref (oa (13 + m))), some (.int (nI (i))), (oj)] [] M9 := by
      intro mu
      induction mu with
      | zero =>
        intro i hk oj M9 V9 hS9 f9 o9 u9 v9
        have e9 : rr = i := by omega
        subst e9
        have hO9 := hO2.ef hJ f9
        have hx9 := hO9.1
        have hMd9 := hO9.dr ebd
        rw [e8, f8] at hMd9
        have hmd9 := hMd9.1
        have hMn9 := hO9.2.2.2.2.2.2.2 n (by omega)
        rw [← ebn, (rk1 n hn).1, (rk1 n hn).2, err] at hMn9
        have hmn9 := hMn9.1
        have hMm9 := hO9.2.2.2.2.2.2.2 m (by omega)
        rw [← ebm, (rk1 m hm).1, (rk1 m hm).2, ecc] at hMm9
        have hmm9 := hMm9.1
        refine jj_iload (pc := 83) kX_multiply_d83 rfl ?_
        refine jj_aload (pc := 85) kX_multiply_d85 rfl ?_
        refine jj_getf (pc := 87) kX_multiply_d87 (kfX_M_rows hG) hmn9 rfl ?_
        refine jn_icmp_ge (pc := 90) (tgt := 130) kX_multiply_d90 (by decide) (by omega) (by omega) (fun _ => ?_) (fun c => by exfalso; omega)
        show jj G kX_multiply (d + 9) Q rc rs 130 [some (.ref (oa 0)), some (.int (nI (t))), some (.int (nI (n))), some (.int (nI (m))), some (.ref (oa (13 + n))), some (.ref (oa (13 + m))), some (.int (nI (rr))), (oj)] [] M9
        exact fin _ M9 V9 hS9 f9 o9 (fun i j hi' hj' => v9 i j hi' ⟨hj', Or.inl hi'⟩)
      | succ mu ih =>
        intro i hk oj M9 V9 hS9 f9 o9 u9 v9
        have hO9 := hO2.ef hJ f9
        have hx9 := hO9.1
        have hMd9 := hO9.dr ebd
        rw [e8, f8] at hMd9
        have hmd9 := hMd9.1
        have hMn9 := hO9.2.2.2.2.2.2.2 n (by omega)
        rw [← ebn, (rk1 n hn).1, (rk1 n hn).2, err] at hMn9
        have hmn9 := hMn9.1
        have hMm9 := hO9.2.2.2.2.2.2.2 m (by omega)
        rw [← ebm, (rk1 m hm).1, (rk1 m hm).2, ecc] at hMm9
        have hmm9 := hMm9.1
        refine jj_iload (pc := 83) kX_multiply_d83 rfl ?_
        refine jj_aload (pc := 85) kX_multiply_d85 rfl ?_
        refine jj_getf (pc := 87) kX_multiply_d87 (kfX_M_rows hG) hmn9 rfl ?_
        refine jn_icmp_ge (pc := 90) (tgt := 130) kX_multiply_d90 (by decide) (by omega) (by omega) (fun c => by exfalso; omega) (fun _ => ?_)
        refine jn_iconst (pc := 93) 0 kX_multiply_d93 (by decide) ?_
        refine jj_istore (pc := 94) kX_multiply_d94 (Nat.le_of_ble_eq_true rfl) ?_
        show jj G kX_multiply (d + 9) Q rc rs 96 [some (.ref (oa 0)), some (.int (nI (t))), some (.int (nI (n))), some (.int (nI (m))), some (.ref (oa (13 + n))), some (.ref (oa (13 + m))), some (.int (nI (i))), some (.int (nI (0)))] [] M9
        show jj G kX_multiply (d + 9) Q rc rs 96 [some (.ref (oa 0)), some (.int (nI (t))), some (.int (nI (n))), some (.int (nI (m))), some (.ref (oa (13 + n))), some (.ref (oa (13 + m))), some (.int (nI (i))), some (.int (nI (0)))] [] M9
        have inner : ∀ mu2 j, cc = j + mu2 → ∀ (M9 : mheap) (V9 : Nat → Int), KS M9 wa la cap 3122 eu dv hi lo (oa 3) V9 → EF M2 M9 wa la 3122 eu dv hi lo → (∀ p, 10 ≤ p → (∀ i' j', i' < rr → j' < cc → p ≠ (bd + (16 * i' + j'))) → V9 p = Vb p) → (∀ i' j', i' < rr → j' < cc → ¬ thru cc i j i' j' → V9 (bd + (16 * i' + j')) = Vb (bd + (16 * i' + j'))) → (∀ i' j', i' < rr → thru cc i j i' j' → V9 (bd + (16 * i' + j')) = isum (fun t => V (bn + (16 * i' + t)) * V (bm + (16 * t + j'))) (C n)) → jj G kX_multiply (d + 9) Q rc rs 96 [some (.ref (oa 0)), some (.int (nI (t))), some (.int (nI (n))), some (.int (nI (m))), some (.ref (oa (13 + n))), some (.ref (oa (13 + m))), some (.int (nI (i))), some (.int (nI (j)))] [] M9 := by
          intro mu2
          induction mu2 with
          | zero =>
            intro j hk2 M9 V9 hS9 f9 o9 u9 v9
            have e9 : cc = j := by omega
            subst e9
            have hO9 := hO2.ef hJ f9
            have hx9 := hO9.1
            have hMd9 := hO9.dr ebd
            rw [e8, f8] at hMd9
            have hmd9 := hMd9.1
            have hMn9 := hO9.2.2.2.2.2.2.2 n (by omega)
            rw [← ebn, (rk1 n hn).1, (rk1 n hn).2, err] at hMn9
            have hmn9 := hMn9.1
            have hMm9 := hO9.2.2.2.2.2.2.2 m (by omega)
            rw [← ebm, (rk1 m hm).1, (rk1 m hm).2, ecc] at hMm9
            have hmm9 := hMm9.1
            refine jj_iload (pc := 96) kX_multiply_d96 rfl ?_
            refine jj_aload (pc := 98) kX_multiply_d98 rfl ?_
            refine jj_getf (pc := 100) kX_multiply_d100 (kfX_M_columns hG) hmm9 rfl ?_
            refine jn_icmp_ge (pc := 103) (tgt := 124) kX_multiply_d103 (by decide) (by omega) (by omega) (fun _ => ?_) (fun c => by exfalso; omega)
            refine jn_iinc (pc := 124) (i + 1) kX_multiply_d124 rfl (nI_1 _) ?_
            refine jj_goto (pc := 127) (tgt := 83) kX_multiply_d127 (by decide) ?_
            show jj G kX_multiply (d + 9) Q rc rs 83 [some (.ref (oa 0)), some (.int (nI (t))), some (.int (nI (n))), some (.int (nI (m))), some (.ref (oa (13 + n))), some (.ref (oa (13 + m))), some (.int (nI (i + 1))), some (.int (nI (cc)))] [] M9
            exact ih (i + 1) (by omega) _ M9 V9 hS9 f9 o9 (fun i' j' h1 h2 h3 => u9 i' j' h1 h2 (fun h => h3 (thru_row.1 h))) (fun i' j' h1 h2 => v9 i' j' h1 (thru_row.2 h2))
          | succ mu2 ih2 =>
            intro j hk2 M9 V9 hS9 f9 o9 u9 v9
            have hO9 := hO2.ef hJ f9
            have old9 : V9 (bd + (16 * i + j)) = Vb (bd + (16 * i + j)) := u9 i j (by omega) (by omega) (fun h => by unfold thru at h; omega)
            have hx9 := hO9.1
            have hMd9 := hO9.dr ebd
            rw [e8, f8] at hMd9
            have hmd9 := hMd9.1
            have hMn9 := hO9.2.2.2.2.2.2.2 n (by omega)
            rw [← ebn, (rk1 n hn).1, (rk1 n hn).2, err] at hMn9
            have hmn9 := hMn9.1
            have hMm9 := hO9.2.2.2.2.2.2.2 m (by omega)
            rw [← ebm, (rk1 m hm).1, (rk1 m hm).2, ecc] at hMm9
            have hmm9 := hMm9.1
            refine jj_iload (pc := 96) kX_multiply_d96 rfl ?_
            refine jj_aload (pc := 98) kX_multiply_d98 rfl ?_
            refine jj_getf (pc := 100) kX_multiply_d100 (kfX_M_columns hG) hmm9 rfl ?_
            refine jn_icmp_ge (pc := 103) (tgt := 124) kX_multiply_d103 (by decide) (by omega) (by omega) (fun c => by exfalso; omega) (fun _ => ?_)
            refine jj_aload_n (pc := 106) kX_multiply_d106 rfl ?_
            refine jj_aload (pc := 107) kX_multiply_d107 rfl ?_
            refine jj_aload (pc := 109) kX_multiply_d109 rfl ?_
            refine jj_iload (pc := 111) kX_multiply_d111 rfl ?_
            refine jj_iload (pc := 113) kX_multiply_d113 rfl ?_
            refine jj_callV (pc := 115) (b := (oa 0)) (As := [.ref (oa (13 + n)), .ref (oa (13 + m)), .int (nI (i)), .int (nI (j))]) kX_multiply_d115 (kvX_X_draftProduct hG) (kG_cl hG rfl) rfl hx9 rfl rfl rfl (Nat.le_of_ble_eq_true rfl) (Nat.le_of_ble_eq_true rfl) (jj_bare0 rfl) ?_
            refine x_draftProduct hG hJ hS9 hO9 ebd ebn ebm hn hm (by omega) (by omega) (by rw [(rk1 n hn).2]; exact s4n) (by rw [old9]; exact vb2 i j (by omega) (by omega)) (fun M8 V8 hS8 hw8 at8 hot => ?_)
            rw [(rk1 n hn).2] at at8
            have hat : V8 (bd + (16 * i + j)) = isum (fun t => V (bn + (16 * i + t)) * V (bm + (16 * t + j))) (C n) := by
              rw [at8]
              refine isum_congr (fun t ht => ?_)
              rw [o9 _ (by omega) (fun i' j' h1 h2 => by omega), o9 _ (by omega) (fun i' j' h1 h2 => by omega), vb1 _ (by omega), vb1 _ (by omega)]
            have hO8 := hO9.ef hJ hw8
            have hmm8 := (hO8.2.2.2.2.2.2.2 m (by omega)).1
            rw [← ebm, (rk1 m hm).1, (rk1 m hm).2, ecc] at hmm8
            show jj G kX_multiply (d + 9) Q rc rs 118 [some (.ref (oa 0)), some (.int (nI (t))), some (.int (nI (n))), some (.int (nI (m))), some (.ref (oa (13 + n))), some (.ref (oa (13 + m))), some (.int (nI (i))), some (.int (nI (j)))] [] M8
            refine jn_iinc (pc := 118) (j + 1) kX_multiply_d118 rfl (nI_1 _) ?_
            refine jj_goto (pc := 121) (tgt := 96) kX_multiply_d121 (by decide) ?_
            show jj G kX_multiply (d + 9) Q rc rs 96 [some (.ref (oa 0)), some (.int (nI (t))), some (.int (nI (n))), some (.int (nI (m))), some (.ref (oa (13 + n))), some (.ref (oa (13 + m))), some (.int (nI (i))), some (.int (nI (j + 1)))] [] M8
            refine ih2 (j + 1) (by omega) M8 V8 hS8 (f9.trans hw8) (fun p p1 p2 => ?_) (fun i' j' h1 h2 h3 => ?_) (fun i' j' h1 h2 => ?_)
            · rw [hot p p1 (p2 i j (by omega) (by omega))]
              exact o9 p p1 p2
            · have hne : ¬ (i' = i ∧ j' = j) := fun e => h3 ((thru_next (by omega)).2 (Or.inr e))
              rw [hot _ (by omega) (by omega)]
              exact u9 i' j' h1 h2 (fun h => h3 ((thru_next (by omega)).2 (Or.inl h)))
            · by_cases e : i' = i ∧ j' = j
              · rw [e.1, e.2]; exact hat
              · have hj9 := h2.1
                rw [hot _ (by omega) (by omega)]
                rcases (thru_next (by omega)).1 h2 with h | h
                · exact v9 i' j' h1 h
                · exact absurd h e
        exact inner cc 0 (by omega) M9 V9 hS9 f9 o9 u9 v9
    refine outer rr 0 (by omega) _ M2 Vb hS2 (fun _ _ _ _ _ _ => rfl) (fun _ _ _ => rfl) (fun _ _ _ _ _ => rfl) (fun i' j' _ h => ?_)
    unfold thru at h
    omega
  · skip
    show jj G kX_multiply (d + 9) Q rc rs 33 [some (.ref (oa 0)), some (.int (nI (t))), some (.int (nI (n))), some (.int (nI (m))), some (.ref (oa (13 + n))), some (.ref (oa (13 + m))), none, none] [] M
    exact jj_throw (pc := 33) (ll := 2) kX_multiply_d33 kX_multiply_d36 (Or.inl ⟨kX_multiply_d37, rfl⟩) kX_multiply_d39 kX_multiply_d42 (ktX_not_as_many_columns_as_rows hG) rfl (Nat.le_of_ble_eq_true rfl) (jj_bare0 rfl) hrc hrs (fun a ha => kt M 2 5 (Or.inr ⟨t, n, m, ht, rfl, hn, rfl, hm, rfl, Or.inl ⟨by omega, rfl, rfl⟩⟩) (by omega) hT (fun _ _ _ => rfl) a ha)
end X8b
