/-! ===== ExactForms: draftFreeColumns (printed by wip/gen/rX16.py) ===== -/
theorem XJ.qj {wa la cap oa : Nat → Nat} {eu dv hi lo : Nat} (h : XJ wa la cap oa eu dv hi lo) : QJ wa la cap 3122 eu dv hi lo (oa 3) (oa 9) (oa 10) := by
  refine ⟨by omega, ?_, fun p h1 h2 => ?_, fun p h1 h2 => ?_, h.2.2.1 9 (by omega), h.2.2.1 10 (by omega), h.ne (by omega) (by omega) (by omega), h.ne (by omega) (by omega) (by omega)⟩
  · rw [h.2.1 547 (by omega)]; rfl
  · rw [h.2.1 p (by omega)]; unfold capx; rw [if_neg (by omega), if_neg (by omega), if_neg (by omega), if_neg (by omega), if_neg (by omega), if_pos (by omega)]
  · rw [h.2.1 p (by omega)]; unfold capx; rw [if_neg (by omega), if_neg (by omega), if_neg (by omega), if_neg (by omega), if_neg (by omega), if_neg (by omega), if_pos (by omega)]
theorem bb_mul3 {a b : Int} (ha : lc a ≤ 64) (hb : lc b ≤ 64) : (a * b).natAbs < BB ^ 128 := by
  refine lc_room (Nat.le_trans (lc_mul a b) ?_)
  omega
theorem sum_room3 {z : Int} {n t : Nat} (ht : BB ^ 128 = t) (hn : n ≤ 40) (h : z.natAbs ≤ n * t) : lc z ≤ 129 := by
  refine lc_le ?_
  have e : BB ^ 129 = t * BB := by rw [← ht]; exact Nat.pow_succ BB 128
  have t0 : 0 < t := by rw [← ht]; exact Nat.pow_pos (by decide)
  have h1 : n * t ≤ 40 * t := Nat.mul_le_mul_right _ hn
  have h2 : t * 41 ≤ t * BB := Nat.mul_le_mul_left _ (by decide)
  omega
section X16
variable {G : jg} {d : Nat} {Q : jq} {rc rs : Nat} {M : mheap} {wa la cap oa : Nat → Nat} {eu dv hi lo : Nat} {V : Nat → Int} {sc : Int32} {R C : Nat → Nat}
theorem x_fsum {rk sw m w ln pl i c : Nat} {P B : List Int32} {g s : Nat → Nat} (hG : kG G) (hJ : XJ wa la cap oa eu dv hi lo) (hS : KS M wa la cap 3122 eu dv hi lo (oa 3) V) (hO : XO M wa oa sc R C) (hL : ELT M wa (oa 4) (oa 5) (oa 6) (oa 7) (oa 8) (oa 3) rk sw m w P B g) (hR : RST M wa (oa 9) (oa 10) (oa 3) ln pl 16 1 s) (hik : i ≤ rk) (hrk : rk ≤ 16) (hc : c < 32) (h9 : V 9 = 0) (k : ∀ (M' : mheap) (V' : Nat → Int), KS M' wa la cap 3122 eu dv hi lo (oa 3) V' → EF M M' wa la 3122 eu dv hi lo → (∀ q, 10 ≤ q → V' q = V q) → V' 9 = isum (fun t => V (rp s 16 1 i (i + t)) * V (g (32 * (i + t) + c))) (rk - i) → lc (V' 9) ≤ 129 → jj G kX_draftFreeColumns (d + 5) Q rc rs 120 [some (.ref (oa 0)), some (.int (nI (c))), some (.int (nI (i))), some (.int (nI (rk)))] [] M') : jj G kX_draftFreeColumns (d + 5) Q rc rs 50 [some (.ref (oa 0)), some (.int (nI (c))), some (.int (nI (i))), some (.int (nI (i)))] [] M := by
  have hK := hJ.1
  obtain ⟨hI, hN, hcap, hdi⟩ := id hK
  have hJL := hJ.lj
  have hJQ := hJ.qj
  have hGP := hL.2.2.2.2.2
  have hsp := hR.2.2
  have hs : STP 16 1 := Or.inl ⟨rfl, rfl⟩
  obtain ⟨tt, ett⟩ : ∃ t, BB ^ 128 = t := ⟨_, rfl⟩
  have loop : ∀ mu x, rk = x + mu → i ≤ x → ∀ (M9 : mheap) (V9 : Nat → Int), KS M9 wa la cap 3122 eu dv hi lo (oa 3) V9 → EF M M9 wa la 3122 eu dv hi lo → (∀ q, 10 ≤ q → V9 q = V q) → V9 9 = isum (fun t => V (rp s 16 1 i (i + t)) * V (g (32 * (i + t) + c))) (x - i) → (V9 9).natAbs ≤ (x - i) * tt → jj G kX_draftFreeColumns (d + 5) Q rc rs 50 [some (.ref (oa 0)), some (.int (nI (c))), some (.int (nI (i))), some (.int (nI (x)))] [] M9 := by
    intro mu
    induction mu with
    | zero =>
      intro x hk hix M9 V9 hS9 f9 o9 e9 b9
      have ex : rk = x := by omega
      subst ex
      have hO9 := hO.ef hJ f9
      have hL9 := hL.ef hJL f9
      have hR9 := hR.ef hJQ f9
      have hx9 := hO9.1
      have hl9 := hL9.1
      have hre9 := hR9.1
      refine jj_iload_n (pc := 50) kX_draftFreeColumns_d50 rfl ?_
      refine jj_aload_n (pc := 51) kX_draftFreeColumns_d51 rfl ?_
      refine jj_getf (pc := 52) kX_draftFreeColumns_d52 (kfX_elimination hG) hx9 rfl ?_
      refine jj_getf (pc := 55) kX_draftFreeColumns_d55 (kfX_E_rank hG) hl9 rfl ?_
      refine jn_icmp_ge (pc := 58) (tgt := 120) kX_draftFreeColumns_d58 (by decide) (by omega) (by omega) (fun _ => ?_) (fun c => by exfalso; omega)
      show jj G kX_draftFreeColumns (d + 5) Q rc rs 120 [some (.ref (oa 0)), some (.int (nI (c))), some (.int (nI (i))), some (.int (nI (rk)))] [] M9
      exact k M9 V9 hS9 f9 o9 e9 (sum_room3 ett (by omega) b9)
    | succ mu ih =>
      intro x hk hix M9 V9 hS9 f9 o9 e9 b9
      have hO9 := hO.ef hJ f9
      have hL9 := hL.ef hJL f9
      have hR9 := hR.ef hJQ f9
      have hx9 := hO9.1
      have hl9 := hL9.1
      have hre9 := hR9.1
      have b1 := hsp.b hs (show i < 16 by omega) (show x < 16 by omega)
      have b2 := hGP.1 (32 * x + c) (by omega)
      obtain ⟨hc0, ⟨r_b, px_b, pf_b, py_b, po_b, ps_b, od_b, hU0⟩, hdk0⟩ := id hS9
      have hf0 : EF M9 M9 wa la 3122 eu dv hi lo := fun _ _ _ _ _ _ => rfl
      obtain ⟨V0, hV0⟩ : ∃ V0, V9 = V0 := ⟨_, rfl⟩
      rw [hV0] at hc0
      have hn0 := hU0.1
      have b_r0 := hn0.2.1
      have b_x0 := hn0.2.2.1
      have b_f0 := hn0.2.2.2.1
      have hdv0 := hU0.2.1
      obtain ⟨ea0, eb0, ec0, ed0, hE0⟩ := hU0.2.2.2
      have hD0 := hdv0.1
      rw [hV0] at o9 e9 b9
      have la1 : lc (V0 (rp s 16 1 i x)) ≤ 64 := by have := hc0.lc (p := (rp s 16 1 i x)) (by omega); rw [hJQ.2.2.2.1 _ b1.1 b1.2] at this; exact this
      have lb1 : lc (V0 (g (32 * x + c))) ≤ 64 := by have := hc0.lc (p := (g (32 * x + c))) (by omega); rw [hJL.2.2.2.2.1 _ b2.1 b2.2] at this; exact this
      have bb := bb_mul3 la1 lb1
      have m1 := lc_mul (V0 (rp s 16 1 i x)) (V0 (g (32 * x + c)))
      have l9 : lc (V0 9) ≤ 129 := sum_room3 ett (by omega) b9
      show jj G kX_draftFreeColumns (d + 5) Q rc rs 50 [some (.ref (oa 0)), some (.int (nI (c))), some (.int (nI (i))), some (.int (nI (x)))] [] M9
      refine jj_iload_n (pc := 50) kX_draftFreeColumns_d50 rfl ?_
      refine jj_aload_n (pc := 51) kX_draftFreeColumns_d51 rfl ?_
      refine jj_getf (pc := 52) kX_draftFreeColumns_d52 (kfX_elimination hG) hx9 rfl ?_
      refine jj_getf (pc := 55) kX_draftFreeColumns_d55 (kfX_E_rank hG) hl9 rfl ?_
      refine jn_icmp_ge (pc := 58) (tgt := 120) kX_draftFreeColumns_d58 (by decide) (by omega) (by omega) (fun c => by exfalso; omega) (fun _ => ?_)
      refine jj_aload_n (pc := 61) kX_draftFreeColumns_d61 rfl ?_
      refine jj_getf (pc := 62) kX_draftFreeColumns_d62 (kfX_desk hG) hx9 rfl ?_
      refine jj_getf (pc := 65) kX_draftFreeColumns_d65 (kfX_K_left hG) hdk0 rfl ?_
      refine jj_aload_n (pc := 68) kX_draftFreeColumns_d68 rfl ?_
      refine jj_getf (pc := 69) kX_draftFreeColumns_d69 (kfX_residues hG) hx9 rfl ?_
      refine jj_iload_n (pc := 72) kX_draftFreeColumns_d72 rfl ?_
      refine jj_iload_n (pc := 73) kX_draftFreeColumns_d73 rfl ?_
      refine jj_callV (pc := 74) (b := (oa 9)) (As := [.int (nI (i)), .int (nI (x))]) kX_draftFreeColumns_d74 (kvX_S_at hG) (kG_cl hG rfl) rfl hre9 rfl rfl rfl (Nat.le_of_ble_eq_true rfl) (Nat.le_of_ble_eq_true rfl) (jj_bare0 rfl) ?_
      refine r_at hG hR9 hs (by omega) (by omega) ?_
      show jj G kX_draftFreeColumns (d + 5) Q rc rs 77 [some (.ref (oa 0)), some (.int (nI (c))), some (.int (nI (i))), some (.int (nI (x)))] [.ref (wa (rp s 16 1 i x)), .ref (wa 7)] M9
      refine jj_aload_n (pc := 77) kX_draftFreeColumns_d77 rfl ?_
      refine jj_getf (pc := 78) kX_draftFreeColumns_d78 (kfX_elimination hG) hx9 rfl ?_
      refine jj_iload_n (pc := 81) kX_draftFreeColumns_d81 rfl ?_
      refine jj_iload_n (pc := 82) kX_draftFreeColumns_d82 rfl ?_
      refine jj_callV (pc := 83) (b := (oa 4)) (As := [.int (nI (x)), .int (nI (c))]) kX_draftFreeColumns_d83 (kvX_E_at hG) (kG_cl hG rfl) rfl hl9 rfl rfl rfl (Nat.le_of_ble_eq_true rfl) (Nat.le_of_ble_eq_true rfl) (jj_bare0 rfl) ?_
      refine e_at hG hL9 (by omega) (by omega) ?_
      show jj G kX_draftFreeColumns (d + 5) Q rc rs 86 [some (.ref (oa 0)), some (.int (nI (c))), some (.int (nI (i))), some (.int (nI (x)))] [.ref (wa (g (32 * x + c))), .ref (wa (rp s 16 1 i x)), .ref (wa 7)] M9
      obtain ⟨T7_0, t7_0, hT7_0, _, _⟩ := hc0 7 (by omega)
      refine jj_callV (pc := 86) (b := (wa 7)) (As := [.ref (wa (rp s 16 1 i x)), .ref (wa (g (32 * x + c)))]) kX_draftFreeColumns_d86 (kvX_W_product hG) (kG_cl hG rfl) rfl hT7_0 rfl rfl rfl (Nat.le_of_ble_eq_true rfl) (Nat.le_of_ble_eq_true rfl) (jj_bare0 rfl) ?_
      refine w_product hG hI hc0 (by omega : 7 < 3122) (by omega) (by omega) (by omega) (by omega) (by rw [hcap 7 (by omega)]; omega) (fun M1 hcx1 hw1  => ?_) 
      obtain ⟨V1, hV1⟩ : ∃ W, vup V0 7 (V0 (rp s 16 1 i x) * V0 (g (32 * x + c))) = W := ⟨_, rfl⟩
      have hc1 : CW M1 wa la cap 3122 V1 := by rw [← hV1]; exact hcx1
      have at1 : V1 7 = V0 (rp s 16 1 i x) * V0 (g (32 * x + c)) := by rw [← hV1, vup_at]
      have ot1 : ∀ p, p ≠ 7 → V1 p = V0 p := fun p hp => by rw [← hV1, vup_ne _ _ hp]
      have hU1 := hU0.wt hc0 hdi (by omega) hw1
      have hf1 := hf0.trans (hw1.ef (by omega))
      have q1_oa0 := (hw1.ef (eu := eu) (dv := dv) (hi := hi) (lo := lo) (by omega)).obj hc0 hU0 hx9 (by decide) (by decide) (by decide)
      have q1_oa4 := (hw1.ef (eu := eu) (dv := dv) (hi := hi) (lo := lo) (by omega)).obj hc0 hU0 hl9 (by decide) (by decide) (by decide)
      have q1_oa9 := (hw1.ef (eu := eu) (dv := dv) (hi := hi) (lo := lo) (by omega)).obj hc0 hU0 hre9 (by decide) (by decide) (by decide)
      have q1_oa3 := (hw1.ef (eu := eu) (dv := dv) (hi := hi) (lo := lo) (by omega)).obj hc0 hU0 hdk0 (by decide) (by decide) (by decide)
      have hn1 := hU1.1
      have b_r1 := hn1.2.1
      have b_x1 := hn1.2.2.1
      have b_f1 := hn1.2.2.2.1
      have hdv1 := hU1.2.1
      obtain ⟨ea1, eb1, ec1, ed1, hE1⟩ := hU1.2.2.2
      have hD1 := hdv1.1
      show jj G kX_draftFreeColumns (d + 5) Q rc rs 89 [some (.ref (oa 0)), some (.int (nI (c))), some (.int (nI (i))), some (.int (nI (x)))] [] M1
      have v9 : V1 9 = V0 9 := ot1 9 (by omega)
      have l7 : lc (V1 7) ≤ 128 := by rw [at1]; omega
      obtain ⟨T9_1, t9_1, hT9_1, _, _⟩ := hc1 9 (by omega)
      refine jj_aload_n (pc := 89) kX_draftFreeColumns_d89 rfl ?_
      refine jj_getf (pc := 90) kX_draftFreeColumns_d90 (kfX_desk hG) q1_oa0 rfl ?_
      refine jj_getf (pc := 93) kX_draftFreeColumns_d93 (kfX_K_sum hG) q1_oa3 rfl ?_
      refine jj_aload_n (pc := 96) kX_draftFreeColumns_d96 rfl ?_
      refine jj_getf (pc := 97) kX_draftFreeColumns_d97 (kfX_desk hG) q1_oa0 rfl ?_
      refine jj_getf (pc := 100) kX_draftFreeColumns_d100 (kfX_K_sum hG) q1_oa3 rfl ?_
      refine jj_aload_n (pc := 103) kX_draftFreeColumns_d103 rfl ?_
      refine jj_getf (pc := 104) kX_draftFreeColumns_d104 (kfX_desk hG) q1_oa0 rfl ?_
      refine jj_getf (pc := 107) kX_draftFreeColumns_d107 (kfX_K_left hG) q1_oa3 rfl ?_
      refine jn_iconst (pc := 110) 0 kX_draftFreeColumns_d110 (by decide) ?_
      refine jn_top (.int (sg 0)) (congrArg Value.int (by decide)) ?_
      refine jj_callV (pc := 111) (b := (wa 9)) (As := [.ref (wa 9), .ref (wa 7), .int (sg 0)]) kX_draftFreeColumns_d111 (kvX_W_sum hG) (kG_cl hG rfl) rfl hT9_1 rfl rfl rfl (Nat.le_of_ble_eq_true rfl) (Nat.le_of_ble_eq_true rfl) (jj_bare0 rfl) ?_
      refine w_sum hG hI hc1 (u := 9) (v := 7) (ls := 0) (by omega : 9 < 3122) (by omega) (by omega) (by rw [hcap 9 (by omega), v9]; omega) (by rw [hcap 9 (by omega)]; omega) (by rw [if_neg (by decide)]) (fun M2 hcx2 hw2  => ?_) 
      obtain ⟨V2, hV2⟩ : ∃ W, vup V1 9 (V1 9 + V1 7) = W := ⟨_, rfl⟩
      have hc2 : CW M2 wa la cap 3122 V2 := by rw [← hV2]; exact hcx2
      have at2 : V2 9 = V1 9 + V1 7 := by rw [← hV2, vup_at]
      have ot2 : ∀ p, p ≠ 9 → V2 p = V1 p := fun p hp => by rw [← hV2, vup_ne _ _ hp]
      have hU2 := hU1.wt hc1 hdi (by omega) hw2
      have hf2 := hf1.trans (hw2.ef (by omega))
      have q2_oa0 := (hw2.ef (eu := eu) (dv := dv) (hi := hi) (lo := lo) (by omega)).obj hc1 hU1 q1_oa0 (by decide) (by decide) (by decide)
      have q2_oa4 := (hw2.ef (eu := eu) (dv := dv) (hi := hi) (lo := lo) (by omega)).obj hc1 hU1 q1_oa4 (by decide) (by decide) (by decide)
      have q2_oa9 := (hw2.ef (eu := eu) (dv := dv) (hi := hi) (lo := lo) (by omega)).obj hc1 hU1 q1_oa9 (by decide) (by decide) (by decide)
      have q2_oa3 := (hw2.ef (eu := eu) (dv := dv) (hi := hi) (lo := lo) (by omega)).obj hc1 hU1 q1_oa3 (by decide) (by decide) (by decide)
      have hn2 := hU2.1
      have b_r2 := hn2.2.1
      have b_x2 := hn2.2.2.1
      have b_f2 := hn2.2.2.2.1
      have hdv2 := hU2.2.1
      obtain ⟨ea2, eb2, ec2, ed2, hE2⟩ := hU2.2.2.2
      have hD2 := hdv2.1
      show jj G kX_draftFreeColumns (d + 5) Q rc rs 114 [some (.ref (oa 0)), some (.int (nI (c))), some (.int (nI (i))), some (.int (nI (x)))] [] M2
      refine jn_iinc (pc := 114) (x + 1) kX_draftFreeColumns_d114 rfl (nI_1 _) ?_
      refine jj_goto (pc := 117) (tgt := 50) kX_draftFreeColumns_d117 (by decide) ?_
      show jj G kX_draftFreeColumns (d + 5) Q rc rs 50 [some (.ref (oa 0)), some (.int (nI (c))), some (.int (nI (i))), some (.int (nI (x + 1)))] [] M2
      rw [v9, at1] at at2
      refine ih (x + 1) (by omega) (by omega) M2 V2 ⟨hc2, ⟨r_b, px_b, pf_b, py_b, po_b, ps_b, od_b, hU2⟩, q2_oa3⟩ (f9.trans hf2) (fun q hq => by rw [ot2 q (by omega), ot1 q (by omega)]; exact o9 q hq) ?_ ?_
      · rw [at2, e9, show x + 1 - i = (x - i) + 1 by omega]
        show _ = isum _ _ + _
        dsimp only
        rw [show i + (x - i) = x by omega, o9 _ (by omega), o9 _ (by omega)]
      · rw [at2, show x + 1 - i = (x - i) + 1 by omega, Nat.succ_mul (x - i)]
        rw [ett] at bb
        omega
  refine loop (rk - i) i (by omega) (Nat.le_refl _) M V hS (fun _ _ _ _ _ _ => rfl) (fun _ _ => rfl) ?_ ?_
  · rw [h9, Nat.sub_self]; rfl
  · rw [h9]; exact Nat.zero_le _
theorem x_draftFree {rk sw m c ln pl : Nat} {L : Int} {P B : List Int32} {g s p : Nat → Nat} {H : imat} (hG : kG G) (hJ : XJ wa la cap oa eu dv hi lo) (hS : KS M wa la cap 3122 eu dv hi lo (oa 3) V) (hO : XO M wa oa sc R C) (hL : ELT M wa (oa 4) (oa 5) (oa 6) (oa 7) (oa 8) (oa 3) rk sw m c P B g) (hR : RST M wa (oa 9) (oa 10) (oa 3) ln pl 16 1 s) (hrm : rk ≤ R 8) (hr : R 8 ≤ 16) (ec8 : C 8 = c) (hc : c ≤ 16) (h33 : V 33 = L) (hL0 : L ≠ 0) (hPV : PIV P B p rk c) (hpw : ∀ k, k < rk → p k < c) (hH : ∀ i x, i < rk → x < c → (∀ k, k < rk → p k ≠ x) → isum (fun t => V (rp s 16 1 i (i + t)) * V (g (32 * (i + t) + x))) (rk - i) = H i x * L) (k : ∀ (M' : mheap) (V' : Nat → Int), KS M' wa la cap 3122 eu dv hi lo (oa 3) V' → EF M M' wa la 3122 eu dv hi lo → (∀ i x, i < rk → x < c → (∀ k, k < rk → p k ≠ x) → V' (2865 + (16 * i + x)) = H i x) → (∀ q, 10 ≤ q → (∀ i x, i < rk → x < c → (∀ k, k < rk → p k ≠ x) → q ≠ 2865 + (16 * i + x)) → V' q = V q) → Q (.returned none) M' rc rs) : jj G kX_draftFreeColumns (d + 5) Q rc rs 0 (jj_ent [.ref (oa 0)] 4) [] M := by
  have hK := hJ.1
  obtain ⟨hI, hN, hcap, hdi⟩ := id hK
  have hJL := hJ.lj
  have hJQ := hJ.qj
  have hGP := hL.2.2.2.2.2
  have hsp := hR.2.2
  have hs : STP 16 1 := Or.inl ⟨rfl, rfl⟩
  obtain ⟨bd, ebd⟩ : ∃ b, b = 2865 := ⟨_, rfl⟩
  rw [← ebd] at k
  have hx := hO.1
  show jj G kX_draftFreeColumns (d + 5) Q rc rs 0 [some (.ref (oa 0)), none, none, none] [] M
  refine jn_iconst (pc := 0) 0 kX_draftFreeColumns_d0 (by decide) ?_
  refine jj_istore_n (pc := 1) kX_draftFreeColumns_d1 (Nat.le_of_ble_eq_true rfl) ?_
  show jj G kX_draftFreeColumns (d + 5) Q rc rs 2 [some (.ref (oa 0)), some (.int (nI (0))), none, none] [] M
  show jj G kX_draftFreeColumns (d + 5) Q rc rs 2 [some (.ref (oa 0)), some (.int (nI (0))), none, none] [] M
  have outer : ∀ mu x, c = x + mu → ∀ (oi oj : Option Value) (M9 : mheap) (V9 : Nat → Int), KS M9 wa la cap 3122 eu dv hi lo (oa 3) V9 → EF M M9 wa la 3122 eu dv hi lo → (∀ i' x', (i' < rk ∧ x' < c ∧ (∀ k, k < rk → p k ≠ x') ∧ (x' < x ∨ (x' = x ∧ i' < 0))) → V9 (bd + (16 * i' + x')) = H i' x') → (∀ q, 10 ≤ q → (∀ i' x', (i' < rk ∧ x' < c ∧ (∀ k, k < rk → p k ≠ x') ∧ (x' < x ∨ (x' = x ∧ i' < 0))) → q ≠ bd + (16 * i' + x')) → V9 q = V q) → jj G kX_draftFreeColumns (d + 5) Q rc rs 2 [some (.ref (oa 0)), some (.int (nI (x))), (oi), (oj)] [] M9 := by
    intro mu
    induction mu with
    | zero =>
      intro x hk oi oj M9 V9 hS9 f9 e9 o9
      have ex : c = x := by omega
      subst ex
      have hO9 := hO.ef hJ f9
      have hL9 := hL.ef hJL f9
      have hR9 := hR.ef hJQ f9
      have hx9 := hO9.1
      have hl9 := hL9.1
      have hre9 := hR9.1
      obtain ⟨hia9, lia9⟩ := hL9.2.2.2.1
      have hMd9 := hO9.dr ebd
      rw [ec8] at hMd9
      have hmd9 := hMd9.1
      refine jj_iload_n (pc := 2) kX_draftFreeColumns_d2 rfl ?_
      refine jj_aload_n (pc := 3) kX_draftFreeColumns_d3 rfl ?_
      refine jj_getf (pc := 4) kX_draftFreeColumns_d4 (kfX_draft hG) hx9 rfl ?_
      refine jj_getf (pc := 7) kX_draftFreeColumns_d7 (kfX_M_columns hG) hmd9 rfl ?_
      refine jn_icmp_ge (pc := 10) (tgt := 178) kX_draftFreeColumns_d10 (by decide) (by omega) (by omega) (fun _ => ?_) (fun c => by exfalso; omega)
      exact jj_vret (pc := 178) kX_draftFreeColumns_d178 rfl (k M9 V9 hS9 f9 (fun i x h1 h2 h3 => e9 i x ⟨h1, h2, h3, Or.inl h2⟩) (fun q h1 h2 => o9 q h1 (fun i x h3 => h2 i x h3.1 h3.2.1 h3.2.2.1)))
    | succ mu ih =>
      intro x hk oi oj M9 V9 hS9 f9 e9 o9
      have hO9 := hO.ef hJ f9
      have hL9 := hL.ef hJL f9
      have hR9 := hR.ef hJQ f9
      have hx9 := hO9.1
      have hl9 := hL9.1
      have hre9 := hR9.1
      obtain ⟨hia9, lia9⟩ := hL9.2.2.2.1
      have hMd9 := hO9.dr ebd
      rw [ec8] at hMd9
      have hmd9 := hMd9.1
      refine jj_iload_n (pc := 2) kX_draftFreeColumns_d2 rfl ?_
      refine jj_aload_n (pc := 3) kX_draftFreeColumns_d3 rfl ?_
      refine jj_getf (pc := 4) kX_draftFreeColumns_d4 (kfX_draft hG) hx9 rfl ?_
      refine jj_getf (pc := 7) kX_draftFreeColumns_d7 (kfX_M_columns hG) hmd9 rfl ?_
      refine jn_icmp_ge (pc := 10) (tgt := 178) kX_draftFreeColumns_d10 (by decide) (by omega) (by omega) (fun c => by exfalso; omega) (fun _ => ?_)
      refine jn_iconst (pc := 13) 0 kX_draftFreeColumns_d13 (by decide) ?_
      refine jj_istore_n (pc := 14) kX_draftFreeColumns_d14 (Nat.le_of_ble_eq_true rfl) ?_
      show jj G kX_draftFreeColumns (d + 5) Q rc rs 15 [some (.ref (oa 0)), some (.int (nI (x))), some (.int (nI (0))), (oj)] [] M9
      show jj G kX_draftFreeColumns (d + 5) Q rc rs 15 [some (.ref (oa 0)), some (.int (nI (x))), some (.int (nI (0))), (oj)] [] M9
      have next : ∀ (oi oj : Option Value) (M9 : mheap) (V9 : Nat → Int), KS M9 wa la cap 3122 eu dv hi lo (oa 3) V9 → EF M M9 wa la 3122 eu dv hi lo → (∀ i' x', (i' < rk ∧ x' < c ∧ (∀ k, k < rk → p k ≠ x') ∧ (x' < (x + 1) ∨ (x' = (x + 1) ∧ i' < 0))) → V9 (bd + (16 * i' + x')) = H i' x') → (∀ q, 10 ≤ q → (∀ i' x', (i' < rk ∧ x' < c ∧ (∀ k, k < rk → p k ≠ x') ∧ (x' < (x + 1) ∨ (x' = (x + 1) ∧ i' < 0))) → q ≠ bd + (16 * i' + x')) → V9 q = V q) → jj G kX_draftFreeColumns (d + 5) Q rc rs 172 [some (.ref (oa 0)), some (.int (nI (x))), (oi), (oj)] [] M9 := by
        intro oi oj M9 V9 hS9 f9 e9 o9
        refine jn_iinc (pc := 172) (x + 1) kX_draftFreeColumns_d172 rfl (nI_1 _) ?_
        refine jj_goto (pc := 175) (tgt := 2) kX_draftFreeColumns_d175 (by decide) ?_
        show jj G kX_draftFreeColumns (d + 5) Q rc rs 2 [some (.ref (oa 0)), some (.int (nI (x + 1))), (oi), (oj)] [] M9
        exact ih (x + 1) (by omega) _ _ M9 V9 hS9 f9 e9 o9
      by_cases hnp : ∀ k, k < rk → p k ≠ x
      · skip
        have hB0 : B.getD x 0 = nI 0 := hPV.2.2 x (by omega) hnp
        have inner : ∀ mu2 i, rk = i + mu2 → ∀ (oj : Option Value) (M9 : mheap) (V9 : Nat → Int), KS M9 wa la cap 3122 eu dv hi lo (oa 3) V9 → EF M M9 wa la 3122 eu dv hi lo → (∀ i' x', (i' < rk ∧ x' < c ∧ (∀ k, k < rk → p k ≠ x') ∧ (x' < x ∨ (x' = x ∧ i' < i))) → V9 (bd + (16 * i' + x')) = H i' x') → (∀ q, 10 ≤ q → (∀ i' x', (i' < rk ∧ x' < c ∧ (∀ k, k < rk → p k ≠ x') ∧ (x' < x ∨ (x' = x ∧ i' < i))) → q ≠ bd + (16 * i' + x')) → V9 q = V q) → jj G kX_draftFreeColumns (d + 5) Q rc rs 15 [some (.ref (oa 0)), some (.int (nI (x))), some (.int (nI (i))), (oj)] [] M9 := by
          intro mu2
          induction mu2 with
          | zero =>
            intro i hk2 oj M9 V9 hS9 f9 e9 o9
            have ei : rk = i := by omega
            subst ei
            have hO9 := hO.ef hJ f9
            have hL9 := hL.ef hJL f9
            have hR9 := hR.ef hJQ f9
            have hx9 := hO9.1
            have hl9 := hL9.1
            have hre9 := hR9.1
            obtain ⟨hia9, lia9⟩ := hL9.2.2.2.1
            have hMd9 := hO9.dr ebd
            rw [ec8] at hMd9
            have hmd9 := hMd9.1
            refine jj_iload_n (pc := 15) kX_draftFreeColumns_d15 rfl ?_
            refine jj_aload_n (pc := 16) kX_draftFreeColumns_d16 rfl ?_
            refine jj_getf (pc := 17) kX_draftFreeColumns_d17 (kfX_elimination hG) hx9 rfl ?_
            refine jj_getf (pc := 20) kX_draftFreeColumns_d20 (kfX_E_rank hG) hl9 rfl ?_
            refine jn_icmp_ge (pc := 23) (tgt := 172) kX_draftFreeColumns_d23 (by decide) (by omega) (by omega) (fun _ => ?_) (fun c => by exfalso; omega)
            show jj G kX_draftFreeColumns (d + 5) Q rc rs 172 [some (.ref (oa 0)), some (.int (nI (x))), some (.int (nI (rk))), (oj)] [] M9
            exact next _ _ M9 V9 hS9 f9 (fun i' x' h => e9 i' x' ⟨h.1, h.2.1, h.2.2.1, by omega⟩) (fun q h1 h2 => o9 q h1 (fun i' x' h => h2 i' x' ⟨h.1, h.2.1, h.2.2.1, by omega⟩))
          | succ mu2 ih2 =>
            intro i hk2 oj M9 V9 hS9 f9 e9 o9
            have hO9 := hO.ef hJ f9
            have hL9 := hL.ef hJL f9
            have hR9 := hR.ef hJQ f9
            have hx9 := hO9.1
            have hl9 := hL9.1
            have hre9 := hR9.1
            obtain ⟨hia9, lia9⟩ := hL9.2.2.2.1
            have hMd9 := hO9.dr ebd
            rw [ec8] at hMd9
            have hmd9 := hMd9.1
            refine jj_iload_n (pc := 15) kX_draftFreeColumns_d15 rfl ?_
            refine jj_aload_n (pc := 16) kX_draftFreeColumns_d16 rfl ?_
            refine jj_getf (pc := 17) kX_draftFreeColumns_d17 (kfX_elimination hG) hx9 rfl ?_
            refine jj_getf (pc := 20) kX_draftFreeColumns_d20 (kfX_E_rank hG) hl9 rfl ?_
            refine jn_icmp_ge (pc := 23) (tgt := 172) kX_draftFreeColumns_d23 (by decide) (by omega) (by omega) (fun c => by exfalso; omega) (fun _ => ?_)
            refine jj_aload_n (pc := 26) kX_draftFreeColumns_d26 rfl ?_
            refine jj_getf (pc := 27) kX_draftFreeColumns_d27 (kfX_elimination hG) hx9 rfl ?_
            refine jj_getf (pc := 30) kX_draftFreeColumns_d30 (kfX_E_isPivot hG) hl9 rfl ?_
            refine jj_iload_n (pc := 33) kX_draftFreeColumns_d33 rfl ?_
            refine jn_zald (pc := 34) (v := (nI (0))) kX_draftFreeColumns_d34 (kG_t hG rfl) hia9 (by omega) (by omega) (hB0) ?_
            refine jn_if_ne (pc := 35) (tgt := 172) kX_draftFreeColumns_d35 (by decide) (by omega) (fun c => by exfalso; omega) (fun _ => ?_)
            have hdk9 := hS9.2.2
            obtain ⟨T9, t9, hT9, _, _⟩ := hS9.1 9 (by omega)
            refine jj_aload_n (pc := 38) kX_draftFreeColumns_d38 rfl ?_
            refine jj_getf (pc := 39) kX_draftFreeColumns_d39 (kfX_desk hG) hx9 rfl ?_
            refine jj_getf (pc := 42) kX_draftFreeColumns_d42 (kfX_K_sum hG) hdk9 rfl ?_
            refine jj_callV (pc := 45) (b := (wa 9)) (As := []) kX_draftFreeColumns_d45 (kvX_W_putZero hG) (kG_cl hG rfl) rfl hT9 rfl rfl rfl (Nat.le_of_ble_eq_true rfl) (Nat.le_of_ble_eq_true rfl) (jj_bare0 rfl) ?_
            refine w_putZero hG hI hS9.1 (t := 9) (by omega) (fun M8 hc8 hw8 => ?_)
            have hS8 := hS9.wt hK (by omega) hw8 hc8
            have hw8e : EF M9 M8 wa la 3122 eu dv hi lo := hw8.ef (by omega)
            have f8 := f9.trans hw8e
            have hO8 := hO.ef hJ f8
            have hL8 := hL.ef hJL f8
            have hR8 := hR.ef hJQ f8
            show jj G kX_draftFreeColumns (d + 5) Q rc rs 48 [some (.ref (oa 0)), some (.int (nI (x))), some (.int (nI (i))), (oj)] [] M8
            refine jj_iload_n (pc := 48) kX_draftFreeColumns_d48 rfl ?_
            refine jj_istore_n (pc := 49) kX_draftFreeColumns_d49 (Nat.le_of_ble_eq_true rfl) ?_
            show jj G kX_draftFreeColumns (d + 5) Q rc rs 50 [some (.ref (oa 0)), some (.int (nI (x))), some (.int (nI (i))), some (.int (nI (i)))] [] M8
            show jj G kX_draftFreeColumns (d + 5) Q rc rs 50 [some (.ref (oa 0)), some (.int (nI (x))), some (.int (nI (i))), some (.int (nI (i)))] [] M8
            refine x_fsum hG hJ hS8 hO8 hL8 hR8 (by omega) (by omega) (by omega) (vup_at _ _ _) (fun M7 V7 hS7 hw7 o7 s7 l7 => ?_)
            have f7 := f8.trans hw7
            have hO7 := hO.ef hJ f7
            have hL7 := hL.ef hJL f7
            have hx7 := hO7.1
            have hl7 := hL7.1
            have hMd7 := hO7.dr ebd
            rw [ec8] at hMd7
            have hmd7 := hMd7.1
            have v79 : ∀ q, 10 ≤ q → V7 q = V9 q := fun q h => by rw [o7 q h, vup_ne _ _ (by omega)]
            have vb : ∀ q, 10 ≤ q → q < bd → V9 q = V q := fun q h1 h2 => o9 q h1 (fun i' x' _ => by omega)
            have hS7s : V7 9 = H i x * L := by
              rw [s7, ← hH i x (by omega) (by omega) hnp]
              refine isum_congr (fun t ht => ?_)
              have b1 := hsp.b hs (show i < 16 by omega) (show i + t < 16 by omega)
              have b2 := hGP.1 (32 * (i + t) + x) (by omega)
              rw [vup_ne _ _ (by omega), vup_ne _ _ (by omega), vb _ (by omega) (by omega), vb _ (by omega) (by omega)]
            have v33 : V7 33 = L := by rw [v79 _ (by omega), vb _ (by omega) (by omega)]; exact h33
            obtain ⟨hc0, ⟨r_c, px_c, pf_c, py_c, po_c, ps_c, od_c, hU0⟩, hdk0⟩ := id hS7
            have hf0 : EF M7 M7 wa la 3122 eu dv hi lo := fun _ _ _ _ _ _ => rfl
            obtain ⟨V0, hV0⟩ : ∃ V0, V7 = V0 := ⟨_, rfl⟩
            rw [hV0] at hc0
            have hn0 := hU0.1
            have b_r0 := hn0.2.1
            have b_x0 := hn0.2.2.1
            have b_f0 := hn0.2.2.2.1
            have hdv0 := hU0.2.1
            obtain ⟨ea0, eb0, ec0, ed0, hE0⟩ := hU0.2.2.2
            have hD0 := hdv0.1
            rw [hV0] at hS7s v33 v79 l7
            show jj G kX_draftFreeColumns (d + 5) Q rc rs 120 [some (.ref (oa 0)), some (.int (nI (x))), some (.int (nI (i))), some (.int (nI (rk)))] [] M7
            refine jj_aload_n (pc := 120) kX_draftFreeColumns_d120 rfl ?_
            refine jj_getf (pc := 121) kX_draftFreeColumns_d121 (kfX_desk hG) hx7 rfl ?_
            refine jj_getf (pc := 124) kX_draftFreeColumns_d124 (kfX_K_divider hG) hdk0 rfl ?_
            refine jj_aload_n (pc := 127) kX_draftFreeColumns_d127 rfl ?_
            refine jj_getf (pc := 128) kX_draftFreeColumns_d128 (kfX_desk hG) hx7 rfl ?_
            refine jj_getf (pc := 131) kX_draftFreeColumns_d131 (kfX_K_sum hG) hdk0 rfl ?_
            refine jj_aload_n (pc := 134) kX_draftFreeColumns_d134 rfl ?_
            refine jj_getf (pc := 135) kX_draftFreeColumns_d135 (kfX_elimination hG) hx7 rfl ?_
            refine jj_getf (pc := 138) kX_draftFreeColumns_d138 (kfX_E_last hG) hl7 rfl ?_
            refine jj_callV (pc := 141) (b := dv) (As := [.ref (wa 9), .ref (wa 33)]) kX_draftFreeColumns_d141 (kvX_D_divide hG) (kG_cl hG rfl) rfl hD0 rfl rfl rfl (Nat.le_of_ble_eq_true rfl) (Nat.le_of_ble_eq_true rfl) (jj_bare0 rfl) ?_
            refine d_divide hG hI hc0 hdv0 hdi (by omega) (by omega) (by omega) (by omega) hn0.nqr (by omega) (by omega) (by omega) (by omega) (by omega) (by rw [hcap 0 (by omega)]; exact (by omega)) (by rw [hcap r_c (by omega)]; exact (by omega)) (fun M1 hcx1 hdx1 hw1 => ?_)
            obtain ⟨V1, hV1⟩ : ∃ W, vup (vup V0 0 ((V0 9).tdiv (V0 33))) r_c ((V0 9).tmod (V0 33)) = W := ⟨_, rfl⟩
            have hc1 : CW M1 wa la cap 3122 V1 := by rw [← hV1]; exact hcx1
            have at1 : V1 0 = (V0 9).tdiv (V0 33) := by rw [← hV1, vup_ne _ _ hn0.nqr, vup_at]
            have rt1 : V1 r_c = (V0 9).tmod (V0 33) := by rw [← hV1, vup_at]
            have ot1 : ∀ p, p ≠ 0 → p ≠ r_c → V1 p = V0 p := fun p h1 h2 => by rw [← hV1, vup_ne _ _ h2, vup_ne _ _ h1]
            have hU1 := hU0.div hc0 hdx1 hw1
            have hf1 := hf0.trans (hw1.ef (eu := eu) (dv := dv))
            have q1_oa0 := (hw1.ef (eu := eu) (dv := dv)).obj hc0 hU0 hx7 (by decide) (by decide) (by decide)
            have q1_oa4 := (hw1.ef (eu := eu) (dv := dv)).obj hc0 hU0 hl7 (by decide) (by decide) (by decide)
            have q1_oa21 := (hw1.ef (eu := eu) (dv := dv)).obj hc0 hU0 hmd7 (by decide) (by decide) (by decide)
            have q1_oa3 := (hw1.ef (eu := eu) (dv := dv)).obj hc0 hU0 hdk0 (by decide) (by decide) (by decide)
            have hn1 := hU1.1
            have b_r1 := hn1.2.1
            have b_x1 := hn1.2.2.1
            have b_f1 := hn1.2.2.2.1
            have hdv1 := hU1.2.1
            obtain ⟨ea1, eb1, ec1, ed1, hE1⟩ := hU1.2.2.2
            have hD1 := hdv1.1
            show jj G kX_draftFreeColumns (d + 5) Q rc rs 144 [some (.ref (oa 0)), some (.int (nI (x))), some (.int (nI (i))), some (.int (nI (rk)))] [] M1
            have q1 : V1 0 = H i x := by rw [at1, v33, hS7s]; exact tdiv_is rfl hL0
            have lq : lc (V1 0) ≤ 252 := by rw [at1]; exact Nat.le_trans (lc_tdiv _ _) (by omega)
            have hMd6 := hMd7.ef hS7 hf1
            refine jj_aload_n (pc := 144) kX_draftFreeColumns_d144 rfl ?_
            refine jj_getf (pc := 145) kX_draftFreeColumns_d145 (kfX_draft hG) q1_oa0 rfl ?_
            refine jj_iload_n (pc := 148) kX_draftFreeColumns_d148 rfl ?_
            refine jj_iload_n (pc := 149) kX_draftFreeColumns_d149 rfl ?_
            refine jj_callV (pc := 150) (b := (oa 21)) (As := [.int (nI (i)), .int (nI (x))]) kX_draftFreeColumns_d150 (kvX_M_at hG) (kG_cl hG rfl) rfl q1_oa21 rfl rfl rfl (Nat.le_of_ble_eq_true rfl) (Nat.le_of_ble_eq_true rfl) (jj_bare0 rfl) ?_
            refine m_at hG hMd6 (by omega) (by omega) ?_
            show jj G kX_draftFreeColumns (d + 5) Q rc rs 153 [some (.ref (oa 0)), some (.int (nI (x))), some (.int (nI (i))), some (.int (nI (rk)))] [.ref (wa (bd + (16 * i + x)))] M1
            obtain ⟨Tbd16ix_1, tbd16ix_1, hTbd16ix_1, _, _⟩ := hc1 (bd + (16 * i + x)) (by omega)
            refine jj_aload_n (pc := 153) kX_draftFreeColumns_d153 rfl ?_
            refine jj_getf (pc := 154) kX_draftFreeColumns_d154 (kfX_desk hG) q1_oa0 rfl ?_
            refine jj_getf (pc := 157) kX_draftFreeColumns_d157 (kfX_K_divider hG) q1_oa3 rfl ?_
            refine jj_getf (pc := 160) kX_draftFreeColumns_d160 (kfX_D_quotient hG) hD1 rfl ?_
            refine jj_callV (pc := 163) (b := (wa (bd + (16 * i + x)))) (As := [.ref (wa 0)]) kX_draftFreeColumns_d163 (kvX_W_copy hG) (kG_cl hG rfl) rfl hTbd16ix_1 rfl rfl rfl (Nat.le_of_ble_eq_true rfl) (Nat.le_of_ble_eq_true rfl) (jj_bare0 rfl) ?_
            refine w_copy hG hI hc1 (by omega : (bd + (16 * i + x)) < 3122) (by omega : 0 < 3122) (by rw [hJ.cap252 (by omega) (by omega)]; exact lc_room lq) (fun M2 hcx2 hw2  => ?_) 
            obtain ⟨V2, hV2⟩ : ∃ W, vup V1 (bd + (16 * i + x)) (V1 0) = W := ⟨_, rfl⟩
            have hc2 : CW M2 wa la cap 3122 V2 := by rw [← hV2]; exact hcx2
            have at2 : V2 (bd + (16 * i + x)) = V1 0 := by rw [← hV2, vup_at]
            have ot2 : ∀ p, p ≠ (bd + (16 * i + x)) → V2 p = V1 p := fun p hp => by rw [← hV2, vup_ne _ _ hp]
            have hU2 := hU1.wt hc1 hdi (by omega) hw2
            have hf2 := hf1.trans (hw2.ef (by omega))
            have q2_oa0 := (hw2.ef (eu := eu) (dv := dv) (hi := hi) (lo := lo) (by omega)).obj hc1 hU1 q1_oa0 (by decide) (by decide) (by decide)
            have q2_oa4 := (hw2.ef (eu := eu) (dv := dv) (hi := hi) (lo := lo) (by omega)).obj hc1 hU1 q1_oa4 (by decide) (by decide) (by decide)
            have q2_oa21 := (hw2.ef (eu := eu) (dv := dv) (hi := hi) (lo := lo) (by omega)).obj hc1 hU1 q1_oa21 (by decide) (by decide) (by decide)
            have q2_oa3 := (hw2.ef (eu := eu) (dv := dv) (hi := hi) (lo := lo) (by omega)).obj hc1 hU1 q1_oa3 (by decide) (by decide) (by decide)
            have hn2 := hU2.1
            have b_r2 := hn2.2.1
            have b_x2 := hn2.2.2.1
            have b_f2 := hn2.2.2.2.1
            have hdv2 := hU2.2.1
            obtain ⟨ea2, eb2, ec2, ed2, hE2⟩ := hU2.2.2.2
            have hD2 := hdv2.1
            show jj G kX_draftFreeColumns (d + 5) Q rc rs 166 [some (.ref (oa 0)), some (.int (nI (x))), some (.int (nI (i))), some (.int (nI (rk)))] [] M2
            refine jn_iinc (pc := 166) (i + 1) kX_draftFreeColumns_d166 rfl (nI_1 _) ?_
            refine jj_goto (pc := 169) (tgt := 15) kX_draftFreeColumns_d169 (by decide) ?_
            show jj G kX_draftFreeColumns (d + 5) Q rc rs 15 [some (.ref (oa 0)), some (.int (nI (x))), some (.int (nI (i + 1))), some (.int (nI (rk)))] [] M2
            rw [q1] at at2
            have w2 : ∀ q, 10 ≤ q → q ≠ (bd + (16 * i + x)) → V2 q = V9 q := fun q h1 h2 => by rw [ot2 q h2, ot1 q (by omega) (by omega)]; exact v79 q h1
            refine ih2 (i + 1) (by omega) _ M2 V2 ⟨hc2, ⟨r_c, px_c, pf_c, py_c, po_c, ps_c, od_c, hU2⟩, q2_oa3⟩ (f7.trans hf2) (fun i' x' h => ?_) (fun q h1 h2 => ?_)
            · by_cases e : i' = i ∧ x' = x
              · rw [e.1, e.2]; exact at2
              · have h9 := h.2.1
                rw [w2 _ (by omega) (by omega)]
                exact e9 i' x' ⟨h.1, h.2.1, h.2.2.1, by omega⟩
            · rw [w2 q h1 (h2 i x ⟨by omega, by omega, hnp, by omega⟩)]
              exact o9 q h1 (fun i' x' h => h2 i' x' ⟨h.1, h.2.1, h.2.2.1, by omega⟩)
        exact inner rk 0 (by omega) _ M9 V9 hS9 f9 e9 o9
      · skip
        obtain ⟨kq, hkq, ekq⟩ : ∃ k, k < rk ∧ p k = x := Classical.byContradiction (fun h => hnp (fun k hk e => h ⟨k, hk, e⟩))
        have hB1 : B.getD x 0 = nI 1 := by rw [← ekq]; exact hPV.2.1 kq hkq
        refine jj_iload_n (pc := 15) kX_draftFreeColumns_d15 rfl ?_
        refine jj_aload_n (pc := 16) kX_draftFreeColumns_d16 rfl ?_
        refine jj_getf (pc := 17) kX_draftFreeColumns_d17 (kfX_elimination hG) hx9 rfl ?_
        refine jj_getf (pc := 20) kX_draftFreeColumns_d20 (kfX_E_rank hG) hl9 rfl ?_
        refine jn_icmp_ge (pc := 23) (tgt := 172) kX_draftFreeColumns_d23 (by decide) (by omega) (by omega) (fun c => by exfalso; omega) (fun _ => ?_)
        refine jj_aload_n (pc := 26) kX_draftFreeColumns_d26 rfl ?_
        refine jj_getf (pc := 27) kX_draftFreeColumns_d27 (kfX_elimination hG) hx9 rfl ?_
        refine jj_getf (pc := 30) kX_draftFreeColumns_d30 (kfX_E_isPivot hG) hl9 rfl ?_
        refine jj_iload_n (pc := 33) kX_draftFreeColumns_d33 rfl ?_
        refine jn_zald (pc := 34) (v := (nI (1))) kX_draftFreeColumns_d34 (kG_t hG rfl) hia9 (by omega) (by omega) (hB1) ?_
        refine jn_if_ne (pc := 35) (tgt := 172) kX_draftFreeColumns_d35 (by decide) (by omega) (fun _ => ?_) (fun c => by exfalso; omega)
        show jj G kX_draftFreeColumns (d + 5) Q rc rs 172 [some (.ref (oa 0)), some (.int (nI (x))), some (.int (nI (0))), (oj)] [] M9
        exact next _ _ M9 V9 hS9 f9 (fun i' x' h => e9 i' x' ⟨h.1, h.2.1, h.2.2.1, by have := h.2.2.1 kq hkq; omega⟩) (fun q h1 h2 => o9 q h1 (fun i' x' h => h2 i' x' ⟨h.1, h.2.1, h.2.2.1, by omega⟩))
  exact outer c 0 (by omega) _ _ M V hS (fun _ _ _ _ _ _ => rfl) (fun i' x' h => by omega) (fun _ _ _ => rfl)
end X16
