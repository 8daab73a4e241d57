/-! ===== ExactForms: draftCommon, add (printed by wip/gen/rX7.py) ===== -/
theorem meet_eq {a b g : Int} (ha : 0 < a) (hg : g = sgc a b) : a * b.tdiv g = b * a.tdiv g := by
  have hgp : 0 < Nat.gcd a.natAbs b.natAbs := Nat.gcd_pos_of_pos_left _ (by omega)
  have e : g = (Nat.gcd a.natAbs b.natAbs : Nat) := hg
  obtain ⟨x, hx⟩ : g ∣ a := by rw [e]; exact Int.ofNat_dvd_left.mpr (Nat.gcd_dvd_left ..)
  obtain ⟨y, hy⟩ : g ∣ b := by rw [e]; exact Int.ofNat_dvd_left.mpr (Nat.gcd_dvd_right ..)
  have hg0 : g ≠ 0 := by omega
  have e1 : a.tdiv g = x := by rw [hx, Int.mul_tdiv_cancel_left _ hg0]
  have e2 : b.tdiv g = y := by rw [hy, Int.mul_tdiv_cancel_left _ hg0]
  rw [e1, e2, hx, hy, Int.mul_assoc, Int.mul_assoc, Int.mul_comm x y]
theorem tdiv_pos {a g : Int} (ha : 0 < a) (hg : g ∣ a) (hp : 0 < g) : 0 < a.tdiv g := by
  obtain ⟨x, hx⟩ := hg
  rw [hx, Int.mul_tdiv_cancel_left _ (by omega)]
  exact int_pos_of_mul hp (by rw [← hx]; exact ha)
theorem sgc_pos {a b : Int} (ha : 0 < a) : 0 < sgc a b := by
  have hgp : 0 < Nat.gcd a.natAbs b.natAbs := Nat.gcd_pos_of_pos_left _ (by omega)
  unfold sgc
  omega
theorem sgc_dvd {a b : Int} : sgc a b ∣ a ∧ sgc a b ∣ b := ⟨Int.ofNat_dvd_left.mpr (Nat.gcd_dvd_left ..), Int.ofNat_dvd_left.mpr (Nat.gcd_dvd_right ..)⟩
section X7
variable {G : jg} {d : Nat} {Q : jq} {rc rs : Nat} {M : mheap} {wa la cap oa : Nat → Nat} {eu dv hi lo : Nat} {V : Nat → Int} {sc : Int32} {R C : Nat → Nat}
theorem x_draftCommon {n m cc : Nat} (hG : kG G) (hJ : XJ wa la cap oa eu dv hi lo) (hS : KS M wa la cap 3122 eu dv hi lo (oa 3) V) (hO : XO M wa oa sc R C) (hn : n < 8) (hm : m < 8) (s2n : R n ≤ 16) (hcc : cc ≤ 16) (k : ∀ (M' : mheap) (V' : Nat → Int) (R1 C1 : Nat → Nat), KS M' wa la cap 3122 eu dv hi lo (oa 3) V' → XO M' wa oa sc R1 C1 → R1 8 = R n → C1 8 = cc → (∀ k, k < 8 → R1 k = R k ∧ C1 k = C k) → V' 11 = (V (809 + 257 * m + 256)).tdiv (sgc (V (809 + 257 * n + 256)) (V (809 + 257 * m + 256))) → V' 12 = (V (809 + 257 * n + 256)).tdiv (sgc (V (809 + 257 * n + 256)) (V (809 + 257 * m + 256))) → V' (2865 + 256) = V (809 + 257 * n + 256) * V' 11 → (∀ p, 13 ≤ p → p < 2865 → V' p = V p) → XF oa M M' wa la eu dv hi lo → Q (.returned none) M' rc rs) : jj G kX_draftCommon (d + 8) Q rc rs 0 (jj_ent [.ref (oa 0), .ref (oa (13 + n)), .ref (oa (13 + m)), .int (nI cc)] 4) [] M := by
  have hK := hJ.1
  obtain ⟨hI, hN, hcap, hdi⟩ := id hK
  obtain ⟨bd, ebd⟩ : ∃ b, b = 2865 := ⟨_, rfl⟩
  obtain ⟨bn, ebn⟩ : ∃ b, b = 809 + 257 * n := ⟨_, rfl⟩
  obtain ⟨bm, ebm⟩ : ∃ b, b = 809 + 257 * m := ⟨_, rfl⟩
  rw [← ebn, ← ebm, ← ebd] at k
  have hx := hO.1
  have hMd := hO.dr ebd
  have hmd := hMd.1
  have hMn := hO.2.2.2.2.2.2.2 n (by omega)
  rw [← ebn] at hMn
  have hmn := hMn.1
  show jj G kX_draftCommon (d + 8) Q rc rs 0 [some (.ref (oa 0)), some (.ref (oa (13 + n))), some (.ref (oa (13 + m))), some (.int (nI (cc)))] [] M
  refine jj_aload_n (pc := 0) kX_draftCommon_d0 rfl ?_
  refine jj_getf (pc := 1) kX_draftCommon_d1 (kfX_draft hG) hx rfl ?_
  refine jj_aload_n (pc := 4) kX_draftCommon_d4 rfl ?_
  refine jj_getf (pc := 5) kX_draftCommon_d5 (kfX_M_rows hG) hmn rfl ?_
  refine jj_iload_n (pc := 8) kX_draftCommon_d8 rfl ?_
  refine jj_callV (pc := 9) (b := (oa 21)) (As := [.int (nI (R n)), .int (nI (cc))]) kX_draftCommon_d9 (kvX_M_clear hG) (kG_cl hG rfl) rfl hmd rfl rfl rfl (Nat.le_of_ble_eq_true rfl) (Nat.le_of_ble_eq_true rfl) (jj_bare0 rfl) ?_
  refine m_clear hG hK hS hMd (by omega) (by omega) (by have := (hJ.capw (p := bd + 256) (by omega) (by omega)).2; exact this) s2n hcc (fun M1 V1 hS1 hM1 v1 v0 vo f1 => ?_)
  obtain ⟨R1, C1, hO1, e8, f8, rk1, hF1⟩ := hO.draft hJ hM1 ebd f1
  have hx1 := hO1.1
  have hMd1 := hO1.dr ebd
  rw [e8, f8] at hMd1
  have hmd1 := hMd1.1
  have hMn1 := hO1.2.2.2.2.2.2.2 n (by omega)
  have hMm1 := hO1.2.2.2.2.2.2.2 m (by omega)
  rw [← ebn, (rk1 n hn).1, (rk1 n hn).2] at hMn1
  rw [← ebm, (rk1 m hm).1, (rk1 m hm).2] at hMm1
  have hmn1 := hMn1.1
  have hmm1 := hMm1.1
  have l1 : ∀ p, 809 ≤ p → p < 2865 → lc (V1 p) ≤ 125 := fun p _ _ => by
    have := hS1.1.lc (p := p) (by omega)
    rw [hJ.cap125 (by omega) (by omega)] at this
    exact this
  obtain ⟨hc0, ⟨r_a, px_a, pf_a, py_a, po_a, ps_a, od_a, hU0⟩, hdk0⟩ := id hS1
  have hf0 : EF M1 M1 wa la 3122 eu dv hi lo := fun _ _ _ _ _ _ => rfl
  obtain ⟨V0, hV0⟩ : ∃ V0, V1 = V0 := ⟨_, rfl⟩
  rw [hV0] at hc0
  have hn0 := hU0.1
  have b_r0 := hn0.2.1
  have b_x0 := hn0.2.2.1
  have b_f0 := hn0.2.2.2.1
  have hdv0 := hU0.2.1
  obtain ⟨ea0, eb0, ec0, ed0, hE0⟩ := hU0.2.2.2
  have hD0 := hdv0.1
  show jj G kX_draftCommon (d + 8) Q rc rs 12 [some (.ref (oa 0)), some (.ref (oa (13 + n))), some (.ref (oa (13 + m))), some (.int (nI (cc)))] [] M1
  refine jj_aload_n (pc := 12) kX_draftCommon_d12 rfl ?_
  refine jj_getf (pc := 13) kX_draftCommon_d13 (kfX_desk hG) hx1 rfl ?_
  refine jj_aload_n (pc := 16) kX_draftCommon_d16 rfl ?_
  refine jj_getf (pc := 17) kX_draftCommon_d17 (kfX_M_common hG) hmn1 rfl ?_
  refine jj_aload_n (pc := 20) kX_draftCommon_d20 rfl ?_
  refine jj_getf (pc := 21) kX_draftCommon_d21 (kfX_M_common hG) hmm1 rfl ?_
  rw [hV0] at l1 vo
  refine jj_callV (pc := 24) (b := (oa 3)) (As := [.ref (wa (bn + 256)), .ref (wa (bm + 256))]) kX_draftCommon_d24 (kvX_K_meet hG) (kG_cl hG rfl) rfl hdk0 rfl rfl rfl (Nat.le_of_ble_eq_true rfl) (Nat.le_of_ble_eq_true rfl) (jj_bare0 rfl) ?_
  refine k_meet hG hK (hV0 ▸ hS1) (u := bn + 256) (v := bm + 256) (g := sgc (V0 (bn + 256)) (V0 (bm + 256))) (by omega) (by omega) (by omega) (by omega) (Nat.le_trans (l1 _ (by omega) (by omega)) (by omega)) (Nat.le_trans (l1 _ (by omega) (by omega)) (by omega)) rfl (fun M1 V1 hS1 v11 v12 ot1 hw1 => ?_) 
  obtain ⟨hc1, ⟨r_1, px_1, pf_1, py_1, po_1, ps_1, od_1, hU1⟩, _⟩ := id hS1
  have hf1 := hf0.trans hw1
  have q1_oa0 := hw1.obj hc0 hU0 hx1 (by decide) (by decide) (by decide)
  have q1_oa21 := hw1.obj hc0 hU0 hmd1 (by decide) (by decide) (by decide)
  have q1_oa13n := hw1.obj hc0 hU0 hmn1 (by decide) (by decide) (by decide)
  have q1_oa13m := hw1.obj hc0 hU0 hmm1 (by decide) (by decide) (by decide)
  have q1_oa3 := hw1.obj hc0 hU0 hdk0 (by decide) (by decide) (by decide)
  have hn1 := hU1.1
  have b_r1 := hn1.2.1
  have b_x1 := hn1.2.2.1
  have b_f1 := hn1.2.2.2.1
  have hdv1 := hU1.2.1
  obtain ⟨ea1, eb1, ec1, ed1, hE1⟩ := hU1.2.2.2
  have hD1 := hdv1.1
  show jj G kX_draftCommon (d + 8) Q rc rs 27 [some (.ref (oa 0)), some (.ref (oa (13 + n))), some (.ref (oa (13 + m))), some (.int (nI (cc)))] [] M1
  have vn : V1 (bn + 256) = V (bn + 256) := by rw [ot1 _ (by omega) (by omega) (by omega)]; exact vo _ (by omega)
  have l11 : lc (V1 11) ≤ 125 := by rw [v11]; exact Nat.le_trans (lc_tdiv _ _) (l1 _ (by omega) (by omega))
  have ln : lc (V1 (bn + 256)) ≤ 125 := by rw [ot1 _ (by omega) (by omega) (by omega)]; exact l1 _ (by omega) (by omega)
  obtain ⟨Tbd256_1, tbd256_1, hTbd256_1, _, _⟩ := hc1 (bd + 256) (by omega)
  refine jj_aload_n (pc := 27) kX_draftCommon_d27 rfl ?_
  refine jj_getf (pc := 28) kX_draftCommon_d28 (kfX_draft hG) q1_oa0 rfl ?_
  refine jj_getf (pc := 31) kX_draftCommon_d31 (kfX_M_common hG) q1_oa21 rfl ?_
  refine jj_aload_n (pc := 34) kX_draftCommon_d34 rfl ?_
  refine jj_getf (pc := 35) kX_draftCommon_d35 (kfX_M_common hG) q1_oa13n rfl ?_
  refine jj_aload_n (pc := 38) kX_draftCommon_d38 rfl ?_
  refine jj_getf (pc := 39) kX_draftCommon_d39 (kfX_desk hG) q1_oa0 rfl ?_
  refine jj_getf (pc := 42) kX_draftCommon_d42 (kfX_K_leftFactor hG) q1_oa3 rfl ?_
  refine jj_callV (pc := 45) (b := (wa (bd + 256))) (As := [.ref (wa (bn + 256)), .ref (wa 11)]) kX_draftCommon_d45 (kvX_W_product hG) (kG_cl hG rfl) rfl hTbd256_1 rfl rfl rfl (Nat.le_of_ble_eq_true rfl) (Nat.le_of_ble_eq_true rfl) (jj_bare0 rfl) ?_
  refine w_product hG hI hc1 (by omega : bd + 256 < 3122) (by omega) (by omega) (by omega) (by omega) (by rw [hJ.cap252 (by omega) (by omega)]; omega) (fun M2 hcx2 hw2  => ?_) 
  obtain ⟨V2, hV2⟩ : ∃ W, vup V1 (bd + 256) (V1 (bn + 256) * V1 11) = W := ⟨_, rfl⟩
  have hc2 : CW M2 wa la cap 3122 V2 := by rw [← hV2]; exact hcx2
  have at2 : V2 (bd + 256) = V1 (bn + 256) * V1 11 := by rw [← hV2, vup_at]
  have ot2 : ∀ p, p ≠ (bd + 256) → V2 p = V1 p := fun p hp => by rw [← hV2, vup_ne _ _ hp]
  have hU2 := hU1.wt hc1 hdi (by omega) hw2
  have hf2 := hf1.trans (hw2.ef (by omega))
  have q2_oa0 := (hw2.ef (eu := eu) (dv := dv) (hi := hi) (lo := lo) (by omega)).obj hc1 hU1 q1_oa0 (by decide) (by decide) (by decide)
  have q2_oa21 := (hw2.ef (eu := eu) (dv := dv) (hi := hi) (lo := lo) (by omega)).obj hc1 hU1 q1_oa21 (by decide) (by decide) (by decide)
  have q2_oa13n := (hw2.ef (eu := eu) (dv := dv) (hi := hi) (lo := lo) (by omega)).obj hc1 hU1 q1_oa13n (by decide) (by decide) (by decide)
  have q2_oa13m := (hw2.ef (eu := eu) (dv := dv) (hi := hi) (lo := lo) (by omega)).obj hc1 hU1 q1_oa13m (by decide) (by decide) (by decide)
  have q2_oa3 := (hw2.ef (eu := eu) (dv := dv) (hi := hi) (lo := lo) (by omega)).obj hc1 hU1 q1_oa3 (by decide) (by decide) (by decide)
  have hn2 := hU2.1
  have b_r2 := hn2.2.1
  have b_x2 := hn2.2.2.1
  have b_f2 := hn2.2.2.2.1
  have hdv2 := hU2.2.1
  obtain ⟨ea2, eb2, ec2, ed2, hE2⟩ := hU2.2.2.2
  have hD2 := hdv2.1
  show jj G kX_draftCommon (d + 8) Q rc rs 48 [some (.ref (oa 0)), some (.ref (oa (13 + n))), some (.ref (oa (13 + m))), some (.int (nI (cc)))] [] M2
  rw [vo _ (by omega), vo _ (by omega)] at v11 v12
  have w11 : V2 11 = V1 11 := ot2 11 (by omega)
  have w12 : V2 12 = V1 12 := ot2 12 (by omega)
  exact jj_vret (pc := 48) kX_draftCommon_d48 rfl (k M2 V2 R1 C1 ⟨hc2, ⟨r_1, px_1, pf_1, py_1, po_1, ps_1, od_1, hU2⟩, q2_oa3⟩ (hO1.ef hJ hf2) e8 f8 rk1 (by rw [w11, v11]) (by rw [w12, v12]) (by rw [at2, w11, vn]) (fun p p1 p2 => by rw [ot2 p (by omega), ot1 p (by omega) (by omega) (by omega)]; exact vo p (by omega)) (hF1.trans hf2.efx))
end X7
section X7b
variable {G : jg} {d : Nat} {Q : jq} {rc rs : Nat} {M : mheap} {wa la cap oa : Nat → Nat} {eu dv hi lo : Nat} {σ : rst}
theorem xp_add {x y z b : Int32} (hG : kG G) (hJ : XJ wa la cap oa eu dv hi lo) (hT : XT M wa la cap oa eu dv hi lo σ) (hb01 : b = 0 ∨ b = 1) (hrc : 1 ≤ rc) (hrs : 6 ≤ rs) (kr : ∀ (M' : mheap)  (σ' : rst), semAdd σ x y z b 0 σ' → XT M' wa la cap oa eu dv hi lo σ' → XF oa M M' wa la eu dv hi lo → Q (.returned none) M' rc rs) (kt : ∀ (M' : mheap) (cd ci : Nat), semAdd σ x y z b cd σ → (cd = 1 ∧ ci = 4 ∨ cd = 2 ∧ ci = 5 ∨ cd = 3 ∧ ci = 6) → XT M' wa la cap oa eu dv hi lo σ → XF oa M M' wa la eu dv hi lo → ∀ x, M' x = none → Q (.threw x) (jj_up M' x (.inl ci, [])) (rc - 1) (rs - 6)) : jj G kX_add (d + 9) Q rc rs 0 (jj_ent [.ref (oa 0), .int x, .int y, .int z, .int b] 9) [] M := by
  obtain ⟨V, sc, R, C, hS, hO, hV⟩ := id hT
  have hK := hJ.1
  have hI := hK.1
  have hx := hO.1
  show jj G kX_add (d + 9) Q rc rs 0 [some (.ref (oa 0)), some (.int (x)), some (.int (y)), some (.int (z)), some (.int (b)), none, none, none, none] [] M
  refine jj_aload_n (pc := 0) kX_add_d0 rfl ?_
  refine jj_iload_n (pc := 1) kX_add_d1 rfl ?_
  refine jj_callV (pc := 2) (b := (oa 0)) (As := [.int (x)]) kX_add_d2 (kvX_X_register hG) (kG_cl hG rfl) rfl hx rfl rfl rfl (Nat.le_of_ble_eq_true rfl) (Nat.le_of_ble_eq_true rfl) (jj_bare0 rfl) ?_
  refine x_register hG hO hrc hrs (fun t ht et => ?_) (fun h y hy => kt M 1 4 (Or.inl ⟨fun g => h g.1, rfl, rfl⟩) (by omega) hT (fun _ _ _ => rfl) y hy)
  subst et
  show jj G kX_add (d + 9) Q rc rs 5 [some (.ref (oa 0)), some (.int (nI (t))), some (.int (y)), some (.int (z)), some (.int (b)), none, none, none, none] [.ref (oa (13 + t))] M
  refine jj_pop (pc := 5) kX_add_d5 rfl ?_
  refine jj_aload_n (pc := 6) kX_add_d6 rfl ?_
  refine jj_iload_n (pc := 7) kX_add_d7 rfl ?_
  refine jj_callV (pc := 8) (b := (oa 0)) (As := [.int (y)]) kX_add_d8 (kvX_X_register hG) (kG_cl hG rfl) rfl hx rfl rfl rfl (Nat.le_of_ble_eq_true rfl) (Nat.le_of_ble_eq_true rfl) (jj_bare0 rfl) ?_
  refine x_register hG hO hrc hrs (fun n hn en => ?_) (fun h y hy => kt M 1 4 (Or.inl ⟨fun g => h g.2.1, rfl, rfl⟩) (by omega) hT (fun _ _ _ => rfl) y hy)
  subst en
  show jj G kX_add (d + 9) Q rc rs 11 [some (.ref (oa 0)), some (.int (nI (t))), some (.int (nI (n))), some (.int (z)), some (.int (b)), none, none, none, none] [.ref (oa (13 + n))] M
  obtain ⟨ern, ecn, s1n, s2n, s3n, s4n, hNn⟩ := hV.1 n hn
  obtain ⟨bn, ebn⟩ : ∃ b, b = 809 + 257 * n := ⟨_, rfl⟩
  have hMn := hO.2.2.2.2.2.2.2 n (by omega)
  rw [← ebn] at hMn hNn
  have hmn := hMn.1
  refine jj_astore (pc := 11) kX_add_d11 (Nat.le_of_ble_eq_true rfl) ?_
  show jj G kX_add (d + 9) Q rc rs 13 [some (.ref (oa 0)), some (.int (nI (t))), some (.int (nI (n))), some (.int (z)), some (.int (b)), some (.ref (oa (13 + n))), none, none, none] [] M
  refine jj_aload_n (pc := 13) kX_add_d13 rfl ?_
  refine jj_iload_n (pc := 14) kX_add_d14 rfl ?_
  refine jj_callV (pc := 15) (b := (oa 0)) (As := [.int (z)]) kX_add_d15 (kvX_X_register hG) (kG_cl hG rfl) rfl hx rfl rfl rfl (Nat.le_of_ble_eq_true rfl) (Nat.le_of_ble_eq_true rfl) (jj_bare0 rfl) ?_
  refine x_register hG hO hrc hrs (fun m hm em => ?_) (fun h y hy => kt M 1 4 (Or.inl ⟨fun g => h g.2.2, rfl, rfl⟩) (by omega) hT (fun _ _ _ => rfl) y hy)
  subst em
  show jj G kX_add (d + 9) Q rc rs 18 [some (.ref (oa 0)), some (.int (nI (t))), some (.int (nI (n))), some (.int (nI (m))), some (.int (b)), some (.ref (oa (13 + n))), none, none, none] [.ref (oa (13 + m))] M
  obtain ⟨erm, ecm, s1m, s2m, s3m, s4m, hNm⟩ := hV.1 m hm
  obtain ⟨bm, ebm⟩ : ∃ b, b = 809 + 257 * m := ⟨_, rfl⟩
  have hMm := hO.2.2.2.2.2.2.2 m (by omega)
  rw [← ebm] at hMm hNm
  have hmm := hMm.1
  refine jj_astore (pc := 18) kX_add_d18 (Nat.le_of_ble_eq_true rfl) ?_
  show jj G kX_add (d + 9) Q rc rs 20 [some (.ref (oa 0)), some (.int (nI (t))), some (.int (nI (n))), some (.int (nI (m))), some (.int (b)), some (.ref (oa (13 + n))), some (.ref (oa (13 + m))), none, none] [] M
  refine jj_aload (pc := 20) kX_add_d20 rfl ?_
  refine jj_getf (pc := 22) kX_add_d22 (kfX_M_rows hG) hmn rfl ?_
  refine jj_aload (pc := 25) kX_add_d25 rfl ?_
  refine jj_getf (pc := 27) kX_add_d27 (kfX_M_rows hG) hmm rfl ?_
  refine jn_icmp_ne (pc := 30) (tgt := 46) kX_add_d30 (by decide) (by omega) (by omega) (fun c1 => ?_) (fun c1 => ?_)
  · skip
    show jj G kX_add (d + 9) Q rc rs 46 [some (.ref (oa 0)), some (.int (nI (t))), some (.int (nI (n))), some (.int (nI (m))), some (.int (b)), some (.ref (oa (13 + n))), some (.ref (oa (13 + m))), none, none] [] M
    exact jj_throw (pc := 46) (ll := 2) kX_add_d46 kX_add_d49 (Or.inl ⟨kX_add_d50, rfl⟩) kX_add_d52 kX_add_d55 (ktX_not_of_one_shape hG) rfl (Nat.le_of_ble_eq_true rfl) (jj_bare0 rfl) hrc hrs (fun a ha => kt M 2 5 (Or.inr ⟨t, n, m, ht, rfl, hn, rfl, hm, rfl, Or.inl ⟨fun h => by omega, rfl, rfl⟩⟩) (by omega) hT (fun _ _ _ => rfl) a ha)
  · skip
    refine jj_aload (pc := 33) kX_add_d33 rfl ?_
    refine jj_getf (pc := 35) kX_add_d35 (kfX_M_columns hG) hmn rfl ?_
    refine jj_aload (pc := 38) kX_add_d38 rfl ?_
    refine jj_getf (pc := 40) kX_add_d40 (kfX_M_columns hG) hmm rfl ?_
    refine jn_icmp_eq (pc := 43) (tgt := 56) kX_add_d43 (by decide) (by omega) (by omega) (fun c2 => ?_) (fun c2 => ?_)
    · skip
      obtain ⟨rr, err⟩ : ∃ r, R n = r := ⟨_, rfl⟩
      obtain ⟨cc, ecc⟩ : ∃ c, C n = c := ⟨_, rfl⟩
      rw [err] at ern s1n s2n c1
      rw [ecc] at ecn s3n s4n c2
      rw [← c1] at erm
      rw [← c2] at ecm
      rw [err, ecc] at hMn hmn hNn
      rw [← c1, ← c2] at hMm hmm hNm
      obtain ⟨bd, ebd⟩ : ∃ b, b = 2865 := ⟨_, rfl⟩
      obtain ⟨ls, hls, ebs⟩ : ∃ ls : Int, b = sg ls ∧ (ls < 0 ↔ b ≠ 0) := by
        rcases hb01 with h | h
        · exact ⟨0, h.trans (by decide), ⟨fun h9 => absurd h9 (by decide), fun h9 => absurd h h9⟩⟩
        · exact ⟨-1, h.trans (by decide), ⟨fun _ => by rw [h]; decide, fun _ => by decide⟩⟩
      show jj G kX_add (d + 9) Q rc rs 56 [some (.ref (oa 0)), some (.int (nI (t))), some (.int (nI (n))), some (.int (nI (m))), some (.int (b)), some (.ref (oa (13 + n))), some (.ref (oa (13 + m))), none, none] [] M
      refine jj_aload_n (pc := 56) kX_add_d56 rfl ?_
      refine jj_aload (pc := 57) kX_add_d57 rfl ?_
      refine jj_aload (pc := 59) kX_add_d59 rfl ?_
      refine jj_aload (pc := 61) kX_add_d61 rfl ?_
      refine jj_getf (pc := 63) kX_add_d63 (kfX_M_columns hG) hmn rfl ?_
      refine jj_callV (pc := 66) (b := (oa 0)) (As := [.ref (oa (13 + n)), .ref (oa (13 + m)), .int (nI (cc))]) kX_add_d66 (kvX_X_draftCommon hG) (kG_cl hG rfl) rfl hx rfl rfl rfl (Nat.le_of_ble_eq_true rfl) (Nat.le_of_ble_eq_true rfl) (jj_bare0 rfl) ?_
      refine x_draftCommon hG hJ hS hO hn hm (by omega) (by omega) (fun M2 Vb R1 C1 hS2 hO2 e8 f8 rk1 v11 v12 vc vo hF2 => ?_)
      rw [err] at e8
      rw [← ebn, ← ebm] at v11 v12
      rw [← ebn, ← ebd] at vc
      have pn := hNn.1
      have pm := hNm.1
      have l1 : ∀ p, 809 ≤ p → p < 2865 → lc (Vb p) ≤ 125 := fun p _ _ => by
        have := hS2.1.lc (p := p) (by omega)
        rw [hJ.cap125 (by omega) (by omega)] at this
        exact this
      have l11 : lc (Vb 11) ≤ 125 := by rw [v11, ← vo _ (by omega) (by omega)]; exact Nat.le_trans (lc_tdiv _ _) (l1 _ (by omega) (by omega))
      have l12 : lc (Vb 12) ≤ 125 := by rw [v12, ← vo (bn + 256) (by omega) (by omega)]; exact Nat.le_trans (lc_tdiv _ _) (l1 _ (by omega) (by omega))
      have hmt : V (bn + 256) * Vb 11 = V (bm + 256) * Vb 12 := by rw [v11, v12]; exact meet_eq pn rfl
      have p11 : 0 < Vb 11 := by rw [v11]; exact tdiv_pos pm sgc_dvd.2 (sgc_pos pn)
      have hx2 := hO2.1
      have hMd2 := hO2.dr ebd
      rw [e8, f8] at hMd2
      have hmd2 := hMd2.1
      have hMn2 := hO2.2.2.2.2.2.2.2 n (by omega)
      rw [← ebn, (rk1 n hn).1, (rk1 n hn).2, err, ecc] at hMn2
      have hmn2 := hMn2.1
      have hMm2 := hO2.2.2.2.2.2.2.2 m (by omega)
      rw [← ebm, (rk1 m hm).1, (rk1 m hm).2, ← c1, ← c2] at hMm2
      have hmm2 := hMm2.1
      show jj G kX_add (d + 9) Q rc rs 69 [some (.ref (oa 0)), some (.int (nI (t))), some (.int (nI (n))), some (.int (nI (m))), some (.int (b)), some (.ref (oa (13 + n))), some (.ref (oa (13 + m))), none, none] [] M2
      refine jn_iconst (pc := 69) 0 kX_add_d69 (by decide) ?_
      refine jj_istore (pc := 70) kX_add_d70 (Nat.le_of_ble_eq_true rfl) ?_
      show jj G kX_add (d + 9) Q rc rs 72 [some (.ref (oa 0)), some (.int (nI (t))), some (.int (nI (n))), some (.int (nI (m))), some (.int (b)), some (.ref (oa (13 + n))), some (.ref (oa (13 + m))), some (.int (nI (0))), none] [] M2
      show jj G kX_add (d + 9) Q rc rs 72 [some (.ref (oa 0)), some (.int (nI (t))), some (.int (nI (n))), some (.int (nI (m))), some (.int (b)), some (.ref (oa (13 + n))), some (.ref (oa (13 + m))), some (.int (nI (0))), none] [] M2
      have fin : ∀ (oj : Option Value) (M9 : mheap) (V9 : Nat → Int), KS M9 wa la cap 3122 eu dv hi lo (oa 3) V9 → EF M2 M9 wa la 3122 eu dv hi lo → (∀ p, 10 ≤ p → (∀ i' j', i' < rr → j' < cc → p ≠ (bd + (16 * i' + j'))) → V9 p = Vb p) → (∀ i' j', i' < rr → j' < cc → V9 (bd + (16 * i' + j')) = (if ls < 0 then Vb 11 * Vb (bn + (16 * i' + j')) - Vb 12 * Vb (bm + (16 * i' + j')) else Vb 11 * Vb (bn + (16 * i' + j')) + Vb 12 * Vb (bm + (16 * i' + j')))) → jj G kX_add (d + 9) Q rc rs 169 [some (.ref (oa 0)), some (.int (nI (t))), some (.int (nI (n))), some (.int (nI (m))), some (.int (b)), some (.ref (oa (13 + n))), some (.ref (oa (13 + m))), some (.int (nI (rr))), (oj)] [] M9 := by
        intro oj M9 V9 hS9 f9 o9 v9
        have hO9 := hO2.ef hJ f9
        have hx9 := hO9.1
        have hMd9 := hO9.dr ebd
        rw [e8, f8] at hMd9
        have hmd9 := hMd9.1
        have hMn9 := hO9.2.2.2.2.2.2.2 n (by omega)
        rw [← ebn, (rk1 n hn).1, (rk1 n hn).2, err, ecc] at hMn9
        have hmn9 := hMn9.1
        have hMm9 := hO9.2.2.2.2.2.2.2 m (by omega)
        rw [← ebm, (rk1 m hm).1, (rk1 m hm).2, ← c1, ← c2] at hMm9
        have hmm9 := hMm9.1
        have ov9 : ∀ p, 13 ≤ p → p < 2865 → V9 p = V p := fun p p1 p2 => by rw [o9 p (by omega) (fun i' j' h1 h2 => by omega)]; exact vo p p1 p2
        have hF9 := hF2.trans (f9.efx (X := XAD oa))
        have c9 : V9 (bd + 256) = V (bn + 256) * Vb 11 := by rw [o9 _ (by omega) (fun i' j' h1 h2 => by omega)]; exact vc
        have hH : HAS V9 2865 rr cc (fun t => if b = 0 then σ.2.2 n t + σ.2.2 m t else σ.2.2 n t - σ.2.2 m t) := by
          rw [← ebd]
          refine ⟨by rw [c9]; have := Int.mul_pos pn p11; omega, fun i j hi' hj' => ?_⟩
          rw [v9 i j hi' hj', c9]
          have q1 := hNn.2.1.2 i j hi' hj'
          have q2 := hNm.2.1.2 i j hi' hj'
          rw [vo (bn + (16 * i + j)) (by omega) (by omega), vo (bm + (16 * i + j)) (by omega) (by omega)]
          have q3 : ((V (bn + 256) * Vb 11 : Int) : Rat) = ((V (bm + 256) * Vb 12 : Int) : Rat) := by rw [hmt]
          rw [Rat.intCast_mul, Rat.intCast_mul] at q3
          dsimp only
          by_cases c : ls < 0
          · rw [if_pos c, if_neg (ebs.1 c), Rat.intCast_sub, Rat.intCast_mul, Rat.intCast_mul, Rat.intCast_mul, q1, q2]
            grind
          · rw [if_neg c, if_pos (Classical.byContradiction (fun h => c (ebs.2 h))), Rat.intCast_add, Rat.intCast_mul, Rat.intCast_mul, Rat.intCast_mul, q1, q2]
            grind
        have hx9 := hO9.1
        show jj G kX_add (d + 9) Q rc rs 169 [some (.ref (oa 0)), some (.int (nI (t))), some (.int (nI (n))), some (.int (nI (m))), some (.int (b)), some (.ref (oa (13 + n))), some (.ref (oa (13 + m))), some (.int (nI (rr))), (oj)] [] M9
        refine jj_aload_n (pc := 169) kX_add_d169 rfl ?_
        refine jj_callV (pc := 170) (b := (oa 0)) (As := []) kX_add_d170 (kvX_X_reduceDraft hG) (kG_cl hG rfl) rfl hx9 rfl rfl rfl (Nat.le_of_ble_eq_true rfl) (Nat.le_of_ble_eq_true rfl) (jj_bare0 rfl) ?_
        refine x_reduceDraft hG hJ hS9 hO9 (q := (fun t => if b = 0 then σ.2.2 n t + σ.2.2 m t else σ.2.2 n t - σ.2.2 m t)) (by omega) (by omega) (by omega) (by omega) (by rw [e8, f8]; exact hH) (fun Ma Va hSa hOa hNa va wa9 => ?_)
        have hxa := hOa.1
        have hFa := hF9.trans wa9.efx
        have ova : ∀ p, 13 ≤ p → p < 2865 → Va p = V p := fun p p1 p2 => by rw [va p p1 p2]; exact ov9 p p1 p2
        show jj G kX_add (d + 9) Q rc rs 173 [some (.ref (oa 0)), some (.int (nI (t))), some (.int (nI (n))), some (.int (nI (m))), some (.int (b)), some (.ref (oa (13 + n))), some (.ref (oa (13 + m))), some (.int (nI (rr))), (oj)] [] Ma
        refine jj_aload_n (pc := 173) kX_add_d173 rfl ?_
        refine jj_iload_n (pc := 174) kX_add_d174 rfl ?_
        refine jj_callV (pc := 175) (b := (oa 0)) (As := [.int (nI (t))]) kX_add_d175 (kvX_X_keepDraft hG) (kG_cl hG rfl) rfl hxa rfl rfl rfl (Nat.le_of_ble_eq_true rfl) (Nat.le_of_ble_eq_true rfl) (jj_bare0 rfl) ?_
        refine x_keepDraft hG hJ hSa hOa (q := (fun t => if b = 0 then σ.2.2 n t + σ.2.2 m t else σ.2.2 n t - σ.2.2 m t)) (by omega) (by omega) (by omega) (by omega) ht hNa hrc hrs (fun Mb Vb hfit hSb hOb hNb vb hFb => ?_) (fun hnf y hy => kt Ma 3 6 (Or.inr ⟨t, n, m, ht, rfl, hn, rfl, hm, rfl, Or.inr ⟨by omega, by omega, by rw [← ern, ← ecn]; exact Or.inr ⟨by rw [e8, f8] at hnf; exact hnf, rfl, rfl⟩⟩⟩) (by omega) ⟨Va, sc, R1, C1, hSa, hOa, hV.keep (fun p p1 p2 => ova p (by omega) p2) (ova 15 (by omega) (by omega)) (ova 16 (by omega) (by omega)) rk1⟩ hFa y hy)
        rw [e8, f8] at hfit hNb
        show jj G kX_add (d + 9) Q rc rs 178 [some (.ref (oa 0)), some (.int (nI (t))), some (.int (nI (n))), some (.int (nI (m))), some (.int (b)), some (.ref (oa (13 + n))), some (.ref (oa (13 + m))), some (.int (nI (rr))), (oj)] [] Mb
        exact jj_vret (pc := 178) kX_add_d178 rfl (kr Mb _ (Or.inr ⟨t, n, m, ht, rfl, hn, rfl, hm, rfl, Or.inr ⟨by omega, by omega, by rw [← ern, ← ecn]; exact Or.inl ⟨hfit, rfl, rfl⟩⟩⟩) ⟨Vb, -1, _, _, hSb, hOb, hV.put (n := t) (r := rr) (c := cc) (q := (fun t => if b = 0 then σ.2.2 n t + σ.2.2 m t else σ.2.2 n t - σ.2.2 m t)) ht (fun p _ _ p3 => by rw [vb p (by omega) p3]; exact ova p (by omega) (by omega)) (fun k hk => by show (if k = t then R1 8 else R1 k) = _; rw [e8, (rk1 k hk).1]) (fun k hk => by show (if k = t then C1 8 else C1 k) = _; rw [f8, (rk1 k hk).2]) (by omega) (by omega) (by omega) (by omega) hNb⟩ (hFa.trans hFb))
      have outer : ∀ mu i, rr = i + mu → ∀ (oj : Option Value) (M9 : mheap) (V9 : Nat → Int), KS M9 wa la cap 3122 eu dv hi lo (oa 3) V9 → EF M2 M9 wa la 3122 eu dv hi lo → (∀ p, 10 ≤ p → (∀ i' j', i' < rr → j' < cc → p ≠ (bd + (16 * i' + j'))) → V9 p = Vb p) → (∀ i' j', i' < rr → j' < cc → ¬ thru cc i 0 i' j' → V9 (bd + (16 * i' + j')) = Vb (bd + (16 * i' + j'))) → (∀ i' j', i' < rr → thru cc i 0 i' j' → V9 (bd + (16 * i' + j')) = (if ls < 0 then Vb 11 * Vb (bn + (16 * i' + j')) - Vb 12 * Vb (bm + (16 * i' + j')) else Vb 11 * Vb (bn + (16 * i' + j')) + Vb 12 * Vb (bm + (16 * i' + j')))) → jj G kX_add (d + 9) Q rc rs 72 [some (.ref (oa 0)), some (.int (nI (t))), some (.int (nI (n))), some (.int (nI (m))), some (.int (b)), some (.ref (oa (13 + n))), some (.ref (oa (13 + m))), some (.int (nI (i))), (oj)] [] M9 := by
        intro mu
        induction mu with
        | zero =>
          intro i hk oj M9 V9 hS9 f9 o9 u9 v9
          have e9 : rr = i := by omega
          subst e9
          have hO9 := hO2.ef hJ f9
          have hx9 := hO9.1
          have hMd9 := hO9.dr ebd
          rw [e8, f8] at hMd9
          have hmd9 := hMd9.1
          have hMn9 := hO9.2.2.2.2.2.2.2 n (by omega)
          rw [← ebn, (rk1 n hn).1, (rk1 n hn).2, err, ecc] at hMn9
          have hmn9 := hMn9.1
          have hMm9 := hO9.2.2.2.2.2.2.2 m (by omega)
          rw [← ebm, (rk1 m hm).1, (rk1 m hm).2, ← c1, ← c2] at hMm9
          have hmm9 := hMm9.1
          refine jj_iload (pc := 72) kX_add_d72 rfl ?_
          refine jj_aload (pc := 74) kX_add_d74 rfl ?_
          refine jj_getf (pc := 76) kX_add_d76 (kfX_M_rows hG) hmn9 rfl ?_
          refine jn_icmp_ge (pc := 79) (tgt := 169) kX_add_d79 (by decide) (by omega) (by omega) (fun _ => ?_) (fun c => by exfalso; omega)
          show jj G kX_add (d + 9) Q rc rs 169 [some (.ref (oa 0)), some (.int (nI (t))), some (.int (nI (n))), some (.int (nI (m))), some (.int (b)), some (.ref (oa (13 + n))), some (.ref (oa (13 + m))), some (.int (nI (rr))), (oj)] [] M9
          exact fin _ M9 V9 hS9 f9 o9 (fun i j hi' hj' => v9 i j hi' ⟨hj', Or.inl hi'⟩)
        | succ mu ih =>
          intro i hk oj M9 V9 hS9 f9 o9 u9 v9
          have hO9 := hO2.ef hJ f9
          have hx9 := hO9.1
          have hMd9 := hO9.dr ebd
          rw [e8, f8] at hMd9
          have hmd9 := hMd9.1
          have hMn9 := hO9.2.2.2.2.2.2.2 n (by omega)
          rw [← ebn, (rk1 n hn).1, (rk1 n hn).2, err, ecc] at hMn9
          have hmn9 := hMn9.1
          have hMm9 := hO9.2.2.2.2.2.2.2 m (by omega)
          rw [← ebm, (rk1 m hm).1, (rk1 m hm).2, ← c1, ← c2] at hMm9
          have hmm9 := hMm9.1
          refine jj_iload (pc := 72) kX_add_d72 rfl ?_
          refine jj_aload (pc := 74) kX_add_d74 rfl ?_
          refine jj_getf (pc := 76) kX_add_d76 (kfX_M_rows hG) hmn9 rfl ?_
          refine jn_icmp_ge (pc := 79) (tgt := 169) kX_add_d79 (by decide) (by omega) (by omega) (fun c => by exfalso; omega) (fun _ => ?_)
          refine jn_iconst (pc := 82) 0 kX_add_d82 (by decide) ?_
          refine jj_istore (pc := 83) kX_add_d83 (Nat.le_of_ble_eq_true rfl) ?_
          show jj G kX_add (d + 9) Q rc rs 85 [some (.ref (oa 0)), some (.int (nI (t))), some (.int (nI (n))), some (.int (nI (m))), some (.int (b)), some (.ref (oa (13 + n))), some (.ref (oa (13 + m))), some (.int (nI (i))), some (.int (nI (0)))] [] M9
          show jj G kX_add (d + 9) Q rc rs 85 [some (.ref (oa 0)), some (.int (nI (t))), some (.int (nI (n))), some (.int (nI (m))), some (.int (b)), some (.ref (oa (13 + n))), some (.ref (oa (13 + m))), some (.int (nI (i))), some (.int (nI (0)))] [] M9
          have inner : ∀ mu2 j, cc = j + mu2 → ∀ (M9 : mheap) (V9 : Nat → Int), KS M9 wa la cap 3122 eu dv hi lo (oa 3) V9 → EF M2 M9 wa la 3122 eu dv hi lo → (∀ p, 10 ≤ p → (∀ i' j', i' < rr → j' < cc → p ≠ (bd + (16 * i' + j'))) → V9 p = Vb p) → (∀ i' j', i' < rr → j' < cc → ¬ thru cc i j i' j' → V9 (bd + (16 * i' + j')) = Vb (bd + (16 * i' + j'))) → (∀ i' j', i' < rr → thru cc i j i' j' → V9 (bd + (16 * i' + j')) = (if ls < 0 then Vb 11 * Vb (bn + (16 * i' + j')) - Vb 12 * Vb (bm + (16 * i' + j')) else Vb 11 * Vb (bn + (16 * i' + j')) + Vb 12 * Vb (bm + (16 * i' + j')))) → jj G kX_add (d + 9) Q rc rs 85 [some (.ref (oa 0)), some (.int (nI (t))), some (.int (nI (n))), some (.int (nI (m))), some (.int (b)), some (.ref (oa (13 + n))), some (.ref (oa (13 + m))), some (.int (nI (i))), some (.int (nI (j)))] [] M9 := by
            intro mu2
            induction mu2 with
            | zero =>
              intro j hk2 M9 V9 hS9 f9 o9 u9 v9
              have e9 : cc = j := by omega
              subst e9
              have hO9 := hO2.ef hJ f9
              have hx9 := hO9.1
              have hMd9 := hO9.dr ebd
              rw [e8, f8] at hMd9
              have hmd9 := hMd9.1
              have hMn9 := hO9.2.2.2.2.2.2.2 n (by omega)
              rw [← ebn, (rk1 n hn).1, (rk1 n hn).2, err, ecc] at hMn9
              have hmn9 := hMn9.1
              have hMm9 := hO9.2.2.2.2.2.2.2 m (by omega)
              rw [← ebm, (rk1 m hm).1, (rk1 m hm).2, ← c1, ← c2] at hMm9
              have hmm9 := hMm9.1
              refine jj_iload (pc := 85) kX_add_d85 rfl ?_
              refine jj_aload (pc := 87) kX_add_d87 rfl ?_
              refine jj_getf (pc := 89) kX_add_d89 (kfX_M_columns hG) hmn9 rfl ?_
              refine jn_icmp_ge (pc := 92) (tgt := 163) kX_add_d92 (by decide) (by omega) (by omega) (fun _ => ?_) (fun c => by exfalso; omega)
              refine jn_iinc (pc := 163) (i + 1) kX_add_d163 rfl (nI_1 _) ?_
              refine jj_goto (pc := 166) (tgt := 72) kX_add_d166 (by decide) ?_
              show jj G kX_add (d + 9) Q rc rs 72 [some (.ref (oa 0)), some (.int (nI (t))), some (.int (nI (n))), some (.int (nI (m))), some (.int (b)), some (.ref (oa (13 + n))), some (.ref (oa (13 + m))), some (.int (nI (i + 1))), some (.int (nI (cc)))] [] M9
              exact ih (i + 1) (by omega) _ M9 V9 hS9 f9 o9 (fun i' j' h1 h2 h3 => u9 i' j' h1 h2 (fun h => h3 (thru_row.1 h))) (fun i' j' h1 h2 => v9 i' j' h1 (thru_row.2 h2))
            | succ mu2 ih2 =>
              intro j hk2 M9 V9 hS9 f9 o9 u9 v9
              have hO9 := hO2.ef hJ f9
              have old9 : V9 (bd + (16 * i + j)) = Vb (bd + (16 * i + j)) := u9 i j (by omega) (by omega) (fun h => by unfold thru at h; omega)
              have hx9 := hO9.1
              have hMd9 := hO9.dr ebd
              rw [e8, f8] at hMd9
              have hmd9 := hMd9.1
              have hMn9 := hO9.2.2.2.2.2.2.2 n (by omega)
              rw [← ebn, (rk1 n hn).1, (rk1 n hn).2, err, ecc] at hMn9
              have hmn9 := hMn9.1
              have hMm9 := hO9.2.2.2.2.2.2.2 m (by omega)
              rw [← ebm, (rk1 m hm).1, (rk1 m hm).2, ← c1, ← c2] at hMm9
              have hmm9 := hMm9.1
              refine jj_iload (pc := 85) kX_add_d85 rfl ?_
              refine jj_aload (pc := 87) kX_add_d87 rfl ?_
              refine jj_getf (pc := 89) kX_add_d89 (kfX_M_columns hG) hmn9 rfl ?_
              refine jn_icmp_ge (pc := 92) (tgt := 163) kX_add_d92 (by decide) (by omega) (by omega) (fun c => by exfalso; omega) (fun _ => ?_)
              have vn9 : V9 (bn + (16 * i + j)) = Vb (bn + (16 * i + j)) := o9 _ (by omega) (fun i' j' h1 h2 => by omega)
              have vm9 : V9 (bm + (16 * i + j)) = Vb (bm + (16 * i + j)) := o9 _ (by omega) (fun i' j' h1 h2 => by omega)
              have v119 : V9 11 = Vb 11 := o9 _ (by omega) (fun i' j' h1 h2 => by omega)
              have v129 : V9 12 = Vb 12 := o9 _ (by omega) (fun i' j' h1 h2 => by omega)
              have lq1 : lc (V9 11) ≤ 125 := by rw [v119]; exact l11
              have lq2 : lc (V9 12) ≤ 125 := by rw [v129]; exact l12
              have ln : lc (V9 (bn + (16 * i + j))) ≤ 125 := by rw [vn9]; exact l1 _ (by omega) (by omega)
              have lm : lc (V9 (bm + (16 * i + j))) ≤ 125 := by rw [vm9]; exact l1 _ (by omega) (by omega)
              have m1 := lc_mul (V9 11) (V9 (bn + (16 * i + j)))
              have m2 := lc_mul (V9 12) (V9 (bm + (16 * i + j)))
              have hcap := hK.2.2.1
              have hdk9 := hS9.2.2
              refine jj_aload_n (pc := 95) kX_add_d95 rfl ?_
              refine jj_getf (pc := 96) kX_add_d96 (kfX_desk hG) hx9 rfl ?_
              refine jj_aload_n (pc := 99) kX_add_d99 rfl ?_
              refine jj_getf (pc := 100) kX_add_d100 (kfX_desk hG) hx9 rfl ?_
              refine jj_getf (pc := 103) kX_add_d103 (kfX_K_leftFactor hG) hdk9 rfl ?_
              refine jj_aload (pc := 106) kX_add_d106 rfl ?_
              refine jj_iload (pc := 108) kX_add_d108 rfl ?_
              refine jj_iload (pc := 110) kX_add_d110 rfl ?_
              refine jj_callV (pc := 112) (b := (oa (13 + n))) (As := [.int (nI (i)), .int (nI (j))]) kX_add_d112 (kvX_M_at hG) (kG_cl hG rfl) rfl hmn9 rfl rfl rfl (Nat.le_of_ble_eq_true rfl) (Nat.le_of_ble_eq_true rfl) (jj_bare0 rfl) ?_
              refine m_at hG hMn9 (by omega) (by omega) ?_
              show jj G kX_add (d + 9) Q rc rs 115 [some (.ref (oa 0)), some (.int (nI (t))), some (.int (nI (n))), some (.int (nI (m))), some (.int (b)), some (.ref (oa (13 + n))), some (.ref (oa (13 + m))), some (.int (nI (i))), some (.int (nI (j)))] [.ref (wa (bn + (16 * i + j))), .ref (wa 11), .ref (oa 3)] M9
              refine jj_aload_n (pc := 115) kX_add_d115 rfl ?_
              refine jj_getf (pc := 116) kX_add_d116 (kfX_desk hG) hx9 rfl ?_
              refine jj_getf (pc := 119) kX_add_d119 (kfX_K_rightFactor hG) hdk9 rfl ?_
              refine jj_aload (pc := 122) kX_add_d122 rfl ?_
              refine jj_iload (pc := 124) kX_add_d124 rfl ?_
              refine jj_iload (pc := 126) kX_add_d126 rfl ?_
              refine jj_callV (pc := 128) (b := (oa (13 + m))) (As := [.int (nI (i)), .int (nI (j))]) kX_add_d128 (kvX_M_at hG) (kG_cl hG rfl) rfl hmm9 rfl rfl rfl (Nat.le_of_ble_eq_true rfl) (Nat.le_of_ble_eq_true rfl) (jj_bare0 rfl) ?_
              refine m_at hG hMm9 (by omega) (by omega) ?_
              show jj G kX_add (d + 9) Q rc rs 131 [some (.ref (oa 0)), some (.int (nI (t))), some (.int (nI (n))), some (.int (nI (m))), some (.int (b)), some (.ref (oa (13 + n))), some (.ref (oa (13 + m))), some (.int (nI (i))), some (.int (nI (j)))] [.ref (wa (bm + (16 * i + j))), .ref (wa 12), .ref (wa (bn + (16 * i + j))), .ref (wa 11), .ref (oa 3)] M9
              refine jj_iload (pc := 131) kX_add_d131 rfl ?_
              refine jn_top (.int (sg ls)) (congrArg Value.int hls) ?_
              refine jj_callV (pc := 133) (b := (oa 3)) (As := [.ref (wa 11), .ref (wa (bn + (16 * i + j))), .ref (wa 12), .ref (wa (bm + (16 * i + j))), .int (sg ls)]) kX_add_d133 (kvX_K_cross hG) (kG_cl hG rfl) rfl hdk9 rfl rfl rfl (Nat.le_of_ble_eq_true rfl) (Nat.le_of_ble_eq_true rfl) (jj_bare0 rfl) ?_
              refine k_cross hG hK hS9 (ls := ls) (z := if ls < 0 then V9 11 * V9 (bn + (16 * i + j)) - V9 12 * V9 (bm + (16 * i + j)) else V9 11 * V9 (bn + (16 * i + j)) + V9 12 * V9 (bm + (16 * i + j))) (a := 11) (x := (bn + (16 * i + j))) (b := 12) (y := (bm + (16 * i + j))) (by omega) (by omega) (by omega) (by omega) (by omega) (by omega) (by omega) (by omega) (by omega) (by omega) (by omega) (by omega) (by omega) (by omega) rfl (fun M7 hS7x hw7 => ?_)
              obtain ⟨zz, hzz⟩ : ∃ z, (if ls < 0 then V9 11 * V9 (bn + (16 * i + j)) - V9 12 * V9 (bm + (16 * i + j)) else V9 11 * V9 (bn + (16 * i + j)) + V9 12 * V9 (bm + (16 * i + j))) = z := ⟨_, rfl⟩
              rw [hzz] at hS7x
              obtain ⟨V7, hV7⟩ : ∃ W, vup (vup (vup V9 7 (V9 11 * V9 (bn + (16 * i + j)))) 8 (V9 12 * V9 (bm + (16 * i + j)))) 9 zz = W := ⟨_, rfl⟩
              rw [hV7] at hS7x
              have a7 : V7 9 = zz := by rw [← hV7, vup_at]
              have o7 : ∀ p, 10 ≤ p → V7 p = V9 p := fun p h => by rw [← hV7, vup_ne _ _ (by omega), vup_ne _ _ (by omega), vup_ne _ _ (by omega)]
              have lz : lc zz ≤ 252 := by
                rw [← hzz]
                split
                · exact Nat.le_trans (lc_sub (n := 250) (by omega) (by omega)) (by omega)
                · exact Nat.le_trans (lc_add (n := 250) (by omega) (by omega)) (by omega)
              have hO7 := hO9.ef hJ hw7
              have hx7 := hO7.1
              have hMd7 := hO7.dr ebd
              rw [e8, f8] at hMd7
              have hmd7 := hMd7.1
              have hdk7 := hS7x.2.2
              show jj G kX_add (d + 9) Q rc rs 136 [some (.ref (oa 0)), some (.int (nI (t))), some (.int (nI (n))), some (.int (nI (m))), some (.int (b)), some (.ref (oa (13 + n))), some (.ref (oa (13 + m))), some (.int (nI (i))), some (.int (nI (j)))] [] M7
              refine jj_aload_n (pc := 136) kX_add_d136 rfl ?_
              refine jj_getf (pc := 137) kX_add_d137 (kfX_draft hG) hx7 rfl ?_
              refine jj_iload (pc := 140) kX_add_d140 rfl ?_
              refine jj_iload (pc := 142) kX_add_d142 rfl ?_
              refine jj_callV (pc := 144) (b := (oa 21)) (As := [.int (nI (i)), .int (nI (j))]) kX_add_d144 (kvX_M_at hG) (kG_cl hG rfl) rfl hmd7 rfl rfl rfl (Nat.le_of_ble_eq_true rfl) (Nat.le_of_ble_eq_true rfl) (jj_bare0 rfl) ?_
              refine m_at hG hMd7 (by omega) (by omega) ?_
              show jj G kX_add (d + 9) Q rc rs 147 [some (.ref (oa 0)), some (.int (nI (t))), some (.int (nI (n))), some (.int (nI (m))), some (.int (b)), some (.ref (oa (13 + n))), some (.ref (oa (13 + m))), some (.int (nI (i))), some (.int (nI (j)))] [.ref (wa (bd + (16 * i + j)))] M7
              obtain ⟨T9, t9, hT9, _, _⟩ := hS7x.1 (bd + (16 * i + j)) (by omega)
              refine jj_aload_n (pc := 147) kX_add_d147 rfl ?_
              refine jj_getf (pc := 148) kX_add_d148 (kfX_desk hG) hx7 rfl ?_
              refine jj_getf (pc := 151) kX_add_d151 (kfX_K_sum hG) hdk7 rfl ?_
              refine jj_callV (pc := 154) (b := (wa (bd + (16 * i + j)))) (As := [.ref (wa 9)]) kX_add_d154 (kvX_W_copy hG) (kG_cl hG rfl) rfl hT9 rfl rfl rfl (Nat.le_of_ble_eq_true rfl) (Nat.le_of_ble_eq_true rfl) (jj_bare0 rfl) ?_
              refine w_copy hG hI hS7x.1 (t := (bd + (16 * i + j))) (u := 9) (by omega) (by omega) (by rw [hJ.cap252 (by omega) (by omega), a7]; exact lc_room lz) (fun M8 hc8 hw8 => ?_)
              have hw8e : EF M7 M8 wa la 3122 eu dv hi lo := hw8.ef (by omega)
              have hO8 := hO7.ef hJ hw8e
              have hmn8 := (hO8.2.2.2.2.2.2.2 n (by omega)).1
              rw [← ebn, (rk1 n hn).1, (rk1 n hn).2, err, ecc] at hmn8
              have hat : vup V7 (bd + (16 * i + j)) (V7 9) (bd + (16 * i + j)) = if ls < 0 then Vb 11 * Vb (bn + (16 * i + j)) - Vb 12 * Vb (bm + (16 * i + j)) else Vb 11 * Vb (bn + (16 * i + j)) + Vb 12 * Vb (bm + (16 * i + j)) := by rw [vup_at, a7, ← hzz, v119, v129, vn9, vm9]
              have hot : ∀ p, 10 ≤ p → p ≠ (bd + (16 * i + j)) → vup V7 (bd + (16 * i + j)) (V7 9) p = V9 p := fun p h1 h2 => by rw [vup_ne _ _ h2]; exact o7 p h1
              show jj G kX_add (d + 9) Q rc rs 157 [some (.ref (oa 0)), some (.int (nI (t))), some (.int (nI (n))), some (.int (nI (m))), some (.int (b)), some (.ref (oa (13 + n))), some (.ref (oa (13 + m))), some (.int (nI (i))), some (.int (nI (j)))] [] M8
              refine jn_iinc (pc := 157) (j + 1) kX_add_d157 rfl (nI_1 _) ?_
              refine jj_goto (pc := 160) (tgt := 85) kX_add_d160 (by decide) ?_
              show jj G kX_add (d + 9) Q rc rs 85 [some (.ref (oa 0)), some (.int (nI (t))), some (.int (nI (n))), some (.int (nI (m))), some (.int (b)), some (.ref (oa (13 + n))), some (.ref (oa (13 + m))), some (.int (nI (i))), some (.int (nI (j + 1)))] [] M8
              refine ih2 (j + 1) (by omega) M8 _ (hS7x.wt hK (by omega) hw8 hc8) (f9.trans (hw7.trans hw8e)) (fun p p1 p2 => ?_) (fun i' j' h1 h2 h3 => ?_) (fun i' j' h1 h2 => ?_)
              · rw [hot p p1 (p2 i j (by omega) (by omega))]
                exact o9 p p1 p2
              · have hne : ¬ (i' = i ∧ j' = j) := fun e => h3 ((thru_next (by omega)).2 (Or.inr e))
                rw [hot _ (by omega) (by omega)]
                exact u9 i' j' h1 h2 (fun h => h3 ((thru_next (by omega)).2 (Or.inl h)))
              · by_cases e : i' = i ∧ j' = j
                · rw [e.1, e.2]; exact hat
                · have hj9 := h2.1
                  rw [hot _ (by omega) (by omega)]
                  rcases (thru_next (by omega)).1 h2 with h | h
                  · exact v9 i' j' h1 h
                  · exact absurd h e
          exact inner cc 0 (by omega) M9 V9 hS9 f9 o9 u9 v9
      refine outer rr 0 (by omega) _ M2 Vb hS2 (fun _ _ _ _ _ _ => rfl) (fun _ _ _ => rfl) (fun _ _ _ _ _ => rfl) (fun i' j' _ h => ?_)
      unfold thru at h
      omega
    · skip
      show jj G kX_add (d + 9) Q rc rs 46 [some (.ref (oa 0)), some (.int (nI (t))), some (.int (nI (n))), some (.int (nI (m))), some (.int (b)), some (.ref (oa (13 + n))), some (.ref (oa (13 + m))), none, none] [] M
      exact jj_throw (pc := 46) (ll := 2) kX_add_d46 kX_add_d49 (Or.inl ⟨kX_add_d50, rfl⟩) kX_add_d52 kX_add_d55 (ktX_not_of_one_shape hG) rfl (Nat.le_of_ble_eq_true rfl) (jj_bare0 rfl) hrc hrs (fun a ha => kt M 2 5 (Or.inr ⟨t, n, m, ht, rfl, hn, rfl, hm, rfl, Or.inl ⟨fun h => by omega, rfl, rfl⟩⟩) (by omega) hT (fun _ _ _ => rfl) a ha)
end X7b
