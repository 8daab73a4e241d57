/-! ===== ExactForms: determinant (printed by wip/gen/rX12.py) ===== -/
section X12
variable {G : jg} {d : Nat} {Q : jq} {rc rs : Nat} {M : mheap} {wa la cap oa : Nat → Nat} {eu dv hi lo : Nat} {σ : rst}
theorem xp_determinant {x y : Int32} (hG : kG G) (hJ : XJ wa la cap oa eu dv hi lo) (hT : XT M wa la cap oa eu dv hi lo σ) (hrc : 1 ≤ rc) (hrs : 6 ≤ rs) (kr : ∀ (M' : mheap)  (σ' : rst), semDet σ x y 0 σ' → XT M' wa la cap oa eu dv hi lo σ' → XF oa M M' wa la eu dv hi lo → Q (.returned none) M' rc rs) (kt : ∀ (M' : mheap) (cd ci : Nat), semDet σ x y cd σ → (cd = 1 ∧ ci = 4 ∨ cd = 2 ∧ ci = 5 ∨ cd = 3 ∧ ci = 6) → XT M' wa la cap oa eu dv hi lo σ → XF oa M M' wa la eu dv hi lo → ∀ x, M' x = none → Q (.threw x) (jj_up M' x (.inl ci, [])) (rc - 1) (rs - 6)) : jj G kX_determinant (d + 10) Q rc rs 0 (jj_ent [.ref (oa 0), .int x, .int y] 5) [] M := by
  obtain ⟨V, sc, R, C, hS, hO, hV⟩ := id hT
  have hK := hJ.1
  have hI := hK.1
  have hx := hO.1
  show jj G kX_determinant (d + 10) Q rc rs 0 [some (.ref (oa 0)), some (.int (x)), some (.int (y)), none, none] [] M
  refine jj_aload_n (pc := 0) kX_determinant_d0 rfl ?_
  refine jj_iload_n (pc := 1) kX_determinant_d1 rfl ?_
  refine jj_callV (pc := 2) (b := (oa 0)) (As := [.int (x)]) kX_determinant_d2 (kvX_X_register hG) (kG_cl hG rfl) rfl hx rfl rfl rfl (Nat.le_of_ble_eq_true rfl) (Nat.le_of_ble_eq_true rfl) (jj_bare0 rfl) ?_
  refine x_register hG hO hrc hrs (fun n hn en => ?_) (fun h y hy => kt M 1 4 (Or.inl ⟨fun g => h g.1, rfl, rfl⟩) (by omega) hT (fun _ _ _ => rfl) y hy)
  subst en
  show jj G kX_determinant (d + 10) Q rc rs 5 [some (.ref (oa 0)), some (.int (nI (n))), some (.int (y)), none, none] [.ref (oa (13 + n))] M
  refine jj_pop (pc := 5) kX_determinant_d5 rfl ?_
  refine jj_aload_n (pc := 6) kX_determinant_d6 rfl ?_
  refine jj_iload_n (pc := 7) kX_determinant_d7 rfl ?_
  refine jj_callV (pc := 8) (b := (oa 0)) (As := [.int (y)]) kX_determinant_d8 (kvX_X_register hG) (kG_cl hG rfl) rfl hx rfl rfl rfl (Nat.le_of_ble_eq_true rfl) (Nat.le_of_ble_eq_true rfl) (jj_bare0 rfl) ?_
  refine x_register hG hO hrc hrs (fun m hm em => ?_) (fun h y hy => kt M 1 4 (Or.inl ⟨fun g => h g.2, rfl, rfl⟩) (by omega) hT (fun _ _ _ => rfl) y hy)
  subst em
  show jj G kX_determinant (d + 10) Q rc rs 11 [some (.ref (oa 0)), some (.int (nI (n))), some (.int (nI (m))), none, none] [.ref (oa (13 + m))] M
  obtain ⟨erm, ecm, s1m, s2m, s3m, s4m, hNm⟩ := hV.1 m hm
  obtain ⟨bm, ebm⟩ : ∃ b, b = 809 + 257 * m := ⟨_, rfl⟩
  have hMm := hO.2.2.2.2.2.2.2 m (by omega)
  rw [← ebm] at hMm hNm
  have hmm := hMm.1
  refine jj_astore_n (pc := 11) kX_determinant_d11 (Nat.le_of_ble_eq_true rfl) ?_
  show jj G kX_determinant (d + 10) Q rc rs 12 [some (.ref (oa 0)), some (.int (nI (n))), some (.int (nI (m))), some (.ref (oa (13 + m))), none] [] M
  refine jj_aload_n (pc := 12) kX_determinant_d12 rfl ?_
  refine jj_getf (pc := 13) kX_determinant_d13 (kfX_M_rows hG) hmm rfl ?_
  refine jj_aload_n (pc := 16) kX_determinant_d16 rfl ?_
  refine jj_getf (pc := 17) kX_determinant_d17 (kfX_M_columns hG) hmm rfl ?_
  refine jn_icmp_eq (pc := 20) (tgt := 33) kX_determinant_d20 (by decide) (by omega) (by omega) (fun cq => ?_) (fun cq => ?_)
  · skip
    obtain ⟨rr, err⟩ : ∃ r, R m = r := ⟨_, rfl⟩
    obtain ⟨cc, ecc⟩ : ∃ c, C m = c := ⟨_, rfl⟩
    rw [err] at erm s1m s2m
    rw [ecc] at ecm s3m s4m
    rw [err, ecc] at hMm hmm hNm
    obtain ⟨bd, ebd⟩ : ∃ b, b = 2865 := ⟨_, rfl⟩
    have hJL := hJ.lj
    obtain ⟨rk0, sw0, m0, w0, P0, B0, g0, hL0⟩ := hO.2.2.2.2.2.1
    have hl0 := hL0.1
    show jj G kX_determinant (d + 10) Q rc rs 33 [some (.ref (oa 0)), some (.int (nI (n))), some (.int (nI (m))), some (.ref (oa (13 + m))), none] [] M
    rw [err, ecc] at cq
    have hsq : cc = rr := cq.symm
    refine jj_aload_n (pc := 33) kX_determinant_d33 rfl ?_
    refine jj_getf (pc := 34) kX_determinant_d34 (kfX_elimination hG) hx rfl ?_
    refine jj_aload_n (pc := 37) kX_determinant_d37 rfl ?_
    refine jn_iconst (pc := 38) 0 kX_determinant_d38 (by decide) ?_
    refine jj_callV (pc := 39) (b := (oa 4)) (As := [.ref (oa (13 + m)), .int (nI (0))]) kX_determinant_d39 (kvX_E_load hG) (kG_cl hG rfl) rfl hl0 rfl rfl rfl (Nat.le_of_ble_eq_true rfl) (Nat.le_of_ble_eq_true rfl) (jj_bare0 rfl) ?_
    refine e_load hG hK hS hJL hL0 hMm (by omega) (by omega) (fun p _ _ => (hJ.capw (p := p) (by omega) (by omega)).1) s2m s4m hNm.1 (by have := hS.1.lc (p := bm + 256) (by omega); rw [hJ.cap125 (by omega) (by omega)] at this; exact this) (by omega) hrc hrs (fun M1 V1 hS1 hL1 vo1 hx1 hR1 => ?_) (fun Mt Vt hSt hLt vot hxt htw y hy => kt Mt 3 6 (Or.inr ⟨n, m, hn, rfl, hm, rfl, Or.inr ⟨by omega, Or.inl ⟨by rw [← erm, ← ecm]; exact toow_heavy hNm (by omega) (by omega) htw, rfl, rfl⟩⟩⟩) (by omega) ⟨Vt, sc, R, C, hSt, (hO.el hLt (fun i h1 h2 _ _ _ => hxt _ (hJ.ne h1 (by omega) h2) (hJ.2.2.1 i h1))), hV.keep (fun p p1 p2 => vot p (by omega) (by omega)) (vot 15 (by omega) (by omega)) (vot 16 (by omega) (by omega)) (fun _ _ => ⟨rfl, rfl⟩)⟩ (hxt.more (fun x e => ⟨4, by omega, e⟩)) y hy)
    have hk1 : ∀ i, i < 31 → i ≠ 4 → i ≠ 6 → i ≠ 7 → i ≠ 8 → M1 (oa i) = M (oa i) := fun i h1 h2 _ _ _ => hx1 _ (hJ.ne h1 (by omega) h2) (hJ.2.2.1 i h1)
    have hO1 := hO.el hL1 hk1
    have hF1 : XF oa M M1 wa la eu dv hi lo := hx1.more (fun x e => ⟨4, by omega, e⟩)
    have hl1 := hL1.1
    have hx1a := hO1.1
    have hMm1 := hO1.2.2.2.2.2.2.2 m (by omega)
    rw [← ebm, err, ecc] at hMm1
    have hmm1 := hMm1.1
    have hgl := glong_eq hNm hR1
    show jj G kX_determinant (d + 10) Q rc rs 42 [some (.ref (oa 0)), some (.int (nI (n))), some (.int (nI (m))), some (.ref (oa (13 + m))), none] [] M1
    refine jj_aload_n (pc := 42) kX_determinant_d42 rfl ?_
    refine jj_getf (pc := 43) kX_determinant_d43 (kfX_elimination hG) hx1a rfl ?_
    refine jj_callV (pc := 46) (b := (oa 4)) (As := []) kX_determinant_d46 (kvX_E_weigh hG) (kG_cl hG rfl) rfl hl1 rfl rfl rfl (Nat.le_of_ble_eq_true rfl) (Nat.le_of_ble_eq_true rfl) (jj_bare0 rfl) ?_
    refine e_weigh hG hK hS1 hJL hL1 s1m s2m s3m (by omega) hrc hrs (fun hnh => ?_) (fun hhv y hy => kt M1 3 6 (Or.inr ⟨n, m, hn, rfl, hm, rfl, Or.inr ⟨by omega, Or.inl ⟨by rw [← erm, ← ecm]; exact (by rw [hgl] at hhv; exact hhv), rfl, rfl⟩⟩⟩) (by omega) ⟨V1, sc, R, C, hS1, hO1, hV.keep (fun p p1 p2 => vo1 p (by omega) (by omega)) (vo1 15 (by omega) (by omega)) (vo1 16 (by omega) (by omega)) (fun _ _ => ⟨rfl, rfl⟩)⟩ hF1 y hy)
    rw [hgl] at hnh
    have hbz := glong_bound (Z := gz V1 g0) (m := rr) (w := cc)
    rw [hgl] at hbz
    have hwt := hvy_pow (show 1 ≤ min rr cc by omega) hnh
    obtain ⟨bz, ebz⟩ : ∃ b, 2 ^ nmax (fun k => rowL (σ.2.2 m) cc k (rowD (σ.2.2 m) cc k 1)) rr = b := ⟨_, rfl⟩
    have hb1 : 1 ≤ bz := by rw [← ebz]; exact Nat.pow_pos (by decide)
    rw [ebz] at hbz hwt
    show jj G kX_determinant (d + 10) Q rc rs 49 [some (.ref (oa 0)), some (.int (nI (n))), some (.int (nI (m))), some (.ref (oa (13 + m))), none] [] M1
    refine jj_aload_n (pc := 49) kX_determinant_d49 rfl ?_
    refine jj_getf (pc := 50) kX_determinant_d50 (kfX_elimination hG) hx1a rfl ?_
    refine jj_aload_n (pc := 53) kX_determinant_d53 rfl ?_
    refine jj_getf (pc := 54) kX_determinant_d54 (kfX_M_columns hG) hmm1 rfl ?_
    refine jj_callV (pc := 57) (b := (oa 4)) (As := [.int (nI (cc))]) kX_determinant_d57 (kvX_E_eliminate hG) (kG_cl hG rfl) rfl hl1 rfl rfl rfl (Nat.le_of_ble_eq_true rfl) (Nat.le_of_ble_eq_true rfl) (jj_bare0 rfl) ?_
    refine e_eliminate hG hK hS1 hJL hL1 hb1 hbz hwt s1m s2m s3m (by omega) (by omega) (fun M2 V2 rk sw P B g p A Bq E hS2 hL2 hx2 vo2 hB2 hPV => ?_)
    have hk2 : ∀ i, i < 31 → i ≠ 4 → i ≠ 6 → i ≠ 7 → i ≠ 8 → M2 (oa i) = M1 (oa i) := fun i h1 h2 h3 h4 h5 => hx2 _ (fun e => by rcases e with e | e | e | e <;> exact absurd e (hJ.ne h1 (by omega) (by assumption))) (hJ.2.2.1 i h1)
    have hO2 := hO1.el hL2 hk2
    have hF2 : XF oa M M2 wa la eu dv hi lo := hF1.trans (hx2.more (fun x e => by rcases e with e | e | e | e; exact ⟨4, by omega, e⟩; exact ⟨6, by omega, e⟩; exact ⟨7, by omega, e⟩; exact ⟨8, by omega, e⟩))
    have v2 : ∀ p, 13 ≤ p → p < 17 ∨ 547 ≤ p → V2 p = V p := fun p h1 h2 => by rw [vo2 p h1 (by omega) (by omega)]; exact vo1 p h1 h2
    have hl2 := hL2.1
    have hx2a := hO2.1
    have hMm2 := hO2.2.2.2.2.2.2.2 m (by omega)
    rw [← ebm, err, ecc] at hMm2
    have hmm2 := hMm2.1
    have hrk := hB2.1.1
    have hrkc := hB2.rkc
    have hpc := hB2.2.1.2.1
    show jj G kX_determinant (d + 10) Q rc rs 60 [some (.ref (oa 0)), some (.int (nI (n))), some (.int (nI (m))), some (.ref (oa (13 + m))), none] [] M2
    obtain ⟨L, eL⟩ : ∃ L, V2 33 = L := ⟨_, rfl⟩
    rw [eL] at hB2
    have hLne := hB2.ne
    have lL : lc L ≤ 63 := (hB2.lcL (Nat.le_refl _) hb1 hbz hwt).1
    have hfac : ∀ i, i < rr → V2 (17 + i) = rowD (σ.2.2 m) cc i 1 := fun i hi' => by rw [vo2 _ (by omega) (by omega) (by omega)]; exact rowd_fac hNm hi' (hR1 i hi')
    obtain ⟨F, eF⟩ : ∃ F : Nat → Int, F = fun i => rowD (σ.2.2 m) cc i 1 := ⟨_, rfl⟩
    have hFp : ∀ i, 0 < F i := fun i => by rw [eF]; exact rowD_pos (by decide)
    obtain ⟨dq, edq⟩ : ∃ q : Rat, det rr (qA (σ.2.2 m) cc) = q := ⟨_, rfl⟩
    have hdet : ((zprod F rr : Int) : Rat) * dq = if rk = rr then sgn1 sw * ((L : Int) : Rat) else 0 := by
      have hB3 := hB2
      rw [hsq] at hB3
      rw [← hB3.dtm, ← edq, ← qprod_cast, ← det_scale]
      refine det_congr (fun i hi' j hj' => ?_)
      have := (rowd_cell hNm hi' (hR1 i hi') (j := j) (by omega)).2
      have e0 : bcol 0 cc j = j := by unfold bcol; rw [if_neg (by omega)]
      rw [e0] at this
      rw [this, eF]
      rfl
    have hzp : ∀ k, 0 < zprod F k := fun k => by
      induction k with
      | zero => show (0 : Int) < 1; decide
      | succ k ih => exact Int.mul_pos ih (hFp k)
    have hfr2 := hO2.2.2.2.1
    have c13 : cap 13 = 252 := hJ.2.1 13 (by omega)
    have c14 : cap 14 = 252 := hJ.2.1 14 (by omega)
    have hcap := hK.2.2.1
    have hMd2 := hO2.dr ebd
    have hmd2 := hMd2.1
    have fin : ∀ (o4 : Option Value) (M4 : mheap) (V4 : Nat → Int), KS M4 wa la cap 3122 eu dv hi lo (oa 3) V4 → XO M4 wa oa sc R C → V4 13 = dq.num → V4 14 = (dq.den : Int) → (∀ p, 15 ≤ p → p < 17 ∨ 547 ≤ p → V4 p = V p) → XF oa M M4 wa la eu dv hi lo → jj G kX_determinant (d + 10) Q rc rs 181 [some (.ref (oa 0)), some (.int (nI (n))), some (.int (nI (m))), some (.ref (oa (13 + m))), (o4)] [] M4 := by
      intro o4 M4 V4 hS4 hO4 v13 v14 vo4 hF4
      have hx4 := hO4.1
      have hMd4 := hO4.dr ebd
      have hmd4 := hMd4.1
      show jj G kX_determinant (d + 10) Q rc rs 181 [some (.ref (oa 0)), some (.int (nI (n))), some (.int (nI (m))), some (.ref (oa (13 + m))), (o4)] [] M4
      refine jj_aload_n (pc := 181) kX_determinant_d181 rfl ?_
      refine jj_getf (pc := 182) kX_determinant_d182 (kfX_draft hG) hx4 rfl ?_
      refine jn_iconst (pc := 185) 1 kX_determinant_d185 (by decide) ?_
      refine jn_iconst (pc := 186) 1 kX_determinant_d186 (by decide) ?_
      refine jj_callV (pc := 187) (b := (oa 21)) (As := [.int (nI (1)), .int (nI (1))]) kX_determinant_d187 (kvX_M_clear hG) (kG_cl hG rfl) rfl hmd4 rfl rfl rfl (Nat.le_of_ble_eq_true rfl) (Nat.le_of_ble_eq_true rfl) (jj_bare0 rfl) ?_
      refine m_clear hG hK hS4 hMd4 (by omega) (by omega) (by have := (hJ.capw (p := bd + 256) (by omega) (by omega)).2; exact this) (by omega) (by omega) (fun M5 V5 hS5 hMd5 vc5 v05 vo5 f5 => ?_)
      obtain ⟨R1, C1, hO5, e8, f8, rk1, hFd⟩ := hO4.draft hJ hMd5 ebd f5
      have hF5 := hF4.trans hFd
      have hx5 := hO5.1
      have hmd5 := hMd5.1
      have hfr5 := hO5.2.2.2.1
      obtain ⟨hc0, ⟨r_c, px_c, pf_c, py_c, po_c, ps_c, od_c, hU0⟩, hdk0⟩ := id hS5
      have hf0 : EF M5 M5 wa la 3122 eu dv hi lo := fun _ _ _ _ _ _ => rfl
      obtain ⟨V0, hV0⟩ : ∃ V0, V5 = V0 := ⟨_, rfl⟩
      rw [hV0] at hc0
      have hn0 := hU0.1
      have b_r0 := hn0.2.1
      have b_x0 := hn0.2.2.1
      have b_f0 := hn0.2.2.2.1
      have hdv0 := hU0.2.1
      obtain ⟨ea0, eb0, ec0, ed0, hE0⟩ := hU0.2.2.2
      have hD0 := hdv0.1
      obtain ⟨_, hN, _, hdi⟩ := id hK
      rw [hV0] at vo5
      have u13 : V0 13 = dq.num := by rw [vo5 13 (by omega)]; exact v13
      have u14 : V0 14 = (dq.den : Int) := by rw [vo5 14 (by omega)]; exact v14
      obtain ⟨Tbd256_0, tbd256_0, hTbd256_0, _, _⟩ := hc0 (bd + 256) (by omega)
      show jj G kX_determinant (d + 10) Q rc rs 190 [some (.ref (oa 0)), some (.int (nI (n))), some (.int (nI (m))), some (.ref (oa (13 + m))), (o4)] [] M5
      refine jj_aload_n (pc := 190) kX_determinant_d190 rfl ?_
      refine jj_getf (pc := 191) kX_determinant_d191 (kfX_draft hG) hx5 rfl ?_
      refine jj_getf (pc := 194) kX_determinant_d194 (kfX_M_common hG) hmd5 rfl ?_
      refine jj_aload_n (pc := 197) kX_determinant_d197 rfl ?_
      refine jj_getf (pc := 198) kX_determinant_d198 (kfX_fraction hG) hx5 rfl ?_
      refine jj_getf (pc := 201) kX_determinant_d201 (kfX_F_lower hG) hfr5 rfl ?_
      refine jj_callV (pc := 204) (b := (wa (bd + 256))) (As := [.ref (wa 14)]) kX_determinant_d204 (kvX_W_copy hG) (kG_cl hG rfl) rfl hTbd256_0 rfl rfl rfl (Nat.le_of_ble_eq_true rfl) (Nat.le_of_ble_eq_true rfl) (jj_bare0 rfl) ?_
      refine w_copy hG hI hc0 (by omega : bd + 256 < 3122) (by omega : 14 < 3122) (by rw [hJ.cap252 (by omega) (by omega), ← c14]; exact hc0.wide (by omega)) (fun M1 hcx1 hw1  => ?_) 
      obtain ⟨V1, hV1⟩ : ∃ W, vup V0 (bd + 256) (V0 14) = W := ⟨_, rfl⟩
      have hc1 : CW M1 wa la cap 3122 V1 := by rw [← hV1]; exact hcx1
      have at1 : V1 (bd + 256) = V0 14 := by rw [← hV1, vup_at]
      have ot1 : ∀ p, p ≠ (bd + 256) → V1 p = V0 p := fun p hp => by rw [← hV1, vup_ne _ _ hp]
      have hU1 := hU0.wt hc0 hdi (by omega) hw1
      have hf1 := hf0.trans (hw1.ef (by omega))
      have q1_oa0 := (hw1.ef (eu := eu) (dv := dv) (hi := hi) (lo := lo) (by omega)).obj hc0 hU0 hx5 (by decide) (by decide) (by decide)
      have q1_oa21 := (hw1.ef (eu := eu) (dv := dv) (hi := hi) (lo := lo) (by omega)).obj hc0 hU0 hmd5 (by decide) (by decide) (by decide)
      have q1_oa11 := (hw1.ef (eu := eu) (dv := dv) (hi := hi) (lo := lo) (by omega)).obj hc0 hU0 hfr5 (by decide) (by decide) (by decide)
      have q1_oa3 := (hw1.ef (eu := eu) (dv := dv) (hi := hi) (lo := lo) (by omega)).obj hc0 hU0 hdk0 (by decide) (by decide) (by decide)
      have hn1 := hU1.1
      have b_r1 := hn1.2.1
      have b_x1 := hn1.2.2.1
      have b_f1 := hn1.2.2.2.1
      have hdv1 := hU1.2.1
      obtain ⟨ea1, eb1, ec1, ed1, hE1⟩ := hU1.2.2.2
      have hD1 := hdv1.1
      show jj G kX_determinant (d + 10) Q rc rs 207 [some (.ref (oa 0)), some (.int (nI (n))), some (.int (nI (m))), some (.ref (oa (13 + m))), (o4)] [] M1
      have hMd6 := hMd5.ef hS5 hf1
      refine jj_aload_n (pc := 207) kX_determinant_d207 rfl ?_
      refine jj_getf (pc := 208) kX_determinant_d208 (kfX_draft hG) q1_oa0 rfl ?_
      refine jn_iconst (pc := 211) 0 kX_determinant_d211 (by decide) ?_
      refine jn_iconst (pc := 212) 0 kX_determinant_d212 (by decide) ?_
      refine jj_callV (pc := 213) (b := (oa 21)) (As := [.int (nI (0)), .int (nI (0))]) kX_determinant_d213 (kvX_M_at hG) (kG_cl hG rfl) rfl q1_oa21 rfl rfl rfl (Nat.le_of_ble_eq_true rfl) (Nat.le_of_ble_eq_true rfl) (jj_bare0 rfl) ?_
      refine m_at hG hMd6 (i := 0) (j := 0) (by omega) (by omega) ?_
      show jj G kX_determinant (d + 10) Q rc rs 216 [some (.ref (oa 0)), some (.int (nI (n))), some (.int (nI (m))), some (.ref (oa (13 + m))), (o4)] [.ref (wa (bd + (16 * 0 + 0)))] M1
      obtain ⟨Tbd1600_1, tbd1600_1, hTbd1600_1, _, _⟩ := hc1 (bd + (16 * 0 + 0)) (by omega)
      refine jj_aload_n (pc := 216) kX_determinant_d216 rfl ?_
      refine jj_getf (pc := 217) kX_determinant_d217 (kfX_fraction hG) q1_oa0 rfl ?_
      refine jj_getf (pc := 220) kX_determinant_d220 (kfX_F_upper hG) q1_oa11 rfl ?_
      have w13 : V1 13 = V0 13 := ot1 13 (by omega)
      refine jj_callV (pc := 223) (b := (wa (bd + (16 * 0 + 0)))) (As := [.ref (wa 13)]) kX_determinant_d223 (kvX_W_copy hG) (kG_cl hG rfl) rfl hTbd1600_1 rfl rfl rfl (Nat.le_of_ble_eq_true rfl) (Nat.le_of_ble_eq_true rfl) (jj_bare0 rfl) ?_
      refine w_copy hG hI hc1 (by omega : (bd + (16 * 0 + 0)) < 3122) (by omega : 13 < 3122) (by rw [hJ.cap252 (by omega) (by omega), ← c13]; exact hc1.wide (by omega)) (fun M2 hcx2 hw2  => ?_) 
      obtain ⟨V2, hV2⟩ : ∃ W, vup V1 (bd + (16 * 0 + 0)) (V1 13) = W := ⟨_, rfl⟩
      have hc2 : CW M2 wa la cap 3122 V2 := by rw [← hV2]; exact hcx2
      have at2 : V2 (bd + (16 * 0 + 0)) = V1 13 := by rw [← hV2, vup_at]
      have ot2 : ∀ p, p ≠ (bd + (16 * 0 + 0)) → V2 p = V1 p := fun p hp => by rw [← hV2, vup_ne _ _ hp]
      have hU2 := hU1.wt hc1 hdi (by omega) hw2
      have hf2 := hf1.trans (hw2.ef (by omega))
      have q2_oa0 := (hw2.ef (eu := eu) (dv := dv) (hi := hi) (lo := lo) (by omega)).obj hc1 hU1 q1_oa0 (by decide) (by decide) (by decide)
      have q2_oa21 := (hw2.ef (eu := eu) (dv := dv) (hi := hi) (lo := lo) (by omega)).obj hc1 hU1 q1_oa21 (by decide) (by decide) (by decide)
      have q2_oa11 := (hw2.ef (eu := eu) (dv := dv) (hi := hi) (lo := lo) (by omega)).obj hc1 hU1 q1_oa11 (by decide) (by decide) (by decide)
      have q2_oa3 := (hw2.ef (eu := eu) (dv := dv) (hi := hi) (lo := lo) (by omega)).obj hc1 hU1 q1_oa3 (by decide) (by decide) (by decide)
      have hn2 := hU2.1
      have b_r2 := hn2.2.1
      have b_x2 := hn2.2.2.1
      have b_f2 := hn2.2.2.2.1
      have hdv2 := hU2.2.1
      obtain ⟨ea2, eb2, ec2, ed2, hE2⟩ := hU2.2.2.2
      have hD2 := hdv2.1
      show jj G kX_determinant (d + 10) Q rc rs 226 [some (.ref (oa 0)), some (.int (nI (n))), some (.int (nI (m))), some (.ref (oa (13 + m))), (o4)] [] M2
      have hN2 : NRM V2 bd 1 1 (fun _ => dq) := least_nrm (by rw [ot2 _ (by omega), at1, u14]) (by rw [at2, w13, u13])
      have ova : ∀ p, 15 ≤ p → (p < 17 ∨ 547 ≤ p) → p < 2865 → V2 p = V p := fun p h1 h2 h3 => by rw [ot2 p (by omega), ot1 p (by omega), vo5 p (by omega)]; exact vo4 p h1 h2
      have hO7 := hO5.ef hJ hf2
      have hx7 := hO7.1
      have hF7 := hF5.trans (hf2.efx (X := XAD oa))
      have hS7 : KS M2 wa la cap 3122 eu dv hi lo (oa 3) V2 := ⟨hc2, ⟨r_c, px_c, pf_c, py_c, po_c, ps_c, od_c, hU2⟩, q2_oa3⟩
      show jj G kX_determinant (d + 10) Q rc rs 226 [some (.ref (oa 0)), some (.int (nI (n))), some (.int (nI (m))), some (.ref (oa (13 + m))), (o4)] [] M2
      refine jj_aload_n (pc := 226) kX_determinant_d226 rfl ?_
      refine jj_iload_n (pc := 227) kX_determinant_d227 rfl ?_
      refine jj_callV (pc := 228) (b := (oa 0)) (As := [.int (nI (n))]) kX_determinant_d228 (kvX_X_keepDraft hG) (kG_cl hG rfl) rfl hx7 rfl rfl rfl (Nat.le_of_ble_eq_true rfl) (Nat.le_of_ble_eq_true rfl) (jj_bare0 rfl) ?_
      refine x_keepDraft hG hJ hS7 hO7 (q := (fun _ => dq)) (by omega) (by omega) (by omega) (by omega) hn (by rw [e8, f8, ← ebd]; exact hN2) hrc hrs (fun Mb Vc hfit hSb hOb hNb vb hFb => ?_) (fun hnf y hy => kt M2 3 6 (Or.inr ⟨n, m, hn, rfl, hm, rfl, Or.inr ⟨by omega, Or.inr ⟨by rw [← erm, ← ecm]; exact hnh, by rw [← erm, ← ecm, edq]; exact Or.inr ⟨by rw [e8, f8] at hnf; exact hnf, rfl, rfl⟩⟩⟩⟩) (by omega) ⟨V2, sc, R1, C1, hS7, hO7, hV.keep (fun p p1 p2 => ova p (by omega) (by omega) p2) (ova 15 (by omega) (by omega) (by omega)) (ova 16 (by omega) (by omega) (by omega)) rk1⟩ hF7 y hy)
      rw [e8, f8] at hfit hNb
      show jj G kX_determinant (d + 10) Q rc rs 231 [some (.ref (oa 0)), some (.int (nI (n))), some (.int (nI (m))), some (.ref (oa (13 + m))), (o4)] [] Mb
      exact jj_vret (pc := 231) kX_determinant_d231 rfl (kr Mb _ (Or.inr ⟨n, m, hn, rfl, hm, rfl, Or.inr ⟨by omega, Or.inr ⟨by rw [← erm, ← ecm]; exact hnh, by rw [← erm, ← ecm, edq]; exact Or.inl ⟨hfit, rfl, rfl⟩⟩⟩⟩) ⟨Vc, -1, _, _, hSb, hOb, hV.put (n := n) (r := 1) (c := 1) (q := (fun _ => dq)) hn (fun p _ _ p3 => by rw [vb p (by omega) p3]; exact ova p (by omega) (by omega) (by omega)) (fun k hk => by show (if k = n then R1 8 else R1 k) = _; rw [e8, (rk1 k hk).1]) (fun k hk => by show (if k = n then C1 8 else C1 k) = _; rw [f8, (rk1 k hk).2]) (by omega) (by omega) (by omega) (by omega) hNb⟩ (hF7.trans hFb))
    obtain ⟨hc0, ⟨r_a, px_a, pf_a, py_a, po_a, ps_a, od_a, hU0⟩, hdk0⟩ := id hS2
    have hf0 : EF M2 M2 wa la 3122 eu dv hi lo := fun _ _ _ _ _ _ => rfl
    obtain ⟨V0, hV0⟩ : ∃ V0, V2 = V0 := ⟨_, rfl⟩
    rw [hV0] at hc0
    have hn0 := hU0.1
    have b_r0 := hn0.2.1
    have b_x0 := hn0.2.2.1
    have b_f0 := hn0.2.2.2.1
    have hdv0 := hU0.2.1
    obtain ⟨ea0, eb0, ec0, ed0, hE0⟩ := hU0.2.2.2
    have hD0 := hdv0.1
    obtain ⟨_, hN, _, hdi⟩ := id hK
    rw [hV0] at eL hfac v2
    show jj G kX_determinant (d + 10) Q rc rs 60 [some (.ref (oa 0)), some (.int (nI (n))), some (.int (nI (m))), some (.ref (oa (13 + m))), none] [] M2
    obtain ⟨T13_0, t13_0, hT13_0, _, _⟩ := hc0 13 (by omega)
    refine jj_aload_n (pc := 60) kX_determinant_d60 rfl ?_
    refine jj_getf (pc := 61) kX_determinant_d61 (kfX_fraction hG) hx2a rfl ?_
    refine jj_getf (pc := 64) kX_determinant_d64 (kfX_F_upper hG) hfr2 rfl ?_
    refine jj_callV (pc := 67) (b := (wa 13)) (As := []) kX_determinant_d67 (kvX_W_putZero hG) (kG_cl hG rfl) rfl hT13_0 rfl rfl rfl (Nat.le_of_ble_eq_true rfl) (Nat.le_of_ble_eq_true rfl) (jj_bare0 rfl) ?_
    refine w_putZero hG hI hc0 (by omega : 13 < 3122) (fun M1 hcx1 hw1  => ?_) 
    obtain ⟨V1, hV1⟩ : ∃ W, vup V0 13 (0) = W := ⟨_, rfl⟩
    have hc1 : CW M1 wa la cap 3122 V1 := by rw [← hV1]; exact hcx1
    have at1 : V1 13 = 0 := by rw [← hV1, vup_at]
    have ot1 : ∀ p, p ≠ 13 → V1 p = V0 p := fun p hp => by rw [← hV1, vup_ne _ _ hp]
    have hU1 := hU0.wt hc0 hdi (by omega) hw1
    have hf1 := hf0.trans (hw1.ef (by omega))
    have q1_oa0 := (hw1.ef (eu := eu) (dv := dv) (hi := hi) (lo := lo) (by omega)).obj hc0 hU0 hx2a (by decide) (by decide) (by decide)
    have q1_oa11 := (hw1.ef (eu := eu) (dv := dv) (hi := hi) (lo := lo) (by omega)).obj hc0 hU0 hfr2 (by decide) (by decide) (by decide)
    have q1_oa4 := (hw1.ef (eu := eu) (dv := dv) (hi := hi) (lo := lo) (by omega)).obj hc0 hU0 hl2 (by decide) (by decide) (by decide)
    have q1_oa13m := (hw1.ef (eu := eu) (dv := dv) (hi := hi) (lo := lo) (by omega)).obj hc0 hU0 hmm2 (by decide) (by decide) (by decide)
    have q1_oa3 := (hw1.ef (eu := eu) (dv := dv) (hi := hi) (lo := lo) (by omega)).obj hc0 hU0 hdk0 (by decide) (by decide) (by decide)
    have hn1 := hU1.1
    have b_r1 := hn1.2.1
    have b_x1 := hn1.2.2.1
    have b_f1 := hn1.2.2.2.1
    have hdv1 := hU1.2.1
    obtain ⟨ea1, eb1, ec1, ed1, hE1⟩ := hU1.2.2.2
    have hD1 := hdv1.1
    show jj G kX_determinant (d + 10) Q rc rs 70 [some (.ref (oa 0)), some (.int (nI (n))), some (.int (nI (m))), some (.ref (oa (13 + m))), none] [] M1
    obtain ⟨T14_1, t14_1, hT14_1, _, _⟩ := hc1 14 (by omega)
    refine jj_aload_n (pc := 70) kX_determinant_d70 rfl ?_
    refine jj_getf (pc := 71) kX_determinant_d71 (kfX_fraction hG) q1_oa0 rfl ?_
    refine jj_getf (pc := 74) kX_determinant_d74 (kfX_F_lower hG) q1_oa11 rfl ?_
    refine jj_callV (pc := 77) (b := (wa 14)) (As := []) kX_determinant_d77 (kvX_W_putOne hG) (kG_cl hG rfl) rfl hT14_1 rfl rfl rfl (Nat.le_of_ble_eq_true rfl) (Nat.le_of_ble_eq_true rfl) (jj_bare0 rfl) ?_
    refine w_putOne hG hI hc1 (by omega : 14 < 3122) (by rw [c14]; omega) (fun M2 hcx2 hw2  => ?_) 
    obtain ⟨V2, hV2⟩ : ∃ W, vup V1 14 (1) = W := ⟨_, rfl⟩
    have hc2 : CW M2 wa la cap 3122 V2 := by rw [← hV2]; exact hcx2
    have at2 : V2 14 = 1 := by rw [← hV2, vup_at]
    have ot2 : ∀ p, p ≠ 14 → V2 p = V1 p := fun p hp => by rw [← hV2, vup_ne _ _ hp]
    have hU2 := hU1.wt hc1 hdi (by omega) hw2
    have hf2 := hf1.trans (hw2.ef (by omega))
    have q2_oa0 := (hw2.ef (eu := eu) (dv := dv) (hi := hi) (lo := lo) (by omega)).obj hc1 hU1 q1_oa0 (by decide) (by decide) (by decide)
    have q2_oa11 := (hw2.ef (eu := eu) (dv := dv) (hi := hi) (lo := lo) (by omega)).obj hc1 hU1 q1_oa11 (by decide) (by decide) (by decide)
    have q2_oa4 := (hw2.ef (eu := eu) (dv := dv) (hi := hi) (lo := lo) (by omega)).obj hc1 hU1 q1_oa4 (by decide) (by decide) (by decide)
    have q2_oa13m := (hw2.ef (eu := eu) (dv := dv) (hi := hi) (lo := lo) (by omega)).obj hc1 hU1 q1_oa13m (by decide) (by decide) (by decide)
    have q2_oa3 := (hw2.ef (eu := eu) (dv := dv) (hi := hi) (lo := lo) (by omega)).obj hc1 hU1 q1_oa3 (by decide) (by decide) (by decide)
    have hn2 := hU2.1
    have b_r2 := hn2.2.1
    have b_x2 := hn2.2.2.1
    have b_f2 := hn2.2.2.2.1
    have hdv2 := hU2.2.1
    obtain ⟨ea2, eb2, ec2, ed2, hE2⟩ := hU2.2.2.2
    have hD2 := hdv2.1
    show jj G kX_determinant (d + 10) Q rc rs 80 [some (.ref (oa 0)), some (.int (nI (n))), some (.int (nI (m))), some (.ref (oa (13 + m))), none] [] M2
    have o2 : ∀ p, 15 ≤ p → V2 p = V0 p := fun p h => by rw [ot2 p (by omega), ot1 p (by omega)]
    have hO4 := hO2.ef hJ hf2
    refine jj_aload_n (pc := 80) kX_determinant_d80 rfl ?_
    refine jj_getf (pc := 81) kX_determinant_d81 (kfX_elimination hG) q2_oa0 rfl ?_
    refine jj_getf (pc := 84) kX_determinant_d84 (kfX_E_rank hG) q2_oa4 rfl ?_
    refine jj_aload_n (pc := 87) kX_determinant_d87 rfl ?_
    refine jj_getf (pc := 88) kX_determinant_d88 (kfX_M_rows hG) q2_oa13m rfl ?_
    refine jn_icmp_ne (pc := 91) (tgt := 181) kX_determinant_d91 (by decide) (by omega) (by omega) (fun cr => ?_) (fun cr => ?_)
    · skip
      show jj G kX_determinant (d + 10) Q rc rs 181 [some (.ref (oa 0)), some (.int (nI (n))), some (.int (nI (m))), some (.ref (oa (13 + m))), none] [] M2
      have hd0 : dq = 0 := by
        rw [if_neg cr] at hdet
        have := rat_ne (show zprod F rr ≠ 0 by have := hzp rr; omega)
        grind
      refine fin _ M2 V2 ⟨hc2, ⟨r_a, px_a, pf_a, py_a, po_a, ps_a, od_a, hU2⟩, q2_oa3⟩ hO4 ?_ ?_ (fun p h1 h2 => by rw [o2 p h1]; exact v2 p (by omega) h2) (hF2.trans (hf2.efx (X := XAD oa)))
      · rw [ot2 13 (by omega), at1, hd0]; rfl
      · rw [at2, hd0]; rfl
    · skip
      rw [if_pos cr] at hdet
      have w33 : V2 33 = L := by rw [o2 33 (by omega)]; exact eL
      obtain ⟨T13_2, t13_2, hT13_2, _, _⟩ := hc2 13 (by omega)
      refine jj_aload_n (pc := 94) kX_determinant_d94 rfl ?_
      refine jj_getf (pc := 95) kX_determinant_d95 (kfX_fraction hG) q2_oa0 rfl ?_
      refine jj_getf (pc := 98) kX_determinant_d98 (kfX_F_upper hG) q2_oa11 rfl ?_
      refine jj_aload_n (pc := 101) kX_determinant_d101 rfl ?_
      refine jj_getf (pc := 102) kX_determinant_d102 (kfX_elimination hG) q2_oa0 rfl ?_
      refine jj_getf (pc := 105) kX_determinant_d105 (kfX_E_last hG) q2_oa4 rfl ?_
      refine jj_callV (pc := 108) (b := (wa 13)) (As := [.ref (wa 33)]) kX_determinant_d108 (kvX_W_copy hG) (kG_cl hG rfl) rfl hT13_2 rfl rfl rfl (Nat.le_of_ble_eq_true rfl) (Nat.le_of_ble_eq_true rfl) (jj_bare0 rfl) ?_
      refine w_copy hG hI hc2 (by omega : 13 < 3122) (by omega : 33 < 3122) (by rw [w33, c13]; exact lc_room (by omega)) (fun M3 hcx3 hw3  => ?_) 
      obtain ⟨V3, hV3⟩ : ∃ W, vup V2 13 (V2 33) = W := ⟨_, rfl⟩
      have hc3 : CW M3 wa la cap 3122 V3 := by rw [← hV3]; exact hcx3
      have at3 : V3 13 = V2 33 := by rw [← hV3, vup_at]
      have ot3 : ∀ p, p ≠ 13 → V3 p = V2 p := fun p hp => by rw [← hV3, vup_ne _ _ hp]
      have hU3 := hU2.wt hc2 hdi (by omega) hw3
      have hf3 := hf2.trans (hw3.ef (by omega))
      have q3_oa0 := (hw3.ef (eu := eu) (dv := dv) (hi := hi) (lo := lo) (by omega)).obj hc2 hU2 q2_oa0 (by decide) (by decide) (by decide)
      have q3_oa11 := (hw3.ef (eu := eu) (dv := dv) (hi := hi) (lo := lo) (by omega)).obj hc2 hU2 q2_oa11 (by decide) (by decide) (by decide)
      have q3_oa4 := (hw3.ef (eu := eu) (dv := dv) (hi := hi) (lo := lo) (by omega)).obj hc2 hU2 q2_oa4 (by decide) (by decide) (by decide)
      have q3_oa13m := (hw3.ef (eu := eu) (dv := dv) (hi := hi) (lo := lo) (by omega)).obj hc2 hU2 q2_oa13m (by decide) (by decide) (by decide)
      have q3_oa3 := (hw3.ef (eu := eu) (dv := dv) (hi := hi) (lo := lo) (by omega)).obj hc2 hU2 q2_oa3 (by decide) (by decide) (by decide)
      have hn3 := hU3.1
      have b_r3 := hn3.2.1
      have b_x3 := hn3.2.2.1
      have b_f3 := hn3.2.2.2.1
      have hdv3 := hU3.2.1
      obtain ⟨ea3, eb3, ec3, ed3, hE3⟩ := hU3.2.2.2
      have hD3 := hdv3.1
      show jj G kX_determinant (d + 10) Q rc rs 111 [some (.ref (oa 0)), some (.int (nI (n))), some (.int (nI (m))), some (.ref (oa (13 + m))), none] [] M3
      rw [w33] at at3
      have w33b : V3 33 = L := by rw [ot3 33 (by omega)]; exact w33
      obtain ⟨T33_3, t33_3, hT33_3, _, _⟩ := hc3 33 (by omega)
      obtain ⟨D13, t13, hD13, hD13b, hD13c, hD13d⟩ := hc3 13 (by omega)
      rw [at3] at hD13 hD13d
      refine jj_aload_n (pc := 111) kX_determinant_d111 rfl ?_
      refine jj_getf (pc := 112) kX_determinant_d112 (kfX_fraction hG) q3_oa0 rfl ?_
      refine jj_getf (pc := 115) kX_determinant_d115 (kfX_F_upper hG) q3_oa11 rfl ?_
      refine jj_aload_n (pc := 118) kX_determinant_d118 rfl ?_
      refine jj_getf (pc := 119) kX_determinant_d119 (kfX_elimination hG) q3_oa0 rfl ?_
      refine jj_getf (pc := 122) kX_determinant_d122 (kfX_E_last hG) q3_oa4 rfl ?_
      refine jj_getf (pc := 125) kX_determinant_d125 (kfX_W_below hG) hT33_3 rfl ?_
      refine jj_aload_n (pc := 128) kX_determinant_d128 rfl ?_
      refine jj_getf (pc := 129) kX_determinant_d129 (kfX_elimination hG) q3_oa0 rfl ?_
      have hsw : sw ≤ 1 := hB2.2.2.2.2.2.2.1.1
      obtain ⟨sL, esL⟩ : ∃ z : Int, z = if sw = 1 then -L else L := ⟨_, rfl⟩
      have nsL : sL.natAbs = L.natAbs := by rw [esL]; split <;> omega
      have hsg : ((sL : Int) : Rat) = sgn1 sw * ((L : Int) : Rat) := by
        rw [esL]
        unfold sgn1
        split
        · rw [Rat.intCast_neg]; grind
        · grind
      show jj G kX_determinant (d + 10) Q rc rs 132 [some (.ref (oa 0)), some (.int (nI (n))), some (.int (nI (m))), some (.ref (oa (13 + m))), none] [.ref (oa 4), .int (sg (V3 33)), .ref (wa 13)] M3
      refine jj_getf (pc := 132) kX_determinant_d132 (kfX_E_swapped hG) q3_oa4 rfl ?_
      rw [w33b]
      show jj G kX_determinant (d + 10) Q rc rs 135 [some (.ref (oa 0)), some (.int (nI (n))), some (.int (nI (m))), some (.ref (oa (13 + m))), none] [.int (nI (sw)), .int (sg L), .ref (wa 13)] M3
      have go : ∀ (M5 : mheap), (∀ x, x ≠ wa 13 → M5 x = M3 x) → M5 (wa 13) = some (.inl nW, [.ref (la 13), .int (nI t13), .int (sg sL)]) → jj G kX_determinant (d + 10) Q rc rs 146 [some (.ref (oa 0)), some (.int (nI (n))), some (.int (nI (m))), some (.ref (oa (13 + m))), none] [] M5 := by
        intro M5 hu5 h513
        have hWT : WT M3 M5 wa la 13 := fun x h1 _ => hu5 x h1
        have hLa : la 13 ≠ wa 13 := fun e => by rw [e, hD13] at hD13b; cases hD13b
        have hc5 : CW M5 wa la cap 3122 (vup V3 13 sL) := hc3.put hI (by omega) ⟨D13, t13, h513, (hu5 _ hLa).trans hD13b, hD13c, hD13d.1, by rw [nsL]; exact hD13d.2.1, hD13d.2.2⟩ hWT
        have hS3 : KS M3 wa la cap 3122 eu dv hi lo (oa 3) V3 := ⟨hc3, ⟨r_a, px_a, pf_a, py_a, po_a, ps_a, od_a, hU3⟩, q3_oa3⟩
        have hS5 := hS3.wt hK (by omega) hWT hc5
        have hw5e : EF M3 M5 wa la 3122 eu dv hi lo := hWT.ef (by omega)
        have hf5 := hf3.trans hw5e
        have hO5 := hO2.ef hJ hf5
        have hL5 := hL2.ef hJL hf5
        obtain ⟨V5, eV5⟩ : ∃ W, vup V3 13 sL = W := ⟨_, rfl⟩
        rw [eV5] at hS5
        have a13 : V5 13 = sL := by rw [← eV5, vup_at]
        have a14 : V5 14 = 1 := by rw [← eV5, vup_ne _ _ (by omega), ot3 14 (by omega), at2]
        have o5 : ∀ p, 15 ≤ p → V5 p = V0 p := fun p h => by rw [← eV5, vup_ne _ _ (by omega), ot3 p (by omega)]; exact o2 p h
        have hF5 := hF2.trans (hf5.efx (X := XAD oa))
        refine jn_iconst (pc := 146) 0 kX_determinant_d146 (by decide) ?_
        refine jj_istore (pc := 147) kX_determinant_d147 (Nat.le_of_ble_eq_true rfl) ?_
        show jj G kX_determinant (d + 10) Q rc rs 149 [some (.ref (oa 0)), some (.int (nI (n))), some (.int (nI (m))), some (.ref (oa (13 + m))), some (.int (nI (0)))] [] M5
        show jj G kX_determinant (d + 10) Q rc rs 149 [some (.ref (oa 0)), some (.int (nI (n))), some (.int (nI (m))), some (.ref (oa (13 + m))), some (.int (nI (0)))] [] M5
        have loop : ∀ mu i, rr = i + mu → ∀ (M9 : mheap) (V9 : Nat → Int), KS M9 wa la cap 3122 eu dv hi lo (oa 3) V9 → EF M5 M9 wa la 3122 eu dv hi lo → least sL (zprod F i) (V9 13) (V9 14) → blen (V9 14) ≤ 4000 → (∀ p, 15 ≤ p → V9 p = V0 p) → jj G kX_determinant (d + 10) Q rc rs 149 [some (.ref (oa 0)), some (.int (nI (n))), some (.int (nI (m))), some (.ref (oa (13 + m))), some (.int (nI (i)))] [] M9 := by
          intro mu
          induction mu with
          | zero =>
            intro i hk M9 V9 hS9 f9 l9 b9 o9
            have ei : rr = i := by omega
            subst ei
            have hO9 := hO5.ef hJ f9
            have hL9 := hL5.ef hJL f9
            have hx9 := hO9.1
            have hl9 := hL9.1
            have hmm9 := (hO9.2.2.2.2.2.2.2 m (by omega)).1
            rw [← ebm, err, ecc] at hmm9
            have hfr9 := hO9.2.2.2.1
            refine jj_iload (pc := 149) kX_determinant_d149 rfl ?_
            refine jj_aload_n (pc := 151) kX_determinant_d151 rfl ?_
            refine jj_getf (pc := 152) kX_determinant_d152 (kfX_M_rows hG) hmm9 rfl ?_
            refine jn_icmp_ge (pc := 155) (tgt := 181) kX_determinant_d155 (by decide) (by omega) (by omega) (fun _ => ?_) (fun c => by exfalso; omega)
            show jj G kX_determinant (d + 10) Q rc rs 181 [some (.ref (oa 0)), some (.int (nI (n))), some (.int (nI (m))), some (.ref (oa (13 + m))), some (.int (nI (rr)))] [] M9
            obtain ⟨n1, n2⟩ := least_rat (q := dq) l9 (by have := hzp rr; omega) (by rw [hsg, ← hdet, Rat.mul_comm])
            exact fin _ M9 V9 hS9 hO9 n1.symm n2.symm (fun p h1 h2 => by rw [o9 p h1]; exact v2 p (by omega) h2) (hF5.trans (f9.efx (X := XAD oa)))
          | succ mu ih =>
            intro i hk M9 V9 hS9 f9 l9 b9 o9
            have hO9 := hO5.ef hJ f9
            have hL9 := hL5.ef hJL f9
            have hx9 := hO9.1
            have hl9 := hL9.1
            have hmm9 := (hO9.2.2.2.2.2.2.2 m (by omega)).1
            rw [← ebm, err, ecc] at hmm9
            have hfr9 := hO9.2.2.2.1
            refine jj_iload (pc := 149) kX_determinant_d149 rfl ?_
            refine jj_aload_n (pc := 151) kX_determinant_d151 rfl ?_
            refine jj_getf (pc := 152) kX_determinant_d152 (kfX_M_rows hG) hmm9 rfl ?_
            refine jn_icmp_ge (pc := 155) (tgt := 181) kX_determinant_d155 (by decide) (by omega) (by omega) (fun c => by exfalso; omega) (fun _ => ?_)
            refine jj_aload_n (pc := 158) kX_determinant_d158 rfl ?_
            refine jj_getf (pc := 159) kX_determinant_d159 (kfX_fraction hG) hx9 rfl ?_
            refine jj_aload_n (pc := 162) kX_determinant_d162 rfl ?_
            refine jj_getf (pc := 163) kX_determinant_d163 (kfX_elimination hG) hx9 rfl ?_
            refine jj_getf (pc := 166) kX_determinant_d166 (kfX_E_rowFactors hG) hl9 rfl ?_
            refine jj_iload (pc := 169) kX_determinant_d169 rfl ?_
            refine jj_aald (pc := 171) (i := i) kX_determinant_d171 (kG_t hG rfl) hL9.2.1 rfl (by rw [List.length_map, List.length_range]; decide) (by rw [List.getElem?_map, List.getElem?_range (by omega)]; rfl) ?_
            show jj G kX_determinant (d + 10) Q rc rs 172 [some (.ref (oa 0)), some (.int (nI (n))), some (.int (nI (m))), some (.ref (oa (13 + m))), some (.int (nI (i)))] [.ref (wa (17 + i)), .ref (oa 11)] M9
            have vF : V9 (17 + i) = F i := by rw [o9 _ (by omega), hfac i (by omega), eF]
            have lF : lc (V9 (17 + i)) ≤ 125 := by have := hS9.1.lc (p := 17 + i) (by omega); rw [hJL.2.1 _ (by omega) (by omega)] at this; exact this
            have l13 : lc (V9 13) ≤ 252 := by have := hS9.1.lc (p := 13) (by omega); rw [c13] at this; exact this
            have hqW : ((sL : Int) : Rat) = dq * (((zprod F i * F i) * zprod (fun k => F (i + 1 + k)) (rr - (i + 1)) : Int) : Rat) := by
              have e := zprod_split F (i + 1) (rr - (i + 1))
              rw [show i + 1 + (rr - (i + 1)) = rr by omega] at e
              have e2 : zprod F (i + 1) = zprod F i * F i := rfl
              rw [← e2, ← e]
              rw [hsg, ← hdet, Rat.mul_comm]
            refine jj_callV (pc := 172) (b := (oa 11)) (As := [.ref (wa (17 + i))]) kX_determinant_d172 (kvX_F_divideBy hG) (kG_cl hG rfl) rfl hfr9 rfl rfl rfl (Nat.le_of_ble_eq_true rfl) (Nat.le_of_ble_eq_true rfl) (jj_bare0 rfl) ?_
            refine f_divideBy hG hK hS9 hfr9 (by omega) (by omega) (by omega) (by omega) (by omega) c13 c14 (by omega) (by omega) (by omega) (by omega) hrc hrs l13 b9 lF l9.1 (by rw [vF]; exact hFp i) l9.2.2 (fun M8 V8 hS8 hl8 o8 hw8 hb8 => ?_) (fun Mt Vt hSt hlt ott hwt9 hbt y hy => by rw [vF] at hlt; exact kt Mt 3 6 (Or.inr ⟨n, m, hn, rfl, hm, rfl, Or.inr ⟨by omega, Or.inr ⟨by rw [← erm, ← ecm]; exact hnh, by rw [← erm, ← ecm, edq]; exact Or.inr ⟨det_long (W := zprod (fun k => F (i + 1 + k)) (rr - (i + 1))) (least_chain l9 hlt) (by have := hzp (i + 1); exact Ne.symm (Int.ne_of_lt this)) hqW hbt, rfl, rfl⟩⟩⟩⟩) (by omega) ⟨Vt, sc, R, C, hSt, hO9.ef hJ hwt9, hV.keep (fun p p1 p2 => by rw [ott p (by omega) (by omega) (by omega) (by omega), o9 p (by omega)]; exact v2 p (by omega) (by omega)) (by rw [ott 15 (by omega) (by omega) (by omega) (by omega), o9 15 (by omega)]; exact v2 15 (by omega) (by omega)) (by rw [ott 16 (by omega) (by omega) (by omega) (by omega), o9 16 (by omega)]; exact v2 16 (by omega) (by omega)) (fun _ _ => ⟨rfl, rfl⟩)⟩ ((hF5.trans (f9.efx (X := XAD oa))).trans (hwt9.efx (X := XAD oa))) y hy)
            rw [vF] at hl8
            refine jn_iinc (pc := 175) (i + 1) kX_determinant_d175 rfl (nI_1 _) ?_
            refine jj_goto (pc := 178) (tgt := 149) kX_determinant_d178 (by decide) ?_
            show jj G kX_determinant (d + 10) Q rc rs 149 [some (.ref (oa 0)), some (.int (nI (n))), some (.int (nI (m))), some (.ref (oa (13 + m))), some (.int (nI (i + 1)))] [] M8
            exact ih (i + 1) (by omega) M8 V8 hS8 (f9.trans hw8) (least_chain l9 hl8) hb8 (fun p h => by rw [o8 p (by omega) (by omega) (by omega) (by omega)]; exact o9 p h)
        refine loop rr 0 (by omega) M5 V5 hS5 (fun _ _ _ _ _ _ => rfl) ?_ (by rw [a14]; decide) o5
        rw [a13, a14]
        exact ⟨by decide, rfl, Nat.gcd_one_right _⟩
      refine jj_icmp_eq (pc := 135) (tgt := 142) kX_determinant_d135 (by decide) (fun cs => ?_) (fun cs => ?_)
      · skip
        refine jn_iconst (pc := 142) 0 kX_determinant_d142 (by decide) ?_
        refine jj_putf (pc := 143) kX_determinant_d143 (kpX_W_below hG) hD13 (by decide) rfl ?_
        refine jn_gen (fun M101 hM102 => ?_)
        have h103 : M101 (oa 0) = some (.inl nX, [.ref (oa 1), .ref (oa 2), .ref (oa 21), .ref (oa 3), .ref (oa 4), .ref (oa 9), .ref (oa 11), .ref (oa 12), .int (sc)]) := by rw [hM102, jj_up_ne _ _ (fun e => by have q1 := q3_oa0; rw [e, hD13] at q1; cases q1)]; exact q3_oa0
        have h104 : M101 (oa 11) = some (.inl nF, [.ref (wa 13), .ref (wa 14), .ref (oa 3)]) := by rw [hM102, jj_up_ne _ _ (fun e => by have q1 := q3_oa11; rw [e, hD13] at q1; cases q1)]; exact q3_oa11
        have h105 : M101 (oa 4) = some (.inl nE, [.ref (oa 5), .ref (oa 6), .ref (oa 7), .ref (wa 33), .int (nI (rk)), .int (nI (sw)), .int (nI (rr)), .int (nI (cc)), .ref (oa 8), .ref (wa 34), .ref (oa 3)]) := by rw [hM102, jj_up_ne _ _ (fun e => by have q1 := q3_oa4; rw [e, hD13] at q1; cases q1)]; exact q3_oa4
        have h106 : M101 (oa (13 + m)) = some (.inl nM, [.int (nI (rr)), .int (nI (cc)), .ref (wa (bm + 256)), .ref (oa (22 + m))]) := by rw [hM102, jj_up_ne _ _ (fun e => by have q1 := q3_oa13m; rw [e, hD13] at q1; cases q1)]; exact q3_oa13m
        have h107 : M101 (oa 3) = some (.inl nK, [.ref dv, .ref eu, .ref (wa 7), .ref (wa 8), .ref (wa 9), .ref (wa 10), .ref (wa 11), .ref (wa 12)]) := by rw [hM102, jj_up_ne _ _ (fun e => by have q1 := q3_oa3; rw [e, hD13] at q1; cases q1)]; exact q3_oa3
        have h108 : M101 eu = some (.inl nU, [.ref (wa px_a), .ref (wa pf_a), .ref (wa py_a), .ref (wa po_a), .ref (wa ps_a), .ref dv, .int (nI (od_a)), .long (ea3), .long (eb3), .long (ec3), .long (ed3)]) := by rw [hM102, jj_up_ne _ _ (fun e => by have q1 := hE3; rw [e, hD13] at q1; cases q1)]; exact hE3
        have h109 : M101 dv = some (.inl nD, [.ref (wa 0), .ref (wa r_a), .ref hi, .ref lo]) := by rw [hM102, jj_up_ne _ _ (fun e => by have q1 := hD3; rw [e, hD13] at q1; cases q1)]; exact hD3
        have h110 : M101 (wa 13) = some (.inl nW, [.ref (la 13), .int (nI (t13)), .int (nI (0))]) := by rw [hM102]; exact jj_up_at _ _ _
        show jj G kX_determinant (d + 10) Q rc rs 146 [some (.ref (oa 0)), some (.int (nI (n))), some (.int (nI (m))), some (.ref (oa (13 + m))), none] [] M101
        refine go M101 (fun x hx => by rw [hM102, jj_up_ne _ _ hx]) ?_
        rw [h110]
        have e : (nI 0 : Int32) = sg sL := by
          rw [esL]
          rcases (show sw = 0 ∨ sw = 1 by omega) with h | h
          · rw [h] at cs ⊢
            rw [if_neg (by omega)]
            unfold sg at cs ⊢
            by_cases c : L < 0
            · rw [if_pos c] at cs ⊢; exact absurd cs (by decide)
            · rw [if_neg c] at cs ⊢; rfl
          · rw [h] at cs ⊢
            rw [if_pos rfl]
            unfold sg at cs ⊢
            by_cases c : L < 0
            · rw [if_pos c] at cs; rw [if_neg (by omega)]; rfl
            · rw [if_neg c] at cs; rw [if_pos (by omega)]; exact absurd cs (by decide)
        rw [e]
      · skip
        refine jn_iconst (pc := 138) 1 kX_determinant_d138 (by decide) ?_
        refine jj_goto (pc := 139) (tgt := 143) kX_determinant_d139 (by decide) ?_
        refine jj_putf (pc := 143) kX_determinant_d143 (kpX_W_below hG) hD13 (by decide) rfl ?_
        refine jn_gen (fun M111 hM112 => ?_)
        have h113 : M111 (oa 0) = some (.inl nX, [.ref (oa 1), .ref (oa 2), .ref (oa 21), .ref (oa 3), .ref (oa 4), .ref (oa 9), .ref (oa 11), .ref (oa 12), .int (sc)]) := by rw [hM112, jj_up_ne _ _ (fun e => by have q1 := q3_oa0; rw [e, hD13] at q1; cases q1)]; exact q3_oa0
        have h114 : M111 (oa 11) = some (.inl nF, [.ref (wa 13), .ref (wa 14), .ref (oa 3)]) := by rw [hM112, jj_up_ne _ _ (fun e => by have q1 := q3_oa11; rw [e, hD13] at q1; cases q1)]; exact q3_oa11
        have h115 : M111 (oa 4) = some (.inl nE, [.ref (oa 5), .ref (oa 6), .ref (oa 7), .ref (wa 33), .int (nI (rk)), .int (nI (sw)), .int (nI (rr)), .int (nI (cc)), .ref (oa 8), .ref (wa 34), .ref (oa 3)]) := by rw [hM112, jj_up_ne _ _ (fun e => by have q1 := q3_oa4; rw [e, hD13] at q1; cases q1)]; exact q3_oa4
        have h116 : M111 (oa (13 + m)) = some (.inl nM, [.int (nI (rr)), .int (nI (cc)), .ref (wa (bm + 256)), .ref (oa (22 + m))]) := by rw [hM112, jj_up_ne _ _ (fun e => by have q1 := q3_oa13m; rw [e, hD13] at q1; cases q1)]; exact q3_oa13m
        have h117 : M111 (oa 3) = some (.inl nK, [.ref dv, .ref eu, .ref (wa 7), .ref (wa 8), .ref (wa 9), .ref (wa 10), .ref (wa 11), .ref (wa 12)]) := by rw [hM112, jj_up_ne _ _ (fun e => by have q1 := q3_oa3; rw [e, hD13] at q1; cases q1)]; exact q3_oa3
        have h118 : M111 eu = some (.inl nU, [.ref (wa px_a), .ref (wa pf_a), .ref (wa py_a), .ref (wa po_a), .ref (wa ps_a), .ref dv, .int (nI (od_a)), .long (ea3), .long (eb3), .long (ec3), .long (ed3)]) := by rw [hM112, jj_up_ne _ _ (fun e => by have q1 := hE3; rw [e, hD13] at q1; cases q1)]; exact hE3
        have h119 : M111 dv = some (.inl nD, [.ref (wa 0), .ref (wa r_a), .ref hi, .ref lo]) := by rw [hM112, jj_up_ne _ _ (fun e => by have q1 := hD3; rw [e, hD13] at q1; cases q1)]; exact hD3
        have h120 : M111 (wa 13) = some (.inl nW, [.ref (la 13), .int (nI (t13)), .int (nI (1))]) := by rw [hM112]; exact jj_up_at _ _ _
        show jj G kX_determinant (d + 10) Q rc rs 146 [some (.ref (oa 0)), some (.int (nI (n))), some (.int (nI (m))), some (.ref (oa (13 + m))), none] [] M111
        refine go M111 (fun x hx => by rw [hM112, jj_up_ne _ _ hx]) ?_
        rw [h120]
        have e : (nI 1 : Int32) = sg sL := by
          rw [esL]
          rcases (show sw = 0 ∨ sw = 1 by omega) with h | h
          · rw [h] at cs ⊢
            rw [if_neg (by omega)]
            unfold sg at cs ⊢
            by_cases c : L < 0
            · rw [if_pos c] at cs ⊢; rfl
            · rw [if_neg c] at cs ⊢; exact absurd rfl cs
          · rw [h] at cs ⊢
            rw [if_pos rfl]
            unfold sg at cs ⊢
            by_cases c : L < 0
            · rw [if_pos c] at cs; rw [if_neg (by omega)]; exact absurd rfl cs
            · rw [if_neg c] at cs; rw [if_pos (by omega)]; rfl
        rw [e]
  · skip
    show jj G kX_determinant (d + 10) Q rc rs 23 [some (.ref (oa 0)), some (.int (nI (n))), some (.int (nI (m))), some (.ref (oa (13 + m))), none] [] M
    exact jj_throw (pc := 23) (ll := 2) kX_determinant_d23 kX_determinant_d26 (Or.inl ⟨kX_determinant_d27, rfl⟩) kX_determinant_d29 kX_determinant_d32 (ktX_not_square hG) rfl (Nat.le_of_ble_eq_true rfl) (jj_bare0 rfl) hrc hrs (fun a ha => kt M 2 5 (Or.inr ⟨n, m, hn, rfl, hm, rfl, Or.inl ⟨by omega, rfl, rfl⟩⟩) (by omega) hT (fun _ _ _ => rfl) a ha)
end X12
