/-! ===== ExactForms: hermite (printed by wip/gen/rX17.py) ===== -/
theorem zcut_cell {H : imat} {rk n i j : Nat} (hj : j < n) : zcut H rk n (i * n + j) = if i < rk then ((H i j : Int) : Rat) else 0 := by
  unfold zcut
  rw [Nat.mul_comm i n, Nat.mul_add_div (by omega), Nat.div_eq_of_lt hj, Nat.add_zero, Nat.mul_add_mod, Nat.mod_eq_of_lt hj]
theorem isum_split (f : Nat → Int) (a : Nat) : ∀ n, isum f (a + n) = isum f a + isum (fun k => f (a + k)) n
  | 0 => (Int.add_zero _).symm
  | n + 1 => by
    show isum f (a + n) + f (a + n) = isum f a + (isum (fun k => f (a + k)) n + f (a + n))
    rw [isum_split f a n, Int.add_assoc]
theorem qsum_shift {f : Nat → Rat} {a : Nat} : ∀ {n : Nat}, (∀ k, k < a → f k = 0) → qsum f (a + n) = qsum (fun t => f (a + t)) n
  | 0, h => by rw [Nat.add_zero, qsum_zero h]; rfl
  | n + 1, h => by
    show qsum f (a + n) + f (a + n) = qsum (fun t => f (a + t)) n + f (a + n)
    rw [qsum_shift h]
section X17
variable {G : jg} {d : Nat} {Q : jq} {rc rs : Nat} {M : mheap} {wa la cap oa : Nat → Nat} {eu dv hi lo : Nat} {σ : rst}
theorem xp_hermite {x y : Int32} (hG : kG G) (hJ : XJ wa la cap oa eu dv hi lo) (hT : XT M wa la cap oa eu dv hi lo σ) (hrc : 1 ≤ rc) (hrs : 6 ≤ rs) (kr : ∀ (M' : mheap) (v : Nat) (σ' : rst), semHerm σ x y 0 v σ' → XT M' wa la cap oa eu dv hi lo σ' → XF oa M M' wa la eu dv hi lo → Q (.returned (some (.int (nI v)))) M' rc rs) (kt : ∀ (M' : mheap) (cd ci : Nat), semHerm σ x y cd 0 σ → (cd = 1 ∧ ci = 4 ∨ cd = 2 ∧ ci = 5 ∨ cd = 3 ∧ ci = 6) → XT M' wa la cap oa eu dv hi lo σ → XF oa M M' wa la eu dv hi lo → ∀ x, M' x = none → Q (.threw x) (jj_up M' x (.inl ci, [])) (rc - 1) (rs - 6)) : jj G kX_hermite (d + 10) Q rc rs 0 (jj_ent [.ref (oa 0), .int x, .int y] 7) [] M := by
  obtain ⟨V, sc, R, C, hS, hO, hV⟩ := id hT
  have hK := hJ.1
  have hI := hK.1
  have hx := hO.1
  show jj G kX_hermite (d + 10) Q rc rs 0 [some (.ref (oa 0)), some (.int (x)), some (.int (y)), none, none, none, none] [] M
  refine jj_aload_n (pc := 0) kX_hermite_d0 rfl ?_
  refine jj_iload_n (pc := 1) kX_hermite_d1 rfl ?_
  refine jj_callV (pc := 2) (b := (oa 0)) (As := [.int (x)]) kX_hermite_d2 (kvX_X_register hG) (kG_cl hG rfl) rfl hx rfl rfl rfl (Nat.le_of_ble_eq_true rfl) (Nat.le_of_ble_eq_true rfl) (jj_bare0 rfl) ?_
  refine x_register hG hO hrc hrs (fun n hn en => ?_) (fun h y hy => kt M 1 4 (Or.inl ⟨fun g => h g.1, rfl, rfl, rfl⟩) (by omega) hT (fun _ _ _ => rfl) y hy)
  subst en
  show jj G kX_hermite (d + 10) Q rc rs 5 [some (.ref (oa 0)), some (.int (nI (n))), some (.int (y)), none, none, none, none] [.ref (oa (13 + n))] M
  refine jj_pop (pc := 5) kX_hermite_d5 rfl ?_
  refine jj_aload_n (pc := 6) kX_hermite_d6 rfl ?_
  refine jj_iload_n (pc := 7) kX_hermite_d7 rfl ?_
  refine jj_callV (pc := 8) (b := (oa 0)) (As := [.int (y)]) kX_hermite_d8 (kvX_X_register hG) (kG_cl hG rfl) rfl hx rfl rfl rfl (Nat.le_of_ble_eq_true rfl) (Nat.le_of_ble_eq_true rfl) (jj_bare0 rfl) ?_
  refine x_register hG hO hrc hrs (fun m hm em => ?_) (fun h y hy => kt M 1 4 (Or.inl ⟨fun g => h g.2, rfl, rfl, rfl⟩) (by omega) hT (fun _ _ _ => rfl) y hy)
  subst em
  show jj G kX_hermite (d + 10) Q rc rs 11 [some (.ref (oa 0)), some (.int (nI (n))), some (.int (nI (m))), none, none, none, none] [.ref (oa (13 + m))] M
  obtain ⟨erm, ecm, s1m, s2m, s3m, s4m, hNm⟩ := hV.1 m hm
  obtain ⟨bm, ebm⟩ : ∃ b, b = 809 + 257 * m := ⟨_, rfl⟩
  have hMm := hO.2.2.2.2.2.2.2 m (by omega)
  rw [← ebm] at hMm hNm
  have hmm := hMm.1
  obtain ⟨rr, err⟩ : ∃ r, R m = r := ⟨_, rfl⟩
  obtain ⟨cc, ecc⟩ : ∃ c, C m = c := ⟨_, rfl⟩
  rw [err] at erm s1m s2m
  rw [ecc] at ecm s3m s4m
  rw [err, ecc] at hMm hmm hNm
  obtain ⟨bd, ebd⟩ : ∃ b, b = 2865 := ⟨_, rfl⟩
  have hJL := hJ.lj
  obtain ⟨rk0, sw0, m0, w0, P0, B0, g0, hL0⟩ := hO.2.2.2.2.2.1
  have hl0 := hL0.1
  show jj G kX_hermite (d + 10) Q rc rs 11 [some (.ref (oa 0)), some (.int (nI (n))), some (.int (nI (m))), none, none, none, none] [.ref (oa (13 + m))] M
  have hJQ := hJ.qj
  have hwh := hNm.whole
  refine jj_astore_n (pc := 11) kX_hermite_d11 (Nat.le_of_ble_eq_true rfl) ?_
  show jj G kX_hermite (d + 10) Q rc rs 12 [some (.ref (oa 0)), some (.int (nI (n))), some (.int (nI (m))), some (.ref (oa (13 + m))), none, none, none] [] M
  refine jj_aload_n (pc := 12) kX_hermite_d12 rfl ?_
  refine jj_callS (pc := 13) (As := [.ref (oa (13 + m))]) kX_hermite_d13 (kvX_X_needWhole hG) rfl rfl rfl (Nat.le_of_ble_eq_true rfl) (Nat.le_of_ble_eq_true rfl) (jj_bare0 rfl) ?_
  refine x_needWhole hG hI hS.1 hMm (by omega) hrc hrs (fun hc1 => ?_) (fun hc1 y hy => kt M 2 5 (Or.inr ⟨n, m, hn, rfl, hm, rfl, Or.inl ⟨by rw [← erm, ← ecm]; exact fun h => hc1 (hwh.2 h), rfl, rfl, rfl⟩⟩) (by omega) hT (fun _ _ _ => rfl) y hy)
  have haw := hwh.1 hc1
  show jj G kX_hermite (d + 10) Q rc rs 16 [some (.ref (oa 0)), some (.int (nI (n))), some (.int (nI (m))), some (.ref (oa (13 + m))), none, none, none] [] M
  refine jj_aload_n (pc := 16) kX_hermite_d16 rfl ?_
  refine jj_getf (pc := 17) kX_hermite_d17 (kfX_elimination hG) hx rfl ?_
  refine jj_aload_n (pc := 20) kX_hermite_d20 rfl ?_
  refine jn_iconst (pc := 21) 0 kX_hermite_d21 (by decide) ?_
  refine jj_callV (pc := 22) (b := (oa 4)) (As := [.ref (oa (13 + m)), .int (nI (0))]) kX_hermite_d22 (kvX_E_load hG) (kG_cl hG rfl) rfl hl0 rfl rfl rfl (Nat.le_of_ble_eq_true rfl) (Nat.le_of_ble_eq_true rfl) (jj_bare0 rfl) ?_
  refine e_load hG hK hS hJL hL0 hMm (by omega) (by omega) (fun p _ _ => (hJ.capw (p := p) (by omega) (by omega)).1) s2m s4m hNm.1 (by have := hS.1.lc (p := bm + 256) (by omega); rw [hJ.cap125 (by omega) (by omega)] at this; exact this) (by omega) hrc hrs (fun M1 V1 hS1 hL1 vo1 hx1 hR1 => ?_) (fun Mt Vt hSt hLt vot hxt htw y hy => kt Mt 3 6 (Or.inr ⟨n, m, hn, rfl, hm, rfl, Or.inr ⟨by rw [← erm, ← ecm]; exact haw, Or.inl ⟨by rw [← erm, ← ecm]; exact toow_heavy hNm (by omega) (by omega) htw, rfl, rfl, rfl⟩⟩⟩) (by omega) ⟨Vt, sc, R, C, hSt, (hO.el hLt (fun i h1 h2 _ _ _ => hxt _ (hJ.ne h1 (by omega) h2) (hJ.2.2.1 i h1))), hV.keep (fun p p1 p2 => vot p (by omega) (by omega)) (vot 15 (by omega) (by omega)) (vot 16 (by omega) (by omega)) (fun _ _ => ⟨rfl, rfl⟩)⟩ (hxt.more (fun x e => ⟨4, by omega, e⟩)) y hy)
  have hk1 : ∀ i, i < 31 → i ≠ 4 → i ≠ 6 → i ≠ 7 → i ≠ 8 → M1 (oa i) = M (oa i) := fun i h1 h2 _ _ _ => hx1 _ (hJ.ne h1 (by omega) h2) (hJ.2.2.1 i h1)
  have hO1 := hO.el hL1 hk1
  have hF1 : XF oa M M1 wa la eu dv hi lo := hx1.more (fun x e => ⟨4, by omega, e⟩)
  have hl1 := hL1.1
  have hx1a := hO1.1
  have hMm1 := hO1.2.2.2.2.2.2.2 m (by omega)
  rw [← ebm, err, ecc] at hMm1
  have hmm1 := hMm1.1
  have hgl := glong_eq hNm hR1
  show jj G kX_hermite (d + 10) Q rc rs 25 [some (.ref (oa 0)), some (.int (nI (n))), some (.int (nI (m))), some (.ref (oa (13 + m))), none, none, none] [] M1
  refine jj_aload_n (pc := 25) kX_hermite_d25 rfl ?_
  refine jj_getf (pc := 26) kX_hermite_d26 (kfX_elimination hG) hx1a rfl ?_
  refine jj_callV (pc := 29) (b := (oa 4)) (As := []) kX_hermite_d29 (kvX_E_weigh hG) (kG_cl hG rfl) rfl hl1 rfl rfl rfl (Nat.le_of_ble_eq_true rfl) (Nat.le_of_ble_eq_true rfl) (jj_bare0 rfl) ?_
  refine e_weigh hG hK hS1 hJL hL1 s1m s2m s3m (by omega) hrc hrs (fun hnh => ?_) (fun hhv y hy => kt M1 3 6 (Or.inr ⟨n, m, hn, rfl, hm, rfl, Or.inr ⟨by rw [← erm, ← ecm]; exact haw, Or.inl ⟨by rw [← erm, ← ecm]; exact (by rw [hgl] at hhv; exact hhv), rfl, rfl, rfl⟩⟩⟩) (by omega) ⟨V1, sc, R, C, hS1, hO1, hV.keep (fun p p1 p2 => vo1 p (by omega) (by omega)) (vo1 15 (by omega) (by omega)) (vo1 16 (by omega) (by omega)) (fun _ _ => ⟨rfl, rfl⟩)⟩ hF1 y hy)
  rw [hgl] at hnh
  have hbz := glong_bound (Z := gz V1 g0) (m := rr) (w := cc)
  rw [hgl] at hbz
  have hwt := hvy_pow (show 1 ≤ min rr cc by omega) hnh
  obtain ⟨bz, ebz⟩ : ∃ b, 2 ^ nmax (fun k => rowL (σ.2.2 m) cc k (rowD (σ.2.2 m) cc k 1)) rr = b := ⟨_, rfl⟩
  have hb1 : 1 ≤ bz := by rw [← ebz]; exact Nat.pow_pos (by decide)
  rw [ebz] at hbz hwt
  show jj G kX_hermite (d + 10) Q rc rs 32 [some (.ref (oa 0)), some (.int (nI (n))), some (.int (nI (m))), some (.ref (oa (13 + m))), none, none, none] [] M1
  refine jj_aload_n (pc := 32) kX_hermite_d32 rfl ?_
  refine jj_getf (pc := 33) kX_hermite_d33 (kfX_elimination hG) hx1a rfl ?_
  refine jj_aload_n (pc := 36) kX_hermite_d36 rfl ?_
  refine jj_getf (pc := 37) kX_hermite_d37 (kfX_M_columns hG) hmm1 rfl ?_
  refine jj_callV (pc := 40) (b := (oa 4)) (As := [.int (nI (cc))]) kX_hermite_d40 (kvX_E_eliminate hG) (kG_cl hG rfl) rfl hl1 rfl rfl rfl (Nat.le_of_ble_eq_true rfl) (Nat.le_of_ble_eq_true rfl) (jj_bare0 rfl) ?_
  refine e_eliminate hG hK hS1 hJL hL1 hb1 hbz hwt s1m s2m s3m (by omega) (by omega) (fun M2 V2 rk sw P B g p A Bq E hS2 hL2 hx2 vo2 hB2 hPV => ?_)
  have hk2 : ∀ i, i < 31 → i ≠ 4 → i ≠ 6 → i ≠ 7 → i ≠ 8 → M2 (oa i) = M1 (oa i) := fun i h1 h2 h3 h4 h5 => hx2 _ (fun e => by rcases e with e | e | e | e <;> exact absurd e (hJ.ne h1 (by omega) (by assumption))) (hJ.2.2.1 i h1)
  have hO2 := hO1.el hL2 hk2
  have hF2 : XF oa M M2 wa la eu dv hi lo := hF1.trans (hx2.more (fun x e => by rcases e with e | e | e | e; exact ⟨4, by omega, e⟩; exact ⟨6, by omega, e⟩; exact ⟨7, by omega, e⟩; exact ⟨8, by omega, e⟩))
  have v2 : ∀ p, 13 ≤ p → p < 17 ∨ 547 ≤ p → V2 p = V p := fun p h1 h2 => by rw [vo2 p h1 (by omega) (by omega)]; exact vo1 p h1 h2
  have hl2 := hL2.1
  have hx2a := hO2.1
  have hMm2 := hO2.2.2.2.2.2.2.2 m (by omega)
  rw [← ebm, err, ecc] at hMm2
  have hmm2 := hMm2.1
  have hrk := hB2.1.1
  have hrkc := hB2.rkc
  have hpc := hB2.2.1.2.1
  show jj G kX_hermite (d + 10) Q rc rs 43 [some (.ref (oa 0)), some (.int (nI (n))), some (.int (nI (m))), some (.ref (oa (13 + m))), none, none, none] [] M2
  refine jj_aload_n (pc := 43) kX_hermite_d43 rfl ?_
  refine jj_getf (pc := 44) kX_hermite_d44 (kfX_elimination hG) hx2a rfl ?_
  refine jj_getf (pc := 47) kX_hermite_d47 (kfX_E_rank hG) hl2 rfl ?_
  refine jj_istore (pc := 50) kX_hermite_d50 (Nat.le_of_ble_eq_true rfl) ?_
  show jj G kX_hermite (d + 10) Q rc rs 52 [some (.ref (oa 0)), some (.int (nI (n))), some (.int (nI (m))), some (.ref (oa (13 + m))), some (.int (nI (rk))), none, none] [] M2
  obtain ⟨Bz, eBz⟩ : ∃ Bz : imat, Bz = fun i j => V (bm + (16 * i + j)) := ⟨_, rfl⟩
  have hqB : ∀ i j, i < rr → j < cc → σ.2.2 m (i * cc + j) = ((Bz i j : Int) : Rat) := fun i j h1 h2 => by
    have := hNm.2.1.2 i j h1 h2
    rw [hc1] at this
    rw [eBz]
    rw [this]
    show _ = _ * (1 : Rat)
    rw [Rat.mul_one]
  have hAzB : ∀ i, i < rr → ∀ j, j < cc → gz V1 g0 i j = Bz i j := fun i h1 j h2 => by
    have e0 : bcol 0 cc j = j := by unfold bcol; rw [if_neg (by omega)]
    have := (rowd_cell hNm h1 (hR1 i h1) h2).2
    rw [e0, rowD_one haw h1, hqB i j h1 h2] at this
    apply Rat.intCast_inj.mp
    rw [this]
    show (1 : Rat) * _ = _
    rw [Rat.one_mul]
  obtain ⟨L, eL⟩ : ∃ L, V2 33 = L := ⟨_, rfl⟩
  have hB2' := hB2
  rw [eL] at hB2'
  have hLne := hB2'.ne
  have lL : lc L ≤ 63 := (hB2'.lcL (Nat.le_refl _) hb1 hbz hwt).1
  have hrf := hB2'.rrf (Nat.le_refl _)
  have hB5 : BAR Bz (gz V2 g) rr cc cc rk sw p L (fun i j => A i j) Bq E ∨ True := Or.inr trivial
  obtain ⟨T, H, tA, tB, tC, tD, tE, hHE, hHf, hHB, hBH⟩ := bar_herm hB2'
  have hpi := hrf.2.1
  have hfl := hL2.2.2.1
  obtain ⟨ln0, pl0, ls0, ps0, s0, hR0⟩ := hO2.2.2.2.2.2.2.1
  have hre2 := hR0.1
  have hcell : ∀ i k, i < rr → k < rk → V2 (bm + (16 * i + p k)) = gz V1 g0 i (p k) := fun i k h1 h2 => by
    have pk := hrf.1 k h2
    rw [hAzB i h1 _ pk, eBz]
    exact v2 _ (by omega) (by omega)
  show jj G kX_hermite (d + 10) Q rc rs 52 [some (.ref (oa 0)), some (.int (nI (n))), some (.int (nI (m))), some (.ref (oa (13 + m))), some (.int (nI (rk))), none, none] [] M2
  refine jj_aload_n (pc := 52) kX_hermite_d52 rfl ?_
  refine jj_getf (pc := 53) kX_hermite_d53 (kfX_residues hG) hx2a rfl ?_
  refine jj_aload_n (pc := 56) kX_hermite_d56 rfl ?_
  refine jj_aload_n (pc := 57) kX_hermite_d57 rfl ?_
  refine jj_getf (pc := 58) kX_hermite_d58 (kfX_elimination hG) hx2a rfl ?_
  refine jj_getf (pc := 61) kX_hermite_d61 (kfX_E_pivotColumns hG) hl2 rfl ?_
  refine jj_iload (pc := 64) kX_hermite_d64 rfl ?_
  refine jj_aload_n (pc := 66) kX_hermite_d66 rfl ?_
  refine jj_getf (pc := 67) kX_hermite_d67 (kfX_elimination hG) hx2a rfl ?_
  refine jj_getf (pc := 70) kX_hermite_d70 (kfX_E_last hG) hl2 rfl ?_
  refine jj_callV (pc := 73) (b := (oa 9)) (As := [.ref (oa (13 + m)), .ref (oa 6), .int (nI (rk)), .ref (wa 33)]) kX_hermite_d73 (kvX_S_load hG) (kG_cl hG rfl) rfl hre2 rfl rfl rfl (Nat.le_of_ble_eq_true rfl) (Nat.le_of_ble_eq_true rfl) (jj_bare0 rfl) ?_
  refine r_load (p := p) (Pl := P) (n := rk) (w := 33) (b := bm) hG hK hS2 hJQ hR0 hMm2 (by omega) (by omega) s2m s4m (by omega) hfl.1 hfl.2 (hJ.2.2.1 6 (by omega)) (fun j hj => hPV.1 j hj) (fun j hj => hrf.1 j hj) (by omega) (by omega) (by omega) (by rw [eL]; exact hLne) (by rw [eL]; exact lL) (fun q _ _ => (hJ.capw (p := q) (by omega) (by omega)).1) (fun M3 V3 hS3 hR3 hx3 m3 e3 o3 => ?_)
  have nk3 : ∀ i, i < 31 → i ≠ 9 → i ≠ 10 → M3 (oa i) = M2 (oa i) := fun i h1 h2 h3 => hx3 _ (fun e => by rcases e with e | e <;> exact absurd e (hJ.ne h1 (by omega) (by assumption))) (hJ.2.2.1 i h1)
  have hL3 : ELT M3 wa (oa 4) (oa 5) (oa 6) (oa 7) (oa 8) (oa 3) rk sw rr cc P B g := hL2.cells (nk3 4 (by omega) (by omega) (by omega)) (nk3 5 (by omega) (by omega) (by omega)) (nk3 6 (by omega) (by omega) (by omega)) (nk3 7 (by omega) (by omega) (by omega)) (nk3 8 (by omega) (by omega) (by omega))
  have hO3 := hO2.re hR3 nk3
  have hF3 : XF oa M M3 wa la eu dv hi lo := hF2.trans (hx3.more (fun x e => by rcases e with e | e; exact ⟨9, by omega, e⟩; exact ⟨10, by omega, e⟩))
  have hx3a := hO3.1
  have hre3 := hR3.1
  have hl3 := hL3.1
  rw [eL] at m3 e3
  have hs : STP 16 1 := Or.inl ⟨rfl, rfl⟩
  obtain ⟨D, eD⟩ : ∃ D : Int, D = ((L.natAbs : Nat) : Int) := ⟨_, rfl⟩
  rw [← eD] at m3 e3 tD tE
  have hD0 : 0 < D := by omega
  have lD : lc D ≤ 63 := Nat.le_trans (lc_mono (by omega)) lL
  have hzr : ∀ i k, i < rr → k < rk → rz V3 s0 16 1 i k = gz V1 g0 i (p k) % D := fun i k h1 h2 => by
    show V3 _ = _
    rw [e3 i k h1 h2, hcell i k h1 h2]
  have tE3 := tE.lq (C' := rz V3 s0 16 1) (LQE.mod (fun i k _ h2 _ h4 => by rw [hzr i k h2 h4]; exact emod_dvd _ _))
  show jj G kX_hermite (d + 10) Q rc rs 76 [some (.ref (oa 0)), some (.int (nI (n))), some (.int (nI (m))), some (.ref (oa (13 + m))), some (.int (nI (rk))), none, none] [] M3
  refine jj_aload_n (pc := 76) kX_hermite_d76 rfl ?_
  refine jj_getf (pc := 77) kX_hermite_d77 (kfX_residues hG) hx3a rfl ?_
  refine jj_callV (pc := 80) (b := (oa 9)) (As := []) kX_hermite_d80 (kvX_S_triangulate hG) (kG_cl hG rfl) rfl hre3 rfl rfl rfl (Nat.le_of_ble_eq_true rfl) (Nat.le_of_ble_eq_true rfl) (jj_bare0 rfl) ?_
  refine r_triangulate (T := T) hG hK hS3 hJQ hR3 hs s2m hrk tA tB tC (by rw [m3]; exact tE3) (by rw [m3]; exact tD) (by rw [m3]; exact hD0) (by rw [m3]; exact lD) (fun i k h1 h2 => by rw [m3, hzr i k h1 h2]; exact ⟨Int.emod_nonneg _ (by omega), Int.emod_lt_of_pos _ hD0⟩) (fun M4 V4 s4 hS4 hR4 hx4 e4 o4 => ?_)
  have nk4 : ∀ i, i < 31 → i ≠ 9 → i ≠ 10 → M4 (oa i) = M3 (oa i) := fun i h1 h2 h3 => hx4 _ (fun e => by rcases e with e | e <;> exact absurd e (hJ.ne h1 (by omega) (by assumption))) (hJ.2.2.1 i h1)
  have hL4 : ELT M4 wa (oa 4) (oa 5) (oa 6) (oa 7) (oa 8) (oa 3) rk sw rr cc P B g := hL3.cells (nk4 4 (by omega) (by omega) (by omega)) (nk4 5 (by omega) (by omega) (by omega)) (nk4 6 (by omega) (by omega) (by omega)) (nk4 7 (by omega) (by omega) (by omega)) (nk4 8 (by omega) (by omega) (by omega))
  have hO4 := hO3.re hR4 nk4
  have hF4 : XF oa M M4 wa la eu dv hi lo := hF3.trans (hx4.more (fun x e => by rcases e with e | e; exact ⟨9, by omega, e⟩; exact ⟨10, by omega, e⟩))
  have hx4a := hO4.1
  have hre4 := hR4.1
  have hl4 := hL4.1
  have o42 : ∀ q, 10 ≤ q → q < 547 ∨ 809 ≤ q → V4 q = V2 q := fun q h1 h2 => by rw [o4 q h1 h2, o3 q h1 h2]
  have hMm4 := hO4.2.2.2.2.2.2.2 m (by omega)
  rw [← ebm, err, ecc] at hMm4
  have hmm4 := hMm4.1
  have hMd4 := hO4.dr ebd
  have hmd4 := hMd4.1
  show jj G kX_hermite (d + 10) Q rc rs 83 [some (.ref (oa 0)), some (.int (nI (n))), some (.int (nI (m))), some (.ref (oa (13 + m))), some (.int (nI (rk))), none, none] [] M4
  refine jj_aload_n (pc := 83) kX_hermite_d83 rfl ?_
  refine jj_getf (pc := 84) kX_hermite_d84 (kfX_draft hG) hx4a rfl ?_
  refine jj_aload_n (pc := 87) kX_hermite_d87 rfl ?_
  refine jj_getf (pc := 88) kX_hermite_d88 (kfX_M_rows hG) hmm4 rfl ?_
  refine jj_aload_n (pc := 91) kX_hermite_d91 rfl ?_
  refine jj_getf (pc := 92) kX_hermite_d92 (kfX_M_columns hG) hmm4 rfl ?_
  refine jj_callV (pc := 95) (b := (oa 21)) (As := [.int (nI (rr)), .int (nI (cc))]) kX_hermite_d95 (kvX_M_clear hG) (kG_cl hG rfl) rfl hmd4 rfl rfl rfl (Nat.le_of_ble_eq_true rfl) (Nat.le_of_ble_eq_true rfl) (jj_bare0 rfl) ?_
  refine m_clear hG hK hS4 hMd4 (by omega) (by omega) (by have := (hJ.capw (p := bd + 256) (by omega) (by omega)).2; exact this) s2m s4m (fun M5 V5 hS5 hMd5x vc5 v05 vo5 f5 => ?_)
  obtain ⟨R1, C1, hO5, e8, f8, rk1, hFd⟩ := hO4.draft hJ hMd5x ebd f5
  have hF5 := hF4.trans hFd
  have kp5 : ∀ i, i < 31 → i ≠ 21 → M5 (oa i) = M4 (oa i) := fun i h1 h2 => f5 _ (hJ.ne h1 (by omega) h2) (hJ.2.2.1 i h1).1
  have hL5 : ELT M5 wa (oa 4) (oa 5) (oa 6) (oa 7) (oa 8) (oa 3) rk sw rr cc P B g := hL4.cells (kp5 4 (by omega) (by omega)) (kp5 5 (by omega) (by omega)) (kp5 6 (by omega) (by omega)) (kp5 7 (by omega) (by omega)) (kp5 8 (by omega) (by omega))
  have hR5 : RST M5 wa (oa 9) (oa 10) (oa 3) rr rk 16 1 s4 := ⟨(kp5 9 (by omega) (by omega)).trans hR4.1, (kp5 10 (by omega) (by omega)).trans hR4.2.1, hR4.2.2⟩
  have o52 : ∀ q, 10 ≤ q → q < 547 ∨ (809 ≤ q ∧ q < bd) → V5 q = V2 q := fun q h1 h2 => by rw [vo5 q (by omega)]; exact o42 q h1 (by omega)
  have hsp := hR5.2.2
  have e5 : ∀ i j, i ≤ j → j < rk → V5 (rp s4 16 1 i j) = T i j := fun i j h1 h2 => by
    have := hsp.b hs (show i < 16 by omega) (show j < 16 by omega)
    rw [vo5 _ (by omega)]; exact e4 i j h1 h2
  have hx5 := hO5.1
  have hl5 := hL5.1
  have hre5 := hR5.1
  have hMd5 := hO5.dr ebd
  rw [e8, f8] at hMd5
  have hmd5 := hMd5.1
  have hMm5 := hO5.2.2.2.2.2.2.2 m (by omega)
  rw [← ebm, (rk1 m hm).1, (rk1 m hm).2, err, ecc] at hMm5
  have hmm5 := hMm5.1
  obtain ⟨hpa5, lpa5⟩ := hL5.2.2.1
  show jj G kX_hermite (d + 10) Q rc rs 98 [some (.ref (oa 0)), some (.int (nI (n))), some (.int (nI (m))), some (.ref (oa (13 + m))), some (.int (nI (rk))), none, none] [] M5
  refine jn_iconst (pc := 98) 0 kX_hermite_d98 (by decide) ?_
  refine jj_istore (pc := 99) kX_hermite_d99 (Nat.le_of_ble_eq_true rfl) ?_
  show jj G kX_hermite (d + 10) Q rc rs 101 [some (.ref (oa 0)), some (.int (nI (n))), some (.int (nI (m))), some (.ref (oa (13 + m))), some (.int (nI (rk))), some (.int (nI (0))), none] [] M5
  show jj G kX_hermite (d + 10) Q rc rs 101 [some (.ref (oa 0)), some (.int (nI (n))), some (.int (nI (m))), some (.ref (oa (13 + m))), some (.int (nI (rk))), some (.int (nI (0))), none] [] M5
  have fin : ∀ (oi oj : Option Value) (M9 : mheap) (V9 : Nat → Int), KS M9 wa la cap 3122 eu dv hi lo (oa 3) V9 → EF M5 M9 wa la 3122 eu dv hi lo → (∀ a y, a < rr → y < cc → V9 (bd + (16 * a + y)) = if a < rk then H a y else 0) → (∀ q, 13 ≤ q → q < 35 ∨ (547 ≤ q ∧ q < bd) ∨ q = bd + 256 → V9 q = V5 q) → jj G kX_hermite (d + 10) Q rc rs 185 [some (.ref (oa 0)), some (.int (nI (n))), some (.int (nI (m))), some (.ref (oa (13 + m))), some (.int (nI (rk))), (oi), (oj)] [] M9 := by
    intro oi oj M9 V9 hS9 f9 h9 o9
    have hO9 := hO5.ef hJ f9
    have hx9 := hO9.1
    have hF9 := hF5.trans (f9.efx (X := XAD oa))
    have ova : ∀ q, 13 ≤ q → (q < 17 ∨ 809 ≤ q) → q < 2865 → V9 q = V q := fun q h1 h2 h3 => by rw [o9 q (by omega) (by omega), o52 q (by omega) (by omega)]; exact v2 q h1 (by omega)
    have hN9 : NRM V9 bd rr cc (zcut H rk cc) := NRM.ones (by rw [o9 _ (by omega) (by omega)]; exact vc5) (fun i j h1 h2 => by
      rw [h9 i j h1 h2, zcut_cell h2]
      split <;> rfl)
    show jj G kX_hermite (d + 10) Q rc rs 185 [some (.ref (oa 0)), some (.int (nI (n))), some (.int (nI (m))), some (.ref (oa (13 + m))), some (.int (nI (rk))), (oi), (oj)] [] M9
    refine jj_aload_n (pc := 185) kX_hermite_d185 rfl ?_
    refine jj_iload_n (pc := 186) kX_hermite_d186 rfl ?_
    refine jj_callV (pc := 187) (b := (oa 0)) (As := [.int (nI (n))]) kX_hermite_d187 (kvX_X_keepDraft hG) (kG_cl hG rfl) rfl hx9 rfl rfl rfl (Nat.le_of_ble_eq_true rfl) (Nat.le_of_ble_eq_true rfl) (jj_bare0 rfl) ?_
    refine x_keepDraft hG hJ hS9 hO9 (q := (zcut H rk cc)) (by omega) (by omega) (by omega) (by omega) hn (by rw [e8, f8, ← ebd]; exact hN9) hrc hrs (fun Mb Vc hfit hSb hOb hNb vb hFb => ?_) (fun hnf y hy => kt M9 3 6 (Or.inr ⟨n, m, hn, rfl, hm, rfl, Or.inr ⟨by rw [← erm, ← ecm]; exact haw, Or.inr ⟨by rw [← erm, ← ecm]; exact hnh, gz V1 g0, H, rk, p, by rw [← erm, ← ecm]; exact fun a b h1 h2 => by rw [hAzB a h1 b h2]; exact hqB a b h1 h2, by rw [← ecm]; exact hHf, by rw [← erm, ← ecm]; exact hHB, by rw [← erm, ← ecm]; exact hBH, by rw [← erm]; exact hrk, by rw [← erm, ← ecm]; exact Or.inr ⟨by rw [e8, f8] at hnf; exact hnf, rfl, rfl, rfl⟩⟩⟩⟩) (by omega) ⟨V9, sc, R1, C1, hS9, hO9, hV.keep (fun p p1 p2 => ova p (by omega) (by omega) p2) (ova 15 (by omega) (by omega) (by omega)) (ova 16 (by omega) (by omega) (by omega)) rk1⟩ hF9 y hy)
    rw [e8, f8] at hfit hNb
    show jj G kX_hermite (d + 10) Q rc rs 190 [some (.ref (oa 0)), some (.int (nI (n))), some (.int (nI (m))), some (.ref (oa (13 + m))), some (.int (nI (rk))), (oi), (oj)] [] Mb
    refine jj_iload (pc := 190) kX_hermite_d190 rfl ?_
    exact jj_iret (pc := 192) kX_hermite_d192 rfl (by rfl) (kr Mb rk _ (Or.inr ⟨n, m, hn, rfl, hm, rfl, Or.inr ⟨by rw [← erm, ← ecm]; exact haw, Or.inr ⟨by rw [← erm, ← ecm]; exact hnh, gz V1 g0, H, rk, p, by rw [← erm, ← ecm]; exact fun a b h1 h2 => by rw [hAzB a h1 b h2]; exact hqB a b h1 h2, by rw [← ecm]; exact hHf, by rw [← erm, ← ecm]; exact hHB, by rw [← erm, ← ecm]; exact hBH, by rw [← erm]; exact hrk, by rw [← erm, ← ecm]; exact Or.inl ⟨hfit, rfl, rfl, rfl⟩⟩⟩⟩) ⟨Vc, -1, _, _, hSb, hOb, hV.put (n := n) (r := rr) (c := cc) (q := (zcut H rk cc)) hn (fun p _ _ p3 => by rw [vb p (by omega) p3]; exact ova p (by omega) (by omega) (by omega)) (fun k hk => by show (if k = n then R1 8 else R1 k) = _; rw [e8, (rk1 k hk).1]) (fun k hk => by show (if k = n then C1 8 else C1 k) = _; rw [f8, (rk1 k hk).2]) (by omega) (by omega) (by omega) (by omega) hNb⟩ (hF9.trans hFb))
  have hHp : ∀ i j, i < rk → j < rk → H i (p j) = T i j := fun i j h1 h2 => by
    apply Rat.intCast_inj.mp
    rw [hHE i h1 _ (hrf.1 j h2), qsum_one h2 (fun k hk hne => by rw [hrf.2.2.2.2 k j hk h2 hne, Rat.mul_zero]), hrf.2.2.2.1 j h2, Rat.mul_one]
  have outer : ∀ mu i, rk = i + mu → ∀ (oj : Option Value) (M9 : mheap) (V9 : Nat → Int), KS M9 wa la cap 3122 eu dv hi lo (oa 3) V9 → EF M5 M9 wa la 3122 eu dv hi lo → (∀ i' j', (i' ≤ j' ∧ j' < rk ∧ (i' < i ∨ (i' = i ∧ j' < 0))) → V9 (bd + (16 * i' + p j')) = T i' j') → (∀ a y, a < rr → y < cc → (∀ i' j', (i' ≤ j' ∧ j' < rk ∧ (i' < i ∨ (i' = i ∧ j' < 0))) → ¬ (a = i' ∧ y = p j')) → V9 (bd + (16 * a + y)) = 0) → (∀ q, 10 ≤ q → q < bd ∨ q = bd + 256 → V9 q = V5 q) → jj G kX_hermite (d + 10) Q rc rs 101 [some (.ref (oa 0)), some (.int (nI (n))), some (.int (nI (m))), some (.ref (oa (13 + m))), some (.int (nI (rk))), some (.int (nI (i))), (oj)] [] M9 := by
    intro mu
    induction mu with
    | zero =>
      intro i hk oj M9 V9 hS9 f9 e9 z9 o9
      have ei : rk = i := by omega
      subst ei
      have hO9 := hO5.ef hJ f9
      have hL9 := hL5.ef hJL f9
      have hR9 := hR5.ef hJQ f9
      have hx9 := hO9.1
      have hl9 := hL9.1
      have hre9 := hR9.1
      have hMd9 := hO9.dr ebd
      rw [e8, f8] at hMd9
      have hmd9 := hMd9.1
      have hMm9 := hO9.2.2.2.2.2.2.2 m (by omega)
      rw [← ebm, (rk1 m hm).1, (rk1 m hm).2, err, ecc] at hMm9
      have hmm9 := hMm9.1
      obtain ⟨hpa9, lpa9⟩ := hL9.2.2.1
      refine jj_iload (pc := 101) kX_hermite_d101 rfl ?_
      refine jj_iload (pc := 103) kX_hermite_d103 rfl ?_
      refine jn_icmp_ge (pc := 105) (tgt := 164) kX_hermite_d105 (by decide) (by omega) (by omega) (fun _ => ?_) (fun c => by exfalso; omega)
      refine jj_iload (pc := 164) kX_hermite_d164 rfl ?_
      refine jj_aload_n (pc := 166) kX_hermite_d166 rfl ?_
      refine jj_getf (pc := 167) kX_hermite_d167 (kfX_M_columns hG) hmm9 rfl ?_
      have hpv9 : ∀ a y, a < rr → y < cc → (∃ k, k < rk ∧ p k = y) → V9 (bd + (16 * a + y)) = if a < rk then H a y else 0 := fun a y h1 h2 h3 => by
        obtain ⟨k, hk9, ek⟩ := h3
        by_cases c : a < rk
        · rw [if_pos c, ← ek, hHp a k c hk9]
          by_cases c2 : a ≤ k
          · exact e9 a k ⟨c2, hk9, Or.inl c⟩
          · rw [tA.1.2.2.1 a c k (show k < a by omega)]
            refine z9 a (p k) h1 (hrf.1 k hk9) (fun i' j' h4 h5 => ?_)
            have : j' = k := by
              rcases Nat.lt_trichotomy j' k with l | l | l
              · have := hpi j' k l hk9; omega
              · exact l
              · have := hpi k j' l h4.2.1; omega
            omega
        · rw [if_neg c]
          exact z9 a y h1 h2 (fun i' j' h4 h5 => by omega)
      refine jn_icmp_ge (pc := 170) (tgt := 185) kX_hermite_d170 (by decide) (by omega) (by omega) (fun cw => ?_) (fun cw => ?_)
      · skip
        show jj G kX_hermite (d + 10) Q rc rs 185 [some (.ref (oa 0)), some (.int (nI (n))), some (.int (nI (m))), some (.ref (oa (13 + m))), some (.int (nI (rk))), some (.int (nI (rk))), (oj)] [] M9
        have rkc : rk = cc := by omega
        have hid := rise_id (p := p) (m := cc) (fun i hi' => hrf.1 i (by omega)) (fun i k a b => hpi i k a (by omega))
        exact fin _ _ M9 V9 hS9 f9 (fun a y h1 h2 => hpv9 a y h1 h2 ⟨y, by omega, hid y h2⟩) (fun q h1 h2 => o9 q (by omega) (by omega))
      · skip
        refine jj_aload_n (pc := 173) kX_hermite_d173 rfl ?_
        refine jj_getf (pc := 174) kX_hermite_d174 (kfX_elimination hG) hx9 rfl ?_
        refine jn_iconst (pc := 177) 0 kX_hermite_d177 (by decide) ?_
        have gk : ∀ i j, i < rr → j < cc → gz V9 g i j = gz V2 g i j := fun i j h1 h2 => by
          have := hL9.2.2.2.2.2.1 (32 * i + j) (by omega)
          show V9 _ = V2 _
          rw [o9 _ (by omega) (by omega)]; exact o52 _ (by omega) (by omega)
        have v33 : V9 33 = L := by rw [o9 _ (by omega) (by omega), o52 _ (by omega) (by omega)]; exact eL
        have hB9 := hB2'.congr (Z' := gz V9 g) (fun i h1 j h2 => gk i j h1 h2)
        rw [← v33] at hB9
        refine jj_callV (pc := 178) (b := (oa 4)) (As := [.int (nI (0))]) kX_hermite_d178 (kvX_E_substitute hG) (kG_cl hG rfl) rfl hl9 rfl rfl rfl (Nat.le_of_ble_eq_true rfl) (Nat.le_of_ble_eq_true rfl) (jj_bare0 rfl) ?_
        refine e_subst (f := 0) hG hK hS9 hJL hL9 hB9 (Nat.le_refl _) hB9.bz hb1 hbz hwt s2m (by omega) hPV (Nat.zero_le _) (fun M6 V6 hS6 hf6 vo6 eT => ?_)
        rw [v33] at eT
        have f06 := f9.trans hf6
        have hO6 := hO5.ef hJ f06
        have hL6 := hL5.ef hJL f06
        have hR6 := hR5.ef hJQ f06
        have hx6 := hO6.1
        have v6 : V6 33 = L := by rw [vo6 _ (by omega) (by omega)]; exact v33
        have t6 : ∀ i j, i ≤ j → j < rk → V6 (rp s4 16 1 i j) = T i j := fun i j h1 h2 => by
          have := hsp.b hs (show i < 16 by omega) (show j < 16 by omega)
          rw [vo6 _ (by omega) (by omega), o9 _ (by omega) (by omega)]; exact e5 i j h1 h2
        have hHs : ∀ i x, i < rk → x < cc → (∀ k, k < rk → p k ≠ x) → isum (fun t => V6 (rp s4 16 1 i (i + t)) * V6 (g (32 * (i + t) + x))) (rk - i) = H i x * L := fun i x h1 h2 h3 => by
          apply Rat.intCast_inj.mp
          rw [isum_cast, Rat.intCast_mul, hHE i h1 x h2, Rat.mul_comm, qsum_mul]
          have e0 : qsum (fun k => ((L : Int) : Rat) * (((T i k : Int) : Rat) * E k x)) rk = qsum (fun t => ((L : Int) : Rat) * (((T i (i + t) : Int) : Rat) * E (i + t) x)) (rk - i) := by
            have := qsum_shift (f := fun k => ((L : Int) : Rat) * (((T i k : Int) : Rat) * E k x)) (a := i) (n := rk - i) (fun k hk => by rw [tA.1.2.2.1 i h1 k hk]; show _ * ((0 : Rat) * _) = 0; grind)
            rw [show i + (rk - i) = rk by omega] at this
            exact this
          rw [e0]
          refine qsum_congr (fun t ht => ?_)
          rw [Rat.intCast_mul, t6 i (i + t) (by omega) (by omega), (eT (i + t) x (by omega) (Nat.zero_le _) h2 h3).1]
          grind
        show jj G kX_hermite (d + 10) Q rc rs 181 [some (.ref (oa 0)), some (.int (nI (n))), some (.int (nI (m))), some (.ref (oa (13 + m))), some (.int (nI (rk))), some (.int (nI (rk))), (oj)] [] M6
        refine jj_aload_n (pc := 181) kX_hermite_d181 rfl ?_
        refine jj_callV (pc := 182) (b := (oa 0)) (As := []) kX_hermite_d182 (kvX_X_draftFreeColumns hG) (kG_cl hG rfl) rfl hx6 rfl rfl rfl (Nat.le_of_ble_eq_true rfl) (Nat.le_of_ble_eq_true rfl) (jj_bare0 rfl) ?_
        refine x_draftFree hG hJ hS6 hO6 hL6 hR6 (by omega) (by omega) f8 s4m v6 hLne hPV (fun k hk => hrf.1 k hk) hHs (fun M7 V7 hS7 hw7 e7 o7 => ?_)
        show jj G kX_hermite (d + 10) Q rc rs 185 [some (.ref (oa 0)), some (.int (nI (n))), some (.int (nI (m))), some (.ref (oa (13 + m))), some (.int (nI (rk))), some (.int (nI (rk))), (oj)] [] M7
        rw [← ebd] at e7 o7
        refine fin _ _ M7 V7 hS7 (f06.trans hw7) (fun a y h1 h2 => ?_) (fun q h1 h2 => ?_)
        · by_cases c : ∃ k, k < rk ∧ p k = y
          · have keep : V7 (bd + (16 * a + y)) = V9 (bd + (16 * a + y)) := by
              rw [o7 _ (by omega) (fun i x h3 h4 h5 e => by
                obtain ⟨k, hk9, ek⟩ := c
                have : x = y := by omega
                exact h5 k hk9 (by omega))]
              exact vo6 _ (by omega) (by omega)
            rw [keep]; exact hpv9 a y h1 h2 c
          · have hny : ∀ k, k < rk → p k ≠ y := fun k hk9 e => c ⟨k, hk9, e⟩
            by_cases ca : a < rk
            · rw [if_pos ca]; exact e7 a y ca h2 hny
            · rw [if_neg ca, o7 _ (by omega) (fun i x h3 h4 h5 e => by omega), vo6 _ (by omega) (by omega)]
              exact z9 a y h1 h2 (fun i' j' h4 h5 => by omega)
        · rw [o7 q (by omega) (fun i x h3 h4 h5 e => by omega), vo6 q h1 (by omega)]; exact o9 q (by omega) (by omega)
    | succ mu ih =>
      intro i hk oj M9 V9 hS9 f9 e9 z9 o9
      have hO9 := hO5.ef hJ f9
      have hL9 := hL5.ef hJL f9
      have hR9 := hR5.ef hJQ f9
      have hx9 := hO9.1
      have hl9 := hL9.1
      have hre9 := hR9.1
      have hMd9 := hO9.dr ebd
      rw [e8, f8] at hMd9
      have hmd9 := hMd9.1
      have hMm9 := hO9.2.2.2.2.2.2.2 m (by omega)
      rw [← ebm, (rk1 m hm).1, (rk1 m hm).2, err, ecc] at hMm9
      have hmm9 := hMm9.1
      obtain ⟨hpa9, lpa9⟩ := hL9.2.2.1
      refine jj_iload (pc := 101) kX_hermite_d101 rfl ?_
      refine jj_iload (pc := 103) kX_hermite_d103 rfl ?_
      refine jn_icmp_ge (pc := 105) (tgt := 164) kX_hermite_d105 (by decide) (by omega) (by omega) (fun c => by exfalso; omega) (fun _ => ?_)
      refine jj_iload (pc := 108) kX_hermite_d108 rfl ?_
      refine jj_istore (pc := 110) kX_hermite_d110 (Nat.le_of_ble_eq_true rfl) ?_
      show jj G kX_hermite (d + 10) Q rc rs 112 [some (.ref (oa 0)), some (.int (nI (n))), some (.int (nI (m))), some (.ref (oa (13 + m))), some (.int (nI (rk))), some (.int (nI (i))), some (.int (nI (i)))] [] M9
      show jj G kX_hermite (d + 10) Q rc rs 112 [some (.ref (oa 0)), some (.int (nI (n))), some (.int (nI (m))), some (.ref (oa (13 + m))), some (.int (nI (rk))), some (.int (nI (i))), some (.int (nI (i)))] [] M9
      have inner : ∀ mu2 j, rk = j + mu2 → i ≤ j → ∀ (M9 : mheap) (V9 : Nat → Int), KS M9 wa la cap 3122 eu dv hi lo (oa 3) V9 → EF M5 M9 wa la 3122 eu dv hi lo → (∀ i' j', (i' ≤ j' ∧ j' < rk ∧ (i' < i ∨ (i' = i ∧ j' < j))) → V9 (bd + (16 * i' + p j')) = T i' j') → (∀ a y, a < rr → y < cc → (∀ i' j', (i' ≤ j' ∧ j' < rk ∧ (i' < i ∨ (i' = i ∧ j' < j))) → ¬ (a = i' ∧ y = p j')) → V9 (bd + (16 * a + y)) = 0) → (∀ q, 10 ≤ q → q < bd ∨ q = bd + 256 → V9 q = V5 q) → jj G kX_hermite (d + 10) Q rc rs 112 [some (.ref (oa 0)), some (.int (nI (n))), some (.int (nI (m))), some (.ref (oa (13 + m))), some (.int (nI (rk))), some (.int (nI (i))), some (.int (nI (j)))] [] M9 := by
        intro mu2
        induction mu2 with
        | zero =>
          intro j hk2 hij M9 V9 hS9 f9 e9 z9 o9
          have ej : rk = j := by omega
          subst ej
          have hO9 := hO5.ef hJ f9
          have hL9 := hL5.ef hJL f9
          have hR9 := hR5.ef hJQ f9
          have hx9 := hO9.1
          have hl9 := hL9.1
          have hre9 := hR9.1
          have hMd9 := hO9.dr ebd
          rw [e8, f8] at hMd9
          have hmd9 := hMd9.1
          have hMm9 := hO9.2.2.2.2.2.2.2 m (by omega)
          rw [← ebm, (rk1 m hm).1, (rk1 m hm).2, err, ecc] at hMm9
          have hmm9 := hMm9.1
          obtain ⟨hpa9, lpa9⟩ := hL9.2.2.1
          refine jj_iload (pc := 112) kX_hermite_d112 rfl ?_
          refine jj_iload (pc := 114) kX_hermite_d114 rfl ?_
          refine jn_icmp_ge (pc := 116) (tgt := 158) kX_hermite_d116 (by decide) (by omega) (by omega) (fun _ => ?_) (fun c => by exfalso; omega)
          refine jn_iinc (pc := 158) (i + 1) kX_hermite_d158 rfl (nI_1 _) ?_
          refine jj_goto (pc := 161) (tgt := 101) kX_hermite_d161 (by decide) ?_
          show jj G kX_hermite (d + 10) Q rc rs 101 [some (.ref (oa 0)), some (.int (nI (n))), some (.int (nI (m))), some (.ref (oa (13 + m))), some (.int (nI (rk))), some (.int (nI (i + 1))), some (.int (nI (rk)))] [] M9
          exact ih (i + 1) (by omega) _ M9 V9 hS9 f9 (fun i' j' h => e9 i' j' ⟨h.1, h.2.1, by omega⟩) (fun a y h1 h2 h3 => z9 a y h1 h2 (fun i' j' h4 => h3 i' j' ⟨h4.1, h4.2.1, by omega⟩)) o9
        | succ mu2 ih2 =>
          intro j hk2 hij M9 V9 hS9 f9 e9 z9 o9
          have hO9 := hO5.ef hJ f9
          have hL9 := hL5.ef hJL f9
          have hR9 := hR5.ef hJQ f9
          have pj := hrf.1 j (by omega)
          have bij := hsp.b hs (show i < 16 by omega) (show j < 16 by omega)
          have vr : V9 (rp s4 16 1 i j) = T i j := by rw [o9 _ (by omega) (by omega)]; exact e5 i j hij (by omega)
          have lr : lc (V9 (rp s4 16 1 i j)) ≤ 64 := by have := hS9.1.lc (p := (rp s4 16 1 i j)) (by omega); rw [hJQ.2.2.2.1 _ bij.1 bij.2] at this; exact this
          have hx9 := hO9.1
          have hl9 := hL9.1
          have hre9 := hR9.1
          have hMd9 := hO9.dr ebd
          rw [e8, f8] at hMd9
          have hmd9 := hMd9.1
          have hMm9 := hO9.2.2.2.2.2.2.2 m (by omega)
          rw [← ebm, (rk1 m hm).1, (rk1 m hm).2, err, ecc] at hMm9
          have hmm9 := hMm9.1
          obtain ⟨hpa9, lpa9⟩ := hL9.2.2.1
          refine jj_iload (pc := 112) kX_hermite_d112 rfl ?_
          refine jj_iload (pc := 114) kX_hermite_d114 rfl ?_
          refine jn_icmp_ge (pc := 116) (tgt := 158) kX_hermite_d116 (by decide) (by omega) (by omega) (fun c => by exfalso; omega) (fun _ => ?_)
          refine jj_aload_n (pc := 119) kX_hermite_d119 rfl ?_
          refine jj_getf (pc := 120) kX_hermite_d120 (kfX_draft hG) hx9 rfl ?_
          refine jj_iload (pc := 123) kX_hermite_d123 rfl ?_
          refine jj_aload_n (pc := 125) kX_hermite_d125 rfl ?_
          refine jj_getf (pc := 126) kX_hermite_d126 (kfX_elimination hG) hx9 rfl ?_
          refine jj_getf (pc := 129) kX_hermite_d129 (kfX_E_pivotColumns hG) hl9 rfl ?_
          refine jj_iload (pc := 132) kX_hermite_d132 rfl ?_
          refine jn_iald (pc := 134) (v := (nI (p j))) kX_hermite_d134 (kG_t hG rfl) hpa9 (by omega) (by omega) (hPV.1 j (by omega)) ?_
          refine jj_callV (pc := 135) (b := (oa 21)) (As := [.int (nI (i)), .int (nI (p j))]) kX_hermite_d135 (kvX_M_at hG) (kG_cl hG rfl) rfl hmd9 rfl rfl rfl (Nat.le_of_ble_eq_true rfl) (Nat.le_of_ble_eq_true rfl) (jj_bare0 rfl) ?_
          refine m_at hG hMd9 (by omega) (by omega) ?_
          show jj G kX_hermite (d + 10) Q rc rs 138 [some (.ref (oa 0)), some (.int (nI (n))), some (.int (nI (m))), some (.ref (oa (13 + m))), some (.int (nI (rk))), some (.int (nI (i))), some (.int (nI (j)))] [.ref (wa (bd + (16 * i + p j)))] M9
          refine jj_aload_n (pc := 138) kX_hermite_d138 rfl ?_
          refine jj_getf (pc := 139) kX_hermite_d139 (kfX_residues hG) hx9 rfl ?_
          refine jj_iload (pc := 142) kX_hermite_d142 rfl ?_
          refine jj_iload (pc := 144) kX_hermite_d144 rfl ?_
          refine jj_callV (pc := 146) (b := (oa 9)) (As := [.int (nI (i)), .int (nI (j))]) kX_hermite_d146 (kvX_S_at hG) (kG_cl hG rfl) rfl hre9 rfl rfl rfl (Nat.le_of_ble_eq_true rfl) (Nat.le_of_ble_eq_true rfl) (jj_bare0 rfl) ?_
          refine r_at hG hR9 hs (by omega) (by omega) ?_
          show jj G kX_hermite (d + 10) Q rc rs 149 [some (.ref (oa 0)), some (.int (nI (n))), some (.int (nI (m))), some (.ref (oa (13 + m))), some (.int (nI (rk))), some (.int (nI (i))), some (.int (nI (j)))] [.ref (wa (rp s4 16 1 i j)), .ref (wa (bd + (16 * i + p j)))] M9
          obtain ⟨T9, t9, hT9, _, _⟩ := hS9.1 (bd + (16 * i + p j)) (by omega)
          refine jj_callV (pc := 149) (b := (wa (bd + (16 * i + p j)))) (As := [.ref (wa (rp s4 16 1 i j))]) kX_hermite_d149 (kvX_W_copy hG) (kG_cl hG rfl) rfl hT9 rfl rfl rfl (Nat.le_of_ble_eq_true rfl) (Nat.le_of_ble_eq_true rfl) (jj_bare0 rfl) ?_
          refine w_copy hG hI hS9.1 (t := (bd + (16 * i + p j))) (u := (rp s4 16 1 i j)) (by omega) (by omega) (by rw [hJ.cap252 (by omega) (by omega)]; exact lc_room (by omega)) (fun M8 hc8 hw8 => ?_)
          show jj G kX_hermite (d + 10) Q rc rs 152 [some (.ref (oa 0)), some (.int (nI (n))), some (.int (nI (m))), some (.ref (oa (13 + m))), some (.int (nI (rk))), some (.int (nI (i))), some (.int (nI (j)))] [] M8
          refine jn_iinc (pc := 152) (j + 1) kX_hermite_d152 rfl (nI_1 _) ?_
          refine jj_goto (pc := 155) (tgt := 112) kX_hermite_d155 (by decide) ?_
          show jj G kX_hermite (d + 10) Q rc rs 112 [some (.ref (oa 0)), some (.int (nI (n))), some (.int (nI (m))), some (.ref (oa (13 + m))), some (.int (nI (rk))), some (.int (nI (i))), some (.int (nI (j + 1)))] [] M8
          have pne : ∀ j', j' < rk → j' ≠ j → p j' ≠ p j := fun j' h1 h2 e => by
            rcases Nat.lt_or_gt_of_ne h2 with l | l
            · have := hpi j' j l (by omega); omega
            · have := hpi j j' l h1; omega
          refine ih2 (j + 1) (by omega) (by omega) M8 _ (hS9.wt hK (by omega) hw8 hc8) (f9.trans (hw8.ef (by omega))) (fun i' j' h => ?_) (fun a y h1 h2 h3 => ?_) (fun q h1 h2 => by rw [vup_ne _ _ (by omega)]; exact o9 q h1 h2)
          · by_cases e : i' = i ∧ j' = j
            · rw [e.1, e.2, vup_at]; exact vr
            · have p' := hrf.1 j' h.2.1
              have hne : ¬ (i' = i ∧ p j' = p j) := fun h9 => by
                by_cases e1 : j' = j
                · exact e ⟨h9.1, e1⟩
                · exact pne j' h.2.1 e1 h9.2
              rw [vup_ne _ _ (by omega)]
              exact e9 i' j' ⟨h.1, h.2.1, by omega⟩
          · have hne := h3 i j ⟨hij, by omega, by omega⟩
            rw [vup_ne _ _ (by omega)]
            exact z9 a y h1 h2 (fun i' j' h4 => h3 i' j' ⟨h4.1, h4.2.1, by omega⟩)
      refine inner (rk - i) i (by omega) (Nat.le_refl _) M9 V9 hS9 f9 (fun i' j' h => e9 i' j' ⟨h.1, h.2.1, by omega⟩) (fun a y h1 h2 h3 => z9 a y h1 h2 (fun i' j' h4 => h3 i' j' ⟨h4.1, h4.2.1, by omega⟩)) o9
  exact outer rk 0 (by omega) _ M5 V5 hS5 (fun _ _ _ _ _ _ => rfl) (fun i' j' h => by omega) (fun a y h1 h2 _ => v05 a y h1 h2) (fun _ _ _ => rfl)
end X17
