/-! ===== ExactForms: smith (printed by wip/gen/rX18.py) ===== -/
theorem dia_cell {s : Nat → Int} {r c i j : Nat} (hj : j < c) : (fun t => if t / c = t % c ∧ t / c < r then ((s (t / c) : Int) : Rat) else 0) (i * c + j) = if i = j ∧ i < r then ((s i : Int) : Rat) else 0 := by
  dsimp only
  rw [Nat.mul_comm i c, Nat.mul_add_div (by omega), Nat.div_eq_of_lt hj, Nat.add_zero, Nat.mul_add_mod, Nat.mod_eq_of_lt hj]
theorem range_nI {j : Nat} (h : j < 16) : ((List.range 16).map nI).getD j 0 = nI j := by
  rw [List.getD_eq_getElem?_getD, List.getElem?_map, List.getElem?_range h]
  rfl
section X18
variable {G : jg} {d : Nat} {Q : jq} {rc rs : Nat} {M : mheap} {wa la cap oa : Nat → Nat} {eu dv hi lo : Nat} {σ : rst}
theorem xp_smith {x y : Int32} (hG : kG G) (hJ : XJ wa la cap oa eu dv hi lo) (hT : XT M wa la cap oa eu dv hi lo σ) (hrc : 1 ≤ rc) (hrs : 6 ≤ rs) (kr : ∀ (M' : mheap) (v : Nat) (σ' : rst), semSmith σ x y 0 v σ' → XT M' wa la cap oa eu dv hi lo σ' → XF oa M M' wa la eu dv hi lo → Q (.returned (some (.int (nI v)))) M' rc rs) (kt : ∀ (M' : mheap) (cd ci : Nat), semSmith σ x y cd 0 σ → (cd = 1 ∧ ci = 4 ∨ cd = 2 ∧ ci = 5 ∨ cd = 3 ∧ ci = 6) → XT M' wa la cap oa eu dv hi lo σ → XF oa M M' wa la eu dv hi lo → ∀ x, M' x = none → Q (.threw x) (jj_up M' x (.inl ci, [])) (rc - 1) (rs - 6)) : jj G kX_smith (d + 10) Q rc rs 0 (jj_ent [.ref (oa 0), .int x, .int y] 6) [] M := by
  obtain ⟨V, sc, R, C, hS, hO, hV⟩ := id hT
  have hK := hJ.1
  have hI := hK.1
  have hx := hO.1
  show jj G kX_smith (d + 10) Q rc rs 0 [some (.ref (oa 0)), some (.int (x)), some (.int (y)), none, none, none] [] M
  refine jj_aload_n (pc := 0) kX_smith_d0 rfl ?_
  refine jj_iload_n (pc := 1) kX_smith_d1 rfl ?_
  refine jj_callV (pc := 2) (b := (oa 0)) (As := [.int (x)]) kX_smith_d2 (kvX_X_register hG) (kG_cl hG rfl) rfl hx rfl rfl rfl (Nat.le_of_ble_eq_true rfl) (Nat.le_of_ble_eq_true rfl) (jj_bare0 rfl) ?_
  refine x_register hG hO hrc hrs (fun n hn en => ?_) (fun h y hy => kt M 1 4 (Or.inl ⟨fun g => h g.1, rfl, rfl, rfl⟩) (by omega) hT (fun _ _ _ => rfl) y hy)
  subst en
  show jj G kX_smith (d + 10) Q rc rs 5 [some (.ref (oa 0)), some (.int (nI (n))), some (.int (y)), none, none, none] [.ref (oa (13 + n))] M
  refine jj_pop (pc := 5) kX_smith_d5 rfl ?_
  refine jj_aload_n (pc := 6) kX_smith_d6 rfl ?_
  refine jj_iload_n (pc := 7) kX_smith_d7 rfl ?_
  refine jj_callV (pc := 8) (b := (oa 0)) (As := [.int (y)]) kX_smith_d8 (kvX_X_register hG) (kG_cl hG rfl) rfl hx rfl rfl rfl (Nat.le_of_ble_eq_true rfl) (Nat.le_of_ble_eq_true rfl) (jj_bare0 rfl) ?_
  refine x_register hG hO hrc hrs (fun m hm em => ?_) (fun h y hy => kt M 1 4 (Or.inl ⟨fun g => h g.2, rfl, rfl, rfl⟩) (by omega) hT (fun _ _ _ => rfl) y hy)
  subst em
  show jj G kX_smith (d + 10) Q rc rs 11 [some (.ref (oa 0)), some (.int (nI (n))), some (.int (nI (m))), none, none, none] [.ref (oa (13 + m))] M
  obtain ⟨erm, ecm, s1m, s2m, s3m, s4m, hNm⟩ := hV.1 m hm
  obtain ⟨bm, ebm⟩ : ∃ b, b = 809 + 257 * m := ⟨_, rfl⟩
  have hMm := hO.2.2.2.2.2.2.2 m (by omega)
  rw [← ebm] at hMm hNm
  have hmm := hMm.1
  obtain ⟨rr, err⟩ : ∃ r, R m = r := ⟨_, rfl⟩
  obtain ⟨cc, ecc⟩ : ∃ c, C m = c := ⟨_, rfl⟩
  rw [err] at erm s1m s2m
  rw [ecc] at ecm s3m s4m
  rw [err, ecc] at hMm hmm hNm
  obtain ⟨bd, ebd⟩ : ∃ b, b = 2865 := ⟨_, rfl⟩
  have hJL := hJ.lj
  obtain ⟨rk0, sw0, m0, w0, P0, B0, g0, hL0⟩ := hO.2.2.2.2.2.1
  have hl0 := hL0.1
  show jj G kX_smith (d + 10) Q rc rs 11 [some (.ref (oa 0)), some (.int (nI (n))), some (.int (nI (m))), none, none, none] [.ref (oa (13 + m))] M
  have hJQ := hJ.qj
  have hwh := hNm.whole
  refine jj_astore_n (pc := 11) kX_smith_d11 (Nat.le_of_ble_eq_true rfl) ?_
  show jj G kX_smith (d + 10) Q rc rs 12 [some (.ref (oa 0)), some (.int (nI (n))), some (.int (nI (m))), some (.ref (oa (13 + m))), none, none] [] M
  refine jj_aload_n (pc := 12) kX_smith_d12 rfl ?_
  refine jj_callS (pc := 13) (As := [.ref (oa (13 + m))]) kX_smith_d13 (kvX_X_needWhole hG) rfl rfl rfl (Nat.le_of_ble_eq_true rfl) (Nat.le_of_ble_eq_true rfl) (jj_bare0 rfl) ?_
  refine x_needWhole hG hI hS.1 hMm (by omega) hrc hrs (fun hc1 => ?_) (fun hc1 y hy => kt M 2 5 (Or.inr ⟨n, m, hn, rfl, hm, rfl, Or.inl ⟨by rw [← erm, ← ecm]; exact fun h => hc1 (hwh.2 h), rfl, rfl, rfl⟩⟩) (by omega) hT (fun _ _ _ => rfl) y hy)
  have haw := hwh.1 hc1
  show jj G kX_smith (d + 10) Q rc rs 16 [some (.ref (oa 0)), some (.int (nI (n))), some (.int (nI (m))), some (.ref (oa (13 + m))), none, none] [] M
  refine jj_aload_n (pc := 16) kX_smith_d16 rfl ?_
  refine jj_getf (pc := 17) kX_smith_d17 (kfX_elimination hG) hx rfl ?_
  refine jj_aload_n (pc := 20) kX_smith_d20 rfl ?_
  refine jn_iconst (pc := 21) 0 kX_smith_d21 (by decide) ?_
  refine jj_callV (pc := 22) (b := (oa 4)) (As := [.ref (oa (13 + m)), .int (nI (0))]) kX_smith_d22 (kvX_E_load hG) (kG_cl hG rfl) rfl hl0 rfl rfl rfl (Nat.le_of_ble_eq_true rfl) (Nat.le_of_ble_eq_true rfl) (jj_bare0 rfl) ?_
  refine e_load hG hK hS hJL hL0 hMm (by omega) (by omega) (fun p _ _ => (hJ.capw (p := p) (by omega) (by omega)).1) s2m s4m hNm.1 (by have := hS.1.lc (p := bm + 256) (by omega); rw [hJ.cap125 (by omega) (by omega)] at this; exact this) (by omega) hrc hrs (fun M1 V1 hS1 hL1 vo1 hx1 hR1 => ?_) (fun Mt Vt hSt hLt vot hxt htw y hy => kt Mt 3 6 (Or.inr ⟨n, m, hn, rfl, hm, rfl, Or.inr ⟨by rw [← erm, ← ecm]; exact haw, Or.inl ⟨by rw [← erm, ← ecm]; exact toow_heavy hNm (by omega) (by omega) htw, rfl, rfl, rfl⟩⟩⟩) (by omega) ⟨Vt, sc, R, C, hSt, (hO.el hLt (fun i h1 h2 _ _ _ => hxt _ (hJ.ne h1 (by omega) h2) (hJ.2.2.1 i h1))), hV.keep (fun p p1 p2 => vot p (by omega) (by omega)) (vot 15 (by omega) (by omega)) (vot 16 (by omega) (by omega)) (fun _ _ => ⟨rfl, rfl⟩)⟩ (hxt.more (fun x e => ⟨4, by omega, e⟩)) y hy)
  have hk1 : ∀ i, i < 31 → i ≠ 4 → i ≠ 6 → i ≠ 7 → i ≠ 8 → M1 (oa i) = M (oa i) := fun i h1 h2 _ _ _ => hx1 _ (hJ.ne h1 (by omega) h2) (hJ.2.2.1 i h1)
  have hO1 := hO.el hL1 hk1
  have hF1 : XF oa M M1 wa la eu dv hi lo := hx1.more (fun x e => ⟨4, by omega, e⟩)
  have hl1 := hL1.1
  have hx1a := hO1.1
  have hMm1 := hO1.2.2.2.2.2.2.2 m (by omega)
  rw [← ebm, err, ecc] at hMm1
  have hmm1 := hMm1.1
  have hgl := glong_eq hNm hR1
  show jj G kX_smith (d + 10) Q rc rs 25 [some (.ref (oa 0)), some (.int (nI (n))), some (.int (nI (m))), some (.ref (oa (13 + m))), none, none] [] M1
  refine jj_aload_n (pc := 25) kX_smith_d25 rfl ?_
  refine jj_getf (pc := 26) kX_smith_d26 (kfX_elimination hG) hx1a rfl ?_
  refine jj_callV (pc := 29) (b := (oa 4)) (As := []) kX_smith_d29 (kvX_E_weigh hG) (kG_cl hG rfl) rfl hl1 rfl rfl rfl (Nat.le_of_ble_eq_true rfl) (Nat.le_of_ble_eq_true rfl) (jj_bare0 rfl) ?_
  refine e_weigh hG hK hS1 hJL hL1 s1m s2m s3m (by omega) hrc hrs (fun hnh => ?_) (fun hhv y hy => kt M1 3 6 (Or.inr ⟨n, m, hn, rfl, hm, rfl, Or.inr ⟨by rw [← erm, ← ecm]; exact haw, Or.inl ⟨by rw [← erm, ← ecm]; exact (by rw [hgl] at hhv; exact hhv), rfl, rfl, rfl⟩⟩⟩) (by omega) ⟨V1, sc, R, C, hS1, hO1, hV.keep (fun p p1 p2 => vo1 p (by omega) (by omega)) (vo1 15 (by omega) (by omega)) (vo1 16 (by omega) (by omega)) (fun _ _ => ⟨rfl, rfl⟩)⟩ hF1 y hy)
  rw [hgl] at hnh
  have hbz := glong_bound (Z := gz V1 g0) (m := rr) (w := cc)
  rw [hgl] at hbz
  have hwt := hvy_pow (show 1 ≤ min rr cc by omega) hnh
  obtain ⟨bz, ebz⟩ : ∃ b, 2 ^ nmax (fun k => rowL (σ.2.2 m) cc k (rowD (σ.2.2 m) cc k 1)) rr = b := ⟨_, rfl⟩
  have hb1 : 1 ≤ bz := by rw [← ebz]; exact Nat.pow_pos (by decide)
  rw [ebz] at hbz hwt
  show jj G kX_smith (d + 10) Q rc rs 32 [some (.ref (oa 0)), some (.int (nI (n))), some (.int (nI (m))), some (.ref (oa (13 + m))), none, none] [] M1
  refine jj_aload_n (pc := 32) kX_smith_d32 rfl ?_
  refine jj_getf (pc := 33) kX_smith_d33 (kfX_elimination hG) hx1a rfl ?_
  refine jj_aload_n (pc := 36) kX_smith_d36 rfl ?_
  refine jj_getf (pc := 37) kX_smith_d37 (kfX_M_columns hG) hmm1 rfl ?_
  refine jj_callV (pc := 40) (b := (oa 4)) (As := [.int (nI (cc))]) kX_smith_d40 (kvX_E_eliminate hG) (kG_cl hG rfl) rfl hl1 rfl rfl rfl (Nat.le_of_ble_eq_true rfl) (Nat.le_of_ble_eq_true rfl) (jj_bare0 rfl) ?_
  refine e_eliminate hG hK hS1 hJL hL1 hb1 hbz hwt s1m s2m s3m (by omega) (by omega) (fun M2 V2 rk sw P B g p A Bq E hS2 hL2 hx2 vo2 hB2 hPV => ?_)
  have hk2 : ∀ i, i < 31 → i ≠ 4 → i ≠ 6 → i ≠ 7 → i ≠ 8 → M2 (oa i) = M1 (oa i) := fun i h1 h2 h3 h4 h5 => hx2 _ (fun e => by rcases e with e | e | e | e <;> exact absurd e (hJ.ne h1 (by omega) (by assumption))) (hJ.2.2.1 i h1)
  have hO2 := hO1.el hL2 hk2
  have hF2 : XF oa M M2 wa la eu dv hi lo := hF1.trans (hx2.more (fun x e => by rcases e with e | e | e | e; exact ⟨4, by omega, e⟩; exact ⟨6, by omega, e⟩; exact ⟨7, by omega, e⟩; exact ⟨8, by omega, e⟩))
  have v2 : ∀ p, 13 ≤ p → p < 17 ∨ 547 ≤ p → V2 p = V p := fun p h1 h2 => by rw [vo2 p h1 (by omega) (by omega)]; exact vo1 p h1 h2
  have hl2 := hL2.1
  have hx2a := hO2.1
  have hMm2 := hO2.2.2.2.2.2.2.2 m (by omega)
  rw [← ebm, err, ecc] at hMm2
  have hmm2 := hMm2.1
  have hrk := hB2.1.1
  have hrkc := hB2.rkc
  have hpc := hB2.2.1.2.1
  show jj G kX_smith (d + 10) Q rc rs 43 [some (.ref (oa 0)), some (.int (nI (n))), some (.int (nI (m))), some (.ref (oa (13 + m))), none, none] [] M2
  refine jj_aload_n (pc := 43) kX_smith_d43 rfl ?_
  refine jj_getf (pc := 44) kX_smith_d44 (kfX_elimination hG) hx2a rfl ?_
  refine jj_getf (pc := 47) kX_smith_d47 (kfX_E_rank hG) hl2 rfl ?_
  refine jj_istore (pc := 50) kX_smith_d50 (Nat.le_of_ble_eq_true rfl) ?_
  show jj G kX_smith (d + 10) Q rc rs 52 [some (.ref (oa 0)), some (.int (nI (n))), some (.int (nI (m))), some (.ref (oa (13 + m))), some (.int (nI (rk))), none] [] M2
  obtain ⟨Bz, eBz⟩ : ∃ Bz : imat, Bz = fun i j => V (bm + (16 * i + j)) := ⟨_, rfl⟩
  have hqB : ∀ i j, i < rr → j < cc → σ.2.2 m (i * cc + j) = ((Bz i j : Int) : Rat) := fun i j h1 h2 => by
    have := hNm.2.1.2 i j h1 h2
    rw [hc1] at this
    rw [eBz]
    rw [this]
    show _ = _ * (1 : Rat)
    rw [Rat.mul_one]
  have hAzB : ∀ i, i < rr → ∀ j, j < cc → gz V1 g0 i j = Bz i j := fun i h1 j h2 => by
    have e0 : bcol 0 cc j = j := by unfold bcol; rw [if_neg (by omega)]
    have := (rowd_cell hNm h1 (hR1 i h1) h2).2
    rw [e0, rowD_one haw h1, hqB i j h1 h2] at this
    apply Rat.intCast_inj.mp
    rw [this]
    show (1 : Rat) * _ = _
    rw [Rat.one_mul]
  obtain ⟨L, eL⟩ : ∃ L, V2 33 = L := ⟨_, rfl⟩
  have hB2' := hB2
  rw [eL] at hB2'
  have hLne := hB2'.ne
  have lL : lc L ≤ 63 := (hB2'.lcL (Nat.le_refl _) hb1 hbz hwt).1
  have hrf := hB2'.rrf (Nat.le_refl _)
  obtain ⟨sv, sv1, sv2, sv3, sv4, sv5, sv6⟩ := bar_smith hB2'
  obtain ⟨ln0, pl0, ls0, ps0, s0, hR0⟩ := hO2.2.2.2.2.2.2.1
  have hre2 := hR0.1
  have hcell : ∀ i j, i < rr → j < cc → V2 (bm + (16 * i + j)) = gz V1 g0 i j := fun i j h1 h2 => by
    rw [hAzB i h1 _ h2, eBz]
    exact v2 _ (by omega) (by omega)
  show jj G kX_smith (d + 10) Q rc rs 52 [some (.ref (oa 0)), some (.int (nI (n))), some (.int (nI (m))), some (.ref (oa (13 + m))), some (.int (nI (rk))), none] [] M2
  refine jj_aload_n (pc := 52) kX_smith_d52 rfl ?_
  refine jj_getf (pc := 53) kX_smith_d53 (kfX_residues hG) hx2a rfl ?_
  refine jj_aload_n (pc := 56) kX_smith_d56 rfl ?_
  refine jj_aload_n (pc := 57) kX_smith_d57 rfl ?_
  refine jj_getf (pc := 58) kX_smith_d58 (kfX_everyColumn hG) hx2a rfl ?_
  refine jj_aload_n (pc := 61) kX_smith_d61 rfl ?_
  refine jj_getf (pc := 62) kX_smith_d62 (kfX_M_columns hG) hmm2 rfl ?_
  refine jj_aload_n (pc := 65) kX_smith_d65 rfl ?_
  refine jj_getf (pc := 66) kX_smith_d66 (kfX_elimination hG) hx2a rfl ?_
  refine jj_getf (pc := 69) kX_smith_d69 (kfX_E_last hG) hl2 rfl ?_
  refine jj_callV (pc := 72) (b := (oa 9)) (As := [.ref (oa (13 + m)), .ref (oa 2), .int (nI (cc)), .ref (wa 33)]) kX_smith_d72 (kvX_S_load hG) (kG_cl hG rfl) rfl hre2 rfl rfl rfl (Nat.le_of_ble_eq_true rfl) (Nat.le_of_ble_eq_true rfl) (jj_bare0 rfl) ?_
  refine r_load (p := fun j => j) (Pl := (List.range 16).map nI) (n := cc) (w := 33) (b := bm) hG hK hS2 hJQ hR0 hMm2 (by omega) (by omega) s2m s4m (by omega) hO2.2.2.1 (by rw [List.length_map, List.length_range]) (hJ.2.2.1 2 (by omega)) (fun j hj => range_nI (by omega)) (fun j hj => hj) (by omega) (by omega) (by omega) (by rw [eL]; exact hLne) (by rw [eL]; exact lL) (fun q _ _ => (hJ.capw (p := q) (by omega) (by omega)).1) (fun M3 V3 hS3 hR3 hx3 m3 e3 o3 => ?_)
  have nk3 : ∀ i, i < 31 → i ≠ 9 → i ≠ 10 → M3 (oa i) = M2 (oa i) := fun i h1 h2 h3 => hx3 _ (fun e => by rcases e with e | e <;> exact absurd e (hJ.ne h1 (by omega) (by assumption))) (hJ.2.2.1 i h1)
  have hO3 := hO2.re hR3 nk3
  have hF3 : XF oa M M3 wa la eu dv hi lo := hF2.trans (hx3.more (fun x e => by rcases e with e | e; exact ⟨9, by omega, e⟩; exact ⟨10, by omega, e⟩))
  have hx3a := hO3.1
  rw [eL] at m3 e3
  have hs : STP 16 1 := Or.inl ⟨rfl, rfl⟩
  obtain ⟨D, eD⟩ : ∃ D : Int, D = ((L.natAbs : Nat) : Int) := ⟨_, rfl⟩
  rw [← eD] at m3 e3 sv6
  have hD0 : 0 < D := by omega
  have lD : lc D ≤ 63 := Nat.le_trans (lc_mono (by omega)) lL
  have hzr : ∀ i j, i < rr → j < cc → V3 (rp s0 16 1 i j) = gz V1 g0 i j % D := fun i j h1 h2 => by
    rw [e3 i j h1 h2, hcell i j h1 h2]
  have hMm3 := hO3.2.2.2.2.2.2.2 m (by omega)
  rw [← ebm, err, ecc] at hMm3
  have hmm3 := hMm3.1
  have hMd3 := hO3.dr ebd
  have hmd3 := hMd3.1
  show jj G kX_smith (d + 10) Q rc rs 75 [some (.ref (oa 0)), some (.int (nI (n))), some (.int (nI (m))), some (.ref (oa (13 + m))), some (.int (nI (rk))), none] [] M3
  refine jj_aload_n (pc := 75) kX_smith_d75 rfl ?_
  refine jj_getf (pc := 76) kX_smith_d76 (kfX_draft hG) hx3a rfl ?_
  refine jj_aload_n (pc := 79) kX_smith_d79 rfl ?_
  refine jj_getf (pc := 80) kX_smith_d80 (kfX_M_rows hG) hmm3 rfl ?_
  refine jj_aload_n (pc := 83) kX_smith_d83 rfl ?_
  refine jj_getf (pc := 84) kX_smith_d84 (kfX_M_columns hG) hmm3 rfl ?_
  refine jj_callV (pc := 87) (b := (oa 21)) (As := [.int (nI (rr)), .int (nI (cc))]) kX_smith_d87 (kvX_M_clear hG) (kG_cl hG rfl) rfl hmd3 rfl rfl rfl (Nat.le_of_ble_eq_true rfl) (Nat.le_of_ble_eq_true rfl) (jj_bare0 rfl) ?_
  refine m_clear hG hK hS3 hMd3 (by omega) (by omega) (by have := (hJ.capw (p := bd + 256) (by omega) (by omega)).2; exact this) s2m s4m (fun M5 V5 hS5 hMd5x vc5 v05 vo5 f5 => ?_)
  obtain ⟨R1, C1, hO5, e8, f8, rk1, hFd⟩ := hO3.draft hJ hMd5x ebd f5
  have hF5 := hF3.trans hFd
  have kp5 : ∀ i, i < 31 → i ≠ 21 → M5 (oa i) = M3 (oa i) := fun i h1 h2 => f5 _ (hJ.ne h1 (by omega) h2) (hJ.2.2.1 i h1).1
  have hR5 : RST M5 wa (oa 9) (oa 10) (oa 3) rr cc 16 1 s0 := ⟨(kp5 9 (by omega) (by omega)).trans hR3.1, (kp5 10 (by omega) (by omega)).trans hR3.2.1, hR3.2.2⟩
  have hsp0 := hR5.2.2
  have o52 : ∀ q, 13 ≤ q → q < 547 ∨ (809 ≤ q ∧ q < bd) → V5 q = V2 q := fun q h1 h2 => by rw [vo5 q (by omega)]; exact o3 q (by omega) (by omega)
  have z5 : ∀ i j, i < rr → j < cc → rz V5 s0 16 1 i j = gz V1 g0 i j % D := fun i j h1 h2 => by
    have := hsp0.b hs (show i < 16 by omega) (show j < 16 by omega)
    show V5 _ = _
    rw [vo5 _ (by omega)]; exact hzr i j h1 h2
  have m5 : V5 547 = D := by rw [vo5 _ (by omega)]; exact m3
  have k5 := sv6 (rz V5 s0 16 1) (fun i hi' j hj => by rw [z5 i j hi' hj]; exact emod_dvd _ _)
  have r5 : ∀ i p, 0 ≤ i → i < rr → 0 ≤ p → p < cc → 0 ≤ rz V5 s0 16 1 i p ∧ rz V5 s0 16 1 i p < D := fun i p _ h2 _ h4 => by
    rw [z5 i p h2 h4]; exact ⟨Int.emod_nonneg _ (by omega), Int.emod_lt_of_pos _ hD0⟩
  have hx5 := hO5.1
  show jj G kX_smith (d + 10) Q rc rs 90 [some (.ref (oa 0)), some (.int (nI (n))), some (.int (nI (m))), some (.ref (oa (13 + m))), some (.int (nI (rk))), none] [] M5
  refine jn_iconst (pc := 90) 0 kX_smith_d90 (by decide) ?_
  refine jj_istore (pc := 91) kX_smith_d91 (Nat.le_of_ble_eq_true rfl) ?_
  show jj G kX_smith (d + 10) Q rc rs 93 [some (.ref (oa 0)), some (.int (nI (n))), some (.int (nI (m))), some (.ref (oa (13 + m))), some (.int (nI (rk))), some (.int (nI (0)))] [] M5
  show jj G kX_smith (d + 10) Q rc rs 93 [some (.ref (oa 0)), some (.int (nI (n))), some (.int (nI (m))), some (.ref (oa (13 + m))), some (.int (nI (rk))), some (.int (nI (0)))] [] M5
  have loop : ∀ mu t, rk = t + mu → ∀ (M9 : mheap) (V9 : Nat → Int) (s9 : Nat → Nat) (R9 : Int), KS M9 wa la cap 3122 eu dv hi lo (oa 3) V9 → RST M9 wa (oa 9) (oa 10) (oa 3) rr cc 16 1 s9 → EFX (fun x => x = oa 9 ∨ x = oa 10) M5 M9 wa la 3122 eu dv hi lo → V9 547 = R9 → 0 < R9 → lc R9 ≤ 63 → SMK (rz V9 s9 16 1) sv rk t rr cc R9 → (∀ i p, t ≤ i → i < rr → t ≤ p → p < cc → 0 ≤ rz V9 s9 16 1 i p ∧ rz V9 s9 16 1 i p < R9) → (∀ a y, a < rr → y < cc → V9 (bd + (16 * a + y)) = if a = y ∧ a < t then sv a else 0) → (∀ q, 13 ≤ q → q < 547 ∨ (809 ≤ q ∧ q < bd) ∨ q = bd + 256 → V9 q = V5 q) → jj G kX_smith (d + 10) Q rc rs 93 [some (.ref (oa 0)), some (.int (nI (n))), some (.int (nI (m))), some (.ref (oa (13 + m))), some (.int (nI (rk))), some (.int (nI (t)))] [] M9 := by
    intro mu
    induction mu with
    | zero =>
      intro t hk M9 V9 s9 R9 hS9 hR9 f9 m9 R0 lR9 k9 r9 d9 o9
      have et : rk = t := by omega
      subst et
      have nk9 : ∀ i, i < 31 → i ≠ 9 → i ≠ 10 → M9 (oa i) = M5 (oa i) := fun i h1 h2 h3 => f9 _ (fun e => by rcases e with e | e <;> exact absurd e (hJ.ne h1 (by omega) (by assumption))) (hJ.2.2.1 i h1)
      have hO9 := hO5.re hR9 nk9
      have hx9 := hO9.1
      have hF9 : XF oa M M9 wa la eu dv hi lo := hF5.trans (f9.more (fun x e => by rcases e with e | e; exact ⟨9, by omega, e⟩; exact ⟨10, by omega, e⟩))
      have ova : ∀ q, 13 ≤ q → (q < 17 ∨ 809 ≤ q) → q < 2865 → V9 q = V q := fun q h1 h2 h3 => by rw [o9 q (by omega) (by omega), o52 q (by omega) (by omega)]; exact v2 q h1 (by omega)
      have hN9 : NRM V9 bd rr cc (fun t => if t / cc = t % cc ∧ t / cc < rr then ((sv (t / cc) : Int) : Rat) else 0) := NRM.ones (by rw [o9 _ (by omega) (by omega)]; exact vc5) (fun i j h1 h2 => by
        rw [d9 i j h1 h2]
        refine Eq.trans ?_ (dia_cell (s := sv) (r := rr) (i := i) h2).symm
        by_cases c : i = j
        · by_cases c2 : i < rk
          · rw [if_pos ⟨c, c2⟩, if_pos ⟨c, h1⟩]
          · rw [if_neg (fun e => c2 e.2), if_pos ⟨c, h1⟩, (sv4 i (by omega)).2 (by omega)]
        · rw [if_neg (fun e => c e.1), if_neg (fun e => c e.1)]; rfl)
      show jj G kX_smith (d + 10) Q rc rs 93 [some (.ref (oa 0)), some (.int (nI (n))), some (.int (nI (m))), some (.ref (oa (13 + m))), some (.int (nI (rk))), some (.int (nI (rk)))] [] M9
      refine jj_iload (pc := 93) kX_smith_d93 rfl ?_
      refine jj_iload (pc := 95) kX_smith_d95 rfl ?_
      refine jn_icmp_ge (pc := 97) (tgt := 149) kX_smith_d97 (by decide) (by omega) (by omega) (fun _ => ?_) (fun c => by exfalso; omega)
      refine jj_aload_n (pc := 149) kX_smith_d149 rfl ?_
      refine jj_iload_n (pc := 150) kX_smith_d150 rfl ?_
      refine jj_callV (pc := 151) (b := (oa 0)) (As := [.int (nI (n))]) kX_smith_d151 (kvX_X_keepDraft hG) (kG_cl hG rfl) rfl hx9 rfl rfl rfl (Nat.le_of_ble_eq_true rfl) (Nat.le_of_ble_eq_true rfl) (jj_bare0 rfl) ?_
      refine x_keepDraft hG hJ hS9 hO9 (q := (fun t => if t / cc = t % cc ∧ t / cc < rr then ((sv (t / cc) : Int) : Rat) else 0)) (by omega) (by omega) (by omega) (by omega) hn (by rw [e8, f8, ← ebd]; exact hN9) hrc hrs (fun Mb Vc hfit hSb hOb hNb vb hFb => ?_) (fun hnf y hy => kt M9 3 6 (Or.inr ⟨n, m, hn, rfl, hm, rfl, Or.inr ⟨by rw [← erm, ← ecm]; exact haw, Or.inr ⟨by rw [← erm, ← ecm]; exact hnh, gz V1 g0, sv, rk, by rw [← erm, ← ecm]; exact fun a b h1 h2 => by rw [hAzB a h1 b h2]; exact hqB a b h1 h2, sv1, sv2, by rw [← erm, ← ecm]; exact sv3, by rw [← erm, ← ecm]; exact sv4, by rw [← erm, ← ecm]; exact sv5, by rw [← erm, ← ecm]; exact Or.inr ⟨by rw [e8, f8] at hnf; exact hnf, rfl, rfl, rfl⟩⟩⟩⟩) (by omega) ⟨V9, sc, R1, C1, hS9, hO9, hV.keep (fun p p1 p2 => ova p (by omega) (by omega) p2) (ova 15 (by omega) (by omega) (by omega)) (ova 16 (by omega) (by omega) (by omega)) rk1⟩ hF9 y hy)
      rw [e8, f8] at hfit hNb
      show jj G kX_smith (d + 10) Q rc rs 154 [some (.ref (oa 0)), some (.int (nI (n))), some (.int (nI (m))), some (.ref (oa (13 + m))), some (.int (nI (rk))), some (.int (nI (rk)))] [] Mb
      refine jj_iload (pc := 154) kX_smith_d154 rfl ?_
      exact jj_iret (pc := 156) kX_smith_d156 rfl (by rfl) (kr Mb rk _ (Or.inr ⟨n, m, hn, rfl, hm, rfl, Or.inr ⟨by rw [← erm, ← ecm]; exact haw, Or.inr ⟨by rw [← erm, ← ecm]; exact hnh, gz V1 g0, sv, rk, by rw [← erm, ← ecm]; exact fun a b h1 h2 => by rw [hAzB a h1 b h2]; exact hqB a b h1 h2, sv1, sv2, by rw [← erm, ← ecm]; exact sv3, by rw [← erm, ← ecm]; exact sv4, by rw [← erm, ← ecm]; exact sv5, by rw [← erm, ← ecm]; exact Or.inl ⟨hfit, rfl, rfl, rfl⟩⟩⟩⟩) ⟨Vc, -1, _, _, hSb, hOb, hV.put (n := n) (r := rr) (c := cc) (q := (fun t => if t / cc = t % cc ∧ t / cc < rr then ((sv (t / cc) : Int) : Rat) else 0)) hn (fun p _ _ p3 => by rw [vb p (by omega) p3]; exact ova p (by omega) (by omega) (by omega)) (fun k hk => by show (if k = n then R1 8 else R1 k) = _; rw [e8, (rk1 k hk).1]) (fun k hk => by show (if k = n then C1 8 else C1 k) = _; rw [f8, (rk1 k hk).2]) (by omega) (by omega) (by omega) (by omega) hNb⟩ (hF9.trans hFb))
    | succ mu ih =>
      intro t hk M9 V9 s9 R9 hS9 hR9 f9 m9 R0 lR9 k9 r9 d9 o9
      have nk9 : ∀ i, i < 31 → i ≠ 9 → i ≠ 10 → M9 (oa i) = M5 (oa i) := fun i h1 h2 h3 => f9 _ (fun e => by rcases e with e | e <;> exact absurd e (hJ.ne h1 (by omega) (by assumption))) (hJ.2.2.1 i h1)
      have hO9 := hO5.re hR9 nk9
      have hx9 := hO9.1
      have hre9 := hR9.1
      show jj G kX_smith (d + 10) Q rc rs 93 [some (.ref (oa 0)), some (.int (nI (n))), some (.int (nI (m))), some (.ref (oa (13 + m))), some (.int (nI (rk))), some (.int (nI (t)))] [] M9
      refine jj_iload (pc := 93) kX_smith_d93 rfl ?_
      refine jj_iload (pc := 95) kX_smith_d95 rfl ?_
      refine jn_icmp_ge (pc := 97) (tgt := 149) kX_smith_d97 (by decide) (by omega) (by omega) (fun c => by exfalso; omega) (fun _ => ?_)
      refine jj_aload_n (pc := 100) kX_smith_d100 rfl ?_
      refine jj_getf (pc := 101) kX_smith_d101 (kfX_residues hG) hx9 rfl ?_
      refine jj_iload (pc := 104) kX_smith_d104 rfl ?_
      refine jj_callV (pc := 106) (b := (oa 9)) (As := [.int (nI (t))]) kX_smith_d106 (kvX_S_isolate hG) (kG_cl hG rfl) rfl hre9 rfl rfl rfl (Nat.le_of_ble_eq_true rfl) (Nat.le_of_ble_eq_true rfl) (jj_bare0 rfl) ?_
      refine r_isolate hG hK hS9 hJQ hR9 hs s2m s4m (by omega) (by omega) m9 R0 lR9 r9 k9 (fun M6 V6 s6 g hS6 hR6 f6 o6 k6 eg g0 gm zr zc rd => ?_)
      have nk6 : ∀ i, i < 31 → i ≠ 9 → i ≠ 10 → M6 (oa i) = M9 (oa i) := fun i h1 h2 h3 => f6 _ (fun e => by rcases e with e | e <;> exact absurd e (hJ.ne h1 (by omega) (by assumption))) (hJ.2.2.1 i h1)
      have hO6 := hO9.re hR6 nk6
      have hx6 := hO6.1
      have hre6 := hR6.1
      have hsp6 := hR6.2.2
      have b6 := hsp6.b hs (show t < 16 by omega) (show t < 16 by omega)
      have hMd6 := hO6.dr ebd
      rw [e8, f8] at hMd6
      have hmd6 := hMd6.1
      have gle : g ≤ R9 := Int.le_of_dvd R0 gm
      have lg : lc g ≤ 63 := Nat.le_trans (lc_mono (by omega)) lR9
      show jj G kX_smith (d + 10) Q rc rs 109 [some (.ref (oa 0)), some (.int (nI (n))), some (.int (nI (m))), some (.ref (oa (13 + m))), some (.int (nI (rk))), some (.int (nI (t)))] [] M6
      refine jj_aload_n (pc := 109) kX_smith_d109 rfl ?_
      refine jj_getf (pc := 110) kX_smith_d110 (kfX_draft hG) hx6 rfl ?_
      refine jj_iload (pc := 113) kX_smith_d113 rfl ?_
      refine jj_iload (pc := 115) kX_smith_d115 rfl ?_
      refine jj_callV (pc := 117) (b := (oa 21)) (As := [.int (nI (t)), .int (nI (t))]) kX_smith_d117 (kvX_M_at hG) (kG_cl hG rfl) rfl hmd6 rfl rfl rfl (Nat.le_of_ble_eq_true rfl) (Nat.le_of_ble_eq_true rfl) (jj_bare0 rfl) ?_
      refine m_at hG hMd6 (by omega) (by omega) ?_
      show jj G kX_smith (d + 10) Q rc rs 120 [some (.ref (oa 0)), some (.int (nI (n))), some (.int (nI (m))), some (.ref (oa (13 + m))), some (.int (nI (rk))), some (.int (nI (t)))] [.ref (wa (bd + (16 * t + t)))] M6
      refine jj_aload_n (pc := 120) kX_smith_d120 rfl ?_
      refine jj_getf (pc := 121) kX_smith_d121 (kfX_residues hG) hx6 rfl ?_
      refine jj_iload (pc := 124) kX_smith_d124 rfl ?_
      refine jj_iload (pc := 126) kX_smith_d126 rfl ?_
      refine jj_callV (pc := 128) (b := (oa 9)) (As := [.int (nI (t)), .int (nI (t))]) kX_smith_d128 (kvX_S_at hG) (kG_cl hG rfl) rfl hre6 rfl rfl rfl (Nat.le_of_ble_eq_true rfl) (Nat.le_of_ble_eq_true rfl) (jj_bare0 rfl) ?_
      refine r_at hG hR6 hs (by omega) (by omega) ?_
      show jj G kX_smith (d + 10) Q rc rs 131 [some (.ref (oa 0)), some (.int (nI (n))), some (.int (nI (m))), some (.ref (oa (13 + m))), some (.int (nI (rk))), some (.int (nI (t)))] [.ref (wa (rp s6 16 1 t t)), .ref (wa (bd + (16 * t + t)))] M6
      obtain ⟨Tq, tq, hTq, _, _⟩ := hS6.1 (bd + (16 * t + t)) (by omega)
      refine jj_callV (pc := 131) (b := (wa (bd + (16 * t + t)))) (As := [.ref (wa (rp s6 16 1 t t))]) kX_smith_d131 (kvX_W_copy hG) (kG_cl hG rfl) rfl hTq rfl rfl rfl (Nat.le_of_ble_eq_true rfl) (Nat.le_of_ble_eq_true rfl) (jj_bare0 rfl) ?_
      refine w_copy hG hI hS6.1 (t := (bd + (16 * t + t))) (u := (rp s6 16 1 t t)) (by omega) (by omega) (by rw [eg, hJ.cap252 (by omega) (by omega)]; exact lc_room (by omega)) (fun M7 hc7 hw7 => ?_)
      have hS7 := hS6.wt hK (by omega) hw7 hc7
      have f7 : EF M6 M7 wa la 3122 eu dv hi lo := hw7.ef (by omega)
      have hO7 := hO6.ef hJ f7
      have hR7 := hR6.ef hJQ f7
      have hx7 := hO7.1
      have hre7 := hR7.1
      obtain ⟨R', hR'⟩ := gm
      have hRg : R9 = R' * g := by rw [Int.mul_comm]; exact hR'
      have m6 : V6 547 = R9 := by rw [o6 547 (by omega) (by omega)]; exact m9
      have c7 : ∀ i p, i < 16 → p < 16 → vup V6 (bd + (16 * t + t)) (V6 (rp s6 16 1 t t)) (rp s6 16 1 i p) = V6 (rp s6 16 1 i p) := fun i p h1 h2 => by
        have := hsp6.b hs h1 h2
        exact vup_ne _ _ (by omega)
      show jj G kX_smith (d + 10) Q rc rs 134 [some (.ref (oa 0)), some (.int (nI (n))), some (.int (nI (m))), some (.ref (oa (13 + m))), some (.int (nI (rk))), some (.int (nI (t)))] [] M7
      refine jj_aload_n (pc := 134) kX_smith_d134 rfl ?_
      refine jj_getf (pc := 135) kX_smith_d135 (kfX_residues hG) hx7 rfl ?_
      refine jj_iload (pc := 138) kX_smith_d138 rfl ?_
      refine jj_callV (pc := 140) (b := (oa 9)) (As := [.int (nI (t))]) kX_smith_d140 (kvX_S_divideModulus hG) (kG_cl hG rfl) rfl hre7 rfl rfl rfl (Nat.le_of_ble_eq_true rfl) (Nat.le_of_ble_eq_true rfl) (jj_bare0 rfl) ?_
      refine r_divideModulus hG hK hS7 hJQ hR7 hs s2m s4m (by omega) (by rw [vup_ne _ _ (by omega)]; exact m6) R0 lR9 (by rw [c7 t t (by omega) (by omega)]; exact eg) g0 hRg (fun i p h1 h2 h3 h4 => by rw [c7 i p (by omega) (by omega)]; exact (rd i p h1 h2 h3 h4).1) (fun M8 V8 hS8 m8 e8' o8 f8' => ?_)
      have hR8 := hR7.ef hJQ f8'
      have hO8 := hO7.ef hJ f8'
      have hx8 := hO8.1
      obtain ⟨est, k8⟩ := k6.step (Z' := rz V8 s6 16 1) (g := g) (R' := R') sv1 sv2 R0 (by omega) (by omega) (by omega) eg g0 hRg zr zc (fun i p h1 h2 h3 h4 => (rd i p h1 h2 h3 h4).2) (fun i p h1 h2 h3 h4 => by
        show R' ∣ V8 _ - V6 _
        rw [e8' i p h1 h2 h3 h4, c7 i p (by omega) (by omega)]
        exact emod_dvd _ _)
      have R'0 : 0 < R' := by
        rcases (show 0 < R' ∨ R' ≤ 0 by omega) with c | c
        · exact c
        · have := Int.mul_nonpos_of_nonpos_of_nonneg c (Int.le_of_lt g0)
          omega
      have R'l : R' ≤ R9 := Int.le_of_dvd R0 ⟨g, hRg⟩
      have ne8 : ∀ q, q < 553 ∨ 809 ≤ q → ∀ i p, t < i → i < rr → t < p → p < cc → q ≠ rp s6 16 1 i p := fun q h1 i p _ h2 _ h3 => by
        have := hsp6.b hs (show i < 16 by omega) (show p < 16 by omega)
        omega
      show jj G kX_smith (d + 10) Q rc rs 143 [some (.ref (oa 0)), some (.int (nI (n))), some (.int (nI (m))), some (.ref (oa (13 + m))), some (.int (nI (rk))), some (.int (nI (t)))] [] M8
      refine jn_iinc (pc := 143) (t + 1) kX_smith_d143 rfl (nI_1 _) ?_
      refine jj_goto (pc := 146) (tgt := 93) kX_smith_d146 (by decide) ?_
      show jj G kX_smith (d + 10) Q rc rs 93 [some (.ref (oa 0)), some (.int (nI (n))), some (.int (nI (m))), some (.ref (oa (13 + m))), some (.int (nI (rk))), some (.int (nI (t + 1)))] [] M8
      refine ih (t + 1) (by omega) M8 V8 s6 R' hS8 hR8 (((f9.trans f6).trans f7.efx).trans f8'.efx) m8 R'0 (Nat.le_trans (lc_mono (by omega)) lR9) k8 (fun i p h1 h2 h3 h4 => ?_) (fun a y h1 h2 => ?_) (fun q h1 h2 => ?_)
      · show 0 ≤ V8 _ ∧ V8 _ < R'
        rw [e8' i p (by omega) h2 (by omega) h4]
        exact ⟨Int.emod_nonneg _ (by omega), Int.emod_lt_of_pos _ R'0⟩
      · rw [o8 _ (by omega) (by omega) (ne8 _ (by omega))]
        by_cases e : a = t ∧ y = t
        · rw [e.1, e.2, vup_at, if_pos ⟨rfl, by omega⟩, est]; exact eg
        · rw [vup_ne _ _ (by omega), o6 _ (by omega) (by omega), d9 a y h1 h2]
          by_cases c : a = y ∧ a < t
          · rw [if_pos c, if_pos ⟨c.1, by omega⟩]
          · rw [if_neg c, if_neg (by omega)]
      · rw [o8 _ (by omega) (by omega) (ne8 _ (by omega)), vup_ne _ _ (by omega), o6 _ (by omega) (by omega)]
        exact o9 q h1 h2
  exact loop rk 0 (by omega) M5 V5 s0 D hS5 hR5 (fun _ _ _ => rfl) m5 hD0 lD k5 r5 (fun a y h1 h2 => by rw [v05 a y h1 h2, if_neg (by omega)]) (fun _ _ _ => rfl)
end X18
