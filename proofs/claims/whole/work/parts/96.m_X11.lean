/-! ===== substitute by Bareiss; ExactForms: echelon (printed by wip/gen/rX11.py) ===== -/
section X11
variable {G : jg} {d : Nat} {Q : jq} {rc rs : Nat} {M : mheap} {wa la cap : Nat → Nat} {N eu dv hi lo dk el ra pa ia ga rk sw m w : Nat} {P B : List Int32} {g : Nat → Nat} {V : Nat → Int}
theorem BAR.one {Az Z : imat} {m w c sw : Nat} {p : Nat → Nat} {L : Int} {A B E : qmat} (h : BAR Az Z m w c 0 sw p L A B E) : L = 1 := Rat.intCast_inj.mp (by rw [h.2.2.2.2.1]; rfl)
theorem BAR.lcL {Az Z : imat} {m w c rk sw b : Nat} {p : Nat → Nat} {L : Int} {A B E : qmat} (h : BAR Az Z m w c rk sw p L A B E) (hcw : c ≤ w) (hb1 : 1 ≤ b) (hAz : ∀ x, x < m → ∀ y, y < w → (Az x y).natAbs ≤ b) (hwt : (min m w * b) ^ min m w ≤ 2 ^ 2000) : lc L ≤ 63 ∧ ∀ i j, i < rk → j < w → lc (Z i j) ≤ 63 := by
  have hrm := h.1.1
  have hrc := h.rkc
  have h2 : ∀ i j, i < rk → j < w → lc (Z i j) ≤ 63 := fun i j hi' hj => by
    have := h.small hAz hcw (show i < m by omega) hj (K := min m w) (by omega)
    exact lc_w this (pow_w (by omega) hb1 (by omega) hwt)
  refine ⟨?_, h2⟩
  rcases Nat.eq_zero_or_pos rk with e | e
  · subst e
    rw [h.one]
    decide
  · rw [h.last hcw e]
    exact h2 _ _ (by omega) (Nat.lt_of_lt_of_le (h.2.1.2.1 _ (by omega)) hcw)
theorem e_subst {f c b : Nat} {Az : imat} {p : Nat → Nat} {A Bq E : qmat} (hG : kG G) (hK : KJI wa la cap N hi lo) (hS : KS M wa la cap N eu dv hi lo dk V) (hJ : LJ wa la cap N eu dv hi lo dk el ra pa ia ga) (hL : ELT M wa el ra pa ia ga dk rk sw m w P B g) (hB : BAR Az (gz V g) m w c rk sw p (V 33) A Bq E) (hcw : c ≤ w) (hz : BEZ (gz V g) m w rk) (hb1 : 1 ≤ b) (hAz : ∀ x, x < m → ∀ y, y < w → (Az x y).natAbs ≤ b) (hwt : (min m w * b) ^ min m w ≤ 2 ^ 2000) (hm : m ≤ 16) (hw : w ≤ 32) (hPV : PIV P B p rk w) (hfw : f ≤ w) (k : ∀ (M' : mheap) (V' : Nat → Int), KS M' wa la cap N eu dv hi lo dk V' → EF M M' wa la N eu dv hi lo → (∀ q, 13 ≤ q → q < 35 ∨ 547 ≤ q → V' q = V q) → (∀ i c, i < rk → f ≤ c → c < w → (∀ k, k < rk → p k ≠ c) → ((V' (g (32 * i + c)) : Int) : Rat) = ((V 33 : Int) : Rat) * E i c ∧ lc (V' (g (32 * i + c))) ≤ 63) → Q (.returned none) M' rc rs) : jj G kE_substitute (d + 5) Q rc rs 0 (jj_ent [.ref el, .int (nI f)] 5) [] M := by
  have hrm := hB.1.1
  have hrc := hB.rkc
  obtain ⟨hlL, hlZ⟩ := hB.lcL hcw hb1 hAz hwt
  obtain ⟨T, hT⟩ := hB.target hcw hz hAz (K := min m w) (by omega)
  refine e_substitute (p := p) (T := T) hG hK hS hJ hL hw (by omega) (fun i hi' => Nat.lt_of_lt_of_le (hB.2.1.2.1 i hi') hcw) hPV hfw hlZ hlL (fun i j hi' hj => lc_w (hT i hi' j hj).2.1 (pow_w (by omega) hb1 (by omega) hwt)) (fun i hi' => (hB.pivcell hcw hi').1) (fun i j hi' hj => (hT i hi' j hj).2.2) (fun i j ei hj => ?_) (fun M1 V1 hS1 hf1 o1 e1 => k M1 V1 hS1 hf1 o1 (fun i c hi' hf hc hn => ?_))
  · have h3 := (hT i (by omega) j hj).2.2
    have hl := hB.last hcw (by omega)
    rw [show rk - 1 = i by omega] at hl
    rw [show rk - (i + 1) = 0 by omega, ← hl] at h3
    have h4 : T i j * V 33 = gz V g i j * V 33 := by
      rw [h3]
      show _ - 0 = _
      rw [Int.sub_zero, Int.mul_comm]
    exact Int.eq_of_mul_eq_mul_right hB.ne h4
  · rw [e1 i c hi' hf hc hn]
    exact ⟨(hT i hi' c hc).1, lc_w (hT i hi' c hc).2.1 (pow_w (by omega) hb1 (by omega) hwt)⟩
end X11
theorem mcut_cell {E : qmat} {rk n i j : Nat} (hj : j < n) : mcut E rk n (i * n + j) = if i < rk then E i j else 0 := by
  unfold mcut
  rw [Nat.mul_comm i n, Nat.mul_add_div (by omega), Nat.div_eq_of_lt hj, Nat.add_zero, Nat.mul_add_mod, Nat.mod_eq_of_lt hj]
section X11b
variable {G : jg} {d : Nat} {Q : jq} {rc rs : Nat} {M : mheap} {wa la cap oa : Nat → Nat} {eu dv hi lo : Nat} {σ : rst}
theorem xp_echelon {x y : Int32} (hG : kG G) (hJ : XJ wa la cap oa eu dv hi lo) (hT : XT M wa la cap oa eu dv hi lo σ) (hrc : 1 ≤ rc) (hrs : 6 ≤ rs) (kr : ∀ (M' : mheap) (v : Nat) (σ' : rst), semEch σ x y 0 v σ' → XT M' wa la cap oa eu dv hi lo σ' → XF oa M M' wa la eu dv hi lo → Q (.returned (some (.int (nI v)))) M' rc rs) (kt : ∀ (M' : mheap) (cd ci : Nat), semEch σ x y cd 0 σ → (cd = 1 ∧ ci = 4 ∨ cd = 2 ∧ ci = 6) → XT M' wa la cap oa eu dv hi lo σ → XF oa M M' wa la eu dv hi lo → ∀ x, M' x = none → Q (.threw x) (jj_up M' x (.inl ci, [])) (rc - 1) (rs - 6)) : jj G kX_echelon (d + 10) Q rc rs 0 (jj_ent [.ref (oa 0), .int x, .int y] 6) [] M := by
  obtain ⟨V, sc, R, C, hS, hO, hV⟩ := id hT
  have hK := hJ.1
  have hI := hK.1
  have hx := hO.1
  show jj G kX_echelon (d + 10) Q rc rs 0 [some (.ref (oa 0)), some (.int (x)), some (.int (y)), none, none, none] [] M
  refine jj_aload_n (pc := 0) kX_echelon_d0 rfl ?_
  refine jj_iload_n (pc := 1) kX_echelon_d1 rfl ?_
  refine jj_callV (pc := 2) (b := (oa 0)) (As := [.int (x)]) kX_echelon_d2 (kvX_X_register hG) (kG_cl hG rfl) rfl hx rfl rfl rfl (Nat.le_of_ble_eq_true rfl) (Nat.le_of_ble_eq_true rfl) (jj_bare0 rfl) ?_
  refine x_register hG hO hrc hrs (fun n hn en => ?_) (fun h y hy => kt M 1 4 (Or.inl ⟨fun g => h g.1, rfl, rfl, rfl⟩) (by omega) hT (fun _ _ _ => rfl) y hy)
  subst en
  show jj G kX_echelon (d + 10) Q rc rs 5 [some (.ref (oa 0)), some (.int (nI (n))), some (.int (y)), none, none, none] [.ref (oa (13 + n))] M
  refine jj_pop (pc := 5) kX_echelon_d5 rfl ?_
  refine jj_aload_n (pc := 6) kX_echelon_d6 rfl ?_
  refine jj_iload_n (pc := 7) kX_echelon_d7 rfl ?_
  refine jj_callV (pc := 8) (b := (oa 0)) (As := [.int (y)]) kX_echelon_d8 (kvX_X_register hG) (kG_cl hG rfl) rfl hx rfl rfl rfl (Nat.le_of_ble_eq_true rfl) (Nat.le_of_ble_eq_true rfl) (jj_bare0 rfl) ?_
  refine x_register hG hO hrc hrs (fun m hm em => ?_) (fun h y hy => kt M 1 4 (Or.inl ⟨fun g => h g.2, rfl, rfl, rfl⟩) (by omega) hT (fun _ _ _ => rfl) y hy)
  subst em
  show jj G kX_echelon (d + 10) Q rc rs 11 [some (.ref (oa 0)), some (.int (nI (n))), some (.int (nI (m))), none, none, none] [.ref (oa (13 + m))] M
  obtain ⟨erm, ecm, s1m, s2m, s3m, s4m, hNm⟩ := hV.1 m hm
  obtain ⟨bm, ebm⟩ : ∃ b, b = 809 + 257 * m := ⟨_, rfl⟩
  have hMm := hO.2.2.2.2.2.2.2 m (by omega)
  rw [← ebm] at hMm hNm
  have hmm := hMm.1
  obtain ⟨rr, err⟩ : ∃ r, R m = r := ⟨_, rfl⟩
  obtain ⟨cc, ecc⟩ : ∃ c, C m = c := ⟨_, rfl⟩
  rw [err] at erm s1m s2m
  rw [ecc] at ecm s3m s4m
  rw [err, ecc] at hMm hmm hNm
  obtain ⟨bd, ebd⟩ : ∃ b, b = 2865 := ⟨_, rfl⟩
  have hJL := hJ.lj
  obtain ⟨rk0, sw0, m0, w0, P0, B0, g0, hL0⟩ := hO.2.2.2.2.2.1
  have hl0 := hL0.1
  show jj G kX_echelon (d + 10) Q rc rs 11 [some (.ref (oa 0)), some (.int (nI (n))), some (.int (nI (m))), none, none, none] [.ref (oa (13 + m))] M
  refine jj_astore_n (pc := 11) kX_echelon_d11 (Nat.le_of_ble_eq_true rfl) ?_
  show jj G kX_echelon (d + 10) Q rc rs 12 [some (.ref (oa 0)), some (.int (nI (n))), some (.int (nI (m))), some (.ref (oa (13 + m))), none, none] [] M
  refine jj_aload_n (pc := 12) kX_echelon_d12 rfl ?_
  refine jj_getf (pc := 13) kX_echelon_d13 (kfX_elimination hG) hx rfl ?_
  refine jj_aload_n (pc := 16) kX_echelon_d16 rfl ?_
  refine jn_iconst (pc := 17) 0 kX_echelon_d17 (by decide) ?_
  refine jj_callV (pc := 18) (b := (oa 4)) (As := [.ref (oa (13 + m)), .int (nI (0))]) kX_echelon_d18 (kvX_E_load hG) (kG_cl hG rfl) rfl hl0 rfl rfl rfl (Nat.le_of_ble_eq_true rfl) (Nat.le_of_ble_eq_true rfl) (jj_bare0 rfl) ?_
  refine e_load hG hK hS hJL hL0 hMm (by omega) (by omega) (fun p _ _ => (hJ.capw (p := p) (by omega) (by omega)).1) s2m s4m hNm.1 (by have := hS.1.lc (p := bm + 256) (by omega); rw [hJ.cap125 (by omega) (by omega)] at this; exact this) (by omega) hrc hrs (fun M1 V1 hS1 hL1 vo1 hx1 hR1 => ?_) (fun Mt Vt hSt hLt vot hxt htw y hy => kt Mt 2 6 (Or.inr ⟨n, m, hn, rfl, hm, rfl, Or.inl ⟨by rw [← erm, ← ecm]; exact toow_heavy hNm (by omega) (by omega) htw, rfl, rfl, rfl⟩⟩) (by omega) ⟨Vt, sc, R, C, hSt, (hO.el hLt (fun i h1 h2 _ _ _ => hxt _ (hJ.ne h1 (by omega) h2) (hJ.2.2.1 i h1))), hV.keep (fun p p1 p2 => vot p (by omega) (by omega)) (vot 15 (by omega) (by omega)) (vot 16 (by omega) (by omega)) (fun _ _ => ⟨rfl, rfl⟩)⟩ (hxt.more (fun x e => ⟨4, by omega, e⟩)) y hy)
  have hk1 : ∀ i, i < 31 → i ≠ 4 → i ≠ 6 → i ≠ 7 → i ≠ 8 → M1 (oa i) = M (oa i) := fun i h1 h2 _ _ _ => hx1 _ (hJ.ne h1 (by omega) h2) (hJ.2.2.1 i h1)
  have hO1 := hO.el hL1 hk1
  have hF1 : XF oa M M1 wa la eu dv hi lo := hx1.more (fun x e => ⟨4, by omega, e⟩)
  have hl1 := hL1.1
  have hx1a := hO1.1
  have hMm1 := hO1.2.2.2.2.2.2.2 m (by omega)
  rw [← ebm, err, ecc] at hMm1
  have hmm1 := hMm1.1
  have hgl := glong_eq hNm hR1
  show jj G kX_echelon (d + 10) Q rc rs 21 [some (.ref (oa 0)), some (.int (nI (n))), some (.int (nI (m))), some (.ref (oa (13 + m))), none, none] [] M1
  refine jj_aload_n (pc := 21) kX_echelon_d21 rfl ?_
  refine jj_getf (pc := 22) kX_echelon_d22 (kfX_elimination hG) hx1a rfl ?_
  refine jj_callV (pc := 25) (b := (oa 4)) (As := []) kX_echelon_d25 (kvX_E_weigh hG) (kG_cl hG rfl) rfl hl1 rfl rfl rfl (Nat.le_of_ble_eq_true rfl) (Nat.le_of_ble_eq_true rfl) (jj_bare0 rfl) ?_
  refine e_weigh hG hK hS1 hJL hL1 s1m s2m s3m (by omega) hrc hrs (fun hnh => ?_) (fun hhv y hy => kt M1 2 6 (Or.inr ⟨n, m, hn, rfl, hm, rfl, Or.inl ⟨by rw [← erm, ← ecm]; exact (by rw [hgl] at hhv; exact hhv), rfl, rfl, rfl⟩⟩) (by omega) ⟨V1, sc, R, C, hS1, hO1, hV.keep (fun p p1 p2 => vo1 p (by omega) (by omega)) (vo1 15 (by omega) (by omega)) (vo1 16 (by omega) (by omega)) (fun _ _ => ⟨rfl, rfl⟩)⟩ hF1 y hy)
  rw [hgl] at hnh
  have hbz := glong_bound (Z := gz V1 g0) (m := rr) (w := cc)
  rw [hgl] at hbz
  have hwt := hvy_pow (show 1 ≤ min rr cc by omega) hnh
  obtain ⟨bz, ebz⟩ : ∃ b, 2 ^ nmax (fun k => rowL (σ.2.2 m) cc k (rowD (σ.2.2 m) cc k 1)) rr = b := ⟨_, rfl⟩
  have hb1 : 1 ≤ bz := by rw [← ebz]; exact Nat.pow_pos (by decide)
  rw [ebz] at hbz hwt
  show jj G kX_echelon (d + 10) Q rc rs 28 [some (.ref (oa 0)), some (.int (nI (n))), some (.int (nI (m))), some (.ref (oa (13 + m))), none, none] [] M1
  refine jj_aload_n (pc := 28) kX_echelon_d28 rfl ?_
  refine jj_getf (pc := 29) kX_echelon_d29 (kfX_elimination hG) hx1a rfl ?_
  refine jj_aload_n (pc := 32) kX_echelon_d32 rfl ?_
  refine jj_getf (pc := 33) kX_echelon_d33 (kfX_M_columns hG) hmm1 rfl ?_
  refine jj_callV (pc := 36) (b := (oa 4)) (As := [.int (nI (cc))]) kX_echelon_d36 (kvX_E_eliminate hG) (kG_cl hG rfl) rfl hl1 rfl rfl rfl (Nat.le_of_ble_eq_true rfl) (Nat.le_of_ble_eq_true rfl) (jj_bare0 rfl) ?_
  refine e_eliminate hG hK hS1 hJL hL1 hb1 hbz hwt s1m s2m s3m (by omega) (by omega) (fun M2 V2 rk sw P B g p A Bq E hS2 hL2 hx2 vo2 hB2 hPV => ?_)
  have hk2 : ∀ i, i < 31 → i ≠ 4 → i ≠ 6 → i ≠ 7 → i ≠ 8 → M2 (oa i) = M1 (oa i) := fun i h1 h2 h3 h4 h5 => hx2 _ (fun e => by rcases e with e | e | e | e <;> exact absurd e (hJ.ne h1 (by omega) (by assumption))) (hJ.2.2.1 i h1)
  have hO2 := hO1.el hL2 hk2
  have hF2 : XF oa M M2 wa la eu dv hi lo := hF1.trans (hx2.more (fun x e => by rcases e with e | e | e | e; exact ⟨4, by omega, e⟩; exact ⟨6, by omega, e⟩; exact ⟨7, by omega, e⟩; exact ⟨8, by omega, e⟩))
  have v2 : ∀ p, 13 ≤ p → p < 17 ∨ 547 ≤ p → V2 p = V p := fun p h1 h2 => by rw [vo2 p h1 (by omega) (by omega)]; exact vo1 p h1 h2
  have hl2 := hL2.1
  have hx2a := hO2.1
  have hMm2 := hO2.2.2.2.2.2.2.2 m (by omega)
  rw [← ebm, err, ecc] at hMm2
  have hmm2 := hMm2.1
  have hrk := hB2.1.1
  have hrkc := hB2.rkc
  have hpc := hB2.2.1.2.1
  show jj G kX_echelon (d + 10) Q rc rs 39 [some (.ref (oa 0)), some (.int (nI (n))), some (.int (nI (m))), some (.ref (oa (13 + m))), none, none] [] M2
  refine jj_aload_n (pc := 39) kX_echelon_d39 rfl ?_
  refine jj_getf (pc := 40) kX_echelon_d40 (kfX_elimination hG) hx2a rfl ?_
  refine jn_iconst (pc := 43) 0 kX_echelon_d43 (by decide) ?_
  have hbz2 := hB2.bz
  refine jj_callV (pc := 44) (b := (oa 4)) (As := [.int (nI (0))]) kX_echelon_d44 (kvX_E_substitute hG) (kG_cl hG rfl) rfl hl2 rfl rfl rfl (Nat.le_of_ble_eq_true rfl) (Nat.le_of_ble_eq_true rfl) (jj_bare0 rfl) ?_
  refine e_subst (f := 0) hG hK hS2 hJL hL2 hB2 (Nat.le_refl _) hbz2 hb1 hbz hwt s2m (by omega) hPV (Nat.zero_le _) (fun M3 V3 hS3 hf3 vo3 eT => ?_)
  have hO3 := hO2.ef hJ hf3
  have hL3 := hL2.ef hJL hf3
  have hF3 := hF2.trans (hf3.efx (X := XAD oa))
  have v3 : ∀ p, 13 ≤ p → p < 17 ∨ 547 ≤ p → V3 p = V p := fun p h1 h2 => by rw [vo3 p h1 (by omega)]; exact v2 p h1 h2
  have v33 : V3 33 = V2 33 := vo3 33 (by omega) (by omega)
  have hl3 := hL3.1
  have hx3 := hO3.1
  have hMm3 := hO3.2.2.2.2.2.2.2 m (by omega)
  rw [← ebm, err, ecc] at hMm3
  have hmm3 := hMm3.1
  have hMd3 := hO3.dr ebd
  have hmd3 := hMd3.1
  obtain ⟨L, eL⟩ : ∃ L, V2 33 = L := ⟨_, rfl⟩
  rw [eL] at eT v33 hB2
  have hLne := hB2.ne
  have lL : lc L ≤ 63 := (hB2.lcL (Nat.le_refl _) hb1 hbz hwt).1
  have hrf := hB2.rrf (Nat.le_refl _)
  show jj G kX_echelon (d + 10) Q rc rs 47 [some (.ref (oa 0)), some (.int (nI (n))), some (.int (nI (m))), some (.ref (oa (13 + m))), none, none] [] M3
  refine jj_aload_n (pc := 47) kX_echelon_d47 rfl ?_
  refine jj_getf (pc := 48) kX_echelon_d48 (kfX_draft hG) hx3 rfl ?_
  refine jj_aload_n (pc := 51) kX_echelon_d51 rfl ?_
  refine jj_getf (pc := 52) kX_echelon_d52 (kfX_M_rows hG) hmm3 rfl ?_
  refine jj_aload_n (pc := 55) kX_echelon_d55 rfl ?_
  refine jj_getf (pc := 56) kX_echelon_d56 (kfX_M_columns hG) hmm3 rfl ?_
  refine jj_callV (pc := 59) (b := (oa 21)) (As := [.int (nI (rr)), .int (nI (cc))]) kX_echelon_d59 (kvX_M_clear hG) (kG_cl hG rfl) rfl hmd3 rfl rfl rfl (Nat.le_of_ble_eq_true rfl) (Nat.le_of_ble_eq_true rfl) (jj_bare0 rfl) ?_
  refine m_clear hG hK hS3 hMd3 (by omega) (by omega) (by have := (hJ.capw (p := bd + 256) (by omega) (by omega)).2; exact this) s2m s4m (fun M4 V4 hS4 hMd4x vc4 v04 vo4 f4 => ?_)
  obtain ⟨R1, C1, hO4, e8, f8, rk1, hFd⟩ := hO3.draft hJ hMd4x ebd f4
  have hF4 := hF3.trans hFd
  have hL4 : ELT M4 wa (oa 4) (oa 5) (oa 6) (oa 7) (oa 8) (oa 3) rk sw rr cc P B g := hL3.cells (f4 _ (hJ.ne (by omega) (by omega) (by omega)) (hJ.2.2.1 4 (by omega)).1) (f4 _ (hJ.ne (by omega) (by omega) (by omega)) (hJ.2.2.1 5 (by omega)).1) (f4 _ (hJ.ne (by omega) (by omega) (by omega)) (hJ.2.2.1 6 (by omega)).1) (f4 _ (hJ.ne (by omega) (by omega) (by omega)) (hJ.2.2.1 7 (by omega)).1) (f4 _ (hJ.ne (by omega) (by omega) (by omega)) (hJ.2.2.1 8 (by omega)).1)
  have hl4 := hL4.1
  have hx4 := hO4.1
  have hmd4 := hMd4x.1
  obtain ⟨T4, t4, hT4, _, _⟩ := hS4.1 (bd + 256) (by omega)
  show jj G kX_echelon (d + 10) Q rc rs 62 [some (.ref (oa 0)), some (.int (nI (n))), some (.int (nI (m))), some (.ref (oa (13 + m))), none, none] [] M4
  refine jj_aload_n (pc := 62) kX_echelon_d62 rfl ?_
  refine jj_getf (pc := 63) kX_echelon_d63 (kfX_draft hG) hx4 rfl ?_
  refine jj_getf (pc := 66) kX_echelon_d66 (kfX_M_common hG) hmd4 rfl ?_
  refine jj_aload_n (pc := 69) kX_echelon_d69 rfl ?_
  refine jj_getf (pc := 70) kX_echelon_d70 (kfX_elimination hG) hx4 rfl ?_
  refine jj_getf (pc := 73) kX_echelon_d73 (kfX_E_last hG) hl4 rfl ?_
  have l33 : V4 33 = L := by rw [vo4 33 (by omega)]; exact v33
  refine jj_callV (pc := 76) (b := (wa (bd + 256))) (As := [.ref (wa 33)]) kX_echelon_d76 (kvX_W_copy hG) (kG_cl hG rfl) rfl hT4 rfl rfl rfl (Nat.le_of_ble_eq_true rfl) (Nat.le_of_ble_eq_true rfl) (jj_bare0 rfl) ?_
  refine w_copy hG hI hS4.1 (t := bd + 256) (u := 33) (by omega) (by omega) (by rw [hJ.cap252 (by omega) (by omega), l33]; exact lc_room (by omega)) (fun M5 hc5 hw5 => ?_)
  have hS5x := hS4.wt hK (by omega) hw5 hc5
  have hw5e : EF M4 M5 wa la 3122 eu dv hi lo := hw5.ef (by omega)
  have hO5 := hO4.ef hJ hw5e
  have hL5 := hL4.ef hJL hw5e
  have hF5 := hF4.trans (hw5e.efx (X := XAD oa))
  obtain ⟨Vb, eVb⟩ : ∃ W, vup V4 (bd + 256) (V4 33) = W := ⟨_, rfl⟩
  have hS5 : KS M5 wa la cap 3122 eu dv hi lo (oa 3) Vb := by rw [← eVb]; exact hS5x
  have vb0 : Vb (bd + 256) = L := by rw [← eVb, vup_at]; exact l33
  have vb1 : ∀ p, p < bd → Vb p = V3 p := fun p hp => by rw [← eVb, vup_ne _ _ (by omega)]; exact vo4 _ (Or.inl hp)
  have vb33 : Vb 33 = L := by rw [vb1 _ (by omega)]; exact v33
  have vb2 : ∀ i j, i < rr → j < cc → Vb (bd + (16 * i + j)) = 0 := fun i j hi' hj' => by rw [← eVb, vup_ne _ _ (by omega)]; exact v04 i j hi' hj'
  have hx5 := hO5.1
  have hl5 := hL5.1
  have hMd5 := hO5.dr ebd
  rw [e8, f8] at hMd5
  have hmd5 := hMd5.1
  have hMm5 := hO5.2.2.2.2.2.2.2 m (by omega)
  rw [← ebm, (rk1 m hm).1, (rk1 m hm).2, err, ecc] at hMm5
  have hmm5 := hMm5.1
  obtain ⟨hpa5, lpa5⟩ := hL5.2.2.1
  obtain ⟨hia5, lia5⟩ := hL5.2.2.2.1
  show jj G kX_echelon (d + 10) Q rc rs 79 [some (.ref (oa 0)), some (.int (nI (n))), some (.int (nI (m))), some (.ref (oa (13 + m))), none, none] [] M5
  refine jn_iconst (pc := 79) 0 kX_echelon_d79 (by decide) ?_
  refine jj_istore (pc := 80) kX_echelon_d80 (Nat.le_of_ble_eq_true rfl) ?_
  show jj G kX_echelon (d + 10) Q rc rs 82 [some (.ref (oa 0)), some (.int (nI (n))), some (.int (nI (m))), some (.ref (oa (13 + m))), some (.int (nI (0))), none] [] M5
  show jj G kX_echelon (d + 10) Q rc rs 82 [some (.ref (oa 0)), some (.int (nI (n))), some (.int (nI (m))), some (.ref (oa (13 + m))), some (.int (nI (0))), none] [] M5
  have outer : ∀ mu i, rk = i + mu → ∀ (oj : Option Value) (M9 : mheap) (V9 : Nat → Int), KS M9 wa la cap 3122 eu dv hi lo (oa 3) V9 → EF M5 M9 wa la 3122 eu dv hi lo → (∀ p, 13 ≤ p → p < bd ∨ p = bd + 256 → V9 p = Vb p) → (∀ i' j', i' < rr → j' < cc → (i' < i → ((V9 (bd + (16 * i' + j')) : Int) : Rat) = ((L : Int) : Rat) * E i' j') ∧ (i ≤ i' → V9 (bd + (16 * i' + j')) = 0)) → jj G kX_echelon (d + 10) Q rc rs 82 [some (.ref (oa 0)), some (.int (nI (n))), some (.int (nI (m))), some (.ref (oa (13 + m))), some (.int (nI (i))), (oj)] [] M9 := by
    intro mu
    induction mu with
    | zero =>
      intro i hk oj M9 V9 hS9 f9 o9 v9
      have e9 : rk = i := by omega
      subst e9
      have hO9 := hO5.ef hJ f9
      have hL9 := hL5.ef hJL f9
      have hx9 := hO9.1
      have hl9 := hL9.1
      have hMd9 := hO9.dr ebd
      rw [e8, f8] at hMd9
      have hmd9 := hMd9.1
      have hMm9 := hO9.2.2.2.2.2.2.2 m (by omega)
      rw [← ebm, (rk1 m hm).1, (rk1 m hm).2, err, ecc] at hMm9
      have hmm9 := hMm9.1
      obtain ⟨hpa9, lpa9⟩ := hL9.2.2.1
      obtain ⟨hia9, lia9⟩ := hL9.2.2.2.1
      refine jj_iload (pc := 82) kX_echelon_d82 rfl ?_
      refine jj_aload_n (pc := 84) kX_echelon_d84 rfl ?_
      refine jj_getf (pc := 85) kX_echelon_d85 (kfX_elimination hG) hx9 rfl ?_
      refine jj_getf (pc := 88) kX_echelon_d88 (kfX_E_rank hG) hl9 rfl ?_
      refine jn_icmp_ge (pc := 91) (tgt := 185) kX_echelon_d91 (by decide) (by omega) (by omega) (fun _ => ?_) (fun c => by exfalso; omega)
      refine jj_aload_n (pc := 185) kX_echelon_d185 rfl ?_
      refine jj_getf (pc := 186) kX_echelon_d186 (kfX_elimination hG) hx9 rfl ?_
      refine jj_getf (pc := 189) kX_echelon_d189 (kfX_E_rank hG) hl9 rfl ?_
      refine jj_istore (pc := 192) kX_echelon_d192 (Nat.le_of_ble_eq_true rfl) ?_
      show jj G kX_echelon (d + 10) Q rc rs 194 [some (.ref (oa 0)), some (.int (nI (n))), some (.int (nI (m))), some (.ref (oa (13 + m))), some (.int (nI (rk))), (oj)] [] M9
      have ov9 : ∀ p, 13 ≤ p → (p < 17 ∨ 547 ≤ p) → p < 2865 → V9 p = V p := fun p h1 h2 h3 => by rw [o9 p h1 (by omega), vb1 p (by omega)]; exact v3 p h1 h2
      have hF9 := hF5.trans (f9.efx (X := XAD oa))
      have hH : HAS V9 2865 (R1 8) (C1 8) (mcut E rk cc) := by
        rw [e8, f8, ← ebd]
        refine ⟨by rw [o9 _ (by omega) (by omega), vb0]; exact hLne, fun i j hi' hj' => ?_⟩
        rw [o9 (bd + 256) (by omega) (by omega), vb0, mcut_cell hj']
        by_cases c : i < rk
        · rw [if_pos c, (v9 i j hi' hj').1 c, Rat.mul_comm]
        · rw [if_neg c, (v9 i j hi' hj').2 (by omega)]
          show (0 : Rat) = 0 * _
          grind
      show jj G kX_echelon (d + 10) Q rc rs 194 [some (.ref (oa 0)), some (.int (nI (n))), some (.int (nI (m))), some (.ref (oa (13 + m))), some (.int (nI (rk))), (oj)] [] M9
      refine jj_aload_n (pc := 194) kX_echelon_d194 rfl ?_
      refine jj_callV (pc := 195) (b := (oa 0)) (As := []) kX_echelon_d195 (kvX_X_reduceDraft hG) (kG_cl hG rfl) rfl hx9 rfl rfl rfl (Nat.le_of_ble_eq_true rfl) (Nat.le_of_ble_eq_true rfl) (jj_bare0 rfl) ?_
      refine x_reduceDraft hG hJ hS9 hO9 (by omega) (by omega) (by omega) (by omega) hH (fun Ma Va hSa hOa hNa va wa9 => ?_)
      have hxa := hOa.1
      have hFa := hF9.trans (wa9.efx (X := XAD oa))
      have ova : ∀ p, 13 ≤ p → (p < 17 ∨ 547 ≤ p) → p < 2865 → Va p = V p := fun p h1 h2 h3 => by rw [va p h1 h3]; exact ov9 p h1 h2 h3
      have hsem : rref E cc rk p ∧ rowsIn E rk (qA (σ.2.2 m) cc) rr cc ∧ rowsIn (qA (σ.2.2 m) cc) rr E rk cc := by
        obtain ⟨σ', τ', h6, h6a⟩ := hB2.2.2.2.2.2.1
        obtain ⟨q1, q2⟩ := rows_scaled (A := A) (Q := qA (σ.2.2 m) cc) (n := cc) (f := fun i => ((rowD (σ.2.2 m) cc i 1 : Int) : Rat)) h6 (fun i hi' j hj' => by
          rw [h6a i hi' j]
          exact (rowd_cell hNm (h6.1 i hi').1 (hR1 _ (h6.1 i hi').1) hj').2) (fun i hi' => rat_ne (by have := rowD_pos (q := σ.2.2 m) (n := cc) (i := i) (z := 1) (by decide); omega))
        exact ⟨hrf, rowsIn_trans hB2.rowsE q1, rowsIn_trans q2 (hB2.rowsA hbz2)⟩
      show jj G kX_echelon (d + 10) Q rc rs 198 [some (.ref (oa 0)), some (.int (nI (n))), some (.int (nI (m))), some (.ref (oa (13 + m))), some (.int (nI (rk))), (oj)] [] Ma
      refine jj_aload_n (pc := 198) kX_echelon_d198 rfl ?_
      refine jj_iload_n (pc := 199) kX_echelon_d199 rfl ?_
      refine jj_callV (pc := 200) (b := (oa 0)) (As := [.int (nI (n))]) kX_echelon_d200 (kvX_X_keepDraft hG) (kG_cl hG rfl) rfl hxa rfl rfl rfl (Nat.le_of_ble_eq_true rfl) (Nat.le_of_ble_eq_true rfl) (jj_bare0 rfl) ?_
      refine x_keepDraft hG hJ hSa hOa (q := (mcut E rk cc)) (by omega) (by omega) (by omega) (by omega) hn hNa hrc hrs (fun Mb Vc hfit hSb hOb hNb vb hFb => ?_) (fun hnf y hy => kt Ma 2 6 (Or.inr ⟨n, m, hn, rfl, hm, rfl, Or.inr ⟨by rw [← erm, ← ecm]; exact hnh, E, rk, p, by rw [← ecm]; exact hsem.1, by rw [← erm, ← ecm]; exact hsem.2.1, by rw [← erm, ← ecm]; exact hsem.2.2, by rw [← erm]; exact hrk, by rw [← erm, ← ecm]; exact Or.inr ⟨by rw [e8, f8] at hnf; exact hnf, rfl, rfl, rfl⟩⟩⟩) (by omega) ⟨Va, sc, R1, C1, hSa, hOa, hV.keep (fun p p1 p2 => ova p (by omega) (by omega) p2) (ova 15 (by omega) (by omega) (by omega)) (ova 16 (by omega) (by omega) (by omega)) rk1⟩ hFa y hy)
      rw [e8, f8] at hfit hNb
      show jj G kX_echelon (d + 10) Q rc rs 203 [some (.ref (oa 0)), some (.int (nI (n))), some (.int (nI (m))), some (.ref (oa (13 + m))), some (.int (nI (rk))), (oj)] [] Mb
      refine jj_iload (pc := 203) kX_echelon_d203 rfl ?_
      exact jj_iret (pc := 205) kX_echelon_d205 rfl (by rfl) (kr Mb rk _ (Or.inr ⟨n, m, hn, rfl, hm, rfl, Or.inr ⟨by rw [← erm, ← ecm]; exact hnh, E, rk, p, by rw [← ecm]; exact hsem.1, by rw [← erm, ← ecm]; exact hsem.2.1, by rw [← erm, ← ecm]; exact hsem.2.2, by rw [← erm]; exact hrk, by rw [← erm, ← ecm]; exact Or.inl ⟨hfit, rfl, rfl, rfl⟩⟩⟩) ⟨Vc, -1, _, _, hSb, hOb, hV.put (n := n) (r := rr) (c := cc) (q := (mcut E rk cc)) hn (fun p _ _ p3 => by rw [vb p (by omega) p3]; exact ova p (by omega) (by omega) (by omega)) (fun k hk => by show (if k = n then R1 8 else R1 k) = _; rw [e8, (rk1 k hk).1]) (fun k hk => by show (if k = n then C1 8 else C1 k) = _; rw [f8, (rk1 k hk).2]) (by omega) (by omega) (by omega) (by omega) hNb⟩ (hFa.trans hFb))
    | succ mu ih =>
      intro i hk oj M9 V9 hS9 f9 o9 v9
      have hO9 := hO5.ef hJ f9
      have hL9 := hL5.ef hJL f9
      have pi := hpc i (by omega)
      have hx9 := hO9.1
      have hl9 := hL9.1
      have hMd9 := hO9.dr ebd
      rw [e8, f8] at hMd9
      have hmd9 := hMd9.1
      have hMm9 := hO9.2.2.2.2.2.2.2 m (by omega)
      rw [← ebm, (rk1 m hm).1, (rk1 m hm).2, err, ecc] at hMm9
      have hmm9 := hMm9.1
      obtain ⟨hpa9, lpa9⟩ := hL9.2.2.1
      obtain ⟨hia9, lia9⟩ := hL9.2.2.2.1
      refine jj_iload (pc := 82) kX_echelon_d82 rfl ?_
      refine jj_aload_n (pc := 84) kX_echelon_d84 rfl ?_
      refine jj_getf (pc := 85) kX_echelon_d85 (kfX_elimination hG) hx9 rfl ?_
      refine jj_getf (pc := 88) kX_echelon_d88 (kfX_E_rank hG) hl9 rfl ?_
      refine jn_icmp_ge (pc := 91) (tgt := 185) kX_echelon_d91 (by decide) (by omega) (by omega) (fun c => by exfalso; omega) (fun _ => ?_)
      refine jj_aload_n (pc := 94) kX_echelon_d94 rfl ?_
      refine jj_getf (pc := 95) kX_echelon_d95 (kfX_draft hG) hx9 rfl ?_
      refine jj_iload (pc := 98) kX_echelon_d98 rfl ?_
      refine jj_aload_n (pc := 100) kX_echelon_d100 rfl ?_
      refine jj_getf (pc := 101) kX_echelon_d101 (kfX_elimination hG) hx9 rfl ?_
      refine jj_getf (pc := 104) kX_echelon_d104 (kfX_E_pivotColumns hG) hl9 rfl ?_
      refine jj_iload (pc := 107) kX_echelon_d107 rfl ?_
      refine jn_iald (pc := 109) (v := (nI (p i))) kX_echelon_d109 (kG_t hG rfl) hpa9 (by omega) (by omega) (hPV.1 i (by omega)) ?_
      refine jj_callV (pc := 110) (b := (oa 21)) (As := [.int (nI (i)), .int (nI (p i))]) kX_echelon_d110 (kvX_M_at hG) (kG_cl hG rfl) rfl hmd9 rfl rfl rfl (Nat.le_of_ble_eq_true rfl) (Nat.le_of_ble_eq_true rfl) (jj_bare0 rfl) ?_
      refine m_at hG hMd9 (by omega) (by omega) ?_
      show jj G kX_echelon (d + 10) Q rc rs 113 [some (.ref (oa 0)), some (.int (nI (n))), some (.int (nI (m))), some (.ref (oa (13 + m))), some (.int (nI (i))), (oj)] [.ref (wa (bd + (16 * i + (p i))))] M9
      obtain ⟨T9, t9, hT9, _, _⟩ := hS9.1 (bd + (16 * i + (p i))) (by omega)
      have l339 : V9 33 = L := by rw [o9 33 (by omega) (by omega)]; exact vb33
      refine jj_aload_n (pc := 113) kX_echelon_d113 rfl ?_
      refine jj_getf (pc := 114) kX_echelon_d114 (kfX_elimination hG) hx9 rfl ?_
      refine jj_getf (pc := 117) kX_echelon_d117 (kfX_E_last hG) hl9 rfl ?_
      refine jj_callV (pc := 120) (b := (wa (bd + (16 * i + (p i))))) (As := [.ref (wa 33)]) kX_echelon_d120 (kvX_W_copy hG) (kG_cl hG rfl) rfl hT9 rfl rfl rfl (Nat.le_of_ble_eq_true rfl) (Nat.le_of_ble_eq_true rfl) (jj_bare0 rfl) ?_
      refine w_copy hG hI hS9.1 (t := (bd + (16 * i + (p i)))) (u := 33) (by omega) (by omega) (by rw [hJ.cap252 (by omega) (by omega), l339]; exact lc_room (by omega)) (fun M6 hc6 hw6 => ?_)
      have hS6 := hS9.wt hK (by omega) hw6 hc6
      have hw6e : EF M9 M6 wa la 3122 eu dv hi lo := hw6.ef (by omega)
      have hO6 := hO9.ef hJ hw6e
      have hL6 := hL9.ef hJL hw6e
      have hx6 := hO6.1
      have hl6 := hL6.1
      have hMd6 := hO6.dr ebd
      rw [e8, f8] at hMd6
      have hmd6 := hMd6.1
      have hMm6 := hO6.2.2.2.2.2.2.2 m (by omega)
      rw [← ebm, (rk1 m hm).1, (rk1 m hm).2, err, ecc] at hMm6
      have hmm6 := hMm6.1
      obtain ⟨hpa6, lpa6⟩ := hL6.2.2.1
      obtain ⟨hia6, lia6⟩ := hL6.2.2.2.1
      show jj G kX_echelon (d + 10) Q rc rs 123 [some (.ref (oa 0)), some (.int (nI (n))), some (.int (nI (m))), some (.ref (oa (13 + m))), some (.int (nI (i))), (oj)] [] M6
      refine jn_iconst (pc := 123) 0 kX_echelon_d123 (by decide) ?_
      refine jj_istore (pc := 124) kX_echelon_d124 (Nat.le_of_ble_eq_true rfl) ?_
      show jj G kX_echelon (d + 10) Q rc rs 126 [some (.ref (oa 0)), some (.int (nI (n))), some (.int (nI (m))), some (.ref (oa (13 + m))), some (.int (nI (i))), some (.int (nI (0)))] [] M6
      show jj G kX_echelon (d + 10) Q rc rs 126 [some (.ref (oa 0)), some (.int (nI (n))), some (.int (nI (m))), some (.ref (oa (13 + m))), some (.int (nI (i))), some (.int (nI (0)))] [] M6
      have inner : ∀ mu2 j, cc = j + mu2 → ∀ (M9 : mheap) (V9 : Nat → Int), KS M9 wa la cap 3122 eu dv hi lo (oa 3) V9 → EF M5 M9 wa la 3122 eu dv hi lo → (∀ p, 13 ≤ p → p < bd ∨ p = bd + 256 → V9 p = Vb p) → (∀ i' j', i' < rr → j' < cc → (i' < i → ((V9 (bd + (16 * i' + j')) : Int) : Rat) = ((L : Int) : Rat) * E i' j') ∧ (i' = i → (j' < j → ((V9 (bd + (16 * i' + j')) : Int) : Rat) = ((L : Int) : Rat) * E i' j') ∧ (j ≤ j' → V9 (bd + (16 * i' + j')) = if j' = p i' then L else 0)) ∧ (i < i' → V9 (bd + (16 * i' + j')) = 0)) → jj G kX_echelon (d + 10) Q rc rs 126 [some (.ref (oa 0)), some (.int (nI (n))), some (.int (nI (m))), some (.ref (oa (13 + m))), some (.int (nI (i))), some (.int (nI (j)))] [] M9 := by
        intro mu2
        induction mu2 with
        | zero =>
          intro j hk2 M9 V9 hS9 f9 o9 v9
          have e9 : cc = j := by omega
          subst e9
          have hO9 := hO5.ef hJ f9
          have hL9 := hL5.ef hJL f9
          have hx9 := hO9.1
          have hl9 := hL9.1
          have hMd9 := hO9.dr ebd
          rw [e8, f8] at hMd9
          have hmd9 := hMd9.1
          have hMm9 := hO9.2.2.2.2.2.2.2 m (by omega)
          rw [← ebm, (rk1 m hm).1, (rk1 m hm).2, err, ecc] at hMm9
          have hmm9 := hMm9.1
          obtain ⟨hpa9, lpa9⟩ := hL9.2.2.1
          obtain ⟨hia9, lia9⟩ := hL9.2.2.2.1
          refine jj_iload (pc := 126) kX_echelon_d126 rfl ?_
          refine jj_aload_n (pc := 128) kX_echelon_d128 rfl ?_
          refine jj_getf (pc := 129) kX_echelon_d129 (kfX_M_columns hG) hmm9 rfl ?_
          refine jn_icmp_ge (pc := 132) (tgt := 179) kX_echelon_d132 (by decide) (by omega) (by omega) (fun _ => ?_) (fun c => by exfalso; omega)
          refine jn_iinc (pc := 179) (i + 1) kX_echelon_d179 rfl (nI_1 _) ?_
          refine jj_goto (pc := 182) (tgt := 82) kX_echelon_d182 (by decide) ?_
          show jj G kX_echelon (d + 10) Q rc rs 82 [some (.ref (oa 0)), some (.int (nI (n))), some (.int (nI (m))), some (.ref (oa (13 + m))), some (.int (nI (i + 1))), some (.int (nI (cc)))] [] M9
          refine ih (i + 1) (by omega) _ M9 V9 hS9 f9 o9 (fun i' j' h1 h2 => ⟨fun h => ?_, fun h => (v9 i' j' h1 h2).2.2 (by omega)⟩)
          by_cases e : i' = i
          · exact ((v9 i' j' h1 h2).2.1 e).1 h2
          · exact (v9 i' j' h1 h2).1 (by omega)
        | succ mu2 ih2 =>
          intro j hk2 M9 V9 hS9 f9 o9 v9
          have hO9 := hO5.ef hJ f9
          have hL9 := hL5.ef hJL f9
          have hx9 := hO9.1
          have hl9 := hL9.1
          have hMd9 := hO9.dr ebd
          rw [e8, f8] at hMd9
          have hmd9 := hMd9.1
          have hMm9 := hO9.2.2.2.2.2.2.2 m (by omega)
          rw [← ebm, (rk1 m hm).1, (rk1 m hm).2, err, ecc] at hMm9
          have hmm9 := hMm9.1
          obtain ⟨hpa9, lpa9⟩ := hL9.2.2.1
          obtain ⟨hia9, lia9⟩ := hL9.2.2.2.1
          refine jj_iload (pc := 126) kX_echelon_d126 rfl ?_
          refine jj_aload_n (pc := 128) kX_echelon_d128 rfl ?_
          refine jj_getf (pc := 129) kX_echelon_d129 (kfX_M_columns hG) hmm9 rfl ?_
          refine jn_icmp_ge (pc := 132) (tgt := 179) kX_echelon_d132 (by decide) (by omega) (by omega) (fun c => by exfalso; omega) (fun _ => ?_)
          by_cases hnp : ∀ k, k < rk → p k ≠ j
          · skip
            have hB0 : B.getD j 0 = nI 0 := hPV.2.2 j (by omega) hnp
            refine jj_aload_n (pc := 135) kX_echelon_d135 rfl ?_
            refine jj_getf (pc := 136) kX_echelon_d136 (kfX_elimination hG) hx9 rfl ?_
            refine jj_getf (pc := 139) kX_echelon_d139 (kfX_E_isPivot hG) hl9 rfl ?_
            refine jj_iload (pc := 142) kX_echelon_d142 rfl ?_
            refine jn_zald (pc := 144) (v := (nI (0))) kX_echelon_d144 (kG_t hG rfl) hia9 (by omega) (by omega) (hB0) ?_
            refine jn_if_ne (pc := 145) (tgt := 173) kX_echelon_d145 (by decide) (by omega) (fun c => by exfalso; omega) (fun _ => ?_)
            obtain ⟨tq, ltq⟩ := eT i j (by omega) (Nat.zero_le _) (by omega) hnp
            have gb := hL9.2.2.2.2.2.1 (32 * i + j) (by omega)
            have gv : V9 (g (32 * i + j)) = V3 (g (32 * i + j)) := by rw [o9 _ (by omega) (by omega)]; exact vb1 _ (by omega)
            refine jj_aload_n (pc := 148) kX_echelon_d148 rfl ?_
            refine jj_getf (pc := 149) kX_echelon_d149 (kfX_draft hG) hx9 rfl ?_
            refine jj_iload (pc := 152) kX_echelon_d152 rfl ?_
            refine jj_iload (pc := 154) kX_echelon_d154 rfl ?_
            refine jj_callV (pc := 156) (b := (oa 21)) (As := [.int (nI (i)), .int (nI (j))]) kX_echelon_d156 (kvX_M_at hG) (kG_cl hG rfl) rfl hmd9 rfl rfl rfl (Nat.le_of_ble_eq_true rfl) (Nat.le_of_ble_eq_true rfl) (jj_bare0 rfl) ?_
            refine m_at hG hMd9 (by omega) (by omega) ?_
            show jj G kX_echelon (d + 10) Q rc rs 159 [some (.ref (oa 0)), some (.int (nI (n))), some (.int (nI (m))), some (.ref (oa (13 + m))), some (.int (nI (i))), some (.int (nI (j)))] [.ref (wa (bd + (16 * i + j)))] M9
            refine jj_aload_n (pc := 159) kX_echelon_d159 rfl ?_
            refine jj_getf (pc := 160) kX_echelon_d160 (kfX_elimination hG) hx9 rfl ?_
            refine jj_iload (pc := 163) kX_echelon_d163 rfl ?_
            refine jj_iload (pc := 165) kX_echelon_d165 rfl ?_
            refine jj_callV (pc := 167) (b := (oa 4)) (As := [.int (nI (i)), .int (nI (j))]) kX_echelon_d167 (kvX_E_at hG) (kG_cl hG rfl) rfl hl9 rfl rfl rfl (Nat.le_of_ble_eq_true rfl) (Nat.le_of_ble_eq_true rfl) (jj_bare0 rfl) ?_
            refine e_at hG hL9 (by omega) (by omega) ?_
            show jj G kX_echelon (d + 10) Q rc rs 170 [some (.ref (oa 0)), some (.int (nI (n))), some (.int (nI (m))), some (.ref (oa (13 + m))), some (.int (nI (i))), some (.int (nI (j)))] [.ref (wa (g (32 * i + j))), .ref (wa (bd + (16 * i + j)))] M9
            obtain ⟨T9, t9, hT9, _, _⟩ := hS9.1 (bd + (16 * i + j)) (by omega)
            refine jj_callV (pc := 170) (b := (wa (bd + (16 * i + j)))) (As := [.ref (wa (g (32 * i + j)))]) kX_echelon_d170 (kvX_W_copy hG) (kG_cl hG rfl) rfl hT9 rfl rfl rfl (Nat.le_of_ble_eq_true rfl) (Nat.le_of_ble_eq_true rfl) (jj_bare0 rfl) ?_
            refine w_copy hG hI hS9.1 (t := (bd + (16 * i + j))) (u := (g (32 * i + j))) (by omega) (by omega) (by rw [hJ.cap252 (by omega) (by omega), gv]; exact lc_room (by omega)) (fun M8 hc8 hw8 => ?_)
            show jj G kX_echelon (d + 10) Q rc rs 173 [some (.ref (oa 0)), some (.int (nI (n))), some (.int (nI (m))), some (.ref (oa (13 + m))), some (.int (nI (i))), some (.int (nI (j)))] [] M8
            refine jn_iinc (pc := 173) (j + 1) kX_echelon_d173 rfl (nI_1 _) ?_
            refine jj_goto (pc := 176) (tgt := 126) kX_echelon_d176 (by decide) ?_
            show jj G kX_echelon (d + 10) Q rc rs 126 [some (.ref (oa 0)), some (.int (nI (n))), some (.int (nI (m))), some (.ref (oa (13 + m))), some (.int (nI (i))), some (.int (nI (j + 1)))] [] M8
            refine ih2 (j + 1) (by omega) M8 _ (hS9.wt hK (by omega) hw8 hc8) (f9.trans (hw8.ef (by omega))) (fun p h1 h2 => by rw [vup_ne _ _ (by omega)]; exact o9 p h1 h2) (fun i' j' h1 h2 => ?_)
            by_cases e : i' = i ∧ j' = j
            · rw [e.1, e.2, vup_at, gv]
              exact ⟨fun h => by omega, fun _ => ⟨fun _ => tq, fun h => by omega⟩, fun h => by omega⟩
            · rw [vup_ne _ _ (by omega)]
              exact ⟨(v9 i' j' h1 h2).1, fun h => ⟨fun h' => ((v9 i' j' h1 h2).2.1 h).1 (by omega), fun h' => ((v9 i' j' h1 h2).2.1 h).2 (by omega)⟩, (v9 i' j' h1 h2).2.2⟩
          · skip
            obtain ⟨kq, hkq, ekq⟩ : ∃ k, k < rk ∧ p k = j := Classical.byContradiction (fun h => hnp (fun k hk e => h ⟨k, hk, e⟩))
            have hB1 : B.getD j 0 = nI 1 := by rw [← ekq]; exact hPV.2.1 kq hkq
            refine jj_aload_n (pc := 135) kX_echelon_d135 rfl ?_
            refine jj_getf (pc := 136) kX_echelon_d136 (kfX_elimination hG) hx9 rfl ?_
            refine jj_getf (pc := 139) kX_echelon_d139 (kfX_E_isPivot hG) hl9 rfl ?_
            refine jj_iload (pc := 142) kX_echelon_d142 rfl ?_
            refine jn_zald (pc := 144) (v := (nI (1))) kX_echelon_d144 (kG_t hG rfl) hia9 (by omega) (by omega) (hB1) ?_
            refine jn_if_ne (pc := 145) (tgt := 173) kX_echelon_d145 (by decide) (by omega) (fun _ => ?_) (fun c => by exfalso; omega)
            refine jn_iinc (pc := 173) (j + 1) kX_echelon_d173 rfl (nI_1 _) ?_
            refine jj_goto (pc := 176) (tgt := 126) kX_echelon_d176 (by decide) ?_
            show jj G kX_echelon (d + 10) Q rc rs 126 [some (.ref (oa 0)), some (.int (nI (n))), some (.int (nI (m))), some (.ref (oa (13 + m))), some (.int (nI (i))), some (.int (nI (j + 1)))] [] M9
            refine ih2 (j + 1) (by omega) M9 V9 hS9 f9 o9 (fun i' j' h1 h2 => ⟨(v9 i' j' h1 h2).1, fun h => ⟨fun h' => ?_, fun h' => ((v9 i' j' h1 h2).2.1 h).2 (by omega)⟩, (v9 i' j' h1 h2).2.2⟩)
            by_cases e : j' = j
            · have q := ((v9 i' j' h1 h2).2.1 h).2 (by omega)
              rw [h, e] at q ⊢
              by_cases c : kq = i
              · rw [q, if_pos (by rw [← ekq, c]), ← ekq, c, hrf.2.2.2.1 i (by omega), Rat.mul_one]
              · have hne : j ≠ p i := fun e' => by
                  rcases Nat.lt_or_gt_of_ne c with l | l
                  · have := hrf.2.1 kq i l (by omega); omega
                  · have := hrf.2.1 i kq l hkq; omega
                rw [q, if_neg hne, ← ekq, hrf.2.2.2.2 i kq (by omega) hkq (fun e' => c e'.symm)]
                show (0 : Rat) = _ * 0
                grind
            · exact ((v9 i' j' h1 h2).2.1 h).1 (by omega)
      refine inner cc 0 (by omega) M6 _ hS6 (f9.trans hw6e) (fun q h1 h2 => by rw [vup_ne _ _ (by omega)]; exact o9 q h1 h2) (fun i' j' h1 h2 => ⟨fun h => ?_, fun h => ⟨fun h' => by omega, fun h' => ?_⟩, fun h => ?_⟩)
      · rw [vup_ne _ _ (by omega)]; exact (v9 i' j' h1 h2).1 h
      · by_cases e : j' = p i'
        · rw [if_pos e, e, h, vup_at]; exact l339
        · rw [if_neg e, vup_ne _ _ (by rw [h] at e; rw [h]; omega)]; exact (v9 i' j' h1 h2).2 (by omega)
      · rw [vup_ne _ _ (by omega)]; exact (v9 i' j' h1 h2).2 (by omega)
  exact outer rk 0 (by omega) _ M5 Vb hS5 (fun _ _ _ _ _ _ => rfl) (fun _ _ _ => rfl) (fun i' j' h1 h2 => ⟨fun h => by omega, fun _ => vb2 i' j' h1 h2⟩)
end X11b
