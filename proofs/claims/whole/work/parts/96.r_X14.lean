/-! ===== ExactForms: solve, invert (printed by wip/gen/rX14.py) ===== -/
section X14
variable {G : jg} {d : Nat} {Q : jq} {rc rs : Nat} {M : mheap} {wa la cap oa : Nat → Nat} {eu dv hi lo : Nat} {σ : rst}
theorem xp_solve {x y z : Int32} (hG : kG G) (hJ : XJ wa la cap oa eu dv hi lo) (hT : XT M wa la cap oa eu dv hi lo σ) (hrc : 1 ≤ rc) (hrs : 6 ≤ rs) (kr : ∀ (M' : mheap) (v : Nat) (σ' : rst), semSolve σ x y z 0 v σ' → XT M' wa la cap oa eu dv hi lo σ' → XF oa M M' wa la eu dv hi lo → Q (.returned (some (.int (nI v)))) M' rc rs) (kt : ∀ (M' : mheap) (cd ci : Nat), semSolve σ x y z cd 0 σ → (cd = 1 ∧ ci = 4 ∨ cd = 2 ∧ ci = 5 ∨ cd = 3 ∧ ci = 6) → XT M' wa la cap oa eu dv hi lo σ → XF oa M M' wa la eu dv hi lo → ∀ x, M' x = none → Q (.threw x) (jj_up M' x (.inl ci, [])) (rc - 1) (rs - 6)) : jj G kX_solve (d + 10) Q rc rs 0 (jj_ent [.ref (oa 0), .int x, .int y, .int z] 6) [] M := by
  obtain ⟨V, sc, R, C, hS, hO, hV⟩ := id hT
  have hK := hJ.1
  have hI := hK.1
  have hx := hO.1
  show jj G kX_solve (d + 10) Q rc rs 0 [some (.ref (oa 0)), some (.int (x)), some (.int (y)), some (.int (z)), none, none] [] M
  refine jj_aload_n (pc := 0) kX_solve_d0 rfl ?_
  refine jj_iload_n (pc := 1) kX_solve_d1 rfl ?_
  refine jj_callV (pc := 2) (b := (oa 0)) (As := [.int (x)]) kX_solve_d2 (kvX_X_register hG) (kG_cl hG rfl) rfl hx rfl rfl rfl (Nat.le_of_ble_eq_true rfl) (Nat.le_of_ble_eq_true rfl) (jj_bare0 rfl) ?_
  refine x_register hG hO hrc hrs (fun t ht et => ?_) (fun h y hy => kt M 1 4 (Or.inl ⟨fun g => h g.1, rfl, rfl, rfl⟩) (by omega) hT (fun _ _ _ => rfl) y hy)
  subst et
  show jj G kX_solve (d + 10) Q rc rs 5 [some (.ref (oa 0)), some (.int (nI (t))), some (.int (y)), some (.int (z)), none, none] [.ref (oa (13 + t))] M
  refine jj_pop (pc := 5) kX_solve_d5 rfl ?_
  refine jj_aload_n (pc := 6) kX_solve_d6 rfl ?_
  refine jj_iload_n (pc := 7) kX_solve_d7 rfl ?_
  refine jj_callV (pc := 8) (b := (oa 0)) (As := [.int (y)]) kX_solve_d8 (kvX_X_register hG) (kG_cl hG rfl) rfl hx rfl rfl rfl (Nat.le_of_ble_eq_true rfl) (Nat.le_of_ble_eq_true rfl) (jj_bare0 rfl) ?_
  refine x_register hG hO hrc hrs (fun n hn en => ?_) (fun h y hy => kt M 1 4 (Or.inl ⟨fun g => h g.2.1, rfl, rfl, rfl⟩) (by omega) hT (fun _ _ _ => rfl) y hy)
  subst en
  show jj G kX_solve (d + 10) Q rc rs 11 [some (.ref (oa 0)), some (.int (nI (t))), some (.int (nI (n))), some (.int (z)), none, none] [.ref (oa (13 + n))] M
  obtain ⟨ern, ecn, s1n, s2n, s3n, s4n, hNn⟩ := hV.1 n hn
  obtain ⟨bn, ebn⟩ : ∃ b, b = 809 + 257 * n := ⟨_, rfl⟩
  have hMn := hO.2.2.2.2.2.2.2 n (by omega)
  rw [← ebn] at hMn hNn
  have hmn := hMn.1
  refine jj_astore (pc := 11) kX_solve_d11 (Nat.le_of_ble_eq_true rfl) ?_
  show jj G kX_solve (d + 10) Q rc rs 13 [some (.ref (oa 0)), some (.int (nI (t))), some (.int (nI (n))), some (.int (z)), some (.ref (oa (13 + n))), none] [] M
  refine jj_aload_n (pc := 13) kX_solve_d13 rfl ?_
  refine jj_iload_n (pc := 14) kX_solve_d14 rfl ?_
  refine jj_callV (pc := 15) (b := (oa 0)) (As := [.int (z)]) kX_solve_d15 (kvX_X_register hG) (kG_cl hG rfl) rfl hx rfl rfl rfl (Nat.le_of_ble_eq_true rfl) (Nat.le_of_ble_eq_true rfl) (jj_bare0 rfl) ?_
  refine x_register hG hO hrc hrs (fun m hm em => ?_) (fun h y hy => kt M 1 4 (Or.inl ⟨fun g => h g.2.2, rfl, rfl, rfl⟩) (by omega) hT (fun _ _ _ => rfl) y hy)
  subst em
  show jj G kX_solve (d + 10) Q rc rs 18 [some (.ref (oa 0)), some (.int (nI (t))), some (.int (nI (n))), some (.int (nI (m))), some (.ref (oa (13 + n))), none] [.ref (oa (13 + m))] M
  obtain ⟨erm, ecm, s1m, s2m, s3m, s4m, hNm⟩ := hV.1 m hm
  obtain ⟨bm, ebm⟩ : ∃ b, b = 809 + 257 * m := ⟨_, rfl⟩
  have hMm := hO.2.2.2.2.2.2.2 m (by omega)
  rw [← ebm] at hMm hNm
  have hmm := hMm.1
  refine jj_astore (pc := 18) kX_solve_d18 (Nat.le_of_ble_eq_true rfl) ?_
  show jj G kX_solve (d + 10) Q rc rs 20 [some (.ref (oa 0)), some (.int (nI (t))), some (.int (nI (n))), some (.int (nI (m))), some (.ref (oa (13 + n))), some (.ref (oa (13 + m)))] [] M
  refine jj_aload (pc := 20) kX_solve_d20 rfl ?_
  refine jj_getf (pc := 22) kX_solve_d22 (kfX_M_rows hG) hmn rfl ?_
  refine jj_aload (pc := 25) kX_solve_d25 rfl ?_
  refine jj_getf (pc := 27) kX_solve_d27 (kfX_M_rows hG) hmm rfl ?_
  refine jn_icmp_eq (pc := 30) (tgt := 43) kX_solve_d30 (by decide) (by omega) (by omega) (fun cq => ?_) (fun cq => ?_)
  · skip
    obtain ⟨rr, err⟩ : ∃ r, R n = r := ⟨_, rfl⟩
    obtain ⟨cc, ecc⟩ : ∃ c, C n = c := ⟨_, rfl⟩
    rw [err] at ern s1n s2n
    rw [ecc] at ecn s3n s4n
    rw [err, ecc] at hMn hmn hNn
    obtain ⟨bd, ebd⟩ : ∃ b, b = 2865 := ⟨_, rfl⟩
    have hJL := hJ.lj
    obtain ⟨rk0, sw0, m0, w0, P0, B0, g0, hL0⟩ := hO.2.2.2.2.2.1
    have hl0 := hL0.1
    show jj G kX_solve (d + 10) Q rc rs 43 [some (.ref (oa 0)), some (.int (nI (t))), some (.int (nI (n))), some (.int (nI (m))), some (.ref (oa (13 + n))), some (.ref (oa (13 + m)))] [] M
    rw [err] at cq
    obtain ⟨c2, ec2⟩ : ∃ c, C m = c := ⟨_, rfl⟩
    rw [← cq] at erm s1m s2m
    rw [ec2] at ecm s3m s4m
    rw [← cq, ec2] at hMm hmm hNm
    refine jj_aload_n (pc := 43) kX_solve_d43 rfl ?_
    refine jj_getf (pc := 44) kX_solve_d44 (kfX_elimination hG) hx rfl ?_
    refine jj_aload (pc := 47) kX_solve_d47 rfl ?_
    refine jn_iconst (pc := 49) 0 kX_solve_d49 (by decide) ?_
    refine jj_callV (pc := 50) (b := (oa 4)) (As := [.ref (oa (13 + n)), .int (nI (0))]) kX_solve_d50 (kvX_E_load hG) (kG_cl hG rfl) rfl hl0 rfl rfl rfl (Nat.le_of_ble_eq_true rfl) (Nat.le_of_ble_eq_true rfl) (jj_bare0 rfl) ?_
    refine e_load hG hK hS hJL hL0 hMn (by omega) (by omega) (fun p _ _ => (hJ.capw (p := p) (by omega) (by omega)).1) s2n s4n hNn.1 (by have := hS.1.lc (p := bn + 256) (by omega); rw [hJ.cap125 (by omega) (by omega)] at this; exact this) (by omega) hrc hrs (fun M1 V1 hS1 hL1 vo1 hx1 hR1 => ?_) (fun Mt Vt hSt hLt vot hxt htw y hy => kt Mt 3 6 (Or.inr ⟨t, n, m, ht, rfl, hn, rfl, hm, rfl, Or.inr ⟨by omega, Or.inl ⟨by rw [← ern, ← ecn, ← ecm]; exact toow_heavy2 hNn (by omega) (by omega) htw, rfl, rfl, rfl⟩⟩⟩) (by omega) ⟨Vt, sc, R, C, hSt, (hO.el hLt (fun i h1 h2 _ _ _ => hxt _ (hJ.ne h1 (by omega) h2) (hJ.2.2.1 i h1))), hV.keep (fun p p1 p2 => vot p (by omega) (by omega)) (vot 15 (by omega) (by omega)) (vot 16 (by omega) (by omega)) (fun _ _ => ⟨rfl, rfl⟩)⟩ (hxt.more (fun x e => ⟨4, by omega, e⟩)) y hy)
    have hk1 : ∀ i, i < 31 → i ≠ 4 → i ≠ 6 → i ≠ 7 → i ≠ 8 → M1 (oa i) = M (oa i) := fun i h1 h2 _ _ _ => hx1 _ (hJ.ne h1 (by omega) h2) (hJ.2.2.1 i h1)
    have hO1 := hO.el hL1 hk1
    have hF1 : XF oa M M1 wa la eu dv hi lo := hx1.more (fun x e => ⟨4, by omega, e⟩)
    have hl1 := hL1.1
    have hx1a := hO1.1
    have hMm1 := hO1.2.2.2.2.2.2.2 n (by omega)
    rw [← ebn, err, ecc] at hMm1
    have hmm1 := hMm1.1
    have hgl := glong_eq hNn hR1
    show jj G kX_solve (d + 10) Q rc rs 53 [some (.ref (oa 0)), some (.int (nI (t))), some (.int (nI (n))), some (.int (nI (m))), some (.ref (oa (13 + n))), some (.ref (oa (13 + m)))] [] M1
    have hMx1 := hO1.2.2.2.2.2.2.2 m (by omega)
    rw [← ebm, ← cq, ec2] at hMx1
    have hNx1 : NRM V1 bm rr c2 (σ.2.2 m) := hNm.congr (vo1 _ (by omega) (by omega)) (fun i j _ _ => vo1 _ (by omega) (by omega)) (fun _ _ => rfl)
    have lcz : ∀ p, 809 ≤ p → p < 2865 → lc (V1 p) ≤ 125 := fun p _ _ => by
      have := hS1.1.lc (p := p) (by omega)
      rw [hJ.cap125 (by omega) (by omega)] at this
      exact this
    have lcx := lcz (bm + 256) (by omega) (by omega)
    have lcy : ∀ i j, i < rr → j < c2 → lc (V1 (bm + (16 * i + j))) ≤ 125 := fun i j _ _ => lcz _ (by omega) (by omega)
    show jj G kX_solve (d + 10) Q rc rs 53 [some (.ref (oa 0)), some (.int (nI (t))), some (.int (nI (n))), some (.int (nI (m))), some (.ref (oa (13 + n))), some (.ref (oa (13 + m)))] [] M1
    refine jj_aload_n (pc := 53) kX_solve_d53 rfl ?_
    refine jj_getf (pc := 54) kX_solve_d54 (kfX_elimination hG) hx1a rfl ?_
    refine jj_aload (pc := 57) kX_solve_d57 rfl ?_
    refine jj_callV (pc := 59) (b := (oa 4)) (As := [.ref (oa (13 + m))]) kX_solve_d59 (kvX_E_append hG) (kG_cl hG rfl) rfl hl1 rfl rfl rfl (Nat.le_of_ble_eq_true rfl) (Nat.le_of_ble_eq_true rfl) (jj_bare0 rfl) ?_
    refine e_append hG hK hS1 hJL hL1 hMx1 (by omega) (by omega) (fun p _ _ => (hJ.capw (p := p) (by omega) (by omega)).1) s2n s4n (by omega) hNx1.1 lcx lcy hrc hrs (fun M2 V2 hS2 hL2 vo2 hx2 hR2 => ?_) (fun Mt Vt hSt hLt vot hxt htw y hy => kt Mt 3 6 (Or.inr ⟨t, n, m, ht, rfl, hn, rfl, hm, rfl, Or.inr ⟨by omega, Or.inl ⟨by rw [← ern, ← ecn, ← ecm]; exact tooa_heavy2 hNn hNx1 (by omega) (by omega) hR1 htw, rfl, rfl, rfl⟩⟩⟩) (by omega) ⟨Vt, sc, R, C, hSt, hO1.el hLt (fun i h1 h2 _ _ _ => hxt _ (hJ.ne h1 (by omega) h2) (hJ.2.2.1 i h1)), hV.keep (fun p p1 p2 => by rw [vot p (by omega) (by omega)]; exact vo1 p (by omega) (by omega)) (by rw [vot 15 (by omega) (by omega)]; exact vo1 15 (by omega) (by omega)) (by rw [vot 16 (by omega) (by omega)]; exact vo1 16 (by omega) (by omega)) (fun _ _ => ⟨rfl, rfl⟩)⟩ (hF1.trans (hxt.more (fun x e => ⟨4, by omega, e⟩))) y hy)
    have hO2 := hO1.el hL2 (fun i h1 h2 _ _ _ => hx2 _ (hJ.ne h1 (by omega) h2) (hJ.2.2.1 i h1))
    have hF2 : XF oa M M2 wa la eu dv hi lo := hF1.trans (hx2.more (fun x e => ⟨4, by omega, e⟩))
    have v2 : ∀ p, 13 ≤ p → p < 17 ∨ 547 ≤ p → V2 p = V p := fun p h1 h2 => by rw [vo2 p h1 (by omega)]; exact vo1 p h1 h2
    have hrw : ∀ i, i < rr → RWS (gz V2 g0) (σ.2.2 n) (σ.2.2 m) cc c2 i := fun i hi' => rowa_link hNn hNx1 hi' (hR1 i hi') (hR2 i hi')
    have hgl2 := glong2_eq hrw
    obtain ⟨ww, eww⟩ : ∃ w, w = cc + c2 := ⟨_, rfl⟩
    rw [← eww] at hL2 hgl2
    have hl2 := hL2.1
    have hx2a := hO2.1
    show jj G kX_solve (d + 10) Q rc rs 62 [some (.ref (oa 0)), some (.int (nI (t))), some (.int (nI (n))), some (.int (nI (m))), some (.ref (oa (13 + n))), some (.ref (oa (13 + m)))] [] M2
    refine jj_aload_n (pc := 62) kX_solve_d62 rfl ?_
    refine jj_getf (pc := 63) kX_solve_d63 (kfX_elimination hG) hx2a rfl ?_
    refine jj_callV (pc := 66) (b := (oa 4)) (As := []) kX_solve_d66 (kvX_E_weigh hG) (kG_cl hG rfl) rfl hl2 rfl rfl rfl (Nat.le_of_ble_eq_true rfl) (Nat.le_of_ble_eq_true rfl) (jj_bare0 rfl) ?_
    refine e_weigh hG hK hS2 hJL hL2 s1n s2n (by omega) (by omega) hrc hrs (fun hnh => ?_) (fun hhv y hy => kt M2 3 6 (Or.inr ⟨t, n, m, ht, rfl, hn, rfl, hm, rfl, Or.inr ⟨by omega, Or.inl ⟨by rw [← ern, ← ecn, ← ecm]; exact (by rw [hgl2, eww] at hhv; exact hhv), rfl, rfl, rfl⟩⟩⟩) (by omega) ⟨V2, sc, R, C, hS2, hO2, hV.keep (fun p p1 p2 => v2 p (by omega) (by omega)) (v2 15 (by omega) (by omega)) (v2 16 (by omega) (by omega)) (fun _ _ => ⟨rfl, rfl⟩)⟩ hF2 y hy)
    have hbz := glong_bound (Z := gz V2 g0) (m := rr) (w := ww)
    have hwt := hvy_pow (show 1 ≤ min rr ww by omega) hnh
    obtain ⟨bz, ebz⟩ : ∃ b, 2 ^ glong (gz V2 g0) rr ww = b := ⟨_, rfl⟩
    have hb1 : 1 ≤ bz := by rw [← ebz]; exact Nat.pow_pos (by decide)
    rw [ebz] at hbz hwt
    rw [hgl2, eww] at hnh
    have hMn2 := hO2.2.2.2.2.2.2.2 n (by omega)
    rw [← ebn, err, ecc] at hMn2
    have hmn2 := hMn2.1
    show jj G kX_solve (d + 10) Q rc rs 69 [some (.ref (oa 0)), some (.int (nI (t))), some (.int (nI (n))), some (.int (nI (m))), some (.ref (oa (13 + n))), some (.ref (oa (13 + m)))] [] M2
    refine jj_aload_n (pc := 69) kX_solve_d69 rfl ?_
    refine jj_getf (pc := 70) kX_solve_d70 (kfX_elimination hG) hx2a rfl ?_
    refine jj_aload (pc := 73) kX_solve_d73 rfl ?_
    refine jj_getf (pc := 75) kX_solve_d75 (kfX_M_columns hG) hmn2 rfl ?_
    refine jj_callV (pc := 78) (b := (oa 4)) (As := [.int (nI (cc))]) kX_solve_d78 (kvX_E_eliminate hG) (kG_cl hG rfl) rfl hl2 rfl rfl rfl (Nat.le_of_ble_eq_true rfl) (Nat.le_of_ble_eq_true rfl) (jj_bare0 rfl) ?_
    refine e_eliminate hG hK hS2 hJL hL2 hb1 hbz hwt s1n s2n (by omega) (by omega) (by omega) (fun M3 V3 rk sw P B g p A Bq E hS3 hL3 hx3 vo3 hB3 hPV => ?_)
    have hO3 := hO2.el hL3 (fun i h1 h2 h3 h4 h5 => hx3 _ (fun e => by rcases e with e | e | e | e <;> exact absurd e (hJ.ne h1 (by omega) (by assumption))) (hJ.2.2.1 i h1))
    have hF3 : XF oa M M3 wa la eu dv hi lo := hF2.trans (hx3.more (fun x e => by rcases e with e | e | e | e; exact ⟨4, by omega, e⟩; exact ⟨6, by omega, e⟩; exact ⟨7, by omega, e⟩; exact ⟨8, by omega, e⟩))
    have v3 : ∀ p, 13 ≤ p → p < 17 ∨ 547 ≤ p → V3 p = V p := fun p h1 h2 => by rw [vo3 p h1 (by omega) (by omega)]; exact v2 p h1 h2
    have hl3 := hL3.1
    have hx3a := hO3.1
    
    have hB4 := hB3
    rw [eww] at hB4
    have hsec := bar_sec hB4 hrw
    have hMn3 := hO3.2.2.2.2.2.2.2 n (by omega)
    rw [← ebn, err, ecc] at hMn3
    have hmn3 := hMn3.1
    have hrk := hB3.1.1
    show jj G kX_solve (d + 10) Q rc rs 81 [some (.ref (oa 0)), some (.int (nI (t))), some (.int (nI (n))), some (.int (nI (m))), some (.ref (oa (13 + n))), some (.ref (oa (13 + m)))] [] M3
    refine jj_aload_n (pc := 81) kX_solve_d81 rfl ?_
    refine jj_getf (pc := 82) kX_solve_d82 (kfX_elimination hG) hx3a rfl ?_
    refine jj_aload (pc := 85) kX_solve_d85 rfl ?_
    refine jj_getf (pc := 87) kX_solve_d87 (kfX_M_columns hG) hmn3 rfl ?_
    have hAq : ∀ i, i < rr → ∀ j, j < cc → qAB (σ.2.2 n) (σ.2.2 m) cc c2 i j = qA (σ.2.2 n) cc i j := fun i _ j hj => if_pos hj
    have hBq : ∀ i, i < rr → ∀ j, j < c2 → qAB (σ.2.2 n) (σ.2.2 m) cc c2 i (cc + j) = qA (σ.2.2 m) c2 i j := fun i _ j hj => by
      unfold qAB qA
      rw [if_neg (by omega), Nat.add_sub_cancel_left]
    have hze : ∀ i j, rk ≤ i → i < rr → j < ww → (gz V3 g i j = 0 ↔ E i j = 0) := fun i j h1 h2 h3 => by
      have hb := hB3.below h1 h2 h3
      rw [hB3.2.2.1 i h1 h2] at hb
      have nL := rat_ne hB3.ne
      constructor
      · intro e
        rw [e] at hb
        have e2 : ((V3 33 : Int) : Rat) * E i j = 0 := by rw [← hb]; rfl
        grind
      · intro e
        apply Rat.intCast_inj.mp
        rw [hb, e]
        show _ * (0 : Rat) = 0
        grind
    refine jj_callV (pc := 90) (b := (oa 4)) (As := [.int (nI (cc))]) kX_solve_d90 (kvX_E_hasMoreBehind hG) (kG_cl hG rfl) rfl hl3 rfl rfl rfl (Nat.le_of_ble_eq_true rfl) (Nat.le_of_ble_eq_true rfl) (jj_bare0 rfl) ?_
    refine e_hasMore hG hK hS3 hJL hL3 (by omega) (by omega) (by omega) hrk (fun hz0 => ?_) (fun hz1 => ?_)
    · skip
      show jj G kX_solve (d + 10) Q rc rs 93 [some (.ref (oa 0)), some (.int (nI (t))), some (.int (nI (n))), some (.int (nI (m))), some (.ref (oa (13 + n))), some (.ref (oa (13 + m)))] [.int (nI (0))] M3
      refine jn_if_eq (pc := 93) (tgt := 98) kX_solve_d93 (by decide) (by omega) (fun _ => ?_) (fun c => by exfalso; omega)
      have hbe : BEZ (gz V3 g) rr ww rk := fun i h1 h2 j h3 => by
        rcases Nat.lt_or_ge j cc with c | c
        · exact hB3.zero h1 h2 h3 c
        · exact hz0 i j h1 h2 c h3
      obtain ⟨q1, q2, q3, q4⟩ := sec_rref hsec (by omega) hAq
      obtain ⟨q5, q6⟩ := sec_sol hsec rfl hAq hBq (fun i j h1 h2 _ h4 => (hze i j h1 h2 (by omega)).1 (hbe i h1 h2 j (by omega)))
      have hMm3 := hO3.2.2.2.2.2.2.2 m (by omega)
      rw [← ebm, ← cq, ec2] at hMm3
      have hmm3 := hMm3.1
      show jj G kX_solve (d + 10) Q rc rs 98 [some (.ref (oa 0)), some (.int (nI (t))), some (.int (nI (n))), some (.int (nI (m))), some (.ref (oa (13 + n))), some (.ref (oa (13 + m)))] [] M3
      refine jj_aload_n (pc := 98) kX_solve_d98 rfl ?_
      refine jj_aload (pc := 99) kX_solve_d99 rfl ?_
      refine jj_getf (pc := 101) kX_solve_d101 (kfX_M_columns hG) hmn3 rfl ?_
      refine jj_aload (pc := 104) kX_solve_d104 rfl ?_
      refine jj_getf (pc := 106) kX_solve_d106 (kfX_M_columns hG) hmm3 rfl ?_
      rw [eww] at hbz hwt hL3 hPV hbe
      refine jj_callV (pc := 109) (b := (oa 0)) (As := [.int (nI (cc)), .int (nI (c2))]) kX_solve_d109 (kvX_X_draftSolution hG) (kG_cl hG rfl) rfl hx3a rfl rfl rfl (Nat.le_of_ble_eq_true rfl) (Nat.le_of_ble_eq_true rfl) (jj_bare0 rfl) ?_
      refine x_draftSolution hG hJ hS3 hO3 hL3 hB4 hbe hb1 hbz hwt (by omega) (by omega) (by omega) (by omega) (by omega) hPV (fun M9 V9 R1 C1 hS9 hO9 e8 f8 rk1 hH ov hF9a => ?_)
      have hx9 := hO9.1
      have hF9 := hF3.trans hF9a
      have ov9 : ∀ p, 13 ≤ p → (p < 17 ∨ 547 ≤ p) → p < 2865 → V9 p = V p := fun p h1 h2 h3 => by rw [ov p h1 h2 h3]; exact v3 p h1 h2
      show jj G kX_solve (d + 10) Q rc rs 112 [some (.ref (oa 0)), some (.int (nI (t))), some (.int (nI (n))), some (.int (nI (m))), some (.ref (oa (13 + n))), some (.ref (oa (13 + m)))] [] M9
      refine jj_aload_n (pc := 112) kX_solve_d112 rfl ?_
      refine jj_callV (pc := 113) (b := (oa 0)) (As := []) kX_solve_d113 (kvX_X_reduceDraft hG) (kG_cl hG rfl) rfl hx9 rfl rfl rfl (Nat.le_of_ble_eq_true rfl) (Nat.le_of_ble_eq_true rfl) (jj_bare0 rfl) ?_
      refine x_reduceDraft hG hJ hS9 hO9 (by omega) (by omega) (by omega) (by omega) (by rw [e8, f8]; exact hH) (fun Ma Va hSa hOa hNa va wa9 => ?_)
      have hxa := hOa.1
      have hFa := hF9.trans (wa9.efx (X := XAD oa))
      have ova : ∀ p, 13 ≤ p → (p < 17 ∨ 547 ≤ p) → p < 2865 → Va p = V p := fun p h1 h2 h3 => by rw [va p h1 h3]; exact ov9 p h1 h2 h3
      show jj G kX_solve (d + 10) Q rc rs 116 [some (.ref (oa 0)), some (.int (nI (t))), some (.int (nI (n))), some (.int (nI (m))), some (.ref (oa (13 + n))), some (.ref (oa (13 + m)))] [] Ma
      refine jj_aload_n (pc := 116) kX_solve_d116 rfl ?_
      refine jj_iload_n (pc := 117) kX_solve_d117 rfl ?_
      refine jj_callV (pc := 118) (b := (oa 0)) (As := [.int (nI (t))]) kX_solve_d118 (kvX_X_keepDraft hG) (kG_cl hG rfl) rfl hxa rfl rfl rfl (Nat.le_of_ble_eq_true rfl) (Nat.le_of_ble_eq_true rfl) (jj_bare0 rfl) ?_
      refine x_keepDraft hG hJ hSa hOa (q := (mcut (solF E rk p cc) cc c2)) (by omega) (by omega) (by omega) (by omega) ht hNa hrc hrs (fun Mb Vc hfit hSb hOb hNb vb hFb => ?_) (fun hnf y hy => kt Ma 3 6 (Or.inr ⟨t, n, m, ht, rfl, hn, rfl, hm, rfl, Or.inr ⟨by omega, Or.inr ⟨by rw [← ern, ← ecn, ← ecm]; exact hnh, Or.inr ⟨E, rk, p, solF E rk p cc, by rw [← ecn]; exact q1, by rw [← ern, ← ecn]; exact q2, by rw [← ern, ← ecn]; exact q3, by rw [← ern, ← ecn, ← ecm]; exact q5, by rw [← ecn, ← ecm]; exact q6, by rw [← ecn, ← ecm]; exact Or.inr ⟨by rw [e8, f8] at hnf; exact hnf, rfl, rfl, rfl⟩⟩⟩⟩⟩) (by omega) ⟨Va, sc, R1, C1, hSa, hOa, hV.keep (fun p p1 p2 => ova p (by omega) (by omega) p2) (ova 15 (by omega) (by omega) (by omega)) (ova 16 (by omega) (by omega) (by omega)) rk1⟩ hFa y hy)
      rw [e8, f8] at hfit hNb
      show jj G kX_solve (d + 10) Q rc rs 121 [some (.ref (oa 0)), some (.int (nI (t))), some (.int (nI (n))), some (.int (nI (m))), some (.ref (oa (13 + n))), some (.ref (oa (13 + m)))] [] Mb
      refine jn_iconst (pc := 121) 1 kX_solve_d121 (by decide) ?_
      exact jj_iret (pc := 122) kX_solve_d122 rfl (by rfl) (kr Mb 1 _ (Or.inr ⟨t, n, m, ht, rfl, hn, rfl, hm, rfl, Or.inr ⟨by omega, Or.inr ⟨by rw [← ern, ← ecn, ← ecm]; exact hnh, Or.inr ⟨E, rk, p, solF E rk p cc, by rw [← ecn]; exact q1, by rw [← ern, ← ecn]; exact q2, by rw [← ern, ← ecn]; exact q3, by rw [← ern, ← ecn, ← ecm]; exact q5, by rw [← ecn, ← ecm]; exact q6, by rw [← ecn, ← ecm]; exact Or.inl ⟨hfit, rfl, rfl, rfl⟩⟩⟩⟩⟩) ⟨Vc, -1, _, _, hSb, hOb, hV.put (n := t) (r := cc) (c := c2) (q := (mcut (solF E rk p cc) cc c2)) ht (fun p _ _ p3 => by rw [vb p (by omega) p3]; exact ova p (by omega) (by omega) (by omega)) (fun k hk => by show (if k = t then R1 8 else R1 k) = _; rw [e8, (rk1 k hk).1]) (fun k hk => by show (if k = t then C1 8 else C1 k) = _; rw [f8, (rk1 k hk).2]) (by omega) (by omega) (by omega) (by omega) hNb⟩ (hFa.trans hFb))
    · skip
      show jj G kX_solve (d + 10) Q rc rs 93 [some (.ref (oa 0)), some (.int (nI (t))), some (.int (nI (n))), some (.int (nI (m))), some (.ref (oa (13 + n))), some (.ref (oa (13 + m)))] [.int (nI (1))] M3
      refine jn_if_eq (pc := 93) (tgt := 98) kX_solve_d93 (by decide) (by omega) (fun c => by exfalso; omega) (fun _ => ?_)
      refine jn_iconst (pc := 96) 0 kX_solve_d96 (by decide) ?_
      have hno := sec_none hsec rfl hAq hBq (fun hall => by
        obtain ⟨i, j, h1, h2, h3, h4, h5⟩ := hz1
        exact h5 ((hze i j h1 h2 h4).2 (hall i j h1 h2 h3 (by omega))))
      exact jj_iret (pc := 97) kX_solve_d97 rfl (by rfl) (kr M3 0 σ (Or.inr ⟨t, n, m, ht, rfl, hn, rfl, hm, rfl, Or.inr ⟨by omega, Or.inr ⟨by rw [← ern, ← ecn, ← ecm]; exact hnh, Or.inl ⟨by rw [← ern, ← ecn, ← ecm]; exact hno, rfl, rfl, rfl⟩⟩⟩⟩) ⟨V3, sc, R, C, hS3, hO3, hV.keep (fun p p1 p2 => v3 p (by omega) (by omega)) (v3 15 (by omega) (by omega)) (v3 16 (by omega) (by omega)) (fun _ _ => ⟨rfl, rfl⟩)⟩ hF3)
  · skip
    show jj G kX_solve (d + 10) Q rc rs 33 [some (.ref (oa 0)), some (.int (nI (t))), some (.int (nI (n))), some (.int (nI (m))), some (.ref (oa (13 + n))), some (.ref (oa (13 + m)))] [] M
    exact jj_throw (pc := 33) (ll := 2) kX_solve_d33 kX_solve_d36 (Or.inl ⟨kX_solve_d37, rfl⟩) kX_solve_d39 kX_solve_d42 (ktX_not_as_many_rows hG) rfl (Nat.le_of_ble_eq_true rfl) (jj_bare0 rfl) hrc hrs (fun a ha => kt M 2 5 (Or.inr ⟨t, n, m, ht, rfl, hn, rfl, hm, rfl, Or.inl ⟨by omega, rfl, rfl, rfl⟩⟩) (by omega) hT (fun _ _ _ => rfl) a ha)
theorem x_invert48 {t n nn : Nat} {V : Nat → Int} {sc : Int32} {R C : Nat → Nat} (hG : kG G) (hJ : XJ wa la cap oa eu dv hi lo) (hS : KS M wa la cap 3122 eu dv hi lo (oa 3) V) (hO : XO M wa oa sc R C) (hV : XV σ V sc R C) (ht : t < 8) (hn : n < 8) (enr : R n = nn) (enc : C n = nn) (u8 : R 8 = nn) (u9 : C 8 = nn) (hu1 : V (2865 + 256) = 1) (hu2 : ∀ i j, i < nn → j < nn → V (2865 + (16 * i + j)) = if i = j then 1 else 0) (hrc : 1 ≤ rc) (hrs : 6 ≤ rs) (kr : ∀ (M' : mheap) (v : Nat) (σ' : rst), semInv σ (nI t) (nI n) 0 v σ' → XT M' wa la cap oa eu dv hi lo σ' → XF oa M M' wa la eu dv hi lo → Q (.returned (some (.int (nI v)))) M' rc rs) (kt : ∀ (M' : mheap) (cd ci : Nat), semInv σ (nI t) (nI n) cd 0 σ → (cd = 1 ∧ ci = 4 ∨ cd = 2 ∧ ci = 5 ∨ cd = 3 ∧ ci = 6) → XT M' wa la cap oa eu dv hi lo σ → XF oa M M' wa la eu dv hi lo → ∀ x, M' x = none → Q (.threw x) (jj_up M' x (.inl ci, [])) (rc - 1) (rs - 6)) : jj G kX_invert (d + 10) Q rc rs 48 [some (.ref (oa 0)), some (.int (nI (t))), some (.int (nI (n))), some (.ref (oa (13 + n))), some (.int (nI (nn)))] [] M := by
  have hK := hJ.1
  have hI := hK.1
  have hx := hO.1
  obtain ⟨ern, ecn, s1n, s2n, s3n, s4n, hNn⟩ := hV.1 n hn
  obtain ⟨bn, ebn⟩ : ∃ b, b = 809 + 257 * n := ⟨_, rfl⟩
  have hMn := hO.2.2.2.2.2.2.2 n (by omega)
  rw [← ebn] at hMn hNn
  have hmn := hMn.1
  obtain ⟨rr, err⟩ : ∃ r, R n = r := ⟨_, rfl⟩
  obtain ⟨cc, ecc⟩ : ∃ c, C n = c := ⟨_, rfl⟩
  rw [err] at ern s1n s2n
  rw [ecc] at ecn s3n s4n
  rw [err, ecc] at hMn hmn hNn
  obtain ⟨bd, ebd⟩ : ∃ b, b = 2865 := ⟨_, rfl⟩
  have hJL := hJ.lj
  obtain ⟨rk0, sw0, m0, w0, P0, B0, g0, hL0⟩ := hO.2.2.2.2.2.1
  have hl0 := hL0.1
  show jj G kX_invert (d + 10) Q rc rs 48 [some (.ref (oa 0)), some (.int (nI (t))), some (.int (nI (n))), some (.ref (oa (13 + n))), some (.int (nI (nn)))] [] M
  rw [err] at enr
  rw [ecc] at enc
  have hsq : cc = rr := by omega
  have hMd := hO.dr ebd
  rw [u8, u9, ← enr] at hMd
  rw [← ebd] at hu1 hu2
  rw [← enr] at hu2
  have hNu := unit_nrm hu1 hu2
  refine jj_aload_n (pc := 48) kX_invert_d48 rfl ?_
  refine jj_getf (pc := 49) kX_invert_d49 (kfX_elimination hG) hx rfl ?_
  refine jj_aload_n (pc := 52) kX_invert_d52 rfl ?_
  refine jn_iconst (pc := 53) 0 kX_invert_d53 (by decide) ?_
  refine jj_callV (pc := 54) (b := (oa 4)) (As := [.ref (oa (13 + n)), .int (nI (0))]) kX_invert_d54 (kvX_E_load hG) (kG_cl hG rfl) rfl hl0 rfl rfl rfl (Nat.le_of_ble_eq_true rfl) (Nat.le_of_ble_eq_true rfl) (jj_bare0 rfl) ?_
  refine e_load hG hK hS hJL hL0 hMn (by omega) (by omega) (fun p _ _ => (hJ.capw (p := p) (by omega) (by omega)).1) s2n s4n hNn.1 (by have := hS.1.lc (p := bn + 256) (by omega); rw [hJ.cap125 (by omega) (by omega)] at this; exact this) (by omega) hrc hrs (fun M1 V1 hS1 hL1 vo1 hx1 hR1 => ?_) (fun Mt Vt hSt hLt vot hxt htw y hy => kt Mt 3 6 (Or.inr ⟨t, n, ht, rfl, hn, rfl, Or.inr ⟨by omega, Or.inl ⟨by rw [← ern]; have := toow_heavy2 (qb := qunitm rr) (c2 := rr) hNn (by omega) (by omega) htw; rw [hsq] at this; exact this, rfl, rfl, rfl⟩⟩⟩) (by omega) ⟨Vt, sc, R, C, hSt, (hO.el hLt (fun i h1 h2 _ _ _ => hxt _ (hJ.ne h1 (by omega) h2) (hJ.2.2.1 i h1))), hV.keep (fun p p1 p2 => vot p (by omega) (by omega)) (vot 15 (by omega) (by omega)) (vot 16 (by omega) (by omega)) (fun _ _ => ⟨rfl, rfl⟩)⟩ (hxt.more (fun x e => ⟨4, by omega, e⟩)) y hy)
  have hk1 : ∀ i, i < 31 → i ≠ 4 → i ≠ 6 → i ≠ 7 → i ≠ 8 → M1 (oa i) = M (oa i) := fun i h1 h2 _ _ _ => hx1 _ (hJ.ne h1 (by omega) h2) (hJ.2.2.1 i h1)
  have hO1 := hO.el hL1 hk1
  have hF1 : XF oa M M1 wa la eu dv hi lo := hx1.more (fun x e => ⟨4, by omega, e⟩)
  have hl1 := hL1.1
  have hx1a := hO1.1
  have hMm1 := hO1.2.2.2.2.2.2.2 n (by omega)
  rw [← ebn, err, ecc] at hMm1
  have hmm1 := hMm1.1
  have hgl := glong_eq hNn hR1
  show jj G kX_invert (d + 10) Q rc rs 57 [some (.ref (oa 0)), some (.int (nI (t))), some (.int (nI (n))), some (.ref (oa (13 + n))), some (.int (nI (nn)))] [] M1
  have hMx1 := hO1.dr ebd
  rw [u8, u9, ← enr] at hMx1
  have hmx1 := hMx1.1
  have hNx1 : NRM V1 bd rr rr (qunitm rr) := hNu.congr (vo1 _ (by omega) (by omega)) (fun i j _ _ => vo1 _ (by omega) (by omega)) (fun _ _ => rfl)
  have lcx : lc (V1 (bd + 256)) ≤ 125 := by rw [vo1 _ (by omega) (by omega), hu1]; decide
  have lcy : ∀ i j, i < rr → j < rr → lc (V1 (bd + (16 * i + j))) ≤ 125 := fun i j h1 h2 => by
    rw [vo1 _ (by omega) (by omega), hu2 i j h1 h2]
    split <;> decide
  show jj G kX_invert (d + 10) Q rc rs 57 [some (.ref (oa 0)), some (.int (nI (t))), some (.int (nI (n))), some (.ref (oa (13 + n))), some (.int (nI (nn)))] [] M1
  refine jj_aload_n (pc := 57) kX_invert_d57 rfl ?_
  refine jj_getf (pc := 58) kX_invert_d58 (kfX_elimination hG) hx1a rfl ?_
  refine jj_aload_n (pc := 61) kX_invert_d61 rfl ?_
  refine jj_getf (pc := 62) kX_invert_d62 (kfX_draft hG) hx1a rfl ?_
  refine jj_callV (pc := 65) (b := (oa 4)) (As := [.ref (oa 21)]) kX_invert_d65 (kvX_E_append hG) (kG_cl hG rfl) rfl hl1 rfl rfl rfl (Nat.le_of_ble_eq_true rfl) (Nat.le_of_ble_eq_true rfl) (jj_bare0 rfl) ?_
  refine e_append hG hK hS1 hJL hL1 hMx1 (by omega) (by omega) (fun p _ _ => (hJ.capw (p := p) (by omega) (by omega)).1) s2n s4n (by omega) hNx1.1 lcx lcy hrc hrs (fun M2 V2 hS2 hL2 vo2 hx2 hR2 => ?_) (fun Mt Vt hSt hLt vot hxt htw y hy => kt Mt 3 6 (Or.inr ⟨t, n, ht, rfl, hn, rfl, Or.inr ⟨by omega, Or.inl ⟨by rw [← ern]; have := tooa_heavy2 hNn hNx1 (by omega) (by omega) hR1 htw; rw [hsq] at this; exact this, rfl, rfl, rfl⟩⟩⟩) (by omega) ⟨Vt, sc, R, C, hSt, hO1.el hLt (fun i h1 h2 _ _ _ => hxt _ (hJ.ne h1 (by omega) h2) (hJ.2.2.1 i h1)), hV.keep (fun p p1 p2 => by rw [vot p (by omega) (by omega)]; exact vo1 p (by omega) (by omega)) (by rw [vot 15 (by omega) (by omega)]; exact vo1 15 (by omega) (by omega)) (by rw [vot 16 (by omega) (by omega)]; exact vo1 16 (by omega) (by omega)) (fun _ _ => ⟨rfl, rfl⟩)⟩ (hF1.trans (hxt.more (fun x e => ⟨4, by omega, e⟩))) y hy)
  have hO2 := hO1.el hL2 (fun i h1 h2 _ _ _ => hx2 _ (hJ.ne h1 (by omega) h2) (hJ.2.2.1 i h1))
  have hF2 : XF oa M M2 wa la eu dv hi lo := hF1.trans (hx2.more (fun x e => ⟨4, by omega, e⟩))
  have v2 : ∀ p, 13 ≤ p → p < 17 ∨ 547 ≤ p → V2 p = V p := fun p h1 h2 => by rw [vo2 p h1 (by omega)]; exact vo1 p h1 h2
  have hrw : ∀ i, i < rr → RWS (gz V2 g0) (σ.2.2 n) (qunitm rr) cc rr i := fun i hi' => rowa_link hNn hNx1 hi' (hR1 i hi') (hR2 i hi')
  have hgl2 := glong2_eq hrw
  obtain ⟨ww, eww⟩ : ∃ w, w = cc + rr := ⟨_, rfl⟩
  rw [← eww] at hL2 hgl2
  have hl2 := hL2.1
  have hx2a := hO2.1
  show jj G kX_invert (d + 10) Q rc rs 68 [some (.ref (oa 0)), some (.int (nI (t))), some (.int (nI (n))), some (.ref (oa (13 + n))), some (.int (nI (nn)))] [] M2
  refine jj_aload_n (pc := 68) kX_invert_d68 rfl ?_
  refine jj_getf (pc := 69) kX_invert_d69 (kfX_elimination hG) hx2a rfl ?_
  refine jj_callV (pc := 72) (b := (oa 4)) (As := []) kX_invert_d72 (kvX_E_weigh hG) (kG_cl hG rfl) rfl hl2 rfl rfl rfl (Nat.le_of_ble_eq_true rfl) (Nat.le_of_ble_eq_true rfl) (jj_bare0 rfl) ?_
  refine e_weigh hG hK hS2 hJL hL2 s1n s2n (by omega) (by omega) hrc hrs (fun hnh => ?_) (fun hhv y hy => kt M2 3 6 (Or.inr ⟨t, n, ht, rfl, hn, rfl, Or.inr ⟨by omega, Or.inl ⟨by rw [← ern]; have := (by rw [hgl2, eww] at hhv; exact hhv); rw [hsq] at this; exact this, rfl, rfl, rfl⟩⟩⟩) (by omega) ⟨V2, sc, R, C, hS2, hO2, hV.keep (fun p p1 p2 => v2 p (by omega) (by omega)) (v2 15 (by omega) (by omega)) (v2 16 (by omega) (by omega)) (fun _ _ => ⟨rfl, rfl⟩)⟩ hF2 y hy)
  have hbz := glong_bound (Z := gz V2 g0) (m := rr) (w := ww)
  have hwt := hvy_pow (show 1 ≤ min rr ww by omega) hnh
  obtain ⟨bz, ebz⟩ : ∃ b, 2 ^ glong (gz V2 g0) rr ww = b := ⟨_, rfl⟩
  have hb1 : 1 ≤ bz := by rw [← ebz]; exact Nat.pow_pos (by decide)
  rw [ebz] at hbz hwt
  rw [hgl2, eww] at hnh
  have hMn2 := hO2.2.2.2.2.2.2.2 n (by omega)
  rw [← ebn, err, ecc] at hMn2
  have hmn2 := hMn2.1
  show jj G kX_invert (d + 10) Q rc rs 75 [some (.ref (oa 0)), some (.int (nI (t))), some (.int (nI (n))), some (.ref (oa (13 + n))), some (.int (nI (nn)))] [] M2
  refine jj_aload_n (pc := 75) kX_invert_d75 rfl ?_
  refine jj_getf (pc := 76) kX_invert_d76 (kfX_elimination hG) hx2a rfl ?_
  refine jj_iload (pc := 79) kX_invert_d79 rfl ?_
  refine jj_callV (pc := 81) (b := (oa 4)) (As := [.int (nI (nn))]) kX_invert_d81 (kvX_E_eliminate hG) (kG_cl hG rfl) rfl hl2 rfl rfl rfl (Nat.le_of_ble_eq_true rfl) (Nat.le_of_ble_eq_true rfl) (jj_bare0 rfl) ?_
  refine e_eliminate hG hK hS2 hJL hL2 hb1 hbz hwt s1n s2n (by omega) (by omega) (by omega) (fun M3 V3 rk sw P B g p A Bq E hS3 hL3 hx3 vo3 hB3 hPV => ?_)
  have hO3 := hO2.el hL3 (fun i h1 h2 h3 h4 h5 => hx3 _ (fun e => by rcases e with e | e | e | e <;> exact absurd e (hJ.ne h1 (by omega) (by assumption))) (hJ.2.2.1 i h1))
  have hF3 : XF oa M M3 wa la eu dv hi lo := hF2.trans (hx3.more (fun x e => by rcases e with e | e | e | e; exact ⟨4, by omega, e⟩; exact ⟨6, by omega, e⟩; exact ⟨7, by omega, e⟩; exact ⟨8, by omega, e⟩))
  have v3 : ∀ p, 13 ≤ p → p < 17 ∨ 547 ≤ p → V3 p = V p := fun p h1 h2 => by rw [vo3 p h1 (by omega) (by omega)]; exact v2 p h1 h2
  have hl3 := hL3.1
  have hx3a := hO3.1
  rw [show nn = cc by omega] at hB3
  have hB4 := hB3
  rw [eww] at hB4
  have hsec := bar_sec hB4 hrw
  have hMn3 := hO3.2.2.2.2.2.2.2 n (by omega)
  rw [← ebn, err, ecc] at hMn3
  have hmn3 := hMn3.1
  have hrk := hB3.1.1
  show jj G kX_invert (d + 10) Q rc rs 84 [some (.ref (oa 0)), some (.int (nI (t))), some (.int (nI (n))), some (.ref (oa (13 + n))), some (.int (nI (nn)))] [] M3
  refine jj_aload_n (pc := 84) kX_invert_d84 rfl ?_
  refine jj_getf (pc := 85) kX_invert_d85 (kfX_elimination hG) hx3a rfl ?_
  refine jj_getf (pc := 88) kX_invert_d88 (kfX_E_rank hG) hl3 rfl ?_
  refine jj_iload (pc := 91) kX_invert_d91 rfl ?_
  have hAq : ∀ i, i < rr → ∀ j, j < rr → qAB (σ.2.2 n) (qunitm rr) cc rr i j = qA (σ.2.2 n) rr i j := fun i _ j hj => by
    unfold qAB qA
    rw [if_pos (by omega), hsq]
  have hBq : ∀ i, i < rr → ∀ j, j < rr → qAB (σ.2.2 n) (qunitm rr) cc rr i (rr + j) = if i = j then 1 else 0 := fun i _ j hj => by
    unfold qAB qunitm
    rw [if_neg (by omega), hsq, Nat.add_sub_cancel_left, unit_cell hj]
  have hsec' : SEC (qAB (σ.2.2 n) (qunitm rr) cc rr) E rr rr (rr + rr) rk p := by
    have := hsec
    rw [hsq] at this ⊢
    exact this
  have hnh' : ¬ heavy2 (σ.2.2 n) (qunitm rr) rr rr rr := by rw [hsq] at hnh; exact hnh
  refine jn_icmp_ge (pc := 93) (tgt := 98) kX_invert_d93 (by decide) (by omega) (by omega) (fun cr => ?_) (fun cr => ?_)
  · skip
    have hrk2 : rk = rr := by omega
    have hbe : BEZ (gz V3 g) rr ww rk := fun i h1 h2 j h3 => by omega
    obtain ⟨q5, q6⟩ := sec_sol (B := fun a b => if a = b then (1 : Rat) else 0) hsec' rfl hAq hBq (fun i j h1 h2 _ _ => by omega)
    refine jj_aload_n (pc := 98) kX_invert_d98 rfl ?_
    refine jj_iload (pc := 99) kX_invert_d99 rfl ?_
    refine jj_iload (pc := 101) kX_invert_d101 rfl ?_
    rw [← enr]
    show jj G kX_invert (d + 10) Q rc rs 103 [some (.ref (oa 0)), some (.int (nI (t))), some (.int (nI (n))), some (.ref (oa (13 + n))), some (.int (nI (rr)))] [.int (nI (rr)), .int (nI (rr)), .ref (oa 0)] M3
    have hst : jj G kX_invert (d + 10) Q rc rs 103 [some (.ref (oa 0)), some (.int (nI (t))), some (.int (nI (n))), some (.ref (oa (13 + n))), some (.int (nI (rr)))] [.int (nI (rr)), .int (nI (cc)), .ref (oa 0)] M3 → jj G kX_invert (d + 10) Q rc rs 103 [some (.ref (oa 0)), some (.int (nI (t))), some (.int (nI (n))), some (.ref (oa (13 + n))), some (.int (nI (rr)))] [.int (nI (rr)), .int (nI (rr)), .ref (oa 0)] M3 := fun h => by rw [hsq] at h; exact h
    apply hst
    show jj G kX_invert (d + 10) Q rc rs 103 [some (.ref (oa 0)), some (.int (nI (t))), some (.int (nI (n))), some (.ref (oa (13 + n))), some (.int (nI (rr)))] [.int (nI (rr)), .int (nI (cc)), .ref (oa 0)] M3
    rw [eww] at hbz hwt hL3 hPV hbe
    refine jj_callV (pc := 103) (b := (oa 0)) (As := [.int (nI (cc)), .int (nI (rr))]) kX_invert_d103 (kvX_X_draftSolution hG) (kG_cl hG rfl) rfl hx3a rfl rfl rfl (Nat.le_of_ble_eq_true rfl) (Nat.le_of_ble_eq_true rfl) (jj_bare0 rfl) ?_
    refine x_draftSolution hG hJ hS3 hO3 hL3 hB4 hbe hb1 hbz hwt (by omega) (by omega) (by omega) (by omega) (by omega) hPV (fun M9 V9 R1 C1 hS9 hO9 e8 f8 rk1 hH ov hF9a => ?_)
    have hx9 := hO9.1
    have hF9 := hF3.trans hF9a
    have ov9 : ∀ p, 13 ≤ p → (p < 17 ∨ 547 ≤ p) → p < 2865 → V9 p = V p := fun p h1 h2 h3 => by rw [ov p h1 h2 h3]; exact v3 p h1 h2
    show jj G kX_invert (d + 10) Q rc rs 106 [some (.ref (oa 0)), some (.int (nI (t))), some (.int (nI (n))), some (.ref (oa (13 + n))), some (.int (nI (rr)))] [] M9
    refine jj_aload_n (pc := 106) kX_invert_d106 rfl ?_
    refine jj_callV (pc := 107) (b := (oa 0)) (As := []) kX_invert_d107 (kvX_X_reduceDraft hG) (kG_cl hG rfl) rfl hx9 rfl rfl rfl (Nat.le_of_ble_eq_true rfl) (Nat.le_of_ble_eq_true rfl) (jj_bare0 rfl) ?_
    refine x_reduceDraft hG hJ hS9 hO9 (by omega) (by omega) (by omega) (by omega) (by rw [e8, f8]; exact hH) (fun Ma Va hSa hOa hNa va wa9 => ?_)
    have hxa := hOa.1
    have hFa := hF9.trans (wa9.efx (X := XAD oa))
    have ova : ∀ p, 13 ≤ p → (p < 17 ∨ 547 ≤ p) → p < 2865 → Va p = V p := fun p h1 h2 h3 => by rw [va p h1 h3]; exact ov9 p h1 h2 h3
    show jj G kX_invert (d + 10) Q rc rs 110 [some (.ref (oa 0)), some (.int (nI (t))), some (.int (nI (n))), some (.ref (oa (13 + n))), some (.int (nI (rr)))] [] Ma
    refine jj_aload_n (pc := 110) kX_invert_d110 rfl ?_
    refine jj_iload_n (pc := 111) kX_invert_d111 rfl ?_
    refine jj_callV (pc := 112) (b := (oa 0)) (As := [.int (nI (t))]) kX_invert_d112 (kvX_X_keepDraft hG) (kG_cl hG rfl) rfl hxa rfl rfl rfl (Nat.le_of_ble_eq_true rfl) (Nat.le_of_ble_eq_true rfl) (jj_bare0 rfl) ?_
    refine x_keepDraft hG hJ hSa hOa (q := (mcut (solF E rk p cc) cc rr)) (by omega) (by omega) (by omega) (by omega) ht hNa hrc hrs (fun Mb Vc hfit hSb hOb hNb vb hFb => ?_) (fun hnf y hy => kt Ma 3 6 (Or.inr ⟨t, n, ht, rfl, hn, rfl, Or.inr ⟨by omega, Or.inr ⟨by rw [← ern]; exact hnh', Or.inr ⟨solF E rk p rr, by rw [← ern]; exact q5, by rw [← ern]; have z9 := (show fin2 σ t 3 cc rr (mcut (solF E rk p cc) cc rr) 1 _ _ _ from Or.inr ⟨by rw [e8, f8] at hnf; exact hnf, rfl, rfl, rfl⟩); rw [hsq] at z9; first | exact z9 | (rw [hsq]; exact z9)⟩⟩⟩⟩) (by omega) ⟨Va, sc, R1, C1, hSa, hOa, hV.keep (fun p p1 p2 => ova p (by omega) (by omega) p2) (ova 15 (by omega) (by omega) (by omega)) (ova 16 (by omega) (by omega) (by omega)) rk1⟩ hFa y hy)
    rw [e8, f8] at hfit hNb
    show jj G kX_invert (d + 10) Q rc rs 115 [some (.ref (oa 0)), some (.int (nI (t))), some (.int (nI (n))), some (.ref (oa (13 + n))), some (.int (nI (rr)))] [] Mb
    refine jn_iconst (pc := 115) 1 kX_invert_d115 (by decide) ?_
    exact jj_iret (pc := 116) kX_invert_d116 rfl (by rfl) (kr Mb 1 _ (Or.inr ⟨t, n, ht, rfl, hn, rfl, Or.inr ⟨by omega, Or.inr ⟨by rw [← ern]; exact hnh', Or.inr ⟨solF E rk p rr, by rw [← ern]; exact q5, by rw [← ern]; have z9 := (show fin2 σ t 3 cc rr (mcut (solF E rk p cc) cc rr) 1 _ _ _ from Or.inl ⟨hfit, rfl, rfl, rfl⟩); rw [hsq] at z9; first | exact z9 | (rw [hsq]; exact z9)⟩⟩⟩⟩) ⟨Vc, -1, _, _, hSb, hOb, hV.put (n := t) (r := cc) (c := rr) (q := (mcut (solF E rk p cc) cc rr)) ht (fun p _ _ p3 => by rw [vb p (by omega) p3]; exact ova p (by omega) (by omega) (by omega)) (fun k hk => by show (if k = t then R1 8 else R1 k) = _; rw [e8, (rk1 k hk).1]) (fun k hk => by show (if k = t then C1 8 else C1 k) = _; rw [f8, (rk1 k hk).2]) (by omega) (by omega) (by omega) (by omega) hNb⟩ (hFa.trans hFb))
  · skip
    refine jn_iconst (pc := 96) 0 kX_invert_d96 (by decide) ?_
    have hno := sec_full hsec' rfl hAq hBq (by omega)
    exact jj_iret (pc := 97) kX_invert_d97 rfl (by rfl) (kr M3 0 σ (Or.inr ⟨t, n, ht, rfl, hn, rfl, Or.inr ⟨by omega, Or.inr ⟨by rw [← ern]; exact hnh', Or.inl ⟨by rw [← ern]; exact hno, rfl, rfl, rfl⟩⟩⟩⟩) ⟨V3, sc, R, C, hS3, hO3, hV.keep (fun p p1 p2 => v3 p (by omega) (by omega)) (v3 15 (by omega) (by omega)) (v3 16 (by omega) (by omega)) (fun _ _ => ⟨rfl, rfl⟩)⟩ hF3)
theorem xp_invert {x y : Int32} (hG : kG G) (hJ : XJ wa la cap oa eu dv hi lo) (hT : XT M wa la cap oa eu dv hi lo σ) (hrc : 1 ≤ rc) (hrs : 6 ≤ rs) (kr : ∀ (M' : mheap) (v : Nat) (σ' : rst), semInv σ x y 0 v σ' → XT M' wa la cap oa eu dv hi lo σ' → XF oa M M' wa la eu dv hi lo → Q (.returned (some (.int (nI v)))) M' rc rs) (kt : ∀ (M' : mheap) (cd ci : Nat), semInv σ x y cd 0 σ → (cd = 1 ∧ ci = 4 ∨ cd = 2 ∧ ci = 5 ∨ cd = 3 ∧ ci = 6) → XT M' wa la cap oa eu dv hi lo σ → XF oa M M' wa la eu dv hi lo → ∀ x, M' x = none → Q (.threw x) (jj_up M' x (.inl ci, [])) (rc - 1) (rs - 6)) : jj G kX_invert (d + 10) Q rc rs 0 (jj_ent [.ref (oa 0), .int x, .int y] 5) [] M := by
  obtain ⟨V, sc, R, C, hS, hO, hV⟩ := id hT
  have hK := hJ.1
  have hI := hK.1
  have hx := hO.1
  show jj G kX_invert (d + 10) Q rc rs 0 [some (.ref (oa 0)), some (.int (x)), some (.int (y)), none, none] [] M
  refine jj_aload_n (pc := 0) kX_invert_d0 rfl ?_
  refine jj_iload_n (pc := 1) kX_invert_d1 rfl ?_
  refine jj_callV (pc := 2) (b := (oa 0)) (As := [.int (x)]) kX_invert_d2 (kvX_X_register hG) (kG_cl hG rfl) rfl hx rfl rfl rfl (Nat.le_of_ble_eq_true rfl) (Nat.le_of_ble_eq_true rfl) (jj_bare0 rfl) ?_
  refine x_register hG hO hrc hrs (fun t ht et => ?_) (fun h y hy => kt M 1 4 (Or.inl ⟨fun g => h g.1, rfl, rfl, rfl⟩) (by omega) hT (fun _ _ _ => rfl) y hy)
  subst et
  show jj G kX_invert (d + 10) Q rc rs 5 [some (.ref (oa 0)), some (.int (nI (t))), some (.int (y)), none, none] [.ref (oa (13 + t))] M
  refine jj_pop (pc := 5) kX_invert_d5 rfl ?_
  refine jj_aload_n (pc := 6) kX_invert_d6 rfl ?_
  refine jj_iload_n (pc := 7) kX_invert_d7 rfl ?_
  refine jj_callV (pc := 8) (b := (oa 0)) (As := [.int (y)]) kX_invert_d8 (kvX_X_register hG) (kG_cl hG rfl) rfl hx rfl rfl rfl (Nat.le_of_ble_eq_true rfl) (Nat.le_of_ble_eq_true rfl) (jj_bare0 rfl) ?_
  refine x_register hG hO hrc hrs (fun n hn en => ?_) (fun h y hy => kt M 1 4 (Or.inl ⟨fun g => h g.2, rfl, rfl, rfl⟩) (by omega) hT (fun _ _ _ => rfl) y hy)
  subst en
  show jj G kX_invert (d + 10) Q rc rs 11 [some (.ref (oa 0)), some (.int (nI (t))), some (.int (nI (n))), none, none] [.ref (oa (13 + n))] M
  obtain ⟨ern, ecn, s1n, s2n, s3n, s4n, hNn⟩ := hV.1 n hn
  obtain ⟨bn, ebn⟩ : ∃ b, b = 809 + 257 * n := ⟨_, rfl⟩
  have hMn := hO.2.2.2.2.2.2.2 n (by omega)
  rw [← ebn] at hMn hNn
  have hmn := hMn.1
  refine jj_astore_n (pc := 11) kX_invert_d11 (Nat.le_of_ble_eq_true rfl) ?_
  show jj G kX_invert (d + 10) Q rc rs 12 [some (.ref (oa 0)), some (.int (nI (t))), some (.int (nI (n))), some (.ref (oa (13 + n))), none] [] M
  refine jj_aload_n (pc := 12) kX_invert_d12 rfl ?_
  refine jj_getf (pc := 13) kX_invert_d13 (kfX_M_rows hG) hmn rfl ?_
  refine jj_aload_n (pc := 16) kX_invert_d16 rfl ?_
  refine jj_getf (pc := 17) kX_invert_d17 (kfX_M_columns hG) hmn rfl ?_
  refine jn_icmp_eq (pc := 20) (tgt := 33) kX_invert_d20 (by decide) (by omega) (by omega) (fun cq => ?_) (fun cq => ?_)
  · skip
    obtain ⟨nn, enn⟩ : ∃ k, R n = k := ⟨_, rfl⟩
    have enc : C n = nn := by omega
    obtain ⟨bd, ebd⟩ : ∃ b, b = 2865 := ⟨_, rfl⟩
    have hMd := hO.dr ebd
    have hmd := hMd.1
    rw [enn] at hmn
    show jj G kX_invert (d + 10) Q rc rs 33 [some (.ref (oa 0)), some (.int (nI (t))), some (.int (nI (n))), some (.ref (oa (13 + n))), none] [] M
    refine jj_aload_n (pc := 33) kX_invert_d33 rfl ?_
    refine jj_getf (pc := 34) kX_invert_d34 (kfX_M_rows hG) hmn rfl ?_
    refine jj_istore (pc := 37) kX_invert_d37 (Nat.le_of_ble_eq_true rfl) ?_
    show jj G kX_invert (d + 10) Q rc rs 39 [some (.ref (oa 0)), some (.int (nI (t))), some (.int (nI (n))), some (.ref (oa (13 + n))), some (.int (nI (nn)))] [] M
    refine jj_aload_n (pc := 39) kX_invert_d39 rfl ?_
    refine jj_getf (pc := 40) kX_invert_d40 (kfX_draft hG) hx rfl ?_
    refine jj_iload (pc := 43) kX_invert_d43 rfl ?_
    refine jj_callV (pc := 45) (b := (oa 21)) (As := [.int (nI (nn))]) kX_invert_d45 (kvX_M_clearToUnit hG) (kG_cl hG rfl) rfl hmd rfl rfl rfl (Nat.le_of_ble_eq_true rfl) (Nat.le_of_ble_eq_true rfl) (jj_bare0 rfl) ?_
    refine m_unit hG hK hS hMd (by omega) (by omega) (fun p _ _ => (hJ.capw (p := p) (by omega) (by omega)).2) (by omega) (fun M1 V1 hS1 hM1 v1 v0 vo f1 => ?_)
    obtain ⟨R1, C1, hO1, e8, f8, rk1, hF1⟩ := hO.draft hJ hM1 ebd f1
    have vv : ∀ p, 13 ≤ p → p < 2865 → V1 p = V p := fun p _ h => vo p (by omega)
    show jj G kX_invert (d + 10) Q rc rs 48 [some (.ref (oa 0)), some (.int (nI (t))), some (.int (nI (n))), some (.ref (oa (13 + n))), some (.int (nI (nn)))] [] M1
    exact x_invert48 hG hJ hS1 hO1 (hV.keep (fun p p1 p2 => vv p (by omega) p2) (vv 15 (by omega) (by omega)) (vv 16 (by omega) (by omega)) rk1) ht hn (by rw [(rk1 n hn).1]; exact enn) (by rw [(rk1 n hn).2]; exact enc) e8 f8 (by rw [← ebd]; exact v1) (fun i j h1 h2 => by rw [← ebd]; exact v0 i j h1 h2) hrc hrs (fun M' v σ' h1 h2 h3 => kr M' v σ' h1 h2 (hF1.trans h3)) (fun M' cd ci h1 h2 h3 h4 => kt M' cd ci h1 h2 h3 (hF1.trans h4))
  · skip
    show jj G kX_invert (d + 10) Q rc rs 23 [some (.ref (oa 0)), some (.int (nI (t))), some (.int (nI (n))), some (.ref (oa (13 + n))), none] [] M
    exact jj_throw (pc := 23) (ll := 2) kX_invert_d23 kX_invert_d26 (Or.inl ⟨kX_invert_d27, rfl⟩) kX_invert_d29 kX_invert_d32 (ktX_not_square hG) rfl (Nat.le_of_ble_eq_true rfl) (jj_bare0 rfl) hrc hrs (fun a ha => kt M 2 5 (Or.inr ⟨t, n, ht, rfl, hn, rfl, Or.inl ⟨by omega, rfl, rfl, rfl⟩⟩) (by omega) hT (fun _ _ _ => rfl) a ha)
end X14
