/-! ===== Residues: joinPivot, triangulate (printed by wip/gen/rS6.py) ===== -/
section S6
variable {G : jg} {d : Nat} {Q : jq} {rc rs : Nat} {M : mheap} {wa la cap : Nat → Nat} {N eu dv hi lo dk re rca ln pl ls ps : Nat} {s : Nat → Nat} {V : Nat → Int}
theorem r_joinPivot {t : Nat} {m : Int} (hG : kG G) (hK : KJI wa la cap N hi lo) (hS : KS M wa la cap N eu dv hi lo dk V) (hJ : QJ wa la cap N eu dv hi lo dk re rca) (hR : RST M wa re rca dk ln pl ls ps s) (hs : STP ls ps) (hln : ln ≤ 16) (hpl : pl ≤ 16) (htl : t < ln) (htp : t < pl) (hm : V 547 = m) (hm0 : 0 < m) (hlm : lc m ≤ 63) (hrg : ∀ i p, t ≤ i → i < ln → t ≤ p → p < pl → 0 ≤ V (rp s ls ps i p) ∧ V (rp s ls ps i p) < m) (k : ∀ (M' : mheap) (V' : Nat → Int) (g u kk m' : Int), KS M' wa la cap N eu dv hi lo dk V' → EF M M' wa la N eu dv hi lo → g = (Nat.gcd (V (rp s ls ps t t)).natAbs m.natAbs : Nat) → g = u * V (rp s ls ps t t) + kk * m → m = m' * g → V' 547 = m' → V' (rp s ls ps t t) = g → (∀ p, t < p → p < pl → V' (rp s ls ps t p) = (u * V (rp s ls ps t p)) % m') → (∀ i p, t < i → i < ln → t < p → p < pl → V' (rp s ls ps i p) = V (rp s ls ps i p) % m') → (∀ q, 10 ≤ q → q ≠ 547 → q ≠ 548 → (∀ i p, t ≤ i → i < ln → t ≤ p → p < pl → q ≠ (rp s ls ps i p)) → V' q = V q) → Q (.returned none) M' rc rs) : jj G kS_joinPivot (d + 6) Q rc rs 0 (jj_ent [.ref re, .int (nI t)] 4) [] M := by
  obtain ⟨h809, c547, c548, c553, f1, f2, n1, n2⟩ := id hJ
  have hsp := hR.2.2
  have hre := hR.1
  have b1 := hsp.b hs (show t < 16 by omega) (show t < 16 by omega)
  obtain ⟨hI, hN, hcap, hdi⟩ := id hK
  obtain ⟨hc0, ⟨r_a, px_a, pf_a, py_a, po_a, ps_a, od_a, hU0⟩, hdk0⟩ := id hS
  have hf0 : EF M M wa la N eu dv hi lo := fun _ _ _ _ _ _ => rfl
  obtain ⟨V0, hV0⟩ : ∃ V0, V = V0 := ⟨_, rfl⟩
  rw [hV0] at hc0
  have hn0 := hU0.1
  have b_r0 := hn0.2.1
  have b_x0 := hn0.2.2.1
  have b_f0 := hn0.2.2.2.1
  have hdv0 := hU0.2.1
  obtain ⟨ea0, eb0, ec0, ed0, hE0⟩ := hU0.2.2.2
  have hD0 := hdv0.1
  rw [hV0] at hm hrg k
  have rT := hrg t t (Nat.le_refl _) htl (Nat.le_refl _) htp
  have lT : lc (V0 (rp s ls ps t t)) ≤ 63 := Nat.le_trans (lc_mono (by omega)) hlm
  show jj G kS_joinPivot (d + 6) Q rc rs 0 [some (.ref re), some (.int (nI (t))), none, none] [] M
  refine jj_aload_n (pc := 0) kS_joinPivot_d0 rfl ?_
  refine jj_iload_n (pc := 1) kS_joinPivot_d1 rfl ?_
  refine jj_iload_n (pc := 2) kS_joinPivot_d2 rfl ?_
  refine jj_callV (pc := 3) (b := re) (As := [.int (nI (t)), .int (nI (t))]) kS_joinPivot_d3 (kvS_S_at hG) (kG_cl hG rfl) rfl hre rfl rfl rfl (Nat.le_of_ble_eq_true rfl) (Nat.le_of_ble_eq_true rfl) (jj_bare0 rfl) ?_
  refine r_at hG hR hs (by omega) (by omega) ?_
  show jj G kS_joinPivot (d + 6) Q rc rs 6 [some (.ref re), some (.int (nI (t))), none, none] [.ref (wa (rp s ls ps t t))] M
  refine jj_astore_n (pc := 6) kS_joinPivot_d6 (Nat.le_of_ble_eq_true rfl) ?_
  show jj G kS_joinPivot (d + 6) Q rc rs 7 [some (.ref re), some (.int (nI (t))), some (.ref (wa (rp s ls ps t t))), none] [] M
  refine jj_aload_n (pc := 7) kS_joinPivot_d7 rfl ?_
  refine jj_getf (pc := 8) kS_joinPivot_d8 (kfS_desk hG) hre rfl ?_
  refine jj_getf (pc := 11) kS_joinPivot_d11 (kfS_K_euclid hG) hdk0 rfl ?_
  refine jj_aload_n (pc := 14) kS_joinPivot_d14 rfl ?_
  refine jj_aload_n (pc := 15) kS_joinPivot_d15 rfl ?_
  refine jj_getf (pc := 16) kS_joinPivot_d16 (kfS_modulus hG) hre rfl ?_
  refine jn_iconst (pc := 19) 1 kS_joinPivot_d19 (by decide) ?_
  refine jj_callV (pc := 20) (b := eu) (As := [.ref (wa (rp s ls ps t t)), .ref (wa 547), .int (nI (1))]) kS_joinPivot_d20 (kvS_U_run hG) (kG_cl hG rfl) rfl hE0 rfl rfl rfl (Nat.le_of_ble_eq_true rfl) (Nat.le_of_ble_eq_true rfl) (jj_bare0 rfl) ?_
  refine u_run hG hI hc0 (by omega) (fun p hp => hcap p (by omega)) hdi hU0 (by omega) (by omega) (by omega) (by omega) (by omega) (by omega) (by rw [hm]; omega) (fun _ => by rw [hm]; omega) (fun M1 V1 r_1 px_1 pf_1 py_1 po_1 ps_1 od_1 hc1 ot1 hU1 gx1 gf1 hw1 => ?_)
  have hf1 := hf0.trans hw1
  have q1_re := hw1.obj hc0 hU0 hre (by decide) (by decide) (by decide)
  have q1_dk := hw1.obj hc0 hU0 hdk0 (by decide) (by decide) (by decide)
  have hn1 := hU1.1
  have b_r1 := hn1.2.1
  have b_x1 := hn1.2.2.1
  have b_f1 := hn1.2.2.2.1
  have hdv1 := hU1.2.1
  obtain ⟨ea1, eb1, ec1, ed1, hE1⟩ := hU1.2.2.2
  have hD1 := hdv1.1
  show jj G kS_joinPivot (d + 6) Q rc rs 23 [some (.ref re), some (.int (nI (t))), some (.ref (wa (rp s ls ps t t))), none] [] M1
  obtain ⟨g1, kk, hbz⟩ := gf1 rfl
  rw [hm] at gx1 g1 hbz
  obtain ⟨gg, egg⟩ : ∃ g : Int, V1 px_1 = g := ⟨_, rfl⟩
  obtain ⟨u, eu_⟩ : ∃ u : Int, V1 pf_1 = u := ⟨_, rfl⟩
  rw [egg] at gx1 hbz
  rw [eu_] at g1 hbz
  rw [show (((V0 (rp s ls ps t t)).natAbs : Nat) : Int) = V0 (rp s ls ps t t) by omega, show ((m.natAbs : Nat) : Int) = m by omega] at hbz
  have hgp : 0 < gg := by rw [gx1]; have : 0 < Nat.gcd (V0 (rp s ls ps t t)).natAbs m.natAbs := Nat.gcd_pos_of_pos_right _ (by omega); omega
  have hgm : gg ∣ m := by rw [gx1]; exact Int.ofNat_dvd_left.mpr (Nat.gcd_dvd_right ..)
  have hgle : gg ≤ m := Int.le_of_dvd hm0 hgm
  have lu : lc u ≤ 64 := by
    rcases Nat.lt_or_ge 1 m.natAbs with l | l
    · exact Nat.le_trans (lc_mono (b := m) (by omega)) (by omega)
    · exact Nat.le_trans (lc_mono (b := 1) (by omega)) (by decide)
  obtain ⟨m', hm'⟩ := hgm
  have hm'' : m = m' * gg := by rw [Int.mul_comm]; exact hm'
  have lg : lc gg ≤ 63 := Nat.le_trans (lc_mono (by omega)) hlm
  obtain ⟨T548_1, t548_1, hT548_1, _, _⟩ := hc1 548 (by omega)
  refine jj_aload_n (pc := 23) kS_joinPivot_d23 rfl ?_
  refine jj_getf (pc := 24) kS_joinPivot_d24 (kfS_firstFactor hG) q1_re rfl ?_
  refine jj_aload_n (pc := 27) kS_joinPivot_d27 rfl ?_
  refine jj_getf (pc := 28) kS_joinPivot_d28 (kfS_desk hG) q1_re rfl ?_
  refine jj_getf (pc := 31) kS_joinPivot_d31 (kfS_K_euclid hG) q1_dk rfl ?_
  refine jj_getf (pc := 34) kS_joinPivot_d34 (kfS_U_factor hG) hE1 rfl ?_
  refine jj_callV (pc := 37) (b := (wa 548)) (As := [.ref (wa pf_1)]) kS_joinPivot_d37 (kvS_W_copy hG) (kG_cl hG rfl) rfl hT548_1 rfl rfl rfl (Nat.le_of_ble_eq_true rfl) (Nat.le_of_ble_eq_true rfl) (jj_bare0 rfl) ?_
  refine w_copy hG hI hc1 (by omega : 548 < N) (by omega) (by rw [eu_, c548 548 (by omega) (by omega)]; exact lc_room (by omega)) (fun M2 hcx2 hw2  => ?_) 
  obtain ⟨V2, hV2⟩ : ∃ W, vup V1 548 (V1 pf_1) = W := ⟨_, rfl⟩
  have hc2 : CW M2 wa la cap N V2 := by rw [← hV2]; exact hcx2
  have at2 : V2 548 = V1 pf_1 := by rw [← hV2, vup_at]
  have ot2 : ∀ p, p ≠ 548 → V2 p = V1 p := fun p hp => by rw [← hV2, vup_ne _ _ hp]
  have hU2 := hU1.wt hc1 hdi (by omega) hw2
  have hf2 := hf1.trans (hw2.ef (by omega))
  have q2_re := (hw2.ef (eu := eu) (dv := dv) (hi := hi) (lo := lo) (by omega)).obj hc1 hU1 q1_re (by decide) (by decide) (by decide)
  have q2_dk := (hw2.ef (eu := eu) (dv := dv) (hi := hi) (lo := lo) (by omega)).obj hc1 hU1 q1_dk (by decide) (by decide) (by decide)
  have hn2 := hU2.1
  have b_r2 := hn2.2.1
  have b_x2 := hn2.2.2.1
  have b_f2 := hn2.2.2.2.1
  have hdv2 := hU2.2.1
  obtain ⟨ea2, eb2, ec2, ed2, hE2⟩ := hU2.2.2.2
  have hD2 := hdv2.1
  show jj G kS_joinPivot (d + 6) Q rc rs 40 [some (.ref re), some (.int (nI (t))), some (.ref (wa (rp s ls ps t t))), none] [] M2
  rw [eu_] at at2
  have x2 : V2 px_1 = gg := by rw [ot2 _ (by omega)]; exact egg
  obtain ⟨Trpslspstt_2, trpslspstt_2, hTrpslspstt_2, _, _⟩ := hc2 (rp s ls ps t t) (by omega)
  refine jj_aload_n (pc := 40) kS_joinPivot_d40 rfl ?_
  refine jj_aload_n (pc := 41) kS_joinPivot_d41 rfl ?_
  refine jj_getf (pc := 42) kS_joinPivot_d42 (kfS_desk hG) q2_re rfl ?_
  refine jj_getf (pc := 45) kS_joinPivot_d45 (kfS_K_euclid hG) q2_dk rfl ?_
  refine jj_getf (pc := 48) kS_joinPivot_d48 (kfS_U_x hG) hE2 rfl ?_
  refine jj_callV (pc := 51) (b := (wa (rp s ls ps t t))) (As := [.ref (wa px_1)]) kS_joinPivot_d51 (kvS_W_copy hG) (kG_cl hG rfl) rfl hTrpslspstt_2 rfl rfl rfl (Nat.le_of_ble_eq_true rfl) (Nat.le_of_ble_eq_true rfl) (jj_bare0 rfl) ?_
  refine w_copy hG hI hc2 (by omega : (rp s ls ps t t) < N) (by omega) (by rw [x2, c553 _ b1.1 b1.2]; exact lc_room (by omega)) (fun M3 hcx3 hw3  => ?_) 
  obtain ⟨V3, hV3⟩ : ∃ W, vup V2 (rp s ls ps t t) (V2 px_1) = W := ⟨_, rfl⟩
  have hc3 : CW M3 wa la cap N V3 := by rw [← hV3]; exact hcx3
  have at3 : V3 (rp s ls ps t t) = V2 px_1 := by rw [← hV3, vup_at]
  have ot3 : ∀ p, p ≠ (rp s ls ps t t) → V3 p = V2 p := fun p hp => by rw [← hV3, vup_ne _ _ hp]
  have hU3 := hU2.wt hc2 hdi (by omega) hw3
  have hf3 := hf2.trans (hw3.ef (by omega))
  have q3_re := (hw3.ef (eu := eu) (dv := dv) (hi := hi) (lo := lo) (by omega)).obj hc2 hU2 q2_re (by decide) (by decide) (by decide)
  have q3_dk := (hw3.ef (eu := eu) (dv := dv) (hi := hi) (lo := lo) (by omega)).obj hc2 hU2 q2_dk (by decide) (by decide) (by decide)
  have hn3 := hU3.1
  have b_r3 := hn3.2.1
  have b_x3 := hn3.2.2.1
  have b_f3 := hn3.2.2.2.1
  have hdv3 := hU3.2.1
  obtain ⟨ea3, eb3, ec3, ed3, hE3⟩ := hU3.2.2.2
  have hD3 := hdv3.1
  show jj G kS_joinPivot (d + 6) Q rc rs 54 [some (.ref re), some (.int (nI (t))), some (.ref (wa (rp s ls ps t t))), none] [] M3
  rw [x2] at at3
  have o3 : ∀ q, 10 ≤ q → q ≠ 548 → q ≠ (rp s ls ps t t) → V3 q = V0 q := fun q h1 h2 h3 => by rw [ot3 q h3, ot2 q h2, ot1 q (by omega)]
  have hR3 := hR.ef hJ hf3
  have hS3 : KS M3 wa la cap N eu dv hi lo dk V3 := ⟨hc3, ⟨r_1, px_1, pf_1, py_1, po_1, ps_1, od_1, hU3⟩, q3_dk⟩
  have c3 : ∀ i p, i < 16 → p < 16 → ¬ (i = t ∧ p = t) → V3 (rp s ls ps i p) = V0 (rp s ls ps i p) := fun i p h1 h2 h3 => by
    have := hsp.b hs h1 h2
    exact o3 _ (by omega) (by omega) (hsp.ne hs h1 h2 (by omega) (by omega) h3)
  have u3 : V3 548 = u := by rw [ot3 _ (by omega)]; exact at2
  refine jj_aload_n (pc := 54) kS_joinPivot_d54 rfl ?_
  refine jj_iload_n (pc := 55) kS_joinPivot_d55 rfl ?_
  refine jj_callV (pc := 56) (b := re) (As := [.int (nI (t))]) kS_joinPivot_d56 (kvS_S_divideModulus hG) (kG_cl hG rfl) rfl q3_re rfl rfl rfl (Nat.le_of_ble_eq_true rfl) (Nat.le_of_ble_eq_true rfl) (jj_bare0 rfl) ?_
  refine r_divideModulus hG hK hS3 hJ hR3 hs hln hpl (by omega) (by rw [o3 _ (by omega) (by omega) (by omega)]; exact hm) hm0 hlm at3 hgp hm'' (fun i p h1 h2 h3 h4 => by rw [c3 i p (by omega) (by omega) (by omega)]; exact hrg i p (by omega) h2 (by omega) h4) (fun M4 V4 hS4 m4 e4 o4 hw4 => ?_)
  have hR4 := hR3.ef hJ hw4
  have hre4 := hR4.1
  have m'0 : 0 < m' := by
    rcases (show 0 < m' ∨ m' ≤ 0 by omega) with z | z
    · exact z
    · have := Int.mul_nonpos_of_nonpos_of_nonneg z (Int.le_of_lt hgp)
      omega
  have lm' : lc m' ≤ 63 := by
    refine Nat.le_trans (lc_mono ?_) hlm
    rw [hm'', Int.natAbs_mul]
    exact Nat.le_mul_of_pos_right _ (by omega)
  have t4 : ∀ p, t ≤ p → p < 16 → V4 (rp s ls ps t p) = V3 (rp s ls ps t p) := fun p h1 h2 => by
    have := hsp.b hs (show t < 16 by omega) h2
    exact o4 _ (by omega) (by omega) (fun i' p' h3 h4 h5 h6 => hsp.ne hs (by omega) h2 (by omega) (by omega) (by omega))
  have u4 : V4 548 = u := by rw [o4 _ (by omega) (by omega) (fun i' p' h3 h4 h5 h6 => by have := hsp.b hs (show i' < 16 by omega) (show p' < 16 by omega); omega)]; exact u3
  show jj G kS_joinPivot (d + 6) Q rc rs 59 [some (.ref re), some (.int (nI (t))), some (.ref (wa (rp s ls ps t t))), none] [] M4
  refine jj_iload_n (pc := 59) kS_joinPivot_d59 rfl ?_
  refine jn_iconst (pc := 60) 1 kS_joinPivot_d60 (by decide) ?_
  refine jn_iadd (pc := 61) (t + 1) kS_joinPivot_d61 (by omega) ?_
  refine jj_istore_n (pc := 62) kS_joinPivot_d62 (Nat.le_of_ble_eq_true rfl) ?_
  show jj G kS_joinPivot (d + 6) Q rc rs 63 [some (.ref re), some (.int (nI (t))), some (.ref (wa (rp s ls ps t t))), some (.int (nI (t + 1)))] [] M4
  show jj G kS_joinPivot (d + 6) Q rc rs 63 [some (.ref re), some (.int (nI (t))), some (.ref (wa (rp s ls ps t t))), some (.int (nI (t + 1)))] [] M4
  have loop : ∀ mu x, pl = x + mu → t < x → ∀ (M9 : mheap) (V9 : Nat → Int), KS M9 wa la cap N eu dv hi lo dk V9 → EF M4 M9 wa la N eu dv hi lo → (∀ p, t < p → p < x → V9 (rp s ls ps t p) = (u * V0 (rp s ls ps t p)) % m') → (∀ q, 10 ≤ q → (∀ p, t < p → p < x → q ≠ (rp s ls ps t p)) → V9 q = V4 q) → jj G kS_joinPivot (d + 6) Q rc rs 63 [some (.ref re), some (.int (nI (t))), some (.ref (wa (rp s ls ps t t))), some (.int (nI (x)))] [] M9 := by
    intro mu
    induction mu with
    | zero =>
      intro x hk htx M9 V9 hS9 f9 e9 o9
      have ex : pl = x := by omega
      subst ex
      have hre9 := (hR4.ef hJ f9).1
      refine jj_iload_n (pc := 63) kS_joinPivot_d63 rfl ?_
      refine jj_aload_n (pc := 64) kS_joinPivot_d64 rfl ?_
      refine jj_getf (pc := 65) kS_joinPivot_d65 (kfS_places hG) hre9 rfl ?_
      refine jn_icmp_ge (pc := 68) (tgt := 114) kS_joinPivot_d68 (by decide) (by omega) (by omega) (fun _ => ?_) (fun c => by exfalso; omega)
      exact jj_vret (pc := 114) kS_joinPivot_d114 rfl (k M9 V9 gg u kk m' hS9 ((hf3.trans hw4).trans f9) gx1 hbz hm'' (by rw [o9 _ (by omega) (fun p h1 h2 => by have := hsp.b hs (show t < 16 by omega) (show p < 16 by omega); omega)]; exact m4) (by rw [o9 _ (by omega) (fun p h1 h2 => hsp.ne hs (by omega) (by omega) (by omega) (by omega) (by omega)), t4 t (Nat.le_refl _) (by omega)]; exact at3) e9 (fun i p h1 h2 h3 h4 => by
        have := hsp.b hs (show i < 16 by omega) (show p < 16 by omega)
        rw [o9 _ (by omega) (fun p' h5 h6 => hsp.ne hs (by omega) (by omega) (by omega) (by omega) (by omega)), e4 i p h1 h2 h3 h4, c3 i p (by omega) (by omega) (by omega)]) (fun q h1 h2 h3 h4 => by
        rw [o9 q h1 (fun p h5 h6 => h4 t p (Nat.le_refl _) htl (by omega) h6), o4 q h1 h2 (fun i p h5 h6 h7 h8 => h4 i p (by omega) h6 (by omega) h8)]
        exact o3 q h1 h3 (h4 t t (Nat.le_refl _) htl (Nat.le_refl _) htp)))
    | succ mu ih =>
      intro x hk htx M9 V9 hS9 f9 e9 o9
      have hR9 := hR4.ef hJ f9
      have hre9 := hR9.1
      have bx := hsp.b hs (show t < 16 by omega) (show x < 16 by omega)
      have vx : V9 (rp s ls ps t x) = V0 (rp s ls ps t x) := by rw [o9 _ (by omega) (fun p h1 h2 => hsp.ne hs (by omega) (by omega) (by omega) (by omega) (by omega)), t4 x (by omega) (by omega)]; exact c3 t x (by omega) (by omega) (by omega)
      have v8 : V9 548 = u := by rw [o9 _ (by omega) (fun p h1 h2 => by have := hsp.b hs (show t < 16 by omega) (show p < 16 by omega); omega)]; exact u4
      have v7 : V9 547 = m' := by rw [o9 _ (by omega) (fun p h1 h2 => by have := hsp.b hs (show t < 16 by omega) (show p < 16 by omega); omega)]; exact m4
      have lx : lc (V9 (rp s ls ps t x)) ≤ 64 := by have := hS9.1.lc (p := (rp s ls ps t x)) (by omega); rw [c553 _ bx.1 bx.2] at this; exact this
      have cx : cap (rp s ls ps t x) = 64 := c553 _ bx.1 bx.2
      have m1 := lc_mul (V9 548) (V9 (rp s ls ps t x))
      have l8 : lc (V9 548) ≤ 64 := by rw [v8]; exact lu
      obtain ⟨hc0, ⟨r_b, px_b, pf_b, py_b, po_b, ps_b, od_b, hU0⟩, hdk0⟩ := id hS9
      have hf0 : EF M9 M9 wa la N eu dv hi lo := fun _ _ _ _ _ _ => rfl
      obtain ⟨V0, hV0⟩ : ∃ V0, V9 = V0 := ⟨_, rfl⟩
      rw [hV0] at hc0
      have hn0 := hU0.1
      have b_r0 := hn0.2.1
      have b_x0 := hn0.2.2.1
      have b_f0 := hn0.2.2.2.1
      have hdv0 := hU0.2.1
      obtain ⟨ea0, eb0, ec0, ed0, hE0⟩ := hU0.2.2.2
      have hD0 := hdv0.1
      show jj G kS_joinPivot (d + 6) Q rc rs 63 [some (.ref re), some (.int (nI (t))), some (.ref (wa (rp s ls ps t t))), some (.int (nI (x)))] [] M9
      refine jj_iload_n (pc := 63) kS_joinPivot_d63 rfl ?_
      refine jj_aload_n (pc := 64) kS_joinPivot_d64 rfl ?_
      refine jj_getf (pc := 65) kS_joinPivot_d65 (kfS_places hG) hre9 rfl ?_
      refine jn_icmp_ge (pc := 68) (tgt := 114) kS_joinPivot_d68 (by decide) (by omega) (by omega) (fun c => by exfalso; omega) (fun _ => ?_)
      refine jj_aload_n (pc := 71) kS_joinPivot_d71 rfl ?_
      refine jj_getf (pc := 72) kS_joinPivot_d72 (kfS_desk hG) hre9 rfl ?_
      refine jj_getf (pc := 75) kS_joinPivot_d75 (kfS_K_left hG) hdk0 rfl ?_
      refine jj_aload_n (pc := 78) kS_joinPivot_d78 rfl ?_
      refine jj_getf (pc := 79) kS_joinPivot_d79 (kfS_firstFactor hG) hre9 rfl ?_
      refine jj_aload_n (pc := 82) kS_joinPivot_d82 rfl ?_
      refine jj_iload_n (pc := 83) kS_joinPivot_d83 rfl ?_
      refine jj_iload_n (pc := 84) kS_joinPivot_d84 rfl ?_
      refine jj_callV (pc := 85) (b := re) (As := [.int (nI (t)), .int (nI (x))]) kS_joinPivot_d85 (kvS_S_at hG) (kG_cl hG rfl) rfl hre9 rfl rfl rfl (Nat.le_of_ble_eq_true rfl) (Nat.le_of_ble_eq_true rfl) (jj_bare0 rfl) ?_
      refine r_at hG hR9 hs (by omega) (by omega) ?_
      show jj G kS_joinPivot (d + 6) Q rc rs 88 [some (.ref re), some (.int (nI (t))), some (.ref (wa (rp s ls ps t t))), some (.int (nI (x)))] [.ref (wa (rp s ls ps t x)), .ref (wa 548), .ref (wa 7)] M9
      obtain ⟨T7_0, t7_0, hT7_0, _, _⟩ := hc0 7 (by omega)
      rw [hV0] at m1 l8 lx v7 v8 vx
      refine jj_callV (pc := 88) (b := (wa 7)) (As := [.ref (wa 548), .ref (wa (rp s ls ps t x))]) kS_joinPivot_d88 (kvS_W_product hG) (kG_cl hG rfl) rfl hT7_0 rfl rfl rfl (Nat.le_of_ble_eq_true rfl) (Nat.le_of_ble_eq_true rfl) (jj_bare0 rfl) ?_
      refine w_product hG hI hc0 (by omega : 7 < N) (by omega) (by omega) (by omega) (by omega) (by rw [hcap 7 (by omega)]; omega) (fun M1 hcx1 hw1  => ?_) 
      obtain ⟨V1, hV1⟩ : ∃ W, vup V0 7 (V0 548 * V0 (rp s ls ps t x)) = W := ⟨_, rfl⟩
      have hc1 : CW M1 wa la cap N V1 := by rw [← hV1]; exact hcx1
      have at1 : V1 7 = V0 548 * V0 (rp s ls ps t x) := by rw [← hV1, vup_at]
      have ot1 : ∀ p, p ≠ 7 → V1 p = V0 p := fun p hp => by rw [← hV1, vup_ne _ _ hp]
      have hU1 := hU0.wt hc0 hdi (by omega) hw1
      have hf1 := hf0.trans (hw1.ef (by omega))
      have q1_re := (hw1.ef (eu := eu) (dv := dv) (hi := hi) (lo := lo) (by omega)).obj hc0 hU0 hre9 (by decide) (by decide) (by decide)
      have q1_dk := (hw1.ef (eu := eu) (dv := dv) (hi := hi) (lo := lo) (by omega)).obj hc0 hU0 hdk0 (by decide) (by decide) (by decide)
      have hn1 := hU1.1
      have b_r1 := hn1.2.1
      have b_x1 := hn1.2.2.1
      have b_f1 := hn1.2.2.2.1
      have hdv1 := hU1.2.1
      obtain ⟨ea1, eb1, ec1, ed1, hE1⟩ := hU1.2.2.2
      have hD1 := hdv1.1
      show jj G kS_joinPivot (d + 6) Q rc rs 91 [some (.ref re), some (.int (nI (t))), some (.ref (wa (rp s ls ps t t))), some (.int (nI (x)))] [] M1
      have hR8 := hR9.ef hJ hf1
      have l7 : lc (V1 7) ≤ 252 := by rw [at1]; omega
      have w7 : V1 547 = m' := by rw [ot1 _ (by omega)]; exact v7
      have hS1a : KS M1 wa la cap N eu dv hi lo dk V1 := ⟨hc1, ⟨r_b, px_b, pf_b, py_b, po_b, ps_b, od_b, hU1⟩, q1_dk⟩
      refine jj_aload_n (pc := 91) kS_joinPivot_d91 rfl ?_
      refine jj_aload_n (pc := 92) kS_joinPivot_d92 rfl ?_
      refine jj_getf (pc := 93) kS_joinPivot_d93 (kfS_desk hG) q1_re rfl ?_
      refine jj_getf (pc := 96) kS_joinPivot_d96 (kfS_K_left hG) q1_dk rfl ?_
      refine jj_aload_n (pc := 99) kS_joinPivot_d99 rfl ?_
      refine jj_iload_n (pc := 100) kS_joinPivot_d100 rfl ?_
      refine jj_iload_n (pc := 101) kS_joinPivot_d101 rfl ?_
      refine jj_callV (pc := 102) (b := re) (As := [.int (nI (t)), .int (nI (x))]) kS_joinPivot_d102 (kvS_S_at hG) (kG_cl hG rfl) rfl q1_re rfl rfl rfl (Nat.le_of_ble_eq_true rfl) (Nat.le_of_ble_eq_true rfl) (jj_bare0 rfl) ?_
      refine r_at hG hR8 hs (by omega) (by omega) ?_
      show jj G kS_joinPivot (d + 6) Q rc rs 105 [some (.ref re), some (.int (nI (t))), some (.ref (wa (rp s ls ps t t))), some (.int (nI (x)))] [.ref (wa (rp s ls ps t x)), .ref (wa 7), .ref re] M1
      refine jj_callV (pc := 105) (b := re) (As := [.ref (wa 7), .ref (wa (rp s ls ps t x))]) kS_joinPivot_d105 (kvS_S_keep hG) (kG_cl hG rfl) rfl q1_re rfl rfl rfl (Nat.le_of_ble_eq_true rfl) (Nat.le_of_ble_eq_true rfl) (jj_bare0 rfl) ?_
      refine r_keep hG hK hS1a hJ hR8 (u := 7) (t := (rp s ls ps t x)) (by omega) (by omega) (by omega) (by omega) (by omega) (by omega) l7 (by rw [w7]; exact m'0) (by rw [w7]; exact lm') (fun M2 V2 hS2 at2 ot2 hw2 => ?_) 
      obtain ⟨hc2, ⟨r_2, px_2, pf_2, py_2, po_2, ps_2, od_2, hU2⟩, _⟩ := id hS2
      have hf2 := hf1.trans hw2
      have q2_re := hw2.obj hc1 hU1 q1_re (by decide) (by decide) (by decide)
      have q2_dk := hw2.obj hc1 hU1 q1_dk (by decide) (by decide) (by decide)
      have hn2 := hU2.1
      have b_r2 := hn2.2.1
      have b_x2 := hn2.2.2.1
      have b_f2 := hn2.2.2.2.1
      have hdv2 := hU2.2.1
      obtain ⟨ea2, eb2, ec2, ed2, hE2⟩ := hU2.2.2.2
      have hD2 := hdv2.1
      show jj G kS_joinPivot (d + 6) Q rc rs 108 [some (.ref re), some (.int (nI (t))), some (.ref (wa (rp s ls ps t t))), some (.int (nI (x)))] [] M2
      refine jn_iinc (pc := 108) (x + 1) kS_joinPivot_d108 rfl (nI_1 _) ?_
      refine jj_goto (pc := 111) (tgt := 63) kS_joinPivot_d111 (by decide) ?_
      show jj G kS_joinPivot (d + 6) Q rc rs 63 [some (.ref re), some (.int (nI (t))), some (.ref (wa (rp s ls ps t t))), some (.int (nI (x + 1)))] [] M2
      rw [w7, at1, v8, vx] at at2
      refine ih (x + 1) (by omega) (by omega) M2 V2 hS2 (f9.trans hf2) (fun p h1 h2 => ?_) (fun q h1 h2 => ?_)
      · by_cases e : p = x
        · rw [e]; exact at2
        · have := hsp.b hs (show t < 16 by omega) (show p < 16 by omega)
          rw [ot2 _ (by omega) (hsp.ne hs (by omega) (by omega) (by omega) (by omega) (by omega)), ot1 _ (by omega), ← hV0]
          exact e9 p h1 (by omega)
      · rw [ot2 q (by omega) (h2 x htx (by omega)), ot1 q (by omega), ← hV0]
        exact o9 q h1 (fun p h3 h4 => h2 p h3 (by omega))
  exact loop (pl - (t + 1)) (t + 1) (by omega) (by omega) M4 V4 hS4 (fun _ _ _ _ _ _ => rfl) (fun p h1 h2 => by omega) (fun _ _ _ => rfl)
end S6
