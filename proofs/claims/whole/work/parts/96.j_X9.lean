/-! ===== ExactForms: beside (printed by wip/gen/rX9.py) ===== -/
/-- what divides all of a normal matrix times u divides u -/
theorem cdv_lift {V : Nat → Int} {b c r : Nat} {x u : Int} (hu : 0 < u) (h : CDV V b c 0 r 0 1) (h1 : x ∣ V (b + 256) * u) (h2 : ∀ i j, i < r → j < c → x ∣ V (b + (16 * i + j)) * u) : x ∣ u := by
  have hgp : 0 < Int.gcd x u := Int.gcd_pos_of_ne_zero_right _ (by omega)
  have hgr := Int.gcd_dvd_right x u
  have hgl := Int.gcd_dvd_left x u
  have hst : ∀ v : Int, x ∣ v * u → x ∣ v * (Int.gcd x u : Int) := fun v h => Int.dvd_mul_gcd_iff_dvd_mul.mpr h
  obtain ⟨g, eg⟩ : ∃ g, Int.gcd x u = g := ⟨_, rfl⟩
  rw [eg] at hgp hgr hgl hst
  obtain ⟨x', hx'⟩ := hgl
  have strip : ∀ v : Int, x ∣ v * u → x' ∣ v := fun v h => by
    obtain ⟨w, hw⟩ := hst v h
    refine ⟨w, ?_⟩
    have : (g : Int) * v = g * (x' * w) := by rw [Int.mul_comm, hw, ← Int.mul_assoc, ← hx']
    exact Int.eq_of_mul_eq_mul_left (by omega) this
  have k1 : x' ∣ 1 := h.2.2.2 x' (strip _ h1) (fun i j _ t => strip _ (h2 i j (by unfold thru at t; omega) t.1))
  obtain ⟨y, hy⟩ := k1
  exact Int.dvd_trans ⟨y, by rw [hx', Int.mul_assoc, ← hy, Int.mul_one]⟩ hgr
/-- two normal matrices beside each other, made whole by the least common multiple of both factors, are normal -/
theorem NRM.beside {V V' : Nat → Int} {bn bm b' r p1 p2 cc : Nat} {q1 q2 q : Nat → Rat} {u v : Int} (hn : NRM V bn r p1 q1) (hm : NRM V bm r p2 q2) (ecc : cc = p1 + p2) (eu : u = (V (bm + 256)).tdiv (sgc (V (bn + 256)) (V (bm + 256)))) (ev : v = (V (bn + 256)).tdiv (sgc (V (bn + 256)) (V (bm + 256)))) (hc : V' (b' + 256) = V (bn + 256) * u) (hv : ∀ i j, i < r → j < cc → V' (b' + (16 * i + j)) = if j < p1 then V (bn + (16 * i + j)) * u else V (bm + (16 * i + (j - p1))) * v) (hH : HAS V' b' r cc q) : NRM V' b' r cc q := by
  have pn := hn.1
  have pm := hm.1
  have hg := sgc_pos (b := V (bm + 256)) pn
  have up : 0 < u := by rw [eu]; exact tdiv_pos pm sgc_dvd.2 hg
  have vp : 0 < v := by rw [ev]; exact tdiv_pos pn sgc_dvd.1 hg
  have hmt : V (bn + 256) * u = V (bm + 256) * v := by rw [eu, ev]; exact meet_eq pn rfl
  have bu : u * sgc (V (bn + 256)) (V (bm + 256)) = V (bm + 256) := by rw [eu]; exact tdiv_back sgc_dvd.2
  have bv : v * sgc (V (bn + 256)) (V (bm + 256)) = V (bn + 256) := by rw [ev]; exact tdiv_back sgc_dvd.1
  refine ⟨by rw [hc]; exact Int.mul_pos pn up, hH, by decide, ⟨_, (Int.one_mul _).symm⟩, fun _ _ _ _ => ⟨_, (Int.one_mul _).symm⟩, fun x x1 x2 => ?_⟩
  rw [hc] at x1
  have du : x ∣ u := cdv_lift up hn.2.2 x1 (fun i j hi hj => by
    have := x2 i j (Nat.zero_le _) ⟨by omega, Or.inl hi⟩
    rw [hv i j hi (by omega), if_pos hj] at this
    exact this)
  have dv : x ∣ v := cdv_lift vp hm.2.2 (by rw [← hmt]; exact x1) (fun i j hi hj => by
    have := x2 i (p1 + j) (Nat.zero_le _) ⟨by omega, Or.inl hi⟩
    rw [hv i (p1 + j) hi (by omega), if_neg (by omega), Nat.add_sub_cancel_left] at this
    exact this)
  obtain ⟨g, eg⟩ : ∃ g, sgc (V (bn + 256)) (V (bm + 256)) = g := ⟨_, rfl⟩
  have hd : x * g ∣ g := by
    have h1 : x * g ∣ V (bn + 256) := by rw [← bv, eg]; exact Int.mul_dvd_mul_right g dv
    have h2 : x * g ∣ V (bm + 256) := by rw [← bu, eg]; exact Int.mul_dvd_mul_right g du
    have h3 : x * g ∣ ((Int.gcd (V (bn + 256)) (V (bm + 256)) : Nat) : Int) := Int.dvd_coe_gcd h1 h2
    have e3 : ((Int.gcd (V (bn + 256)) (V (bm + 256)) : Nat) : Int) = g := by rw [← eg]; rfl
    rw [e3] at h3
    exact h3
  obtain ⟨f, hf⟩ := hd
  refine ⟨f, ?_⟩
  have : g * 1 = g * (x * f) := by rw [Int.mul_one, ← Int.mul_assoc, Int.mul_comm g x]; exact hf
  exact Int.eq_of_mul_eq_mul_left (by omega) this
section X9
variable {G : jg} {d : Nat} {Q : jq} {rc rs : Nat} {M : mheap} {wa la cap oa : Nat → Nat} {eu dv hi lo : Nat} {σ : rst}
theorem xp_beside {x y z : Int32} (hG : kG G) (hJ : XJ wa la cap oa eu dv hi lo) (hT : XT M wa la cap oa eu dv hi lo σ) (hrc : 1 ≤ rc) (hrs : 6 ≤ rs) (kr : ∀ (M' : mheap)  (σ' : rst), semBeside σ x y z 0 σ' → XT M' wa la cap oa eu dv hi lo σ' → XF oa M M' wa la eu dv hi lo → Q (.returned none) M' rc rs) (kt : ∀ (M' : mheap) (cd ci : Nat), semBeside σ x y z cd σ → (cd = 1 ∧ ci = 4 ∨ cd = 2 ∧ ci = 5 ∨ cd = 3 ∧ ci = 6) → XT M' wa la cap oa eu dv hi lo σ → XF oa M M' wa la eu dv hi lo → ∀ x, M' x = none → Q (.threw x) (jj_up M' x (.inl ci, [])) (rc - 1) (rs - 6)) : jj G kX_beside (d + 9) Q rc rs 0 (jj_ent [.ref (oa 0), .int x, .int y, .int z] 8) [] M := by
  obtain ⟨V, sc, R, C, hS, hO, hV⟩ := id hT
  have hK := hJ.1
  have hI := hK.1
  have hx := hO.1
  show jj G kX_beside (d + 9) Q rc rs 0 [some (.ref (oa 0)), some (.int (x)), some (.int (y)), some (.int (z)), none, none, none, none] [] M
  refine jj_aload_n (pc := 0) kX_beside_d0 rfl ?_
  refine jj_iload_n (pc := 1) kX_beside_d1 rfl ?_
  refine jj_callV (pc := 2) (b := (oa 0)) (As := [.int (x)]) kX_beside_d2 (kvX_X_register hG) (kG_cl hG rfl) rfl hx rfl rfl rfl (Nat.le_of_ble_eq_true rfl) (Nat.le_of_ble_eq_true rfl) (jj_bare0 rfl) ?_
  refine x_register hG hO hrc hrs (fun t ht et => ?_) (fun h y hy => kt M 1 4 (Or.inl ⟨fun g => h g.1, rfl, rfl⟩) (by omega) hT (fun _ _ _ => rfl) y hy)
  subst et
  show jj G kX_beside (d + 9) Q rc rs 5 [some (.ref (oa 0)), some (.int (nI (t))), some (.int (y)), some (.int (z)), none, none, none, none] [.ref (oa (13 + t))] M
  refine jj_pop (pc := 5) kX_beside_d5 rfl ?_
  refine jj_aload_n (pc := 6) kX_beside_d6 rfl ?_
  refine jj_iload_n (pc := 7) kX_beside_d7 rfl ?_
  refine jj_callV (pc := 8) (b := (oa 0)) (As := [.int (y)]) kX_beside_d8 (kvX_X_register hG) (kG_cl hG rfl) rfl hx rfl rfl rfl (Nat.le_of_ble_eq_true rfl) (Nat.le_of_ble_eq_true rfl) (jj_bare0 rfl) ?_
  refine x_register hG hO hrc hrs (fun n hn en => ?_) (fun h y hy => kt M 1 4 (Or.inl ⟨fun g => h g.2.1, rfl, rfl⟩) (by omega) hT (fun _ _ _ => rfl) y hy)
  subst en
  show jj G kX_beside (d + 9) Q rc rs 11 [some (.ref (oa 0)), some (.int (nI (t))), some (.int (nI (n))), some (.int (z)), none, none, none, none] [.ref (oa (13 + n))] M
  obtain ⟨ern, ecn, s1n, s2n, s3n, s4n, hNn⟩ := hV.1 n hn
  obtain ⟨bn, ebn⟩ : ∃ b, b = 809 + 257 * n := ⟨_, rfl⟩
  have hMn := hO.2.2.2.2.2.2.2 n (by omega)
  rw [← ebn] at hMn hNn
  have hmn := hMn.1
  refine jj_astore (pc := 11) kX_beside_d11 (Nat.le_of_ble_eq_true rfl) ?_
  show jj G kX_beside (d + 9) Q rc rs 13 [some (.ref (oa 0)), some (.int (nI (t))), some (.int (nI (n))), some (.int (z)), some (.ref (oa (13 + n))), none, none, none] [] M
  refine jj_aload_n (pc := 13) kX_beside_d13 rfl ?_
  refine jj_iload_n (pc := 14) kX_beside_d14 rfl ?_
  refine jj_callV (pc := 15) (b := (oa 0)) (As := [.int (z)]) kX_beside_d15 (kvX_X_register hG) (kG_cl hG rfl) rfl hx rfl rfl rfl (Nat.le_of_ble_eq_true rfl) (Nat.le_of_ble_eq_true rfl) (jj_bare0 rfl) ?_
  refine x_register hG hO hrc hrs (fun m hm em => ?_) (fun h y hy => kt M 1 4 (Or.inl ⟨fun g => h g.2.2, rfl, rfl⟩) (by omega) hT (fun _ _ _ => rfl) y hy)
  subst em
  show jj G kX_beside (d + 9) Q rc rs 18 [some (.ref (oa 0)), some (.int (nI (t))), some (.int (nI (n))), some (.int (nI (m))), some (.ref (oa (13 + n))), none, none, none] [.ref (oa (13 + m))] M
  obtain ⟨erm, ecm, s1m, s2m, s3m, s4m, hNm⟩ := hV.1 m hm
  obtain ⟨bm, ebm⟩ : ∃ b, b = 809 + 257 * m := ⟨_, rfl⟩
  have hMm := hO.2.2.2.2.2.2.2 m (by omega)
  rw [← ebm] at hMm hNm
  have hmm := hMm.1
  refine jj_astore (pc := 18) kX_beside_d18 (Nat.le_of_ble_eq_true rfl) ?_
  show jj G kX_beside (d + 9) Q rc rs 20 [some (.ref (oa 0)), some (.int (nI (t))), some (.int (nI (n))), some (.int (nI (m))), some (.ref (oa (13 + n))), some (.ref (oa (13 + m))), none, none] [] M
  refine jj_aload (pc := 20) kX_beside_d20 rfl ?_
  refine jj_getf (pc := 22) kX_beside_d22 (kfX_M_rows hG) hmn rfl ?_
  refine jj_aload (pc := 25) kX_beside_d25 rfl ?_
  refine jj_getf (pc := 27) kX_beside_d27 (kfX_M_rows hG) hmm rfl ?_
  refine jn_icmp_eq (pc := 30) (tgt := 43) kX_beside_d30 (by decide) (by omega) (by omega) (fun c1 => ?_) (fun c1 => ?_)
  · skip
    refine jj_aload (pc := 43) kX_beside_d43 rfl ?_
    refine jj_getf (pc := 45) kX_beside_d45 (kfX_M_columns hG) hmn rfl ?_
    refine jj_aload (pc := 48) kX_beside_d48 rfl ?_
    refine jj_getf (pc := 50) kX_beside_d50 (kfX_M_columns hG) hmm rfl ?_
    refine jn_iadd (pc := 53) (C n + C m) kX_beside_d53 (by omega) ?_
    refine jn_bipush (pc := 54) 16 kX_beside_d54 (by decide) ?_
    refine jn_icmp_le (pc := 56) (tgt := 69) kX_beside_d56 (by decide) (by omega) (by omega) (fun c2 => ?_) (fun c2 => ?_)
    · skip
      obtain ⟨rr, err⟩ : ∃ r, R n = r := ⟨_, rfl⟩
      obtain ⟨p1, ep1⟩ : ∃ c, C n = c := ⟨_, rfl⟩
      obtain ⟨p2, ep2⟩ : ∃ c, C m = c := ⟨_, rfl⟩
      obtain ⟨cc, ecc⟩ : ∃ c, c = p1 + p2 := ⟨_, rfl⟩
      rw [err] at ern s1n s2n c1
      rw [ep1] at ecn s3n s4n c2
      rw [ep2] at ecm s3m s4m c2
      rw [← c1] at erm
      rw [err, ep1] at hMn hmn hNn
      rw [← c1, ep2] at hMm hmm hNm
      obtain ⟨bd, ebd⟩ : ∃ b, b = 2865 := ⟨_, rfl⟩
      show jj G kX_beside (d + 9) Q rc rs 69 [some (.ref (oa 0)), some (.int (nI (t))), some (.int (nI (n))), some (.int (nI (m))), some (.ref (oa (13 + n))), some (.ref (oa (13 + m))), none, none] [] M
      refine jj_aload_n (pc := 69) kX_beside_d69 rfl ?_
      refine jj_aload (pc := 70) kX_beside_d70 rfl ?_
      refine jj_aload (pc := 72) kX_beside_d72 rfl ?_
      refine jj_aload (pc := 74) kX_beside_d74 rfl ?_
      refine jj_getf (pc := 76) kX_beside_d76 (kfX_M_columns hG) hmn rfl ?_
      refine jj_aload (pc := 79) kX_beside_d79 rfl ?_
      refine jj_getf (pc := 81) kX_beside_d81 (kfX_M_columns hG) hmm rfl ?_
      refine jn_iadd (pc := 84) (cc) kX_beside_d84 (by omega) ?_
      refine jj_callV (pc := 85) (b := (oa 0)) (As := [.ref (oa (13 + n)), .ref (oa (13 + m)), .int (nI (cc))]) kX_beside_d85 (kvX_X_draftCommon hG) (kG_cl hG rfl) rfl hx rfl rfl rfl (Nat.le_of_ble_eq_true rfl) (Nat.le_of_ble_eq_true rfl) (jj_bare0 rfl) ?_
      refine x_draftCommon hG hJ hS hO hn hm (by omega) (by omega) (fun M2 Vb R1 C1 hS2 hO2 e8 f8 rk1 v11 v12 vc vo hF2 => ?_)
      rw [err] at e8
      rw [← ebn, ← ebm] at v11 v12
      rw [← ebn, ← ebd] at vc
      have pn := hNn.1
      have pm := hNm.1
      have l1 : ∀ p, 809 ≤ p → p < 2865 → lc (Vb p) ≤ 125 := fun p _ _ => by
        have := hS2.1.lc (p := p) (by omega)
        rw [hJ.cap125 (by omega) (by omega)] at this
        exact this
      have l11 : lc (Vb 11) ≤ 125 := by rw [v11, ← vo _ (by omega) (by omega)]; exact Nat.le_trans (lc_tdiv _ _) (l1 _ (by omega) (by omega))
      have l12 : lc (Vb 12) ≤ 125 := by rw [v12, ← vo (bn + 256) (by omega) (by omega)]; exact Nat.le_trans (lc_tdiv _ _) (l1 _ (by omega) (by omega))
      have hmt : V (bn + 256) * Vb 11 = V (bm + 256) * Vb 12 := by rw [v11, v12]; exact meet_eq pn rfl
      have p11 : 0 < Vb 11 := by rw [v11]; exact tdiv_pos pm sgc_dvd.2 (sgc_pos pn)
      have hx2 := hO2.1
      have hMd2 := hO2.dr ebd
      rw [e8, f8] at hMd2
      have hmd2 := hMd2.1
      have hMn2 := hO2.2.2.2.2.2.2.2 n (by omega)
      rw [← ebn, (rk1 n hn).1, (rk1 n hn).2, err, ep1] at hMn2
      have hmn2 := hMn2.1
      have hMm2 := hO2.2.2.2.2.2.2.2 m (by omega)
      rw [← ebm, (rk1 m hm).1, (rk1 m hm).2, ← c1, ep2] at hMm2
      have hmm2 := hMm2.1
      show jj G kX_beside (d + 9) Q rc rs 88 [some (.ref (oa 0)), some (.int (nI (t))), some (.int (nI (n))), some (.int (nI (m))), some (.ref (oa (13 + n))), some (.ref (oa (13 + m))), none, none] [] M2
      refine jn_iconst (pc := 88) 0 kX_beside_d88 (by decide) ?_
      refine jj_istore (pc := 89) kX_beside_d89 (Nat.le_of_ble_eq_true rfl) ?_
      show jj G kX_beside (d + 9) Q rc rs 91 [some (.ref (oa 0)), some (.int (nI (t))), some (.int (nI (n))), some (.int (nI (m))), some (.ref (oa (13 + n))), some (.ref (oa (13 + m))), some (.int (nI (0))), none] [] M2
      show jj G kX_beside (d + 9) Q rc rs 91 [some (.ref (oa 0)), some (.int (nI (t))), some (.int (nI (n))), some (.int (nI (m))), some (.ref (oa (13 + n))), some (.ref (oa (13 + m))), some (.int (nI (0))), none] [] M2
      have outer : ∀ mu i, rr = i + mu → ∀ (oj : Option Value) (M9 : mheap) (V9 : Nat → Int), KS M9 wa la cap 3122 eu dv hi lo (oa 3) V9 → EF M2 M9 wa la 3122 eu dv hi lo → (∀ p, 10 ≤ p → (∀ i' j', i' < rr → j' < cc → p ≠ (bd + (16 * i' + j'))) → V9 p = Vb p) → (∀ i' j', i' < rr → thru cc i 0 i' j' → V9 (bd + (16 * i' + j')) = (if j' < p1 then Vb (bn + (16 * i' + j')) * Vb 11 else Vb (bm + (16 * i' + (j' - p1))) * Vb 12)) → jj G kX_beside (d + 9) Q rc rs 91 [some (.ref (oa 0)), some (.int (nI (t))), some (.int (nI (n))), some (.int (nI (m))), some (.ref (oa (13 + n))), some (.ref (oa (13 + m))), some (.int (nI (i))), (oj)] [] M9 := by
        intro mu
        induction mu with
        | zero =>
          intro i hk oj M9 V9 hS9 f9 o9 v9
          have e9 : rr = i := by omega
          subst e9
          have hO9 := hO2.ef hJ f9
          have hx9 := hO9.1
          have hMd9 := hO9.dr ebd
          rw [e8, f8] at hMd9
          have hmd9 := hMd9.1
          have hMn9 := hO9.2.2.2.2.2.2.2 n (by omega)
          rw [← ebn, (rk1 n hn).1, (rk1 n hn).2, err, ep1] at hMn9
          have hmn9 := hMn9.1
          have hMm9 := hO9.2.2.2.2.2.2.2 m (by omega)
          rw [← ebm, (rk1 m hm).1, (rk1 m hm).2, ← c1, ep2] at hMm9
          have hmm9 := hMm9.1
          refine jj_iload (pc := 91) kX_beside_d91 rfl ?_
          refine jj_aload (pc := 93) kX_beside_d93 rfl ?_
          refine jj_getf (pc := 95) kX_beside_d95 (kfX_M_rows hG) hmn9 rfl ?_
          refine jn_icmp_ge (pc := 98) (tgt := 211) kX_beside_d98 (by decide) (by omega) (by omega) (fun _ => ?_) (fun c => by exfalso; omega)
          show jj G kX_beside (d + 9) Q rc rs 211 [some (.ref (oa 0)), some (.int (nI (t))), some (.int (nI (n))), some (.int (nI (m))), some (.ref (oa (13 + n))), some (.ref (oa (13 + m))), some (.int (nI (rr))), (oj)] [] M9
          have ov9 : ∀ p, 13 ≤ p → p < 2865 → V9 p = V p := fun p p1 p2 => by rw [o9 p (by omega) (fun i' j' h1 h2 => by omega)]; exact vo p p1 p2
          have hF9 := hF2.trans (f9.efx (X := XAD oa))
          have c9 : V9 (bd + 256) = V (bn + 256) * Vb 11 := by rw [o9 _ (by omega) (fun i' j' h1 h2 => by omega)]; exact vc
          have hH : HAS V9 bd rr cc (fun t => if t % cc < p1 then σ.2.2 n (t / cc * p1 + t % cc) else σ.2.2 m (t / cc * p2 + t % cc - p1)) := by
            refine ⟨by rw [c9]; have := Int.mul_pos pn p11; omega, fun i j hi' hj' => ?_⟩
            rw [v9 i j hi' ⟨hj', Or.inl hi'⟩, c9]
            have d1 : (i * cc + j) / cc = i := by rw [Nat.mul_comm, Nat.mul_add_div (by omega), Nat.div_eq_of_lt hj', Nat.add_zero]
            have d2 : (i * cc + j) % cc = j := by rw [Nat.mul_comm, Nat.mul_add_mod, Nat.mod_eq_of_lt hj']
            have q3 : ((V (bn + 256) * Vb 11 : Int) : Rat) = ((V (bm + 256) * Vb 12 : Int) : Rat) := by rw [hmt]
            rw [Rat.intCast_mul, Rat.intCast_mul] at q3
            dsimp only
            rw [d1, d2]
            by_cases c : j < p1
            · have q1 := hNn.2.1.2 i j hi' c
              rw [if_pos c, if_pos c, vo (bn + (16 * i + j)) (by omega) (by omega), Rat.intCast_mul, Rat.intCast_mul, q1]
              grind
            · have q2 := hNm.2.1.2 i (j - p1) hi' (by omega)
              rw [if_neg c, if_neg c, vo (bm + (16 * i + (j - p1))) (by omega) (by omega), Rat.intCast_mul, Rat.intCast_mul, q2, show i * p2 + j - p1 = i * p2 + (j - p1) by omega]
              grind
          have hNd : NRM V9 bd rr cc (fun t => if t % cc < p1 then σ.2.2 n (t / cc * p1 + t % cc) else σ.2.2 m (t / cc * p2 + t % cc - p1)) := NRM.beside hNn hNm ecc v11 v12 c9 (fun i j hi' hj' => by
            rw [v9 i j hi' ⟨hj', Or.inl hi'⟩]
            by_cases c : j < p1
            · rw [if_pos c, if_pos c, vo (bn + (16 * i + j)) (by omega) (by omega)]
            · rw [if_neg c, if_neg c, vo (bm + (16 * i + (j - p1))) (by omega) (by omega)]) hH
          have hx9 := hO9.1
          show jj G kX_beside (d + 9) Q rc rs 211 [some (.ref (oa 0)), some (.int (nI (t))), some (.int (nI (n))), some (.int (nI (m))), some (.ref (oa (13 + n))), some (.ref (oa (13 + m))), some (.int (nI (rr))), (oj)] [] M9
          refine jj_aload_n (pc := 211) kX_beside_d211 rfl ?_
          refine jj_iload_n (pc := 212) kX_beside_d212 rfl ?_
          refine jj_callV (pc := 213) (b := (oa 0)) (As := [.int (nI (t))]) kX_beside_d213 (kvX_X_keepDraft hG) (kG_cl hG rfl) rfl hx9 rfl rfl rfl (Nat.le_of_ble_eq_true rfl) (Nat.le_of_ble_eq_true rfl) (jj_bare0 rfl) ?_
          refine x_keepDraft hG hJ hS9 hO9 (q := (fun t => if t % cc < p1 then σ.2.2 n (t / cc * p1 + t % cc) else σ.2.2 m (t / cc * p2 + t % cc - p1))) (by omega) (by omega) (by omega) (by omega) ht (by rw [e8, f8, ← ebd]; exact hNd) hrc hrs (fun Mb Vb hfit hSb hOb hNb vb hFb => ?_) (fun hnf y hy => kt M9 3 6 (Or.inr ⟨t, n, m, ht, rfl, hn, rfl, hm, rfl, Or.inr ⟨by omega, by rw [← ern, ← ecn, ← ecm, ← ecc]; exact Or.inr ⟨by rw [e8, f8] at hnf; exact hnf, rfl, rfl⟩⟩⟩) (by omega) ⟨V9, sc, R1, C1, hS9, hO9, hV.keep (fun p p1 p2 => ov9 p (by omega) p2) (ov9 15 (by omega) (by omega)) (ov9 16 (by omega) (by omega)) rk1⟩ hF9 y hy)
          rw [e8, f8] at hfit hNb
          show jj G kX_beside (d + 9) Q rc rs 216 [some (.ref (oa 0)), some (.int (nI (t))), some (.int (nI (n))), some (.int (nI (m))), some (.ref (oa (13 + n))), some (.ref (oa (13 + m))), some (.int (nI (rr))), (oj)] [] Mb
          exact jj_vret (pc := 216) kX_beside_d216 rfl (kr Mb _ (Or.inr ⟨t, n, m, ht, rfl, hn, rfl, hm, rfl, Or.inr ⟨by omega, by rw [← ern, ← ecn, ← ecm, ← ecc]; exact Or.inl ⟨hfit, rfl, rfl⟩⟩⟩) ⟨Vb, -1, _, _, hSb, hOb, hV.put (n := t) (r := rr) (c := cc) (q := (fun t => if t % cc < p1 then σ.2.2 n (t / cc * p1 + t % cc) else σ.2.2 m (t / cc * p2 + t % cc - p1))) ht (fun p _ _ p3 => by rw [vb p (by omega) p3]; exact ov9 p (by omega) (by omega)) (fun k hk => by show (if k = t then R1 8 else R1 k) = _; rw [e8, (rk1 k hk).1]) (fun k hk => by show (if k = t then C1 8 else C1 k) = _; rw [f8, (rk1 k hk).2]) (by omega) (by omega) (by omega) (by omega) hNb⟩ (hF9.trans hFb))
        | succ mu ih =>
          intro i hk oj M9 V9 hS9 f9 o9 v9
          have hO9 := hO2.ef hJ f9
          have hx9 := hO9.1
          have hMd9 := hO9.dr ebd
          rw [e8, f8] at hMd9
          have hmd9 := hMd9.1
          have hMn9 := hO9.2.2.2.2.2.2.2 n (by omega)
          rw [← ebn, (rk1 n hn).1, (rk1 n hn).2, err, ep1] at hMn9
          have hmn9 := hMn9.1
          have hMm9 := hO9.2.2.2.2.2.2.2 m (by omega)
          rw [← ebm, (rk1 m hm).1, (rk1 m hm).2, ← c1, ep2] at hMm9
          have hmm9 := hMm9.1
          refine jj_iload (pc := 91) kX_beside_d91 rfl ?_
          refine jj_aload (pc := 93) kX_beside_d93 rfl ?_
          refine jj_getf (pc := 95) kX_beside_d95 (kfX_M_rows hG) hmn9 rfl ?_
          refine jn_icmp_ge (pc := 98) (tgt := 211) kX_beside_d98 (by decide) (by omega) (by omega) (fun c => by exfalso; omega) (fun _ => ?_)
          refine jn_iconst (pc := 101) 0 kX_beside_d101 (by decide) ?_
          refine jj_istore (pc := 102) kX_beside_d102 (Nat.le_of_ble_eq_true rfl) ?_
          show jj G kX_beside (d + 9) Q rc rs 104 [some (.ref (oa 0)), some (.int (nI (t))), some (.int (nI (n))), some (.int (nI (m))), some (.ref (oa (13 + n))), some (.ref (oa (13 + m))), some (.int (nI (i))), some (.int (nI (0)))] [] M9
          show jj G kX_beside (d + 9) Q rc rs 104 [some (.ref (oa 0)), some (.int (nI (t))), some (.int (nI (n))), some (.int (nI (m))), some (.ref (oa (13 + n))), some (.ref (oa (13 + m))), some (.int (nI (i))), some (.int (nI (0)))] [] M9
          have inner2 : ∀ mu2 j, p2 = j + mu2 → ∀ (M9 : mheap) (V9 : Nat → Int), KS M9 wa la cap 3122 eu dv hi lo (oa 3) V9 → EF M2 M9 wa la 3122 eu dv hi lo → (∀ p, 10 ≤ p → (∀ i' j', i' < rr → j' < cc → p ≠ (bd + (16 * i' + j'))) → V9 p = Vb p) → (∀ i' j', i' < rr → thru cc i (p1 + j) i' j' → V9 (bd + (16 * i' + j')) = (if j' < p1 then Vb (bn + (16 * i' + j')) * Vb 11 else Vb (bm + (16 * i' + (j' - p1))) * Vb 12)) → jj G kX_beside (d + 9) Q rc rs 153 [some (.ref (oa 0)), some (.int (nI (t))), some (.int (nI (n))), some (.int (nI (m))), some (.ref (oa (13 + n))), some (.ref (oa (13 + m))), some (.int (nI (i))), some (.int (nI (j)))] [] M9 := by
            intro mu2
            induction mu2 with
            | zero =>
              intro j hk2 M9 V9 hS9 f9 o9 v9
              have e9 : p2 = j := by omega
              subst e9
              have hO9 := hO2.ef hJ f9
              have hx9 := hO9.1
              have hMd9 := hO9.dr ebd
              rw [e8, f8] at hMd9
              have hmd9 := hMd9.1
              have hMn9 := hO9.2.2.2.2.2.2.2 n (by omega)
              rw [← ebn, (rk1 n hn).1, (rk1 n hn).2, err, ep1] at hMn9
              have hmn9 := hMn9.1
              have hMm9 := hO9.2.2.2.2.2.2.2 m (by omega)
              rw [← ebm, (rk1 m hm).1, (rk1 m hm).2, ← c1, ep2] at hMm9
              have hmm9 := hMm9.1
              refine jj_iload (pc := 153) kX_beside_d153 rfl ?_
              refine jj_aload (pc := 155) kX_beside_d155 rfl ?_
              refine jj_getf (pc := 157) kX_beside_d157 (kfX_M_columns hG) hmm9 rfl ?_
              refine jn_icmp_ge (pc := 160) (tgt := 205) kX_beside_d160 (by decide) (by omega) (by omega) (fun _ => ?_) (fun c => by exfalso; omega)
              refine jn_iinc (pc := 205) (i + 1) kX_beside_d205 rfl (nI_1 _) ?_
              refine jj_goto (pc := 208) (tgt := 91) kX_beside_d208 (by decide) ?_
              show jj G kX_beside (d + 9) Q rc rs 91 [some (.ref (oa 0)), some (.int (nI (t))), some (.int (nI (n))), some (.int (nI (m))), some (.ref (oa (13 + n))), some (.ref (oa (13 + m))), some (.int (nI (i + 1))), some (.int (nI (p2)))] [] M9
              exact ih (i + 1) (by omega) _ M9 V9 hS9 f9 o9 (fun i' j' h1 h2 => v9 i' j' h1 ((fun h => by unfold thru at h ⊢; omega) h2))
            | succ mu2 ih2 =>
              intro j hk2 M9 V9 hS9 f9 o9 v9
              have hO9 := hO2.ef hJ f9
              have hx9 := hO9.1
              have hMd9 := hO9.dr ebd
              rw [e8, f8] at hMd9
              have hmd9 := hMd9.1
              have hMn9 := hO9.2.2.2.2.2.2.2 n (by omega)
              rw [← ebn, (rk1 n hn).1, (rk1 n hn).2, err, ep1] at hMn9
              have hmn9 := hMn9.1
              have hMm9 := hO9.2.2.2.2.2.2.2 m (by omega)
              rw [← ebm, (rk1 m hm).1, (rk1 m hm).2, ← c1, ep2] at hMm9
              have hmm9 := hMm9.1
              refine jj_iload (pc := 153) kX_beside_d153 rfl ?_
              refine jj_aload (pc := 155) kX_beside_d155 rfl ?_
              refine jj_getf (pc := 157) kX_beside_d157 (kfX_M_columns hG) hmm9 rfl ?_
              refine jn_icmp_ge (pc := 160) (tgt := 205) kX_beside_d160 (by decide) (by omega) (by omega) (fun c => by exfalso; omega) (fun _ => ?_)
              have vs : V9 (bm + (16 * i + j)) = Vb (bm + (16 * i + j)) := o9 _ (by omega) (fun i' j' h1 h2 => by omega)
              have vf : V9 12 = Vb 12 := o9 _ (by omega) (fun i' j' h1 h2 => by omega)
              have ls9 := l1 (bm + (16 * i + j)) (by omega) (by omega)
              have hdk9 := hS9.2.2
              obtain ⟨T9, t9, hT9, _, _⟩ := hS9.1 (bd + (16 * i + (p1 + j))) (by omega)
              refine jj_aload_n (pc := 163) kX_beside_d163 rfl ?_
              refine jj_getf (pc := 164) kX_beside_d164 (kfX_draft hG) hx9 rfl ?_
              refine jj_iload (pc := 167) kX_beside_d167 rfl ?_
              refine jj_aload (pc := 169) kX_beside_d169 rfl ?_
              refine jj_getf (pc := 171) kX_beside_d171 (kfX_M_columns hG) hmn9 rfl ?_
              refine jj_iload (pc := 174) kX_beside_d174 rfl ?_
              refine jn_iadd (pc := 176) (p1 + j) kX_beside_d176 (by omega) ?_
              refine jj_callV (pc := 177) (b := (oa 21)) (As := [.int (nI (i)), .int (nI (p1 + j))]) kX_beside_d177 (kvX_M_at hG) (kG_cl hG rfl) rfl hmd9 rfl rfl rfl (Nat.le_of_ble_eq_true rfl) (Nat.le_of_ble_eq_true rfl) (jj_bare0 rfl) ?_
              refine m_at hG hMd9 (by omega) (by omega) ?_
              show jj G kX_beside (d + 9) Q rc rs 180 [some (.ref (oa 0)), some (.int (nI (t))), some (.int (nI (n))), some (.int (nI (m))), some (.ref (oa (13 + n))), some (.ref (oa (13 + m))), some (.int (nI (i))), some (.int (nI (j)))] [.ref (wa (bd + (16 * i + (p1 + j))))] M9
              refine jj_aload (pc := 180) kX_beside_d180 rfl ?_
              refine jj_iload (pc := 182) kX_beside_d182 rfl ?_
              refine jj_iload (pc := 184) kX_beside_d184 rfl ?_
              refine jj_callV (pc := 186) (b := (oa (13 + m))) (As := [.int (nI (i)), .int (nI (j))]) kX_beside_d186 (kvX_M_at hG) (kG_cl hG rfl) rfl hmm9 rfl rfl rfl (Nat.le_of_ble_eq_true rfl) (Nat.le_of_ble_eq_true rfl) (jj_bare0 rfl) ?_
              refine m_at hG hMm9 (by omega) (by omega) ?_
              show jj G kX_beside (d + 9) Q rc rs 189 [some (.ref (oa 0)), some (.int (nI (t))), some (.int (nI (n))), some (.int (nI (m))), some (.ref (oa (13 + n))), some (.ref (oa (13 + m))), some (.int (nI (i))), some (.int (nI (j)))] [.ref (wa (bm + (16 * i + j))), .ref (wa (bd + (16 * i + (p1 + j))))] M9
              refine jj_aload_n (pc := 189) kX_beside_d189 rfl ?_
              refine jj_getf (pc := 190) kX_beside_d190 (kfX_desk hG) hx9 rfl ?_
              refine jj_getf (pc := 193) kX_beside_d193 (kfX_K_rightFactor hG) hdk9 rfl ?_
              refine jj_callV (pc := 196) (b := (wa (bd + (16 * i + (p1 + j))))) (As := [.ref (wa (bm + (16 * i + j))), .ref (wa 12)]) kX_beside_d196 (kvX_W_product hG) (kG_cl hG rfl) rfl hT9 rfl rfl rfl (Nat.le_of_ble_eq_true rfl) (Nat.le_of_ble_eq_true rfl) (jj_bare0 rfl) ?_
              refine w_product hG hI hS9.1 (t := (bd + (16 * i + (p1 + j)))) (u := (bm + (16 * i + j))) (v := 12) (by omega) (by omega) (by omega) (by omega) (by omega) (by rw [hJ.cap252 (by omega) (by omega), vs, vf]; omega) (fun M8 hc8 hw8 => ?_)
              show jj G kX_beside (d + 9) Q rc rs 199 [some (.ref (oa 0)), some (.int (nI (t))), some (.int (nI (n))), some (.int (nI (m))), some (.ref (oa (13 + n))), some (.ref (oa (13 + m))), some (.int (nI (i))), some (.int (nI (j)))] [] M8
              rw [vs, vf] at hc8
              refine jn_iinc (pc := 199) (j + 1) kX_beside_d199 rfl (nI_1 _) ?_
              refine jj_goto (pc := 202) (tgt := 153) kX_beside_d202 (by decide) ?_
              show jj G kX_beside (d + 9) Q rc rs 153 [some (.ref (oa 0)), some (.int (nI (t))), some (.int (nI (n))), some (.int (nI (m))), some (.ref (oa (13 + n))), some (.ref (oa (13 + m))), some (.int (nI (i))), some (.int (nI (j + 1)))] [] M8
              refine ih2 (j + 1) (by omega) M8 _ (hS9.wt hK (by omega) hw8 hc8) (f9.trans (hw8.ef (by omega))) (fun p h1 h2 => by rw [vup_ne _ _ (h2 i (p1 + j) (by omega) (by omega))]; exact o9 p h1 h2) (fun i' j' h1 h2 => ?_)
              by_cases e : i' = i ∧ j' = (p1 + j)
              · rw [e.1, e.2, vup_at]
                rw [if_neg (by omega), Nat.add_sub_cancel_left]
              · have hj9 := h2.1
                rw [vup_ne _ _ (by omega)]
                exact v9 i' j' h1 ((fun h => by unfold thru at h ⊢; omega) h2)
          have inner1 : ∀ mu2 j, p1 = j + mu2 → ∀ (M9 : mheap) (V9 : Nat → Int), KS M9 wa la cap 3122 eu dv hi lo (oa 3) V9 → EF M2 M9 wa la 3122 eu dv hi lo → (∀ p, 10 ≤ p → (∀ i' j', i' < rr → j' < cc → p ≠ (bd + (16 * i' + j'))) → V9 p = Vb p) → (∀ i' j', i' < rr → thru cc i j i' j' → V9 (bd + (16 * i' + j')) = (if j' < p1 then Vb (bn + (16 * i' + j')) * Vb 11 else Vb (bm + (16 * i' + (j' - p1))) * Vb 12)) → jj G kX_beside (d + 9) Q rc rs 104 [some (.ref (oa 0)), some (.int (nI (t))), some (.int (nI (n))), some (.int (nI (m))), some (.ref (oa (13 + n))), some (.ref (oa (13 + m))), some (.int (nI (i))), some (.int (nI (j)))] [] M9 := by
            intro mu2
            induction mu2 with
            | zero =>
              intro j hk2 M9 V9 hS9 f9 o9 v9
              have e9 : p1 = j := by omega
              subst e9
              have hO9 := hO2.ef hJ f9
              have hx9 := hO9.1
              have hMd9 := hO9.dr ebd
              rw [e8, f8] at hMd9
              have hmd9 := hMd9.1
              have hMn9 := hO9.2.2.2.2.2.2.2 n (by omega)
              rw [← ebn, (rk1 n hn).1, (rk1 n hn).2, err, ep1] at hMn9
              have hmn9 := hMn9.1
              have hMm9 := hO9.2.2.2.2.2.2.2 m (by omega)
              rw [← ebm, (rk1 m hm).1, (rk1 m hm).2, ← c1, ep2] at hMm9
              have hmm9 := hMm9.1
              refine jj_iload (pc := 104) kX_beside_d104 rfl ?_
              refine jj_aload (pc := 106) kX_beside_d106 rfl ?_
              refine jj_getf (pc := 108) kX_beside_d108 (kfX_M_columns hG) hmn9 rfl ?_
              refine jn_icmp_ge (pc := 111) (tgt := 150) kX_beside_d111 (by decide) (by omega) (by omega) (fun _ => ?_) (fun c => by exfalso; omega)
              refine jn_iconst (pc := 150) 0 kX_beside_d150 (by decide) ?_
              refine jj_istore (pc := 151) kX_beside_d151 (Nat.le_of_ble_eq_true rfl) ?_
              show jj G kX_beside (d + 9) Q rc rs 153 [some (.ref (oa 0)), some (.int (nI (t))), some (.int (nI (n))), some (.int (nI (m))), some (.ref (oa (13 + n))), some (.ref (oa (13 + m))), some (.int (nI (i))), some (.int (nI (0)))] [] M9
              show jj G kX_beside (d + 9) Q rc rs 153 [some (.ref (oa 0)), some (.int (nI (t))), some (.int (nI (n))), some (.int (nI (m))), some (.ref (oa (13 + n))), some (.ref (oa (13 + m))), some (.int (nI (i))), some (.int (nI (0)))] [] M9
              exact inner2 p2 0 (by omega) M9 V9 hS9 f9 o9 v9
            | succ mu2 ih2 =>
              intro j hk2 M9 V9 hS9 f9 o9 v9
              have hO9 := hO2.ef hJ f9
              have hx9 := hO9.1
              have hMd9 := hO9.dr ebd
              rw [e8, f8] at hMd9
              have hmd9 := hMd9.1
              have hMn9 := hO9.2.2.2.2.2.2.2 n (by omega)
              rw [← ebn, (rk1 n hn).1, (rk1 n hn).2, err, ep1] at hMn9
              have hmn9 := hMn9.1
              have hMm9 := hO9.2.2.2.2.2.2.2 m (by omega)
              rw [← ebm, (rk1 m hm).1, (rk1 m hm).2, ← c1, ep2] at hMm9
              have hmm9 := hMm9.1
              refine jj_iload (pc := 104) kX_beside_d104 rfl ?_
              refine jj_aload (pc := 106) kX_beside_d106 rfl ?_
              refine jj_getf (pc := 108) kX_beside_d108 (kfX_M_columns hG) hmn9 rfl ?_
              refine jn_icmp_ge (pc := 111) (tgt := 150) kX_beside_d111 (by decide) (by omega) (by omega) (fun c => by exfalso; omega) (fun _ => ?_)
              have vs : V9 (bn + (16 * i + j)) = Vb (bn + (16 * i + j)) := o9 _ (by omega) (fun i' j' h1 h2 => by omega)
              have vf : V9 11 = Vb 11 := o9 _ (by omega) (fun i' j' h1 h2 => by omega)
              have ls9 := l1 (bn + (16 * i + j)) (by omega) (by omega)
              have hdk9 := hS9.2.2
              obtain ⟨T9, t9, hT9, _, _⟩ := hS9.1 (bd + (16 * i + j)) (by omega)
              refine jj_aload_n (pc := 114) kX_beside_d114 rfl ?_
              refine jj_getf (pc := 115) kX_beside_d115 (kfX_draft hG) hx9 rfl ?_
              refine jj_iload (pc := 118) kX_beside_d118 rfl ?_
              refine jj_iload (pc := 120) kX_beside_d120 rfl ?_
              refine jj_callV (pc := 122) (b := (oa 21)) (As := [.int (nI (i)), .int (nI (j))]) kX_beside_d122 (kvX_M_at hG) (kG_cl hG rfl) rfl hmd9 rfl rfl rfl (Nat.le_of_ble_eq_true rfl) (Nat.le_of_ble_eq_true rfl) (jj_bare0 rfl) ?_
              refine m_at hG hMd9 (by omega) (by omega) ?_
              show jj G kX_beside (d + 9) Q rc rs 125 [some (.ref (oa 0)), some (.int (nI (t))), some (.int (nI (n))), some (.int (nI (m))), some (.ref (oa (13 + n))), some (.ref (oa (13 + m))), some (.int (nI (i))), some (.int (nI (j)))] [.ref (wa (bd + (16 * i + j)))] M9
              refine jj_aload (pc := 125) kX_beside_d125 rfl ?_
              refine jj_iload (pc := 127) kX_beside_d127 rfl ?_
              refine jj_iload (pc := 129) kX_beside_d129 rfl ?_
              refine jj_callV (pc := 131) (b := (oa (13 + n))) (As := [.int (nI (i)), .int (nI (j))]) kX_beside_d131 (kvX_M_at hG) (kG_cl hG rfl) rfl hmn9 rfl rfl rfl (Nat.le_of_ble_eq_true rfl) (Nat.le_of_ble_eq_true rfl) (jj_bare0 rfl) ?_
              refine m_at hG hMn9 (by omega) (by omega) ?_
              show jj G kX_beside (d + 9) Q rc rs 134 [some (.ref (oa 0)), some (.int (nI (t))), some (.int (nI (n))), some (.int (nI (m))), some (.ref (oa (13 + n))), some (.ref (oa (13 + m))), some (.int (nI (i))), some (.int (nI (j)))] [.ref (wa (bn + (16 * i + j))), .ref (wa (bd + (16 * i + j)))] M9
              refine jj_aload_n (pc := 134) kX_beside_d134 rfl ?_
              refine jj_getf (pc := 135) kX_beside_d135 (kfX_desk hG) hx9 rfl ?_
              refine jj_getf (pc := 138) kX_beside_d138 (kfX_K_leftFactor hG) hdk9 rfl ?_
              refine jj_callV (pc := 141) (b := (wa (bd + (16 * i + j)))) (As := [.ref (wa (bn + (16 * i + j))), .ref (wa 11)]) kX_beside_d141 (kvX_W_product hG) (kG_cl hG rfl) rfl hT9 rfl rfl rfl (Nat.le_of_ble_eq_true rfl) (Nat.le_of_ble_eq_true rfl) (jj_bare0 rfl) ?_
              refine w_product hG hI hS9.1 (t := (bd + (16 * i + j))) (u := (bn + (16 * i + j))) (v := 11) (by omega) (by omega) (by omega) (by omega) (by omega) (by rw [hJ.cap252 (by omega) (by omega), vs, vf]; omega) (fun M8 hc8 hw8 => ?_)
              show jj G kX_beside (d + 9) Q rc rs 144 [some (.ref (oa 0)), some (.int (nI (t))), some (.int (nI (n))), some (.int (nI (m))), some (.ref (oa (13 + n))), some (.ref (oa (13 + m))), some (.int (nI (i))), some (.int (nI (j)))] [] M8
              rw [vs, vf] at hc8
              refine jn_iinc (pc := 144) (j + 1) kX_beside_d144 rfl (nI_1 _) ?_
              refine jj_goto (pc := 147) (tgt := 104) kX_beside_d147 (by decide) ?_
              show jj G kX_beside (d + 9) Q rc rs 104 [some (.ref (oa 0)), some (.int (nI (t))), some (.int (nI (n))), some (.int (nI (m))), some (.ref (oa (13 + n))), some (.ref (oa (13 + m))), some (.int (nI (i))), some (.int (nI (j + 1)))] [] M8
              refine ih2 (j + 1) (by omega) M8 _ (hS9.wt hK (by omega) hw8 hc8) (f9.trans (hw8.ef (by omega))) (fun p h1 h2 => by rw [vup_ne _ _ (h2 i j (by omega) (by omega))]; exact o9 p h1 h2) (fun i' j' h1 h2 => ?_)
              by_cases e : i' = i ∧ j' = j
              · rw [e.1, e.2, vup_at]
                rw [if_pos (by omega)]
              · have hj9 := h2.1
                rw [vup_ne _ _ (by omega)]
                exact v9 i' j' h1 ((fun h => by unfold thru at h ⊢; omega) h2)
          exact inner1 p1 0 (by omega) M9 V9 hS9 f9 o9 v9
      refine outer rr 0 (by omega) _ M2 Vb hS2 (fun _ _ _ _ _ _ => rfl) (fun _ _ _ => rfl) (fun i' j' _ h => ?_)
      unfold thru at h
      omega
    · skip
      show jj G kX_beside (d + 9) Q rc rs 59 [some (.ref (oa 0)), some (.int (nI (t))), some (.int (nI (n))), some (.int (nI (m))), some (.ref (oa (13 + n))), some (.ref (oa (13 + m))), none, none] [] M
      exact jj_throw (pc := 59) (ll := 2) kX_beside_d59 kX_beside_d62 (Or.inl ⟨kX_beside_d63, rfl⟩) kX_beside_d65 kX_beside_d68 (ktX_more_than_16_columns hG) rfl (Nat.le_of_ble_eq_true rfl) (jj_bare0 rfl) hrc hrs (fun a ha => kt M 3 6 (Or.inr ⟨t, n, m, ht, rfl, hn, rfl, hm, rfl, Or.inr ⟨by omega, Or.inr ⟨fun hf => by have := hf.2.1; omega, rfl, rfl⟩⟩⟩) (by omega) hT (fun _ _ _ => rfl) a ha)
  · skip
    show jj G kX_beside (d + 9) Q rc rs 33 [some (.ref (oa 0)), some (.int (nI (t))), some (.int (nI (n))), some (.int (nI (m))), some (.ref (oa (13 + n))), some (.ref (oa (13 + m))), none, none] [] M
    exact jj_throw (pc := 33) (ll := 2) kX_beside_d33 kX_beside_d36 (Or.inl ⟨kX_beside_d37, rfl⟩) kX_beside_d39 kX_beside_d42 (ktX_not_as_many_rows hG) rfl (Nat.le_of_ble_eq_true rfl) (jj_bare0 rfl) hrc hrs (fun a ha => kt M 2 5 (Or.inr ⟨t, n, m, ht, rfl, hn, rfl, hm, rfl, Or.inl ⟨by omega, rfl, rfl⟩⟩) (by omega) hT (fun _ _ _ => rfl) a ha)
end X9
