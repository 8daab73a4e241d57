/-! ===== ExactForms: set (printed by wip/gen/rX10.py) ===== -/
theorem XO.draft2 {M M' : mheap} {wa la cap oa : Nat → Nat} {eu dv hi lo b r c : Nat} {sc : Int32} {R C : Nat → Nat} (h : XO M wa oa sc R C) (hJ : XJ wa la cap oa eu dv hi lo) (hm : MXT M' wa (oa 21) (oa 30) b r c) (hb : b = 2865) (hf : EFX (fun x => x = oa 21) M M' wa la 3122 eu dv hi lo) : ∃ R' C' : Nat → Nat, XO M' wa oa sc R' C' ∧ R' 8 = r ∧ C' 8 = c ∧ (∀ k, k < 8 → R' k = R k ∧ C' k = C k) ∧ XF oa M M' wa la eu dv hi lo := by
  rw [hb] at hm
  have h1 := h.mx (k := 8) (by omega) hm (fun i hi' hne => hf _ (hJ.ne hi' (by omega) hne) (hJ.2.2.1 i hi'))
  exact ⟨_, _, h1, if_pos rfl, if_pos rfl, fun k hk => ⟨if_neg (by omega), if_neg (by omega)⟩, hf.more (fun x e => ⟨21, by omega, e⟩)⟩
theorem least_le {a b x y : Int} (h : least a b x y) (hb : b ≠ 0) : x.natAbs ≤ a.natAbs ∧ y.natAbs ≤ b.natAbs := by
  obtain ⟨h1, h2, h3⟩ := h
  have e : x.natAbs * b.natAbs = a.natAbs * y.natAbs := by rw [← Int.natAbs_mul, ← Int.natAbs_mul, h2]
  have c1 : Nat.Coprime x.natAbs y.natAbs := h3
  have d1 : x.natAbs ∣ a.natAbs := c1.dvd_of_dvd_mul_right ⟨b.natAbs, by rw [← e]⟩
  have d2 : y.natAbs ∣ b.natAbs := c1.symm.dvd_of_dvd_mul_left ⟨a.natAbs, by rw [e, Nat.mul_comm]⟩
  refine ⟨?_, Nat.le_of_dvd (by omega) d2⟩
  rcases Nat.eq_zero_or_pos a.natAbs with z | z
  · rw [z, Nat.zero_mul] at e
    rcases Nat.mul_eq_zero.mp e with w | w <;> omega
  · exact Nat.le_of_dvd z d1
theorem NRM.oflcm {V : Nat → Int} {b r c : Nat} {q : Nat → Rat} (h0 : 0 < V (b + 256)) (hq : ∀ i j, i < r → j < c → ((V (b + (16 * i + j)) : Int) : Rat) = q (i * c + j) * ((V (b + 256) : Int) : Rat)) (hl : ∀ F : Int, (∀ i j, i < r → j < c → ((q (i * c + j)).den : Int) ∣ F) → V (b + 256) ∣ F) : NRM V b r c q := by
  refine ⟨h0, ⟨by omega, hq⟩, by decide, ⟨_, (Int.one_mul _).symm⟩, fun _ _ _ _ => ⟨_, (Int.one_mul _).symm⟩, fun x x1 x2 => ?_⟩
  obtain ⟨y, hy⟩ := x1
  have x0 : x ≠ 0 := fun e => by rw [e, Int.zero_mul] at hy; omega
  obtain ⟨z, hz⟩ := hl y (fun i j hi hj => by
    obtain ⟨w, hw⟩ := x2 i j (Nat.zero_le _) ⟨hj, Or.inl hi⟩
    refine den_dvd (w := w) ?_
    have e := hq i j hi hj
    rw [hw, hy, Rat.intCast_mul, Rat.intCast_mul] at e
    have n := rat_ne x0
    grind)
  have y0 : y ≠ 0 := fun e => by rw [e, Int.mul_zero] at hy; omega
  refine ⟨z, ?_⟩
  have : y * 1 = y * (x * z) := by rw [Int.mul_one, ← Int.mul_assoc, Int.mul_comm y x, ← hy]; exact hz
  exact Int.eq_of_mul_eq_mul_left y0 this
theorem lcm_dvd' {a b g F : Int} (ha : 0 < a) (hb : 0 < b) (hg : g = sgc a b) (h1 : a ∣ F) (h2 : b ∣ F) : a * b.tdiv g ∣ F := by
  have e : (a * b.tdiv g).natAbs = Nat.lcm a.natAbs b.natAbs := by
    rw [Int.natAbs_mul, Int.natAbs_tdiv, hg]
    show a.natAbs * (b.natAbs / (sgc a b).natAbs) = a.natAbs * b.natAbs / Nat.gcd a.natAbs b.natAbs
    have : (sgc a b).natAbs = Nat.gcd a.natAbs b.natAbs := rfl
    rw [this, Nat.mul_div_assoc _ (Nat.gcd_dvd_right ..)]
  rw [← Int.natAbs_dvd_natAbs, e]
  exact Nat.lcm_dvd (Int.natAbs_dvd_natAbs.mpr h1) (Int.natAbs_dvd_natAbs.mpr h2)
theorem set_nrm {V V' : Nat → Int} {b r c i j : Nat} {q0 q1 : Nat → Rat} {uu ll u0 l0 : Int} (h : NRM V b r c q0) (hi : i < r) (hj : j < c) (hl0 : ll ≠ 0) (hL : least uu ll u0 l0) (e1 : V' (b + 256) = V (b + 256) * l0.tdiv (sgc (V (b + 256)) l0)) (e2 : ∀ i' j', i' < r → j' < c → ¬ (i' = i ∧ j' = j) → V' (b + (16 * i' + j')) = V (b + (16 * i' + j')) * l0.tdiv (sgc (V (b + 256)) l0)) (e3 : V' (b + (16 * i + j)) = u0 * (V (b + 256)).tdiv (sgc (V (b + 256)) l0)) (hq0 : q0 (i * c + j) = 0) (hq1 : q1 (i * c + j) = ((uu : Int) : Rat) / ((ll : Int) : Rat)) (hqo : ∀ i' j', i' < r → j' < c → ¬ (i' = i ∧ j' = j) → q1 (i' * c + j') = q0 (i' * c + j')) : NRM V' b r c q1 := by
  have p0 := h.1
  have pl := hL.1
  have nll := rat_ne hl0
  have hcr : ((uu : Int) : Rat) = q1 (i * c + j) * ((ll : Int) : Rat) := by rw [hq1]; grind
  obtain ⟨n1, n2⟩ := least_rat hL hl0 hcr
  have hm := meet_eq (a := V (b + 256)) (b := l0) p0 rfl
  have hp : 0 < l0.tdiv (sgc (V (b + 256)) l0) := tdiv_pos pl sgc_dvd.2 (sgc_pos p0)
  refine NRM.oflcm (by rw [e1]; exact Int.mul_pos p0 hp) (fun i' j' hi' hj' => ?_) (fun F hF => ?_)
  · by_cases c0 : i' = i ∧ j' = j
    · rw [c0.1, c0.2, e3, e1, hm]
      have hd := (Rat.num_divInt_den (q1 (i * c + j))).symm
      rw [Rat.divInt_eq_div, n1] at hd
      have n3 : ((((q1 (i * c + j)).den : Nat) : Int) : Rat) = ((l0 : Int) : Rat) := by rw [n2]
      rw [n3] at hd
      have nl := rat_ne (show l0 ≠ 0 by omega)
      rw [Rat.intCast_mul, Rat.intCast_mul, hd]
      grind
    · rw [e2 i' j' hi' hj' c0, e1, hqo i' j' hi' hj' c0, Rat.intCast_mul, Rat.intCast_mul, h.2.1.2 i' j' hi' hj']
      grind
  · rw [e1]
    refine lcm_dvd' p0 pl rfl ?_ ?_
    · rw [h.lcm]
      refine lcmf_least ⟨_, (Int.one_mul _).symm⟩ (fun t ht => ?_)
      obtain ⟨i', j', hi', hj', rfl⟩ := dense_of ht
      by_cases c0 : i' = i ∧ j' = j
      · rw [c0.1, c0.2, hq0]
        exact ⟨F, (Int.one_mul F).symm⟩
      · rw [← hqo i' j' hi' hj' c0]
        exact hF i' j' hi' hj'
    · rw [← n2]
      exact hF i j hi hj
theorem dense_inj {c i j i' j' : Nat} (hj : j < c) (hj' : j' < c) (h : i' * c + j' = i * c + j) : i' = i ∧ j' = j := by
  have d1 : (i * c + j) / c = i := by rw [Nat.mul_comm, Nat.mul_add_div (by omega), Nat.div_eq_of_lt hj, Nat.add_zero]
  have d2 : (i * c + j) % c = j := by rw [Nat.mul_comm, Nat.mul_add_mod, Nat.mod_eq_of_lt hj]
  have d3 : (i' * c + j') / c = i' := by rw [Nat.mul_comm, Nat.mul_add_div (by omega), Nat.div_eq_of_lt hj', Nat.add_zero]
  have d4 : (i' * c + j') % c = j' := by rw [Nat.mul_comm, Nat.mul_add_mod, Nat.mod_eq_of_lt hj']
  rw [h] at d3 d4
  omega
theorem NRM.zeroed {V V' : Nat → Int} {b b' r c : Nat} {q q' : Nat → Rat} (h : NRM V b r c q) (h' : NRM V' b' r c q') (hq : ∀ i j, i < r → j < c → q' (i * c + j) = 0 ∨ q' (i * c + j) = q (i * c + j)) : (V' (b' + 256)).natAbs ≤ (V (b + 256)).natAbs ∧ ∀ i j, i < r → j < c → (V' (b' + (16 * i + j))).natAbs ≤ (V (b + (16 * i + j))).natAbs := by
  obtain ⟨e, he⟩ : V' (b' + 256) ∣ V (b + 256) := by
    rw [h.lcm, h'.lcm]
    refine lcmf_least ⟨_, (Int.one_mul _).symm⟩ (fun t ht => ?_)
    obtain ⟨i, j, hi', hj', rfl⟩ := dense_of ht
    rcases hq i j hi' hj' with z | z
    · rw [z]; exact ⟨_, (Int.one_mul _).symm⟩
    · rw [z]; exact lcmf_dvd' (f := fun t => (q t).den) (dense_lt hi' hj')
  have hp := h.1
  have hp' := h'.1
  have he0 : 0 < e := int_pos_of_mul hp' (by rw [← he]; exact hp)
  refine ⟨?_, fun i j hi' hj' => ?_⟩
  · rw [he, Int.natAbs_mul]
    exact Nat.le_mul_of_pos_right _ (by omega)
  · rcases hq i j hi' hj' with z | z
    · have : V' (b' + (16 * i + j)) = 0 := by
        apply Rat.intCast_inj.mp
        rw [h'.2.1.2 i j hi' hj', z]
        show (0 : Rat) * _ = 0
        grind
      rw [this]
      exact Nat.zero_le _
    · have e2 : V (b + (16 * i + j)) = V' (b' + (16 * i + j)) * e := by
        apply Rat.intCast_inj.mp
        rw [Rat.intCast_mul, h.2.1.2 i j hi' hj', h'.2.1.2 i j hi' hj', z, he, Rat.intCast_mul, Rat.mul_assoc]
      rw [e2, Int.natAbs_mul]
      exact Nat.le_mul_of_pos_right _ (by omega)
section X10
variable {G : jg} {d : Nat} {Q : jq} {rc rs : Nat} {M : mheap} {wa la cap oa : Nat → Nat} {eu dv hi lo : Nat} {σ : rst}
theorem xp_set {x y z : Int32} {uu ll : Int64} (hG : kG G) (hJ : XJ wa la cap oa eu dv hi lo) (hT : XT M wa la cap oa eu dv hi lo σ) (hrc : 1 ≤ rc) (hrs : 6 ≤ rs) (kr : ∀ (M' : mheap)  (σ' : rst), semSet σ x y z uu ll 0 σ' → XT M' wa la cap oa eu dv hi lo σ' → XF oa M M' wa la eu dv hi lo → Q (.returned none) M' rc rs) (kt : ∀ (M' : mheap) (cd ci : Nat), semSet σ x y z uu ll cd σ → (cd = 1 ∧ ci = 4 ∨ cd = 2 ∧ ci = 5 ∨ cd = 3 ∧ ci = 6) → XT M' wa la cap oa eu dv hi lo σ → XF oa M M' wa la eu dv hi lo → ∀ x, M' x = none → Q (.threw x) (jj_up M' x (.inl ci, [])) (rc - 1) (rs - 6)) : jj G kX_set (d + 9) Q rc rs 0 (jj_ent [.ref (oa 0), .int x, .int y, .int z, .long uu, .long ll] 9) [] M := by
  obtain ⟨V, sc, R, C, hS, hO, hV⟩ := id hT
  have hK := hJ.1
  have hI := hK.1
  have hx := hO.1
  show jj G kX_set (d + 9) Q rc rs 0 [some (.ref (oa 0)), some (.int (x)), some (.int (y)), some (.int (z)), some (.long (uu)), none, some (.long (ll)), none, none] [] M
  refine jj_aload_n (pc := 0) kX_set_d0 rfl ?_
  refine jj_iload_n (pc := 1) kX_set_d1 rfl ?_
  refine jj_callV (pc := 2) (b := (oa 0)) (As := [.int (x)]) kX_set_d2 (kvX_X_register hG) (kG_cl hG rfl) rfl hx rfl rfl rfl (Nat.le_of_ble_eq_true rfl) (Nat.le_of_ble_eq_true rfl) (jj_bare0 rfl) ?_
  refine x_register hG hO hrc hrs (fun n hn en => ?_) (fun h y hy => kt M 1 4 (Or.inl ⟨fun g => by obtain ⟨k, i, j, h1, h2, _⟩ := g; exact h ⟨k, h1, h2⟩, rfl, rfl⟩) (by omega) hT (fun _ _ _ => rfl) y hy)
  subst en
  show jj G kX_set (d + 9) Q rc rs 5 [some (.ref (oa 0)), some (.int (nI (n))), some (.int (y)), some (.int (z)), some (.long (uu)), none, some (.long (ll)), none, none] [.ref (oa (13 + n))] M
  obtain ⟨ern, ecn, s1n, s2n, s3n, s4n, hNn⟩ := hV.1 n hn
  obtain ⟨bn, ebn⟩ : ∃ b, b = 809 + 257 * n := ⟨_, rfl⟩
  have hMn := hO.2.2.2.2.2.2.2 n (by omega)
  rw [← ebn] at hMn hNn
  have hmn := hMn.1
  refine jj_astore (pc := 5) kX_set_d5 (Nat.le_of_ble_eq_true rfl) ?_
  show jj G kX_set (d + 9) Q rc rs 7 [some (.ref (oa 0)), some (.int (nI (n))), some (.int (y)), some (.int (z)), some (.long (uu)), none, some (.long (ll)), none, some (.ref (oa (13 + n)))] [] M
  refine jj_aload (pc := 7) kX_set_d7 rfl ?_
  refine jj_iload_n (pc := 9) kX_set_d9 rfl ?_
  refine jj_iload_n (pc := 10) kX_set_d10 rfl ?_
  refine jj_callS (pc := 11) (As := [.ref (oa (13 + n)), .int (y), .int (z)]) kX_set_d11 (kvX_X_needCell hG) rfl rfl rfl (Nat.le_of_ble_eq_true rfl) (Nat.le_of_ble_eq_true rfl) (jj_bare0 rfl) ?_
  refine x_needCell hG hMn s2n s4n hrc hrs (fun i j hi' ei hj' ej => ?_) (fun h a ha => kt M 1 4 (Or.inl ⟨fun g => by obtain ⟨k9, i9, j9, q1, q2, q3, q4, q5, q6⟩ := g; have q7 := nI_inj (by omega) (by omega) q2; exact h ⟨i9, j9, by rw [ern, q7]; exact q3, q4, by rw [ecn, q7]; exact q5, q6⟩, rfl, rfl⟩) (by omega) hT (fun _ _ _ => rfl) a ha)
  subst ei ej
  show jj G kX_set (d + 9) Q rc rs 14 [some (.ref (oa 0)), some (.int (nI (n))), some (.int (nI (i))), some (.int (nI (j))), some (.long (uu)), none, some (.long (ll)), none, some (.ref (oa (13 + n)))] [] M
  refine jj_lload (pc := 14) kX_set_d14 rfl ?_
  refine jj_lconst (pc := 16) (v := lN 0) kX_set_d16 (by decide) ?_
  refine jj_lcmp (pc := 17) kX_set_d17 ?_
  refine jj_if_ne (pc := 18) (tgt := 31) kX_set_d18 (by decide) (fun c1 => ?_) (fun c1 => ?_)
  · skip
    have hll : ll ≠ 0 := fun e => c1 ((lg_cmp_eq _ _).mpr e)
    have hl0 : ll.toInt ≠ 0 := fun e => hll (Int64.toInt_inj.mp (by rw [e]; rfl))
    have bu := Int64.toInt_lt uu
    have bu2 := Int64.le_toInt uu
    have bl := Int64.toInt_lt ll
    have bl2 := Int64.le_toInt ll
    obtain ⟨rr, err⟩ : ∃ r, R n = r := ⟨_, rfl⟩
    obtain ⟨cc, ecc⟩ : ∃ c, C n = c := ⟨_, rfl⟩
    rw [err] at ern s1n s2n hi'
    rw [ecc] at ecn s3n s4n hj'
    rw [err, ecc] at hMn hmn hNn
    obtain ⟨bd, ebd⟩ : ∃ b, b = 2865 := ⟨_, rfl⟩
    have hMd := hO.dr ebd
    have hmd := hMd.1
    obtain ⟨q0, hq0⟩ : ∃ q0 : Nat → Rat, q0 = fun t => if t = i * cc + j then 0 else σ.2.2 n t := ⟨_, rfl⟩
    have q0c : q0 (i * cc + j) = 0 := by rw [hq0]; exact if_pos rfl
    have q0o : ∀ i' j', i' < rr → j' < cc → ¬ (i' = i ∧ j' = j) → q0 (i' * cc + j') = σ.2.2 n (i' * cc + j') := fun i' j' _ h2 h3 => by rw [hq0]; exact if_neg (fun e => h3 (dense_inj hj' h2 e))
    obtain ⟨q1, hq1⟩ : ∃ q1 : Nat → Rat, q1 = fun t => if t = i * cc + j then (uu.toInt : Rat) / (ll.toInt : Rat) else σ.2.2 n t := ⟨_, rfl⟩
    have q1c : q1 (i * cc + j) = (uu.toInt : Rat) / (ll.toInt : Rat) := by rw [hq1]; exact if_pos rfl
    have q1o : ∀ i' j', i' < rr → j' < cc → ¬ (i' = i ∧ j' = j) → q1 (i' * cc + j') = q0 (i' * cc + j') := fun i' j' h1 h2 h3 => by rw [q0o i' j' h1 h2 h3, hq1]; exact if_neg (fun e => h3 (dense_inj hj' h2 e))
    have main : ∀ (M2 : mheap) (V2 : Nat → Int) (R1 C1 : Nat → Nat), KS M2 wa la cap 3122 eu dv hi lo (oa 3) V2 → XO M2 wa oa sc R1 C1 → R1 8 = rr → C1 8 = cc → (∀ k, k < 8 → R1 k = R k ∧ C1 k = C k) → NRM V2 bd rr cc q0 → lc (V2 (bd + 256)) ≤ 125 → (∀ i' j', i' < rr → j' < cc → lc (V2 (bd + (16 * i' + j'))) ≤ 125) → (∀ p, 13 ≤ p → p < 2865 → V2 p = V p) → XF oa M M2 wa la eu dv hi lo → jj G kX_set (d + 9) Q rc rs 71 [some (.ref (oa 0)), some (.int (nI (n))), some (.int (nI (i))), some (.int (nI (j))), some (.long (uu)), none, some (.long (ll)), none, some (.ref (oa (13 + n)))] [] M2 := by
      intro M2 V2 R1 C1 hS2 hO2 e8 f8 rk1 hN2 lC lV vo hF2
      have hx2 := hO2.1
      have hMd2 := hO2.dr ebd
      rw [e8, f8] at hMd2
      have hmd2 := hMd2.1
      have hfr := hO2.2.2.2.1
      have c13 : cap 13 = 252 := hJ.2.1 13 (by omega)
      have c14 : cap 14 = 252 := hJ.2.1 14 (by omega)
      have hpC := hN2.1
      obtain ⟨hc0, ⟨r_a, px_a, pf_a, py_a, po_a, ps_a, od_a, hU0⟩, hdk0⟩ := id hS2
      have hf0 : EF M2 M2 wa la 3122 eu dv hi lo := fun _ _ _ _ _ _ => rfl
      obtain ⟨V0, hV0⟩ : ∃ V0, V2 = V0 := ⟨_, rfl⟩
      rw [hV0] at hc0
      have hn0 := hU0.1
      have b_r0 := hn0.2.1
      have b_x0 := hn0.2.2.1
      have b_f0 := hn0.2.2.2.1
      have hdv0 := hU0.2.1
      obtain ⟨ea0, eb0, ec0, ed0, hE0⟩ := hU0.2.2.2
      have hD0 := hdv0.1
      obtain ⟨hIx, hN, hcap, hdi⟩ := id hK
      rw [hV0] at hN2 lC lV vo hpC
      show jj G kX_set (d + 9) Q rc rs 71 [some (.ref (oa 0)), some (.int (nI (n))), some (.int (nI (i))), some (.int (nI (j))), some (.long (uu)), none, some (.long (ll)), none, some (.ref (oa (13 + n)))] [] M2
      obtain ⟨T13_0, t13_0, hT13_0, _, _⟩ := hc0 13 (by omega)
      refine jj_aload_n (pc := 71) kX_set_d71 rfl ?_
      refine jj_getf (pc := 72) kX_set_d72 (kfX_fraction hG) hx2 rfl ?_
      refine jj_getf (pc := 75) kX_set_d75 (kfX_F_upper hG) hfr rfl ?_
      refine jj_lload (pc := 78) kX_set_d78 rfl ?_
      refine jj_callV (pc := 80) (b := (wa 13)) (As := [.long (uu)]) kX_set_d80 (kvX_W_putLong hG) (kG_cl hG rfl) rfl hT13_0 rfl rfl rfl (Nat.le_of_ble_eq_true rfl) (Nat.le_of_ble_eq_true rfl) (jj_bare0 rfl) ?_
      refine w_putLong hG hI hc0 (by omega : 13 < 3122) (by rw [c13]; omega) (fun M1 hcx1 hw1  => ?_) 
      obtain ⟨V1, hV1⟩ : ∃ W, vup V0 13 (uu.toInt) = W := ⟨_, rfl⟩
      have hc1 : CW M1 wa la cap 3122 V1 := by rw [← hV1]; exact hcx1
      have at1 : V1 13 = uu.toInt := by rw [← hV1, vup_at]
      have ot1 : ∀ p, p ≠ 13 → V1 p = V0 p := fun p hp => by rw [← hV1, vup_ne _ _ hp]
      have hU1 := hU0.wt hc0 hdi (by omega) hw1
      have hf1 := hf0.trans (hw1.ef (by omega))
      have q1_oa0 := (hw1.ef (eu := eu) (dv := dv) (hi := hi) (lo := lo) (by omega)).obj hc0 hU0 hx2 (by decide) (by decide) (by decide)
      have q1_oa21 := (hw1.ef (eu := eu) (dv := dv) (hi := hi) (lo := lo) (by omega)).obj hc0 hU0 hmd2 (by decide) (by decide) (by decide)
      have q1_oa11 := (hw1.ef (eu := eu) (dv := dv) (hi := hi) (lo := lo) (by omega)).obj hc0 hU0 hfr (by decide) (by decide) (by decide)
      have q1_oa3 := (hw1.ef (eu := eu) (dv := dv) (hi := hi) (lo := lo) (by omega)).obj hc0 hU0 hdk0 (by decide) (by decide) (by decide)
      have hn1 := hU1.1
      have b_r1 := hn1.2.1
      have b_x1 := hn1.2.2.1
      have b_f1 := hn1.2.2.2.1
      have hdv1 := hU1.2.1
      obtain ⟨ea1, eb1, ec1, ed1, hE1⟩ := hU1.2.2.2
      have hD1 := hdv1.1
      show jj G kX_set (d + 9) Q rc rs 83 [some (.ref (oa 0)), some (.int (nI (n))), some (.int (nI (i))), some (.int (nI (j))), some (.long (uu)), none, some (.long (ll)), none, some (.ref (oa (13 + n)))] [] M1
      obtain ⟨T14_1, t14_1, hT14_1, _, _⟩ := hc1 14 (by omega)
      refine jj_aload_n (pc := 83) kX_set_d83 rfl ?_
      refine jj_getf (pc := 84) kX_set_d84 (kfX_fraction hG) q1_oa0 rfl ?_
      refine jj_getf (pc := 87) kX_set_d87 (kfX_F_lower hG) q1_oa11 rfl ?_
      refine jj_lload (pc := 90) kX_set_d90 rfl ?_
      refine jj_callV (pc := 92) (b := (wa 14)) (As := [.long (ll)]) kX_set_d92 (kvX_W_putLong hG) (kG_cl hG rfl) rfl hT14_1 rfl rfl rfl (Nat.le_of_ble_eq_true rfl) (Nat.le_of_ble_eq_true rfl) (jj_bare0 rfl) ?_
      refine w_putLong hG hI hc1 (by omega : 14 < 3122) (by rw [c14]; omega) (fun M2 hcx2 hw2  => ?_) 
      obtain ⟨V2, hV2⟩ : ∃ W, vup V1 14 (ll.toInt) = W := ⟨_, rfl⟩
      have hc2 : CW M2 wa la cap 3122 V2 := by rw [← hV2]; exact hcx2
      have at2 : V2 14 = ll.toInt := by rw [← hV2, vup_at]
      have ot2 : ∀ p, p ≠ 14 → V2 p = V1 p := fun p hp => by rw [← hV2, vup_ne _ _ hp]
      have hU2 := hU1.wt hc1 hdi (by omega) hw2
      have hf2 := hf1.trans (hw2.ef (by omega))
      have q2_oa0 := (hw2.ef (eu := eu) (dv := dv) (hi := hi) (lo := lo) (by omega)).obj hc1 hU1 q1_oa0 (by decide) (by decide) (by decide)
      have q2_oa21 := (hw2.ef (eu := eu) (dv := dv) (hi := hi) (lo := lo) (by omega)).obj hc1 hU1 q1_oa21 (by decide) (by decide) (by decide)
      have q2_oa11 := (hw2.ef (eu := eu) (dv := dv) (hi := hi) (lo := lo) (by omega)).obj hc1 hU1 q1_oa11 (by decide) (by decide) (by decide)
      have q2_oa3 := (hw2.ef (eu := eu) (dv := dv) (hi := hi) (lo := lo) (by omega)).obj hc1 hU1 q1_oa3 (by decide) (by decide) (by decide)
      have hn2 := hU2.1
      have b_r2 := hn2.2.1
      have b_x2 := hn2.2.2.1
      have b_f2 := hn2.2.2.2.1
      have hdv2 := hU2.2.1
      obtain ⟨ea2, eb2, ec2, ed2, hE2⟩ := hU2.2.2.2
      have hD2 := hdv2.1
      show jj G kX_set (d + 9) Q rc rs 95 [some (.ref (oa 0)), some (.int (nI (n))), some (.int (nI (i))), some (.int (nI (j))), some (.long (uu)), none, some (.long (ll)), none, some (.ref (oa (13 + n)))] [] M2
      have v13 : V2 13 = uu.toInt := by rw [ot2 13 (by omega), at1]
      have big : ∀ z : Int, z < 9223372036854775808 → -9223372036854775808 ≤ z → lc z ≤ 2 := fun z h1 h2 => lc_le (by
        rw [show BB = 4294967296 from rfl]
        omega)
      have hS2a : KS M2 wa la cap 3122 eu dv hi lo (oa 3) V2 := ⟨hc2, ⟨r_a, px_a, pf_a, py_a, po_a, ps_a, od_a, hU2⟩, q2_oa3⟩
      have hfr2 := q2_oa11
      refine jj_aload_n (pc := 95) kX_set_d95 rfl ?_
      refine jj_getf (pc := 96) kX_set_d96 (kfX_fraction hG) q2_oa0 rfl ?_
      refine jj_callV (pc := 99) (b := (oa 11)) (As := []) kX_set_d99 (kvX_F_reduce hG) (kG_cl hG rfl) rfl q2_oa11 rfl rfl rfl (Nat.le_of_ble_eq_true rfl) (Nat.le_of_ble_eq_true rfl) (jj_bare0 rfl) ?_
      refine f_reduce hG hK hS2a hfr2 (by omega) (by omega) (by omega) (by omega) (by omega) c13 c14 (by rw [v13]; have := big _ bu bu2; omega) (by rw [at2]; have := big _ bl bl2; omega) (by rw [at2]; exact hl0) (fun M3 V3 hS3 hl3 ot3 hw3 => ?_) 
      obtain ⟨hc3, ⟨r_3, px_3, pf_3, py_3, po_3, ps_3, od_3, hU3⟩, _⟩ := id hS3
      have hf3 := hf2.trans hw3
      have q3_oa0 := hw3.obj hc2 hU2 q2_oa0 (by decide) (by decide) (by decide)
      have q3_oa21 := hw3.obj hc2 hU2 q2_oa21 (by decide) (by decide) (by decide)
      have q3_oa11 := hw3.obj hc2 hU2 q2_oa11 (by decide) (by decide) (by decide)
      have q3_oa3 := hw3.obj hc2 hU2 q2_oa3 (by decide) (by decide) (by decide)
      have hn3 := hU3.1
      have b_r3 := hn3.2.1
      have b_x3 := hn3.2.2.1
      have b_f3 := hn3.2.2.2.1
      have hdv3 := hU3.2.1
      obtain ⟨ea3, eb3, ec3, ed3, hE3⟩ := hU3.2.2.2
      have hD3 := hdv3.1
      show jj G kX_set (d + 9) Q rc rs 102 [some (.ref (oa 0)), some (.int (nI (n))), some (.int (nI (i))), some (.int (nI (j))), some (.long (uu)), none, some (.long (ll)), none, some (.ref (oa (13 + n)))] [] M3
      rw [v13, at2] at hl3
      obtain ⟨le1, le2⟩ := least_le hl3 hl0
      have l13 : lc (V3 13) ≤ 2 := Nat.le_trans (lc_mono le1) (big _ bu bu2)
      have l14 : lc (V3 14) ≤ 2 := Nat.le_trans (lc_mono le2) (big _ bl bl2)
      have o3 : ∀ p, 15 ≤ p → V3 p = V0 p := fun p h => by rw [ot3 p (by omega) (by omega) (by omega), ot2 p (by omega), ot1 p (by omega)]
      have vC3 : V3 (bd + 256) = V0 (bd + 256) := o3 _ (by omega)
      refine jj_aload_n (pc := 102) kX_set_d102 rfl ?_
      refine jj_getf (pc := 103) kX_set_d103 (kfX_desk hG) q3_oa0 rfl ?_
      refine jj_aload_n (pc := 106) kX_set_d106 rfl ?_
      refine jj_getf (pc := 107) kX_set_d107 (kfX_draft hG) q3_oa0 rfl ?_
      refine jj_getf (pc := 110) kX_set_d110 (kfX_M_common hG) q3_oa21 rfl ?_
      refine jj_aload_n (pc := 113) kX_set_d113 rfl ?_
      refine jj_getf (pc := 114) kX_set_d114 (kfX_fraction hG) q3_oa0 rfl ?_
      refine jj_getf (pc := 117) kX_set_d117 (kfX_F_lower hG) q3_oa11 rfl ?_
      refine jj_callV (pc := 120) (b := (oa 3)) (As := [.ref (wa (bd + 256)), .ref (wa 14)]) kX_set_d120 (kvX_K_meet hG) (kG_cl hG rfl) rfl q3_oa3 rfl rfl rfl (Nat.le_of_ble_eq_true rfl) (Nat.le_of_ble_eq_true rfl) (jj_bare0 rfl) ?_
      refine k_meet hG hK hS3 (u := bd + 256) (v := 14) (g := sgc (V3 (bd + 256)) (V3 14)) (by omega) (by omega) (by omega) (by omega) (by rw [vC3]; omega) (by omega) rfl (fun M4 V4 hS4 v11 v12 ot4 hw4 => ?_) 
      obtain ⟨hc4, ⟨r_4, px_4, pf_4, py_4, po_4, ps_4, od_4, hU4⟩, _⟩ := id hS4
      have hf4 := hf3.trans hw4
      have q4_oa0 := hw4.obj hc3 hU3 q3_oa0 (by decide) (by decide) (by decide)
      have q4_oa21 := hw4.obj hc3 hU3 q3_oa21 (by decide) (by decide) (by decide)
      have q4_oa11 := hw4.obj hc3 hU3 q3_oa11 (by decide) (by decide) (by decide)
      have q4_oa3 := hw4.obj hc3 hU3 q3_oa3 (by decide) (by decide) (by decide)
      have hn4 := hU4.1
      have b_r4 := hn4.2.1
      have b_x4 := hn4.2.2.1
      have b_f4 := hn4.2.2.2.1
      have hdv4 := hU4.2.1
      obtain ⟨ea4, eb4, ec4, ed4, hE4⟩ := hU4.2.2.2
      have hD4 := hdv4.1
      show jj G kX_set (d + 9) Q rc rs 123 [some (.ref (oa 0)), some (.int (nI (n))), some (.int (nI (i))), some (.int (nI (j))), some (.long (uu)), none, some (.long (ll)), none, some (.ref (oa (13 + n)))] [] M4
      rw [vC3] at v11 v12
      have l11 : lc (V4 11) ≤ 2 := by rw [v11]; exact Nat.le_trans (lc_tdiv _ _) l14
      have l12 : lc (V4 12) ≤ 125 := by rw [v12]; exact Nat.le_trans (lc_tdiv _ _) lC
      have o4 : ∀ p, 15 ≤ p → V4 p = V0 p := fun p h => by rw [ot4 p (by omega) (by omega) (by omega)]; exact o3 p h
      have v134 : V4 13 = V3 13 := ot4 13 (by omega) (by omega) (by omega)
      have hMd4 := hMd2.ef hS2 hf4
      have hroom : ∀ p, (p = bd + 256 ∨ ∃ i j, i < rr ∧ j < cc ∧ p = bd + (16 * i + j)) → lc (V4 p) + lc (V4 11) ≤ 252 ∧ (V4 p * V4 11).natAbs < BB ^ cap p := fun p hp => by
        have lp : lc (V4 p) ≤ 125 ∧ bd ≤ p ∧ p ≤ bd + 256 := by
          rcases hp with h | ⟨i', j', h1, h2, h3⟩
          · rw [h, o4 _ (by omega)]; exact ⟨lC, by omega, by omega⟩
          · rw [h3, o4 _ (by omega)]; exact ⟨lV i' j' h1 h2, by omega, by omega⟩
        obtain ⟨la', lb', lc'⟩ := lp
        refine ⟨by omega, ?_⟩
        rw [hJ.cap252 (by omega) (by omega)]
        have := lc_mul (V4 p) (V4 11)
        exact lc_room (by omega)
      refine jj_aload_n (pc := 123) kX_set_d123 rfl ?_
      refine jj_getf (pc := 124) kX_set_d124 (kfX_draft hG) q4_oa0 rfl ?_
      refine jj_aload_n (pc := 127) kX_set_d127 rfl ?_
      refine jj_getf (pc := 128) kX_set_d128 (kfX_desk hG) q4_oa0 rfl ?_
      refine jj_callV (pc := 131) (b := (oa 21)) (As := [.ref (oa 3)]) kX_set_d131 (kvX_M_scale hG) (kG_cl hG rfl) rfl q4_oa21 rfl rfl rfl (Nat.le_of_ble_eq_true rfl) (Nat.le_of_ble_eq_true rfl) (jj_bare0 rfl) ?_
      refine m_scale hG hK hS4 hMd4 (by omega) (by omega) (by omega) (by omega) hroom (fun M5 V5 hS5 hM5 sC sV so hw5 => ?_) 
      obtain ⟨hc5, ⟨r_5, px_5, pf_5, py_5, po_5, ps_5, od_5, hU5⟩, _⟩ := id hS5
      have hf5 := hf4.trans hw5
      have q5_oa0 := hw5.obj hc4 hU4 q4_oa0 (by decide) (by decide) (by decide)
      have q5_oa21 := hw5.obj hc4 hU4 q4_oa21 (by decide) (by decide) (by decide)
      have q5_oa11 := hw5.obj hc4 hU4 q4_oa11 (by decide) (by decide) (by decide)
      have q5_oa3 := hw5.obj hc4 hU4 q4_oa3 (by decide) (by decide) (by decide)
      have hn5 := hU5.1
      have b_r5 := hn5.2.1
      have b_x5 := hn5.2.2.1
      have b_f5 := hn5.2.2.2.1
      have hdv5 := hU5.2.1
      obtain ⟨ea5, eb5, ec5, ed5, hE5⟩ := hU5.2.2.2
      have hD5 := hdv5.1
      show jj G kX_set (d + 9) Q rc rs 134 [some (.ref (oa 0)), some (.int (nI (n))), some (.int (nI (i))), some (.int (nI (j))), some (.long (uu)), none, some (.long (ll)), none, some (.ref (oa (13 + n)))] [] M5
      have v135 : V5 13 = V3 13 := by rw [so 13 (by omega) (by omega) (fun i' j' _ _ => by omega)]; exact v134
      have v125 : V5 12 = V4 12 := so 12 (by omega) (by omega) (fun i' j' _ _ => by omega)
      refine jj_aload_n (pc := 134) kX_set_d134 rfl ?_
      refine jj_getf (pc := 135) kX_set_d135 (kfX_draft hG) q5_oa0 rfl ?_
      refine jj_iload_n (pc := 138) kX_set_d138 rfl ?_
      refine jj_iload_n (pc := 139) kX_set_d139 rfl ?_
      refine jj_callV (pc := 140) (b := (oa 21)) (As := [.int (nI (i)), .int (nI (j))]) kX_set_d140 (kvX_M_at hG) (kG_cl hG rfl) rfl q5_oa21 rfl rfl rfl (Nat.le_of_ble_eq_true rfl) (Nat.le_of_ble_eq_true rfl) (jj_bare0 rfl) ?_
      refine m_at hG hM5 (by omega) (by omega) ?_
      show jj G kX_set (d + 9) Q rc rs 143 [some (.ref (oa 0)), some (.int (nI (n))), some (.int (nI (i))), some (.int (nI (j))), some (.long (uu)), none, some (.long (ll)), none, some (.ref (oa (13 + n)))] [.ref (wa (bd + (16 * i + j)))] M5
      obtain ⟨Tbd16ij_5, tbd16ij_5, hTbd16ij_5, _, _⟩ := hc5 (bd + (16 * i + j)) (by omega)
      refine jj_aload_n (pc := 143) kX_set_d143 rfl ?_
      refine jj_getf (pc := 144) kX_set_d144 (kfX_fraction hG) q5_oa0 rfl ?_
      refine jj_getf (pc := 147) kX_set_d147 (kfX_F_upper hG) q5_oa11 rfl ?_
      refine jj_aload_n (pc := 150) kX_set_d150 rfl ?_
      refine jj_getf (pc := 151) kX_set_d151 (kfX_desk hG) q5_oa0 rfl ?_
      refine jj_getf (pc := 154) kX_set_d154 (kfX_K_rightFactor hG) q5_oa3 rfl ?_
      refine jj_callV (pc := 157) (b := (wa (bd + (16 * i + j)))) (As := [.ref (wa 13), .ref (wa 12)]) kX_set_d157 (kvX_W_product hG) (kG_cl hG rfl) rfl hTbd16ij_5 rfl rfl rfl (Nat.le_of_ble_eq_true rfl) (Nat.le_of_ble_eq_true rfl) (jj_bare0 rfl) ?_
      refine w_product hG hI hc5 (by omega : (bd + (16 * i + j)) < 3122) (by omega) (by omega) (by omega) (by omega) (by rw [hJ.cap252 (by omega) (by omega), v135, v125]; omega) (fun M6 hcx6 hw6  => ?_) 
      obtain ⟨V6, hV6⟩ : ∃ W, vup V5 (bd + (16 * i + j)) (V5 13 * V5 12) = W := ⟨_, rfl⟩
      have hc6 : CW M6 wa la cap 3122 V6 := by rw [← hV6]; exact hcx6
      have at6 : V6 (bd + (16 * i + j)) = V5 13 * V5 12 := by rw [← hV6, vup_at]
      have ot6 : ∀ p, p ≠ (bd + (16 * i + j)) → V6 p = V5 p := fun p hp => by rw [← hV6, vup_ne _ _ hp]
      have hU6 := hU5.wt hc5 hdi (by omega) hw6
      have hf6 := hf5.trans (hw6.ef (by omega))
      have q6_oa0 := (hw6.ef (eu := eu) (dv := dv) (hi := hi) (lo := lo) (by omega)).obj hc5 hU5 q5_oa0 (by decide) (by decide) (by decide)
      have q6_oa21 := (hw6.ef (eu := eu) (dv := dv) (hi := hi) (lo := lo) (by omega)).obj hc5 hU5 q5_oa21 (by decide) (by decide) (by decide)
      have q6_oa11 := (hw6.ef (eu := eu) (dv := dv) (hi := hi) (lo := lo) (by omega)).obj hc5 hU5 q5_oa11 (by decide) (by decide) (by decide)
      have q6_oa3 := (hw6.ef (eu := eu) (dv := dv) (hi := hi) (lo := lo) (by omega)).obj hc5 hU5 q5_oa3 (by decide) (by decide) (by decide)
      have hn6 := hU6.1
      have b_r6 := hn6.2.1
      have b_x6 := hn6.2.2.1
      have b_f6 := hn6.2.2.2.1
      have hdv6 := hU6.2.1
      obtain ⟨ea6, eb6, ec6, ed6, hE6⟩ := hU6.2.2.2
      have hD6 := hdv6.1
      show jj G kX_set (d + 9) Q rc rs 160 [some (.ref (oa 0)), some (.int (nI (n))), some (.int (nI (i))), some (.int (nI (j))), some (.long (uu)), none, some (.long (ll)), none, some (.ref (oa (13 + n)))] [] M6
      have hN6 : NRM V6 bd rr cc q1 := by
        refine set_nrm hN2 hi' hj' hl0 hl3 ?_ (fun i' j' h1 h2 h3 => ?_) ?_ q0c q1c q1o
        · rw [ot6 _ (by omega), sC, o4 _ (by omega), v11]
        · rw [ot6 _ (by omega), sV i' j' h1 h2, o4 _ (by omega), v11]
        · rw [at6, v135, v125, v12]
      have ov6 : ∀ p, 15 ≤ p → p < 2865 → V6 p = V p := fun p h1 h2 => by rw [ot6 p (by omega), so p (by omega) (by omega) (fun i' j' _ _ => by omega), o4 p h1]; exact vo p (by omega) h2
      have hO6 := hO2.ef hJ hf6
      have hx6 := hO6.1
      have hF6 := hF2.trans (hf6.efx (X := XAD oa))
      have hS6 : KS M6 wa la cap 3122 eu dv hi lo (oa 3) V6 := ⟨hc6, ⟨r_5, px_5, pf_5, py_5, po_5, ps_5, od_5, hU6⟩, q6_oa3⟩
      show jj G kX_set (d + 9) Q rc rs 160 [some (.ref (oa 0)), some (.int (nI (n))), some (.int (nI (i))), some (.int (nI (j))), some (.long (uu)), none, some (.long (ll)), none, some (.ref (oa (13 + n)))] [] M6
      refine jj_aload_n (pc := 160) kX_set_d160 rfl ?_
      refine jj_iload_n (pc := 161) kX_set_d161 rfl ?_
      refine jj_callV (pc := 162) (b := (oa 0)) (As := [.int (nI (n))]) kX_set_d162 (kvX_X_keepDraft hG) (kG_cl hG rfl) rfl hx6 rfl rfl rfl (Nat.le_of_ble_eq_true rfl) (Nat.le_of_ble_eq_true rfl) (jj_bare0 rfl) ?_
      refine x_keepDraft hG hJ hS6 hO6 (q := q1) (by omega) (by omega) (by omega) (by omega) hn (by rw [e8, f8, ← ebd]; exact hN6) hrc hrs (fun Mb Vb hfit hSb hOb hNb vb hFb => ?_) (fun hnf y hy => kt M6 3 6 (Or.inr ⟨n, i, j, hn, rfl, by omega, rfl, by omega, rfl, Or.inr ⟨hll, by rw [← ern, ← ecn, ← hq1]; exact Or.inr ⟨by rw [e8, f8] at hnf; exact hnf, rfl, rfl⟩⟩⟩) (by omega) ⟨V6, sc, R1, C1, hS6, hO6, hV.keep (fun p p1 p2 => ov6 p (by omega) p2) (ov6 15 (by omega) (by omega)) (ov6 16 (by omega) (by omega)) rk1⟩ hF6 y hy)
      rw [e8, f8] at hfit hNb
      show jj G kX_set (d + 9) Q rc rs 165 [some (.ref (oa 0)), some (.int (nI (n))), some (.int (nI (i))), some (.int (nI (j))), some (.long (uu)), none, some (.long (ll)), none, some (.ref (oa (13 + n)))] [] Mb
      exact jj_vret (pc := 165) kX_set_d165 rfl (kr Mb _ (Or.inr ⟨n, i, j, hn, rfl, by omega, rfl, by omega, rfl, Or.inr ⟨hll, by rw [← ern, ← ecn, ← hq1]; exact Or.inl ⟨hfit, rfl, rfl⟩⟩⟩) ⟨Vb, -1, _, _, hSb, hOb, hV.put (n := n) (r := rr) (c := cc) (q := q1) hn (fun p _ _ p3 => by rw [vb p (by omega) p3]; exact ov6 p (by omega) (by omega)) (fun k hk => by show (if k = n then R1 8 else R1 k) = _; rw [e8, (rk1 k hk).1]) (fun k hk => by show (if k = n then C1 8 else C1 k) = _; rw [f8, (rk1 k hk).2]) (by omega) (by omega) (by omega) (by omega) hNb⟩ (hF6.trans hFb))
    show jj G kX_set (d + 9) Q rc rs 31 [some (.ref (oa 0)), some (.int (nI (n))), some (.int (nI (i))), some (.int (nI (j))), some (.long (uu)), none, some (.long (ll)), none, some (.ref (oa (13 + n)))] [] M
    refine jj_aload_n (pc := 31) kX_set_d31 rfl ?_
    refine jj_getf (pc := 32) kX_set_d32 (kfX_draft hG) hx rfl ?_
    refine jj_aload (pc := 35) kX_set_d35 rfl ?_
    have l1 : ∀ p, bn ≤ p → p ≤ bn + 256 → lc (V p) ≤ 125 := fun p _ _ => by
      have := hS.1.lc (p := p) (by omega)
      rw [hJ.cap125 (by omega) (by omega)] at this
      exact this
    have hroom9 : ∀ p, (p = 256 ∨ ∃ i j, i < rr ∧ j < cc ∧ p = 16 * i + j) → (V (bn + p)).natAbs < BB ^ cap (bd + p) := fun p hp => by
      have h9 : p ≤ 256 := by rcases hp with h | ⟨i, j, h1, h2, h3⟩ <;> omega
      rw [hJ.cap252 (by omega) (by omega)]
      exact lc_room (Nat.le_trans (l1 _ (by omega) (by omega)) (by omega))
    refine jj_callV (pc := 37) (b := (oa 21)) (As := [.ref (oa (13 + n))]) kX_set_d37 (kvX_M_copy hG) (kG_cl hG rfl) rfl hmd rfl rfl rfl (Nat.le_of_ble_eq_true rfl) (Nat.le_of_ble_eq_true rfl) (jj_bare0 rfl) ?_
    refine m_copy hG hK hS hMd (by omega) (by omega) s2n s4n hMn (by omega) (by omega) (by omega) hroom9 (fun M1 V1 hS1 hM1 v1 v2 vo f1 => ?_)
    obtain ⟨R1, C1, hO1, e8, f8, rk1, hF1⟩ := hO.draft2 hJ hM1 ebd (fun x hx f => f1 x f.1 f.2.1 f.2.2.1 f.2.2.2.1 f.2.2.2.2 hx)
    have hx1 := hO1.1
    have hm1 := hM1.1
    have hc1 := hS1.1
    have vo1 : ∀ p, 13 ≤ p → p < 2865 → V1 p = V p := fun p h1 h2 => vo p (by omega) (by omega) (fun i' j' _ _ => by omega)
    have lC1 : lc (V1 (bd + 256)) ≤ 125 := by rw [v1]; exact l1 _ (by omega) (by omega)
    have lV1 : ∀ i' j', i' < rr → j' < cc → lc (V1 (bd + (16 * i' + j'))) ≤ 125 := fun i' j' h1 h2 => by rw [v2 i' j' h1 h2]; exact l1 _ (by omega) (by omega)
    show jj G kX_set (d + 9) Q rc rs 40 [some (.ref (oa 0)), some (.int (nI (n))), some (.int (nI (i))), some (.int (nI (j))), some (.long (uu)), none, some (.long (ll)), none, some (.ref (oa (13 + n)))] [] M1
    refine jj_aload_n (pc := 40) kX_set_d40 rfl ?_
    refine jj_getf (pc := 41) kX_set_d41 (kfX_draft hG) hx1 rfl ?_
    refine jj_iload_n (pc := 44) kX_set_d44 rfl ?_
    refine jj_iload_n (pc := 45) kX_set_d45 rfl ?_
    refine jj_callV (pc := 46) (b := (oa 21)) (As := [.int (nI (i)), .int (nI (j))]) kX_set_d46 (kvX_M_at hG) (kG_cl hG rfl) rfl hm1 rfl rfl rfl (Nat.le_of_ble_eq_true rfl) (Nat.le_of_ble_eq_true rfl) (jj_bare0 rfl) ?_
    refine m_at hG hM1 (by omega) (by omega) ?_
    show jj G kX_set (d + 9) Q rc rs 49 [some (.ref (oa 0)), some (.int (nI (n))), some (.int (nI (i))), some (.int (nI (j))), some (.long (uu)), none, some (.long (ll)), none, some (.ref (oa (13 + n)))] [.ref (wa (bd + (16 * i + j)))] M1
    obtain ⟨Tn101, tn101, hTn101, _, _, hZn101⟩ := hc1 (bd + (16 * i + j)) (by omega)
    have eZn101 := hZn101.cnt
    subst eZn101
    have bZn101 := hc1.lc (p := (bd + (16 * i + j))) (by omega)
    have bYn101 := hI.2.2 (bd + (16 * i + j)) (by omega)
    refine jj_getf (pc := 49) kX_set_d49 (kfX_W_count hG) hTn101 rfl ?_
    refine jn_if_le (pc := 52) (tgt := 71) kX_set_d52 (by decide) (by omega) (fun c2 => ?_) (fun c2 => ?_)
    · skip
      show jj G kX_set (d + 9) Q rc rs 71 [some (.ref (oa 0)), some (.int (nI (n))), some (.int (nI (i))), some (.int (nI (j))), some (.long (uu)), none, some (.long (ll)), none, some (.ref (oa (13 + n)))] [] M1
      have hz : V1 (bd + (16 * i + j)) = 0 := lc_nil (by omega)
      refine main M1 V1 R1 C1 hS1 hO1 e8 f8 rk1 (hNn.congr v1 v2 (fun t ht => ?_)) lC1 lV1 vo1 hF1
      obtain ⟨i', j', h1, h2, rfl⟩ := dense_of ht
      by_cases e : i' = i ∧ j' = j
      · rw [e.1, e.2, q0c]
        have q := hNn.2.1.2 i j hi' hj'
        rw [← v2 i j hi' hj', hz] at q
        have nz := rat_ne hNn.2.1.1
        have q' : σ.2.2 n (i * cc + j) * ((V (bn + 256) : Int) : Rat) = 0 := by rw [← q]; rfl
        grind
      · exact q0o i' j' h1 h2 e
    · skip
      refine jj_aload_n (pc := 55) kX_set_d55 rfl ?_
      refine jj_getf (pc := 56) kX_set_d56 (kfX_draft hG) hx1 rfl ?_
      refine jj_iload_n (pc := 59) kX_set_d59 rfl ?_
      refine jj_iload_n (pc := 60) kX_set_d60 rfl ?_
      refine jj_callV (pc := 61) (b := (oa 21)) (As := [.int (nI (i)), .int (nI (j))]) kX_set_d61 (kvX_M_at hG) (kG_cl hG rfl) rfl hm1 rfl rfl rfl (Nat.le_of_ble_eq_true rfl) (Nat.le_of_ble_eq_true rfl) (jj_bare0 rfl) ?_
      refine m_at hG hM1 (by omega) (by omega) ?_
      show jj G kX_set (d + 9) Q rc rs 64 [some (.ref (oa 0)), some (.int (nI (n))), some (.int (nI (i))), some (.int (nI (j))), some (.long (uu)), none, some (.long (ll)), none, some (.ref (oa (13 + n)))] [.ref (wa (bd + (16 * i + j)))] M1
      refine jj_callV (pc := 64) (b := (wa (bd + (16 * i + j)))) (As := []) kX_set_d64 (kvX_W_putZero hG) (kG_cl hG rfl) rfl hTn101 rfl rfl rfl (Nat.le_of_ble_eq_true rfl) (Nat.le_of_ble_eq_true rfl) (jj_bare0 rfl) ?_
      refine w_putZero hG hI hc1 (t := (bd + (16 * i + j))) (by omega) (fun M3 hc3 hw3 => ?_)
      have hS3 := hS1.wt hK (by omega) hw3 hc3
      have hw3e : EF M1 M3 wa la 3122 eu dv hi lo := hw3.ef (by omega)
      have hO3 := hO1.ef hJ hw3e
      have hx3 := hO3.1
      have hH : HAS (vup V1 (bd + (16 * i + j)) 0) 2865 (R1 8) (C1 8) q0 := by
        rw [e8, f8, ← ebd]
        have hC3 : vup V1 (bd + (16 * i + j)) 0 (bd + 256) = V (bn + 256) := by rw [vup_ne _ _ (by omega), v1]
        refine ⟨by rw [hC3]; exact hNn.2.1.1, fun i' j' h1 h2 => ?_⟩
        rw [hC3]
        by_cases e : i' = i ∧ j' = j
        · rw [e.1, e.2, vup_at, q0c]
          show (0 : Rat) = _
          grind
        · rw [vup_ne _ _ (by omega), v2 i' j' h1 h2, q0o i' j' h1 h2 e]
          exact hNn.2.1.2 i' j' h1 h2
      show jj G kX_set (d + 9) Q rc rs 67 [some (.ref (oa 0)), some (.int (nI (n))), some (.int (nI (i))), some (.int (nI (j))), some (.long (uu)), none, some (.long (ll)), none, some (.ref (oa (13 + n)))] [] M3
      refine jj_aload_n (pc := 67) kX_set_d67 rfl ?_
      refine jj_callV (pc := 68) (b := (oa 0)) (As := []) kX_set_d68 (kvX_X_reduceDraft hG) (kG_cl hG rfl) rfl hx3 rfl rfl rfl (Nat.le_of_ble_eq_true rfl) (Nat.le_of_ble_eq_true rfl) (jj_bare0 rfl) ?_
      refine x_reduceDraft hG hJ hS3 hO3 (by omega) (by omega) (by omega) (by omega) hH (fun Ma Va hSa hOa hNa va wa9 => ?_)
      show jj G kX_set (d + 9) Q rc rs 71 [some (.ref (oa 0)), some (.int (nI (n))), some (.int (nI (i))), some (.int (nI (j))), some (.long (uu)), none, some (.long (ll)), none, some (.ref (oa (13 + n)))] [] Ma
      rw [e8, f8, ← ebd] at hNa
      refine main Ma Va R1 C1 hSa hOa e8 f8 rk1 hNa ?_ (fun i' j' h1 h2 => ?_) (fun p h1 h2 => by rw [va p h1 h2, vup_ne _ _ (by omega)]; exact vo1 p h1 h2) ((hF1.trans (hw3e.efx (X := XAD oa))).trans wa9.efx)
      · refine Nat.le_trans (lc_mono ?_) (l1 (bn + 256) (by omega) (by omega))
        exact (NRM.zeroed hNn hNa (fun i' j' h1 h2 => by
          by_cases e : i' = i ∧ j' = j
          · rw [e.1, e.2]; exact Or.inl q0c
          · exact Or.inr (q0o i' j' h1 h2 e))).1
      · refine Nat.le_trans (lc_mono ?_) (l1 (bn + (16 * i' + j')) (by omega) (by omega))
        exact (NRM.zeroed hNn hNa (fun i' j' h1 h2 => by
          by_cases e : i' = i ∧ j' = j
          · rw [e.1, e.2]; exact Or.inl q0c
          · exact Or.inr (q0o i' j' h1 h2 e))).2 i' j' h1 h2
  · skip
    have hl0 : ll = 0 := (lg_cmp_eq _ _).mp c1
    exact jj_throw (pc := 21) (ll := 2) kX_set_d21 kX_set_d24 (Or.inl ⟨kX_set_d25, rfl⟩) kX_set_d27 kX_set_d30 (ktX_the_lower_part_is_0 hG) rfl (Nat.le_of_ble_eq_true rfl) (jj_bare0 rfl) hrc hrs (fun a ha => kt M 2 5 (Or.inr ⟨n, i, j, hn, rfl, by omega, rfl, by omega, rfl, Or.inl ⟨hl0, rfl, rfl⟩⟩) (by omega) hT (fun _ _ _ => rfl) a ha)
end X10
