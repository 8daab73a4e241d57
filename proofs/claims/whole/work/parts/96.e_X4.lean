/-! ===== ExactForms: size, sign, same, shownPart, length, limb (printed by wip/gen/rX4.py) ===== -/
theorem least_rat {a b x y : Int} {q : Rat} (h : least a b x y) (hb : b ≠ 0) (hq : ((a : Int) : Rat) = q * ((b : Int) : Rat)) : q.num = x ∧ (q.den : Int) = y := by
  obtain ⟨h1, h2, h3⟩ := h
  have nb := rat_ne hb
  have ny := rat_ne (show y ≠ 0 by omega)
  have e : q = Rat.divInt x y := by
    rw [Rat.divInt_eq_div]
    have : ((x * b : Int) : Rat) = ((a * y : Int) : Rat) := by rw [h2]
    rw [Rat.intCast_mul, Rat.intCast_mul, hq] at this
    generalize ((x : Int) : Rat) = x' at *
    generalize ((b : Int) : Rat) = b' at *
    generalize ((y : Int) : Rat) = y' at *
    grind
  have g1 : (Int.gcd x y : Int) = 1 := by
    have : Int.gcd x y = 1 := h3
    rw [this]; rfl
  obtain ⟨d1, d2⟩ := divInt_pos (u := x) h1
  rw [g1, Int.ediv_one] at d1 d2
  rw [e]
  exact ⟨d1, d2⟩
theorem lcmf_cong {z : Int} {f g : Nat → Nat} : ∀ {n : Nat}, (∀ i, i < n → f i = g i) → lcmf z f n = lcmf z g n
  | 0, _ => rfl
  | n + 1, h => by
    show (Int.lcm (lcmf z f n) (f n : Int) : Int) = (Int.lcm (lcmf z g n) (g n : Int) : Int)
    rw [lcmf_cong (fun i hi => h i (by omega)), h n (by omega)]
theorem NRM.same {V V' : Nat → Int} {b b' r c : Nat} {q q' : Nat → Rat} (h : NRM V b r c q) (h' : NRM V' b' r c q') : (V (b + 256) = V' (b' + 256) ∧ ∀ i j, i < r → j < c → V (b + (16 * i + j)) = V' (b' + (16 * i + j))) ↔ ∀ t, t < r * c → q t = q' t := by
  constructor
  · intro ⟨e1, e2⟩ t ht
    obtain ⟨i, j, hi, hj, rfl⟩ := dense_of ht
    have x1 := h.2.1.2 i j hi hj
    have x2 := h'.2.1.2 i j hi hj
    rw [← e2 i j hi hj, ← e1] at x2
    have n := rat_ne h.2.1.1
    grind
  · intro e
    have hl : V (b + 256) = V' (b' + 256) := by
      rw [h.lcm, h'.lcm]
      exact lcmf_cong (fun t ht => by rw [e t ht])
    refine ⟨hl, fun i j hi hj => ?_⟩
    rw [h.cell hi hj, h'.cell hi hj, ← h.lcm, ← h'.lcm, hl, e _ (dense_lt hi hj)]
theorem sgn_cell {V : Nat → Int} {b r c : Nat} {q : Nat → Rat} (h : NRM V b r c q) {i j : Nat} (hi : i < r) (hj : j < c) : sgnv (q (i * c + j)).num = sgnv (V (b + (16 * i + j))) := by
  have hD0 : 0 < lcmf 1 (fun t => (q t).den) (r * c) := lcmf_pos (by decide) (fun t _ => (q t).den_pos)
  obtain ⟨e, he⟩ : ((q (i * c + j)).den : Int) ∣ lcmf 1 (fun t => (q t).den) (r * c) := lcmf_dvd' (f := fun t => (q t).den) (dense_lt hi hj)
  have hd := den_pos_int (q (i * c + j))
  have h1 := h.cell hi hj
  rw [he, Int.mul_ediv_cancel_left _ (by omega)] at h1
  have he1 : 0 < e := int_pos_of_mul hd (by rw [← he]; exact hD0)
  rw [h1]
  generalize (q (i * c + j)).num = n
  unfold sgnv
  rcases (show n < 0 ∨ n = 0 ∨ 0 < n by omega) with g | g | g
  · have := Int.mul_neg_of_pos_of_neg he1 g
    rw [if_pos g, if_pos this]
  · rw [g, Int.mul_zero]
  · have := Int.mul_pos he1 g
    rw [if_neg (by omega), if_pos g, if_neg (by omega), if_pos this]
section X4
variable {G : jg} {d : Nat} {Q : jq} {rc rs : Nat} {M : mheap} {wa la cap oa : Nat → Nat} {eu dv hi lo : Nat} {σ : rst}
theorem xp_size {x b : Int32} (hG : kG G) (hJ : XJ wa la cap oa eu dv hi lo) (hT : XT M wa la cap oa eu dv hi lo σ) (hrc : 1 ≤ rc) (hrs : 6 ≤ rs) (kr : ∀ v, semSize σ x b 0 v → Q (.returned (some (.int (nI v)))) M rc rs) (kt : ∀ (cd ci : Nat), semSize σ x b cd 0 → (cd = 1 ∧ ci = 4) → ∀ x, M x = none → Q (.threw x) (jj_up M x (.inl ci, [])) (rc - 1) (rs - 6)) : jj G kX_size (d + 9) Q rc rs 0 (jj_ent [.ref (oa 0), .int x, .int b] 4) [] M := by
  obtain ⟨V, sc, R, C, hS, hO, hV⟩ := id hT
  have hK := hJ.1
  have hI := hK.1
  have hx := hO.1
  show jj G kX_size (d + 9) Q rc rs 0 [some (.ref (oa 0)), some (.int (x)), some (.int (b)), none] [] M
  refine jj_aload_n (pc := 0) kX_size_d0 rfl ?_
  refine jj_iload_n (pc := 1) kX_size_d1 rfl ?_
  refine jj_callV (pc := 2) (b := (oa 0)) (As := [.int (x)]) kX_size_d2 (kvX_X_register hG) (kG_cl hG rfl) rfl hx rfl rfl rfl (Nat.le_of_ble_eq_true rfl) (Nat.le_of_ble_eq_true rfl) (jj_bare0 rfl) ?_
  refine x_register hG hO hrc hrs (fun n hn en => ?_) (fun h y hy => kt 1 4 (Or.inl ⟨h, rfl, rfl⟩) (by omega) y hy)
  subst en
  show jj G kX_size (d + 9) Q rc rs 5 [some (.ref (oa 0)), some (.int (nI (n))), some (.int (b)), none] [.ref (oa (13 + n))] M
  obtain ⟨ern, ecn, s1n, s2n, s3n, s4n, hNn⟩ := hV.1 n hn
  obtain ⟨bn, ebn⟩ : ∃ b, b = 809 + 257 * n := ⟨_, rfl⟩
  have hMn := hO.2.2.2.2.2.2.2 n (by omega)
  rw [← ebn] at hMn hNn
  have hmn := hMn.1
  refine jj_astore_n (pc := 5) kX_size_d5 (Nat.le_of_ble_eq_true rfl) ?_
  show jj G kX_size (d + 9) Q rc rs 6 [some (.ref (oa 0)), some (.int (nI (n))), some (.int (b)), some (.ref (oa (13 + n)))] [] M
  refine jj_iload_n (pc := 6) kX_size_d6 rfl ?_
  refine jj_if_eq (pc := 7) (tgt := 17) kX_size_d7 (by decide) (fun cb => ?_) (fun cb => ?_)
  · skip
    refine jj_aload_n (pc := 17) kX_size_d17 rfl ?_
    refine jj_getf (pc := 18) kX_size_d18 (kfX_M_rows hG) hmn rfl ?_
    exact jj_iret (pc := 21) kX_size_d21 rfl (by rfl) (kr (R n) (Or.inr ⟨n, hn, rfl, rfl, by rw [if_pos cb]; exact ern⟩))
  · skip
    refine jj_aload_n (pc := 10) kX_size_d10 rfl ?_
    refine jj_getf (pc := 11) kX_size_d11 (kfX_M_columns hG) hmn rfl ?_
    refine jj_goto (pc := 14) (tgt := 21) kX_size_d14 (by decide) ?_
    exact jj_iret (pc := 21) kX_size_d21 rfl (by rfl) (kr (C n) (Or.inr ⟨n, hn, rfl, rfl, by rw [if_neg cb]; exact ecn⟩))
theorem xp_sign {x y z : Int32} (hG : kG G) (hJ : XJ wa la cap oa eu dv hi lo) (hT : XT M wa la cap oa eu dv hi lo σ) (hrc : 1 ≤ rc) (hrs : 6 ≤ rs) (kr : ∀ v, semSign σ x y z 0 v → Q (.returned (some (.int v))) M rc rs) (kt : ∀ (cd ci : Nat), semSign σ x y z cd 0 → (cd = 1 ∧ ci = 4) → ∀ x, M x = none → Q (.threw x) (jj_up M x (.inl ci, [])) (rc - 1) (rs - 6)) : jj G kX_sign (d + 9) Q rc rs 0 (jj_ent [.ref (oa 0), .int x, .int y, .int z] 6) [] M := by
  obtain ⟨V, sc, R, C, hS, hO, hV⟩ := id hT
  have hK := hJ.1
  have hI := hK.1
  have hx := hO.1
  have hc0 := hS.1
  show jj G kX_sign (d + 9) Q rc rs 0 [some (.ref (oa 0)), some (.int (x)), some (.int (y)), some (.int (z)), none, none] [] M
  refine jj_aload_n (pc := 0) kX_sign_d0 rfl ?_
  refine jj_iload_n (pc := 1) kX_sign_d1 rfl ?_
  refine jj_callV (pc := 2) (b := (oa 0)) (As := [.int (x)]) kX_sign_d2 (kvX_X_register hG) (kG_cl hG rfl) rfl hx rfl rfl rfl (Nat.le_of_ble_eq_true rfl) (Nat.le_of_ble_eq_true rfl) (jj_bare0 rfl) ?_
  refine x_register hG hO hrc hrs (fun n hn en => ?_) (fun h y hy => kt 1 4 (Or.inl ⟨fun ⟨k, i, j, h1, h2, _⟩ => h ⟨k, h1, h2⟩, rfl, rfl⟩) (by omega) y hy)
  subst en
  show jj G kX_sign (d + 9) Q rc rs 5 [some (.ref (oa 0)), some (.int (nI (n))), some (.int (y)), some (.int (z)), none, none] [.ref (oa (13 + n))] M
  obtain ⟨ern, ecn, s1n, s2n, s3n, s4n, hNn⟩ := hV.1 n hn
  obtain ⟨bn, ebn⟩ : ∃ b, b = 809 + 257 * n := ⟨_, rfl⟩
  have hMn := hO.2.2.2.2.2.2.2 n (by omega)
  rw [← ebn] at hMn hNn
  have hmn := hMn.1
  refine jj_astore (pc := 5) kX_sign_d5 (Nat.le_of_ble_eq_true rfl) ?_
  show jj G kX_sign (d + 9) Q rc rs 7 [some (.ref (oa 0)), some (.int (nI (n))), some (.int (y)), some (.int (z)), some (.ref (oa (13 + n))), none] [] M
  refine jj_aload (pc := 7) kX_sign_d7 rfl ?_
  refine jj_iload_n (pc := 9) kX_sign_d9 rfl ?_
  refine jj_iload_n (pc := 10) kX_sign_d10 rfl ?_
  refine jj_callS (pc := 11) (As := [.ref (oa (13 + n)), .int (y), .int (z)]) kX_sign_d11 (kvX_X_needCell hG) rfl rfl rfl (Nat.le_of_ble_eq_true rfl) (Nat.le_of_ble_eq_true rfl) (jj_bare0 rfl) ?_
  refine x_needCell hG hMn s2n s4n hrc hrs (fun i j hi' ei hj' ej => ?_) (fun h a ha => kt 1 4 (Or.inl ⟨fun ⟨k9, i9, j9, q1, q2, q3, q4, q5, q6⟩ => h ⟨i9, j9, by have := nI_inj (by omega) (by omega) q2; rw [ern, this]; exact q3, q4, by have := nI_inj (by omega) (by omega) q2; rw [ecn, this]; exact q5, q6⟩, rfl, rfl⟩) (by omega) a ha)
  subst ei ej
  show jj G kX_sign (d + 9) Q rc rs 14 [some (.ref (oa 0)), some (.int (nI (n))), some (.int (nI (i))), some (.int (nI (j))), some (.ref (oa (13 + n))), none] [] M
  refine jj_aload (pc := 14) kX_sign_d14 rfl ?_
  refine jj_iload_n (pc := 16) kX_sign_d16 rfl ?_
  refine jj_iload_n (pc := 17) kX_sign_d17 rfl ?_
  refine jj_callV (pc := 18) (b := (oa (13 + n))) (As := [.int (nI (i)), .int (nI (j))]) kX_sign_d18 (kvX_M_at hG) (kG_cl hG rfl) rfl hmn rfl rfl rfl (Nat.le_of_ble_eq_true rfl) (Nat.le_of_ble_eq_true rfl) (jj_bare0 rfl) ?_
  refine m_at hG hMn (by omega) (by omega) ?_
  show jj G kX_sign (d + 9) Q rc rs 21 [some (.ref (oa 0)), some (.int (nI (n))), some (.int (nI (i))), some (.int (nI (j))), some (.ref (oa (13 + n))), none] [.ref (wa (bn + (16 * i + j)))] M
  have hp : (bn + (16 * i + j)) < 3122 := by omega
  obtain ⟨Tn101, tn101, hTn101, _, _, hZn101⟩ := hc0 (bn + (16 * i + j)) hp
  have eZn101 := hZn101.cnt
  subst eZn101
  have bZn101 := hc0.lc (p := (bn + (16 * i + j))) hp
  have bYn101 := hI.2.2 (bn + (16 * i + j)) hp
  refine jj_astore (pc := 21) kX_sign_d21 (Nat.le_of_ble_eq_true rfl) ?_
  show jj G kX_sign (d + 9) Q rc rs 23 [some (.ref (oa 0)), some (.int (nI (n))), some (.int (nI (i))), some (.int (nI (j))), some (.ref (oa (13 + n))), some (.ref (wa (bn + (16 * i + j))))] [] M
  refine jj_aload (pc := 23) kX_sign_d23 rfl ?_
  refine jj_getf (pc := 25) kX_sign_d25 (kfX_W_count hG) hTn101 rfl ?_
  have hv : semSign σ (nI n) (nI i) (nI j) 0 (sgnv (V (bn + (16 * i + j)))) := Or.inr ⟨n, i, j, hn, rfl, by omega, rfl, by omega, rfl, rfl, by rw [← ecn]; exact (sgn_cell hNn hi' hj').symm⟩
  refine jn_if_ne (pc := 28) (tgt := 33) kX_sign_d28 (by decide) (by omega) (fun c1 => ?_) (fun c1 => ?_)
  · skip
    have hz : V (bn + (16 * i + j)) ≠ 0 := lc_pos (by omega)
    refine jj_aload (pc := 33) kX_sign_d33 rfl ?_
    refine jj_getf (pc := 35) kX_sign_d35 (kfX_W_below hG) hTn101 rfl ?_
    refine jj_if_eq (pc := 38) (tgt := 45) kX_sign_d38 (by decide) (fun c2 => ?_) (fun c2 => ?_)
    · skip
      refine jn_iconst (pc := 45) 1 kX_sign_d45 (by decide) ?_
      have hp2 := sg_eq0.mp c2
      have e : sgnv (V (bn + (16 * i + j))) = nI 1 := by unfold sgnv; rw [if_neg (by omega), if_pos (by omega)]; rfl
      rw [e] at hv
      exact jj_iret (pc := 46) kX_sign_d46 rfl (by rfl) (kr _ hv)
    · skip
      refine jj_iconst (pc := 41) (v := (-1)) kX_sign_d41 (by decide) ?_
      refine jj_goto (pc := 42) (tgt := 46) kX_sign_d42 (by decide) ?_
      have hneg : V (bn + (16 * i + j)) < 0 := by
        rcases (show V (bn + (16 * i + j)) < 0 ∨ 0 ≤ V (bn + (16 * i + j)) by omega) with e | e
        · exact e
        · exact absurd (sg_eq0.mpr e) c2
      have e : sgnv (V (bn + (16 * i + j))) = -1 := by unfold sgnv; rw [if_pos hneg]
      rw [e] at hv
      exact jj_iret (pc := 46) kX_sign_d46 rfl (by rfl) (kr _ hv)
  · skip
    refine jn_iconst (pc := 31) 0 kX_sign_d31 (by decide) ?_
    have e : sgnv (V (bn + (16 * i + j))) = nI 0 := by rw [lc_nil (show lc (V (bn + (16 * i + j))) ≤ 0 by omega)]; rfl
    rw [e] at hv
    exact jj_iret (pc := 32) kX_sign_d32 rfl (by rfl) (kr _ hv)
theorem xp_same {x y : Int32} (hG : kG G) (hJ : XJ wa la cap oa eu dv hi lo) (hT : XT M wa la cap oa eu dv hi lo σ) (hrc : 1 ≤ rc) (hrs : 6 ≤ rs) (kr : ∀ v, semSame σ x y 0 v → Q (.returned (some (.int (nI v)))) M rc rs) (kt : ∀ (cd ci : Nat), semSame σ x y cd 0 → (cd = 1 ∧ ci = 4) → ∀ x, M x = none → Q (.threw x) (jj_up M x (.inl ci, [])) (rc - 1) (rs - 6)) : jj G kX_same (d + 9) Q rc rs 0 (jj_ent [.ref (oa 0), .int x, .int y] 5) [] M := by
  obtain ⟨V, sc, R, C, hS, hO, hV⟩ := id hT
  have hK := hJ.1
  have hI := hK.1
  have hx := hO.1
  show jj G kX_same (d + 9) Q rc rs 0 [some (.ref (oa 0)), some (.int (x)), some (.int (y)), none, none] [] M
  refine jj_aload_n (pc := 0) kX_same_d0 rfl ?_
  refine jj_iload_n (pc := 1) kX_same_d1 rfl ?_
  refine jj_callV (pc := 2) (b := (oa 0)) (As := [.int (x)]) kX_same_d2 (kvX_X_register hG) (kG_cl hG rfl) rfl hx rfl rfl rfl (Nat.le_of_ble_eq_true rfl) (Nat.le_of_ble_eq_true rfl) (jj_bare0 rfl) ?_
  refine x_register hG hO hrc hrs (fun n hn en => ?_) (fun h y hy => kt 1 4 (Or.inl ⟨fun g => h g.1, rfl, rfl⟩) (by omega) y hy)
  subst en
  show jj G kX_same (d + 9) Q rc rs 5 [some (.ref (oa 0)), some (.int (nI (n))), some (.int (y)), none, none] [.ref (oa (13 + n))] M
  obtain ⟨ern, ecn, s1n, s2n, s3n, s4n, hNn⟩ := hV.1 n hn
  obtain ⟨bn, ebn⟩ : ∃ b, b = 809 + 257 * n := ⟨_, rfl⟩
  have hMn := hO.2.2.2.2.2.2.2 n (by omega)
  rw [← ebn] at hMn hNn
  have hmn := hMn.1
  refine jj_astore_n (pc := 5) kX_same_d5 (Nat.le_of_ble_eq_true rfl) ?_
  show jj G kX_same (d + 9) Q rc rs 6 [some (.ref (oa 0)), some (.int (nI (n))), some (.int (y)), some (.ref (oa (13 + n))), none] [] M
  refine jj_aload_n (pc := 6) kX_same_d6 rfl ?_
  refine jj_iload_n (pc := 7) kX_same_d7 rfl ?_
  refine jj_callV (pc := 8) (b := (oa 0)) (As := [.int (y)]) kX_same_d8 (kvX_X_register hG) (kG_cl hG rfl) rfl hx rfl rfl rfl (Nat.le_of_ble_eq_true rfl) (Nat.le_of_ble_eq_true rfl) (jj_bare0 rfl) ?_
  refine x_register hG hO hrc hrs (fun m hm em => ?_) (fun h y hy => kt 1 4 (Or.inl ⟨fun g => h g.2, rfl, rfl⟩) (by omega) y hy)
  subst em
  show jj G kX_same (d + 9) Q rc rs 11 [some (.ref (oa 0)), some (.int (nI (n))), some (.int (nI (m))), some (.ref (oa (13 + n))), none] [.ref (oa (13 + m))] M
  obtain ⟨erm, ecm, s1m, s2m, s3m, s4m, hNm⟩ := hV.1 m hm
  obtain ⟨bm, ebm⟩ : ∃ b, b = 809 + 257 * m := ⟨_, rfl⟩
  have hMm := hO.2.2.2.2.2.2.2 m (by omega)
  rw [← ebm] at hMm hNm
  have hmm := hMm.1
  refine jj_astore (pc := 11) kX_same_d11 (Nat.le_of_ble_eq_true rfl) ?_
  show jj G kX_same (d + 9) Q rc rs 13 [some (.ref (oa 0)), some (.int (nI (n))), some (.int (nI (m))), some (.ref (oa (13 + n))), some (.ref (oa (13 + m)))] [] M
  refine jj_aload_n (pc := 13) kX_same_d13 rfl ?_
  refine jj_aload (pc := 14) kX_same_d14 rfl ?_
  have heq : (R n = R m ∧ C n = C m ∧ V (bn + 256) = V (bm + 256) ∧ ∀ i j, i < R n → j < C n → V (bn + (16 * i + j)) = V (bm + (16 * i + j))) ↔ (σ.1 n = σ.1 m ∧ σ.2.1 n = σ.2.1 m ∧ ∀ t, t < σ.1 n * σ.2.1 n → σ.2.2 n t = σ.2.2 m t) := by
    rw [← ern, ← ecn, ← erm, ← ecm]
    constructor
    · rintro ⟨h1, h2, h3⟩
      rw [← h1, ← h2] at hNm
      exact ⟨h1, h2, (hNn.same hNm).1 h3⟩
    · rintro ⟨h1, h2, h3⟩
      rw [← h1, ← h2] at hNm
      exact ⟨h1, h2, (hNn.same hNm).2 h3⟩
  refine jj_callV (pc := 16) (b := (oa (13 + n))) (As := [.ref (oa (13 + m))]) kX_same_d16 (kvX_M_equalTo hG) (kG_cl hG rfl) rfl hmn rfl rfl rfl (Nat.le_of_ble_eq_true rfl) (Nat.le_of_ble_eq_true rfl) (jj_bare0 rfl) ?_
  refine m_equalTo hG hI hS.1 hMn hMm (by omega) (by omega) s2n s4n s2m s4m (fun c1 => ?_) (fun c1 => ?_)
  · skip
    show jj G kX_same (d + 9) Q rc rs 19 [some (.ref (oa 0)), some (.int (nI (n))), some (.int (nI (m))), some (.ref (oa (13 + n))), some (.ref (oa (13 + m)))] [.int (nI (1))] M
    exact jj_iret (pc := 19) kX_same_d19 rfl (by rfl) (kr 1 (Or.inr ⟨n, m, hn, rfl, hm, rfl, rfl, Nat.le_refl _, ⟨fun _ => heq.1 c1, fun _ => rfl⟩⟩))
  · skip
    show jj G kX_same (d + 9) Q rc rs 19 [some (.ref (oa 0)), some (.int (nI (n))), some (.int (nI (m))), some (.ref (oa (13 + n))), some (.ref (oa (13 + m)))] [.int (nI (0))] M
    exact jj_iret (pc := 19) kX_same_d19 rfl (by rfl) (kr 0 (Or.inr ⟨n, m, hn, rfl, hm, rfl, rfl, by omega, ⟨fun h => by omega, fun h => absurd (heq.2 h) c1⟩⟩))
theorem x_shownPart {x y z b : Int32} (hG : kG G) (hJ : XJ wa la cap oa eu dv hi lo) (hT : XT M wa la cap oa eu dv hi lo σ) (hrc : 1 ≤ rc) (hrs : 6 ≤ rs) (k : ∀ (M' : mheap) (V' : Nat → Int) (n i j : Nat), n < 8 → x = nI n → i < σ.1 n → y = nI i → j < σ.2.1 n → z = nI j → XT M' wa la cap oa eu dv hi lo σ → CW M' wa la cap 3122 V' → V' 15 = (σ.2.2 n (i * σ.2.1 n + j)).num → V' 16 = ((σ.2.2 n (i * σ.2.1 n + j)).den : Int) → XF oa M M' wa la eu dv hi lo → Q (.returned (some (.ref (wa (if b = 0 then 15 else 16))))) M' rc rs) (kt : ¬ isCel σ x y z → ∀ x, M x = none → Q (.threw x) (jj_up M x (.inl 4, [])) (rc - 1) (rs - 6)) : jj G kX_shownPart (d + 9) Q rc rs 0 (jj_ent [.ref (oa 0), .int x, .int y, .int z, .int b] 7) [] M := by
  obtain ⟨V, sc, R, C, hS, hO, hV⟩ := id hT
  have hK := hJ.1
  have hI := hK.1
  have hx := hO.1
  show jj G kX_shownPart (d + 9) Q rc rs 0 [some (.ref (oa 0)), some (.int (x)), some (.int (y)), some (.int (z)), some (.int (b)), none, none] [] M
  refine jj_aload_n (pc := 0) kX_shownPart_d0 rfl ?_
  refine jj_iload_n (pc := 1) kX_shownPart_d1 rfl ?_
  refine jj_callV (pc := 2) (b := (oa 0)) (As := [.int (x)]) kX_shownPart_d2 (kvX_X_register hG) (kG_cl hG rfl) rfl hx rfl rfl rfl (Nat.le_of_ble_eq_true rfl) (Nat.le_of_ble_eq_true rfl) (jj_bare0 rfl) ?_
  refine x_register hG hO hrc hrs (fun n hn en => ?_) (fun h y hy => kt (fun ⟨k, i, j, h1, h2, _⟩ => h ⟨k, h1, h2⟩) y hy)
  subst en
  show jj G kX_shownPart (d + 9) Q rc rs 5 [some (.ref (oa 0)), some (.int (nI (n))), some (.int (y)), some (.int (z)), some (.int (b)), none, none] [.ref (oa (13 + n))] M
  obtain ⟨ern, ecn, s1n, s2n, s3n, s4n, hNn⟩ := hV.1 n hn
  obtain ⟨bn, ebn⟩ : ∃ b, b = 809 + 257 * n := ⟨_, rfl⟩
  have hMn := hO.2.2.2.2.2.2.2 n (by omega)
  rw [← ebn] at hMn hNn
  have hmn := hMn.1
  refine jj_astore (pc := 5) kX_shownPart_d5 (Nat.le_of_ble_eq_true rfl) ?_
  show jj G kX_shownPart (d + 9) Q rc rs 7 [some (.ref (oa 0)), some (.int (nI (n))), some (.int (y)), some (.int (z)), some (.int (b)), some (.ref (oa (13 + n))), none] [] M
  refine jj_aload (pc := 7) kX_shownPart_d7 rfl ?_
  refine jj_iload_n (pc := 9) kX_shownPart_d9 rfl ?_
  refine jj_iload_n (pc := 10) kX_shownPart_d10 rfl ?_
  refine jj_callS (pc := 11) (As := [.ref (oa (13 + n)), .int (y), .int (z)]) kX_shownPart_d11 (kvX_X_needCell hG) rfl rfl rfl (Nat.le_of_ble_eq_true rfl) (Nat.le_of_ble_eq_true rfl) (jj_bare0 rfl) ?_
  refine x_needCell hG hMn s2n s4n hrc hrs (fun i j hi' ei hj' ej => ?_) (fun h a ha => kt (fun ⟨k9, i9, j9, q1, q2, q3, q4, q5, q6⟩ => h ⟨i9, j9, by have := nI_inj (by omega) (by omega) q2; rw [ern, this]; exact q3, q4, by have := nI_inj (by omega) (by omega) q2; rw [ecn, this]; exact q5, q6⟩) a ha)
  subst ei ej
  show jj G kX_shownPart (d + 9) Q rc rs 14 [some (.ref (oa 0)), some (.int (nI (n))), some (.int (nI (i))), some (.int (nI (j))), some (.int (b)), some (.ref (oa (13 + n))), none] [] M
  refine jj_iload_n (pc := 14) kX_shownPart_d14 rfl ?_
  refine jn_bipush (pc := 15) 16 kX_shownPart_d15 (by decide) ?_
  refine jn_imul (pc := 17) (16 * n) kX_shownPart_d17 (by omega) ?_
  refine jj_iload_n (pc := 18) kX_shownPart_d18 rfl ?_
  refine jn_iadd (pc := 19) (16 * n + i) kX_shownPart_d19 (by omega) ?_
  refine jn_bipush (pc := 20) 16 kX_shownPart_d20 (by decide) ?_
  refine jn_imul (pc := 22) (256 * n + 16 * i) kX_shownPart_d22 (by omega) ?_
  refine jj_iload_n (pc := 23) kX_shownPart_d23 rfl ?_
  refine jn_iadd (pc := 24) (256 * n + 16 * i + j) kX_shownPart_d24 (by omega) ?_
  refine jj_istore (pc := 25) kX_shownPart_d25 (Nat.le_of_ble_eq_true rfl) ?_
  show jj G kX_shownPart (d + 9) Q rc rs 27 [some (.ref (oa 0)), some (.int (nI (n))), some (.int (nI (i))), some (.int (nI (j))), some (.int (b)), some (.ref (oa (13 + n))), some (.int (nI (256 * n + 16 * i + j)))] [] M
  refine jj_aload_n (pc := 27) kX_shownPart_d27 rfl ?_
  refine jj_getf (pc := 28) kX_shownPart_d28 (kfX_shownCell hG) hx rfl ?_
  refine jj_iload (pc := 31) kX_shownPart_d31 rfl ?_
  have hq := hNn.2.1.2 i j hi' hj'
  rw [ecn] at hq
  have hi2 : i < σ.1 n := by omega
  have hj2 : j < σ.2.1 n := by omega
  have fin : ∀ (M' : mheap) (V' : Nat → Int) (sc' : Int32), KS M' wa la cap 3122 eu dv hi lo (oa 3) V' → XO M' wa oa sc' R C → XV σ V' sc' R C → least (V (bn + (16 * i + j))) (V (bn + 256)) (V' 15) (V' 16) → XF oa M M' wa la eu dv hi lo → jj G kX_shownPart (d + 9) Q rc rs 81 [some (.ref (oa 0)), some (.int (nI (n))), some (.int (nI (i))), some (.int (nI (j))), some (.int (b)), some (.ref (oa (13 + n))), some (.int (nI (256 * n + 16 * i + j)))] [] M' := by
    intro M' V' sc' hS' hO' hV' hl hF'
    have hx' := hO'.1
    have hsh := hO'.2.2.2.2.1
    obtain ⟨e1, e2⟩ := least_rat hl (by have := hNn.1; omega) hq
    refine jj_iload (pc := 81) kX_shownPart_d81 rfl ?_
    refine jj_if_eq (pc := 83) (tgt := 96) kX_shownPart_d83 (by decide) (fun cb => ?_) (fun cb => ?_)
    · skip
      refine jj_aload_n (pc := 96) kX_shownPart_d96 rfl ?_
      refine jj_getf (pc := 97) kX_shownPart_d97 (kfX_shown hG) hx' rfl ?_
      refine jj_getf (pc := 100) kX_shownPart_d100 (kfX_F_upper hG) hsh rfl ?_
      exact jj_aret (pc := 103) kX_shownPart_d103 rfl (by first | exact Or.inl ⟨_, rfl⟩ | exact Or.inr ⟨_, rfl⟩) (by have := k M' V' n i j hn rfl hi2 rfl hj2 rfl ⟨V', sc', R, C, hS', hO', hV'⟩ hS'.1 e1.symm e2.symm hF'; rw [if_pos cb] at this; exact this)
    · skip
      refine jj_aload_n (pc := 86) kX_shownPart_d86 rfl ?_
      refine jj_getf (pc := 87) kX_shownPart_d87 (kfX_shown hG) hx' rfl ?_
      refine jj_getf (pc := 90) kX_shownPart_d90 (kfX_F_lower hG) hsh rfl ?_
      refine jj_goto (pc := 93) (tgt := 103) kX_shownPart_d93 (by decide) ?_
      exact jj_aret (pc := 103) kX_shownPart_d103 rfl (by first | exact Or.inl ⟨_, rfl⟩ | exact Or.inr ⟨_, rfl⟩) (by have := k M' V' n i j hn rfl hi2 rfl hj2 rfl ⟨V', sc', R, C, hS', hO', hV'⟩ hS'.1 e1.symm e2.symm hF'; rw [if_neg cb] at this; exact this)
  refine jj_icmp_eq (pc := 33) (tgt := 81) kX_shownPart_d33 (by decide) (fun c1 => ?_) (fun c1 => ?_)
  · skip
    show jj G kX_shownPart (d + 9) Q rc rs 81 [some (.ref (oa 0)), some (.int (nI (n))), some (.int (nI (i))), some (.int (nI (j))), some (.int (b)), some (.ref (oa (13 + n))), some (.int (nI (256 * n + 16 * i + j)))] [] M
    refine fin M V sc hS hO hV ?_ (fun _ _ _ => rfl)
    rcases hV.2 with h | ⟨k', i', j', h1, h2, h3, h4, h5⟩
    · exact absurd (c1.symm.trans h) (nI_m1ne (by omega))
    · obtain ⟨f1, f2, f3, f4, f5, f6, _⟩ := hV.1 k' h1
      have e9 := nI_inj (by omega) (by omega) (h4.symm.trans c1)
      have ek : k' = n := by omega
      subst ek
      have ei : i' = i := by omega
      have ej : j' = j := by omega
      rw [ei, ej] at h5
      rw [ebn]
      exact h5
  · skip
    have hsh := hO.2.2.2.2.1
    have hp : (bn + (16 * i + j)) < 3122 := by omega
    have c15 : cap 15 = 252 := hJ.2.1 15 (by omega)
    have c16 : cap 16 = 252 := hJ.2.1 16 (by omega)
    have l1 : ∀ p, bn ≤ p → p ≤ bn + 256 → lc (V p) ≤ 125 := fun p _ _ => by
      have := hS.1.lc (p := p) (by omega)
      rw [hJ.cap125 (by omega) (by omega)] at this
      exact this
    obtain ⟨hI, hN, hcap, hdi⟩ := id hK
    obtain ⟨hc0, ⟨r_a, px_a, pf_a, py_a, po_a, ps_a, od_a, hU0⟩, hdk0⟩ := id hS
    have hf0 : EF M M wa la 3122 eu dv hi lo := fun _ _ _ _ _ _ => rfl
    obtain ⟨V0, hV0⟩ : ∃ V0, V = V0 := ⟨_, rfl⟩
    rw [hV0] at hc0
    have hn0 := hU0.1
    have b_r0 := hn0.2.1
    have b_x0 := hn0.2.2.1
    have b_f0 := hn0.2.2.2.1
    have hdv0 := hU0.2.1
    obtain ⟨ea0, eb0, ec0, ed0, hE0⟩ := hU0.2.2.2
    have hD0 := hdv0.1
    rw [hV0] at l1
    show jj G kX_shownPart (d + 9) Q rc rs 36 [some (.ref (oa 0)), some (.int (nI (n))), some (.int (nI (i))), some (.int (nI (j))), some (.int (b)), some (.ref (oa (13 + n))), some (.int (nI (256 * n + 16 * i + j)))] [] M
    refine jj_aload_n (pc := 36) kX_shownPart_d36 rfl ?_
    refine jj_getf (pc := 37) kX_shownPart_d37 (kfX_shown hG) hx rfl ?_
    refine jj_getf (pc := 40) kX_shownPart_d40 (kfX_F_upper hG) hsh rfl ?_
    refine jj_aload (pc := 43) kX_shownPart_d43 rfl ?_
    refine jj_iload_n (pc := 45) kX_shownPart_d45 rfl ?_
    refine jj_iload_n (pc := 46) kX_shownPart_d46 rfl ?_
    refine jj_callV (pc := 47) (b := (oa (13 + n))) (As := [.int (nI (i)), .int (nI (j))]) kX_shownPart_d47 (kvX_M_at hG) (kG_cl hG rfl) rfl hmn rfl rfl rfl (Nat.le_of_ble_eq_true rfl) (Nat.le_of_ble_eq_true rfl) (jj_bare0 rfl) ?_
    refine m_at hG hMn (by omega) (by omega) ?_
    show jj G kX_shownPart (d + 9) Q rc rs 50 [some (.ref (oa 0)), some (.int (nI (n))), some (.int (nI (i))), some (.int (nI (j))), some (.int (b)), some (.ref (oa (13 + n))), some (.int (nI (256 * n + 16 * i + j)))] [.ref (wa (bn + (16 * i + j))), .ref (wa 15)] M
    obtain ⟨T15_0, t15_0, hT15_0, _, _⟩ := hc0 15 (by omega)
    refine jj_callV (pc := 50) (b := (wa 15)) (As := [.ref (wa (bn + (16 * i + j)))]) kX_shownPart_d50 (kvX_W_copy hG) (kG_cl hG rfl) rfl hT15_0 rfl rfl rfl (Nat.le_of_ble_eq_true rfl) (Nat.le_of_ble_eq_true rfl) (jj_bare0 rfl) ?_
    refine w_copy hG hI hc0 (by omega : 15 < 3122) hp (by rw [c15]; exact lc_room (Nat.le_trans (l1 _ (by omega) (by omega)) (by omega))) (fun M1 hcx1 hw1  => ?_) 
    obtain ⟨V1, hV1⟩ : ∃ W, vup V0 15 (V0 (bn + (16 * i + j))) = W := ⟨_, rfl⟩
    have hc1 : CW M1 wa la cap 3122 V1 := by rw [← hV1]; exact hcx1
    have at1 : V1 15 = V0 (bn + (16 * i + j)) := by rw [← hV1, vup_at]
    have ot1 : ∀ p, p ≠ 15 → V1 p = V0 p := fun p hp => by rw [← hV1, vup_ne _ _ hp]
    have hU1 := hU0.wt hc0 hdi (by omega) hw1
    have hf1 := hf0.trans (hw1.ef (by omega))
    have q1_oa0 := (hw1.ef (eu := eu) (dv := dv) (hi := hi) (lo := lo) (by omega)).obj hc0 hU0 hx (by decide) (by decide) (by decide)
    have q1_oa12 := (hw1.ef (eu := eu) (dv := dv) (hi := hi) (lo := lo) (by omega)).obj hc0 hU0 hsh (by decide) (by decide) (by decide)
    have q1_oa13n := (hw1.ef (eu := eu) (dv := dv) (hi := hi) (lo := lo) (by omega)).obj hc0 hU0 hmn (by decide) (by decide) (by decide)
    have q1_oa3 := (hw1.ef (eu := eu) (dv := dv) (hi := hi) (lo := lo) (by omega)).obj hc0 hU0 hdk0 (by decide) (by decide) (by decide)
    have hn1 := hU1.1
    have b_r1 := hn1.2.1
    have b_x1 := hn1.2.2.1
    have b_f1 := hn1.2.2.2.1
    have hdv1 := hU1.2.1
    obtain ⟨ea1, eb1, ec1, ed1, hE1⟩ := hU1.2.2.2
    have hD1 := hdv1.1
    show jj G kX_shownPart (d + 9) Q rc rs 53 [some (.ref (oa 0)), some (.int (nI (n))), some (.int (nI (i))), some (.int (nI (j))), some (.int (b)), some (.ref (oa (13 + n))), some (.int (nI (256 * n + 16 * i + j)))] [] M1
    obtain ⟨T16_1, t16_1, hT16_1, _, _⟩ := hc1 16 (by omega)
    refine jj_aload_n (pc := 53) kX_shownPart_d53 rfl ?_
    refine jj_getf (pc := 54) kX_shownPart_d54 (kfX_shown hG) q1_oa0 rfl ?_
    refine jj_getf (pc := 57) kX_shownPart_d57 (kfX_F_lower hG) q1_oa12 rfl ?_
    refine jj_aload (pc := 60) kX_shownPart_d60 rfl ?_
    refine jj_getf (pc := 62) kX_shownPart_d62 (kfX_M_common hG) q1_oa13n rfl ?_
    have v1c : V1 (bn + 256) = V0 (bn + 256) := ot1 _ (by omega)
    refine jj_callV (pc := 65) (b := (wa 16)) (As := [.ref (wa (bn + 256))]) kX_shownPart_d65 (kvX_W_copy hG) (kG_cl hG rfl) rfl hT16_1 rfl rfl rfl (Nat.le_of_ble_eq_true rfl) (Nat.le_of_ble_eq_true rfl) (jj_bare0 rfl) ?_
    refine w_copy hG hI hc1 (by omega : 16 < 3122) (by omega) (by rw [c16, v1c]; exact lc_room (Nat.le_trans (l1 _ (by omega) (by omega)) (by omega))) (fun M2 hcx2 hw2  => ?_) 
    obtain ⟨V2, hV2⟩ : ∃ W, vup V1 16 (V1 (bn + 256)) = W := ⟨_, rfl⟩
    have hc2 : CW M2 wa la cap 3122 V2 := by rw [← hV2]; exact hcx2
    have at2 : V2 16 = V1 (bn + 256) := by rw [← hV2, vup_at]
    have ot2 : ∀ p, p ≠ 16 → V2 p = V1 p := fun p hp => by rw [← hV2, vup_ne _ _ hp]
    have hU2 := hU1.wt hc1 hdi (by omega) hw2
    have hf2 := hf1.trans (hw2.ef (by omega))
    have q2_oa0 := (hw2.ef (eu := eu) (dv := dv) (hi := hi) (lo := lo) (by omega)).obj hc1 hU1 q1_oa0 (by decide) (by decide) (by decide)
    have q2_oa12 := (hw2.ef (eu := eu) (dv := dv) (hi := hi) (lo := lo) (by omega)).obj hc1 hU1 q1_oa12 (by decide) (by decide) (by decide)
    have q2_oa13n := (hw2.ef (eu := eu) (dv := dv) (hi := hi) (lo := lo) (by omega)).obj hc1 hU1 q1_oa13n (by decide) (by decide) (by decide)
    have q2_oa3 := (hw2.ef (eu := eu) (dv := dv) (hi := hi) (lo := lo) (by omega)).obj hc1 hU1 q1_oa3 (by decide) (by decide) (by decide)
    have hn2 := hU2.1
    have b_r2 := hn2.2.1
    have b_x2 := hn2.2.2.1
    have b_f2 := hn2.2.2.2.1
    have hdv2 := hU2.2.1
    obtain ⟨ea2, eb2, ec2, ed2, hE2⟩ := hU2.2.2.2
    have hD2 := hdv2.1
    show jj G kX_shownPart (d + 9) Q rc rs 68 [some (.ref (oa 0)), some (.int (nI (n))), some (.int (nI (i))), some (.int (nI (j))), some (.int (b)), some (.ref (oa (13 + n))), some (.int (nI (256 * n + 16 * i + j)))] [] M2
    have v15 : V2 15 = V0 (bn + (16 * i + j)) := by rw [ot2 15 (by omega), at1]
    rw [v1c] at at2
    have hS2 : KS M2 wa la cap 3122 eu dv hi lo (oa 3) V2 := ⟨hc2, ⟨r_a, px_a, pf_a, py_a, po_a, ps_a, od_a, hU2⟩, q2_oa3⟩
    have hfr := q2_oa12
    refine jj_aload_n (pc := 68) kX_shownPart_d68 rfl ?_
    refine jj_getf (pc := 69) kX_shownPart_d69 (kfX_shown hG) q2_oa0 rfl ?_
    refine jj_callV (pc := 72) (b := (oa 12)) (As := []) kX_shownPart_d72 (kvX_F_reduce hG) (kG_cl hG rfl) rfl q2_oa12 rfl rfl rfl (Nat.le_of_ble_eq_true rfl) (Nat.le_of_ble_eq_true rfl) (jj_bare0 rfl) ?_
    refine f_reduce hG hK hS2 hfr (by omega) (by omega) (by omega) (by omega) (by omega) c15 c16 (by rw [v15]; exact Nat.le_trans (l1 _ (by omega) (by omega)) (by omega)) (by rw [at2]; exact Nat.le_trans (l1 _ (by omega) (by omega)) (by omega)) (by rw [at2, ← hV0]; have := hNn.1; omega) (fun M3 V3 hS3 hl3 ot3 hw3 => ?_) 
    obtain ⟨hc3, ⟨r_3, px_3, pf_3, py_3, po_3, ps_3, od_3, hU3⟩, _⟩ := id hS3
    have hf3 := hf2.trans hw3
    have q3_oa0 := hw3.obj hc2 hU2 q2_oa0 (by decide) (by decide) (by decide)
    have q3_oa12 := hw3.obj hc2 hU2 q2_oa12 (by decide) (by decide) (by decide)
    have q3_oa13n := hw3.obj hc2 hU2 q2_oa13n (by decide) (by decide) (by decide)
    have q3_oa3 := hw3.obj hc2 hU2 q2_oa3 (by decide) (by decide) (by decide)
    have hn3 := hU3.1
    have b_r3 := hn3.2.1
    have b_x3 := hn3.2.2.1
    have b_f3 := hn3.2.2.2.1
    have hdv3 := hU3.2.1
    obtain ⟨ea3, eb3, ec3, ed3, hE3⟩ := hU3.2.2.2
    have hD3 := hdv3.1
    show jj G kX_shownPart (d + 9) Q rc rs 75 [some (.ref (oa 0)), some (.int (nI (n))), some (.int (nI (i))), some (.int (nI (j))), some (.int (b)), some (.ref (oa (13 + n))), some (.int (nI (256 * n + 16 * i + j)))] [] M3
    rw [v15, at2, ← hV0] at hl3
    have hO3 := hO.ef hJ hf3
    have hx3 := hO3.1
    show jj G kX_shownPart (d + 9) Q rc rs 75 [some (.ref (oa 0)), some (.int (nI (n))), some (.int (nI (i))), some (.int (nI (j))), some (.int (b)), some (.ref (oa (13 + n))), some (.int (nI (256 * n + 16 * i + j)))] [] M3
    refine jj_aload_n (pc := 75) kX_shownPart_d75 rfl ?_
    refine jj_iload (pc := 76) kX_shownPart_d76 rfl ?_
    refine jj_putf (pc := 78) kX_shownPart_d78 (kpX_shownCell hG) hx3 (by rfl) rfl ?_
    refine jn_gen (fun M102 hM103 => ?_)
    have h104 : M102 (oa 0) = some (.inl nX, [.ref (oa 1), .ref (oa 2), .ref (oa 21), .ref (oa 3), .ref (oa 4), .ref (oa 9), .ref (oa 11), .ref (oa 12), .int (nI (256 * n + 16 * i + j))]) := by rw [hM103]; exact jj_up_at _ _ _
    have hu : ∀ x, x ≠ oa 0 → M102 x = M3 x := fun x hx => by rw [hM103, jj_up_ne _ _ hx]
    have hv3 : ∀ p, 809 ≤ p → p < 2865 → V3 p = V p := fun p _ _ => by rw [ot3 p (by omega) (by omega) (by omega), ot2 p (by omega), ot1 p (by omega), hV0]
    show jj G kX_shownPart (d + 9) Q rc rs 81 [some (.ref (oa 0)), some (.int (nI (n))), some (.int (nI (i))), some (.int (nI (j))), some (.int (b)), some (.ref (oa (13 + n))), some (.int (nI (256 * n + 16 * i + j)))] [] M102
    refine fin M102 V3 _ (hS3.up (hJ.2.2.1 0 (by omega)) (hJ.ne (by omega) (by omega) (by omega)) hu) (hO3.shw h104 hJ hu) ⟨fun k hk => ?_, Or.inr ⟨n, i, j, hn, hi2, hj2, congrArg nI (by omega), ?_⟩⟩ hl3 (hf3.efx.trans (EFX.up hu ⟨0, by omega, rfl⟩))
    · obtain ⟨a, b, c, d, e, f, g⟩ := hV.1 k hk
      exact ⟨a, b, c, d, e, f, g.congr (hv3 _ (by omega) (by omega)) (fun i j _ _ => hv3 _ (by omega) (by omega)) (fun _ _ => rfl)⟩
    · rw [← ebn, hv3 _ (by omega) (by omega), hv3 _ (by omega) (by omega)]
      exact hl3
theorem xp_length {x y z b : Int32} (hG : kG G) (hJ : XJ wa la cap oa eu dv hi lo) (hT : XT M wa la cap oa eu dv hi lo σ) (hrc : 1 ≤ rc) (hrs : 6 ≤ rs) (kr : ∀ (M' : mheap) (v : Nat), semLen σ x y z b 0 v → XT M' wa la cap oa eu dv hi lo σ → XF oa M M' wa la eu dv hi lo → Q (.returned (some (.int (nI v)))) M' rc rs) (kt : ∀ (cd ci : Nat), semLen σ x y z b cd 0 → (cd = 1 ∧ ci = 4) → ∀ x, M x = none → Q (.threw x) (jj_up M x (.inl ci, [])) (rc - 1) (rs - 6)) : jj G kX_length (d + 10) Q rc rs 0 (jj_ent [.ref (oa 0), .int x, .int y, .int z, .int b] 5) [] M := by
  obtain ⟨V, sc, R, C, hS, hO, hV⟩ := id hT
  have hK := hJ.1
  have hI := hK.1
  have hx := hO.1
  show jj G kX_length (d + 10) Q rc rs 0 [some (.ref (oa 0)), some (.int (x)), some (.int (y)), some (.int (z)), some (.int (b))] [] M
  refine jj_aload_n (pc := 0) kX_length_d0 rfl ?_
  refine jj_iload_n (pc := 1) kX_length_d1 rfl ?_
  refine jj_iload_n (pc := 2) kX_length_d2 rfl ?_
  refine jj_iload_n (pc := 3) kX_length_d3 rfl ?_
  refine jj_iload (pc := 4) kX_length_d4 rfl ?_
  refine jj_callV (pc := 6) (b := (oa 0)) (As := [.int (x), .int (y), .int (z), .int (b)]) kX_length_d6 (kvX_X_shownPart hG) (kG_cl hG rfl) rfl hx rfl rfl rfl (Nat.le_of_ble_eq_true rfl) (Nat.le_of_ble_eq_true rfl) (jj_bare0 rfl) ?_
  refine x_shownPart hG hJ hT hrc hrs (fun M1 V1 n i j hn en hi' ei hj' ej hT1 hc1 v15 v16 hF1 => ?_) (fun h y hy => kt 1 4 (Or.inl ⟨h, rfl, rfl⟩) (by omega) y hy)
  have hpl : (if b = 0 then 15 else 16) < 3122 := by split <;> omega
  have hhv : V1 (if b = 0 then 15 else 16) = halfv (σ.2.2 n (i * σ.2.1 n + j)) b := by
    unfold halfv
    split
    · exact v15
    · exact v16
  obtain ⟨T9, t9, hT9, _, _⟩ := hc1 (if b = 0 then 15 else 16) hpl
  show jj G kX_length (d + 10) Q rc rs 9 [some (.ref (oa 0)), some (.int (x)), some (.int (y)), some (.int (z)), some (.int (b))] [.ref (wa (if b = 0 then 15 else 16))] M1
  refine jj_callV (pc := 9) (b := (wa (if b = 0 then 15 else 16))) (As := []) kX_length_d9 (kvX_W_bits hG) (kG_cl hG rfl) rfl hT9 rfl rfl rfl (Nat.le_of_ble_eq_true rfl) (Nat.le_of_ble_eq_true rfl) (jj_bare0 rfl) ?_
  refine w_bits hG hI hc1 hpl ?_
  show jj G kX_length (d + 10) Q rc rs 12 [some (.ref (oa 0)), some (.int (x)), some (.int (y)), some (.int (z)), some (.int (b))] [.int (nI (blen (V1 (if b = 0 then 15 else 16))))] M1
  exact jj_iret (pc := 12) kX_length_d12 rfl (by rfl) (kr M1 _ (Or.inr ⟨n, i, j, hn, en, hi', ei, hj', ej, rfl, by rw [hhv]⟩) hT1 hF1)
theorem xp_limb {x y z b l : Int32} (hG : kG G) (hJ : XJ wa la cap oa eu dv hi lo) (hT : XT M wa la cap oa eu dv hi lo σ) (hrc : 1 ≤ rc) (hrs : 6 ≤ rs) (kr : ∀ (M' : mheap) (v : Int32), semLimb σ x y z b l 0 v → XT M' wa la cap oa eu dv hi lo σ → XF oa M M' wa la eu dv hi lo → Q (.returned (some (.int v))) M' rc rs) (kt : ∀ (cd ci : Nat), semLimb σ x y z b l cd 0 → (cd = 1 ∧ ci = 4) → ∀ x, M x = none → Q (.threw x) (jj_up M x (.inl ci, [])) (rc - 1) (rs - 6)) : jj G kX_limb (d + 10) Q rc rs 0 (jj_ent [.ref (oa 0), .int x, .int y, .int z, .int b, .int l] 6) [] M := by
  obtain ⟨V, sc, R, C, hS, hO, hV⟩ := id hT
  have hK := hJ.1
  have hI := hK.1
  have hx := hO.1
  show jj G kX_limb (d + 10) Q rc rs 0 [some (.ref (oa 0)), some (.int (x)), some (.int (y)), some (.int (z)), some (.int (b)), some (.int (l))] [] M
  refine jj_aload_n (pc := 0) kX_limb_d0 rfl ?_
  refine jj_iload_n (pc := 1) kX_limb_d1 rfl ?_
  refine jj_callV (pc := 2) (b := (oa 0)) (As := [.int (x)]) kX_limb_d2 (kvX_X_register hG) (kG_cl hG rfl) rfl hx rfl rfl rfl (Nat.le_of_ble_eq_true rfl) (Nat.le_of_ble_eq_true rfl) (jj_bare0 rfl) ?_
  refine x_register hG hO hrc hrs (fun n hn en => ?_) (fun h y hy => kt 1 4 (Or.inl ⟨fun g => by obtain ⟨⟨k, i, j, h1, h2, _⟩, _⟩ := g; exact h ⟨k, h1, h2⟩, rfl, rfl⟩) (by omega) y hy)
  subst en
  show jj G kX_limb (d + 10) Q rc rs 5 [some (.ref (oa 0)), some (.int (nI (n))), some (.int (y)), some (.int (z)), some (.int (b)), some (.int (l))] [.ref (oa (13 + n))] M
  obtain ⟨ern, ecn, s1n, s2n, s3n, s4n, hNn⟩ := hV.1 n hn
  obtain ⟨bn, ebn⟩ : ∃ b, b = 809 + 257 * n := ⟨_, rfl⟩
  have hMn := hO.2.2.2.2.2.2.2 n (by omega)
  rw [← ebn] at hMn hNn
  have hmn := hMn.1
  refine jj_iload_n (pc := 5) kX_limb_d5 rfl ?_
  refine jj_iload_n (pc := 6) kX_limb_d6 rfl ?_
  refine jj_callS (pc := 7) (As := [.ref (oa (13 + n)), .int (y), .int (z)]) kX_limb_d7 (kvX_X_needCell hG) rfl rfl rfl (Nat.le_of_ble_eq_true rfl) (Nat.le_of_ble_eq_true rfl) (jj_bare0 rfl) ?_
  refine x_needCell hG hMn s2n s4n hrc hrs (fun i j hi' ei hj' ej => ?_) (fun h a ha => kt 1 4 (Or.inl ⟨fun g => (fun ⟨k9, i9, j9, q1, q2, q3, q4, q5, q6⟩ => h ⟨i9, j9, by have := nI_inj (by omega) (by omega) q2; rw [ern, this]; exact q3, q4, by have := nI_inj (by omega) (by omega) q2; rw [ecn, this]; exact q5, q6⟩) g.1, rfl, rfl⟩) (by omega) a ha)
  subst ei ej
  show jj G kX_limb (d + 10) Q rc rs 10 [some (.ref (oa 0)), some (.int (nI (n))), some (.int (nI (i))), some (.int (nI (j))), some (.int (b)), some (.int (l))] [] M
  refine jj_iload (pc := 10) kX_limb_d10 rfl ?_
  refine jj_if_ge (pc := 12) (tgt := 26) kX_limb_d12 (by decide) (fun cl => ?_) (fun cl => ?_)
  · skip
    obtain ⟨m, hm9, em⟩ := nI_of (show ¬ l < 0 by exact Int32.not_lt.mpr cl)
    subst em
    show jj G kX_limb (d + 10) Q rc rs 26 [some (.ref (oa 0)), some (.int (nI (n))), some (.int (nI (i))), some (.int (nI (j))), some (.int (b)), some (.int (nI (m)))] [] M
    refine jj_aload_n (pc := 26) kX_limb_d26 rfl ?_
    refine jj_iload_n (pc := 27) kX_limb_d27 rfl ?_
    refine jj_iload_n (pc := 28) kX_limb_d28 rfl ?_
    refine jj_iload_n (pc := 29) kX_limb_d29 rfl ?_
    refine jj_iload (pc := 30) kX_limb_d30 rfl ?_
    refine jj_callV (pc := 32) (b := (oa 0)) (As := [.int (nI (n)), .int (nI (i)), .int (nI (j)), .int (b)]) kX_limb_d32 (kvX_X_shownPart hG) (kG_cl hG rfl) rfl hx rfl rfl rfl (Nat.le_of_ble_eq_true rfl) (Nat.le_of_ble_eq_true rfl) (jj_bare0 rfl) ?_
    refine x_shownPart hG hJ hT hrc hrs (fun M1 V1 n2 i2 j2 hn2 en hi2 ei hj2 ej hT1 hc1 v15 v16 hF1 => ?_) (fun h y hy => absurd ⟨n, i, j, hn, rfl, by omega, rfl, by omega, rfl⟩ h)
    have hpl : (if b = 0 then 15 else 16) < 3122 := by split <;> omega
    have hhv : V1 (if b = 0 then 15 else 16) = halfv (σ.2.2 n2 (i2 * σ.2.1 n2 + j2)) b := by
      unfold halfv
      split
      · exact v15
      · exact v16
    obtain ⟨T9, t9, hT9, _, _⟩ := hc1 (if b = 0 then 15 else 16) hpl
    show jj G kX_limb (d + 10) Q rc rs 35 [some (.ref (oa 0)), some (.int (nI (n))), some (.int (nI (i))), some (.int (nI (j))), some (.int (b)), some (.int (nI (m)))] [.ref (wa (if b = 0 then 15 else 16))] M1
    refine jj_iload (pc := 35) kX_limb_d35 rfl ?_
    refine jj_callV (pc := 37) (b := (wa (if b = 0 then 15 else 16))) (As := [.int (nI (m))]) kX_limb_d37 (kvX_W_limbAt hG) (kG_cl hG rfl) rfl hT9 rfl rfl rfl (Nat.le_of_ble_eq_true rfl) (Nat.le_of_ble_eq_true rfl) (jj_bare0 rfl) ?_
    refine w_limbAt hG hI hc1 hpl hm9 ?_
    show jj G kX_limb (d + 10) Q rc rs 40 [some (.ref (oa 0)), some (.int (nI (n))), some (.int (nI (i))), some (.int (nI (j))), some (.int (b)), some (.int (nI (m)))] [.int (nI ((V1 (if b = 0 then 15 else 16)).natAbs / BB ^ m))] M1
    exact jj_iret (pc := 40) kX_limb_d40 rfl (by rfl) (kr M1 _ (Or.inr ⟨n2, i2, j2, m, hn2, en, hi2, ei, hj2, ej, hm9, rfl, rfl, by rw [hhv, show BB = 2 ^ 32 from rfl, ← Nat.pow_mul]⟩) hT1 hF1)
  · skip
    exact jj_throw (pc := 15) (ll := 3) kX_limb_d15 kX_limb_d18 (Or.inr ⟨kX_limb_d19, rfl⟩) kX_limb_d22 kX_limb_d25 (ktX_no_such_limb hG) rfl (Nat.le_of_ble_eq_true rfl) (jj_bare0 rfl) hrc hrs (fun a ha => kt 1 4 (Or.inl ⟨fun g => g.2 (Int32.not_le.mp cl), rfl, rfl⟩) (by omega) a ha)
end X4
