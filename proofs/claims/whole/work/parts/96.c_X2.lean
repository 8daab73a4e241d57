/-! ===== ExactForms: reduceDraft, keepDraft (printed by wip/gen/rX2.py) ===== -/
theorem XO.dr {M : mheap} {wa oa : Nat → Nat} {sc : Int32} {R C : Nat → Nat} (h : XO M wa oa sc R C) {b : Nat} (hb : b = 2865) : MXT M wa (oa 21) (oa 30) b (R 8) (C 8) := by
  rw [hb]
  exact h.2.2.2.2.2.2.2 8 (by omega)
theorem XJ.cap252 {wa la cap oa : Nat → Nat} {eu dv hi lo : Nat} (h : XJ wa la cap oa eu dv hi lo) {p : Nat} (h1 : 2865 ≤ p) (h2 : p < 3122) : cap p = 252 := by
  rw [h.2.1 p h2]
  unfold capx
  rw [if_neg (by omega), if_neg (by omega), if_neg (by omega), if_neg (by omega), if_neg (by omega), if_neg (by omega), if_neg (by omega), if_neg (by omega)]
theorem XJ.cap125 {wa la cap oa : Nat → Nat} {eu dv hi lo : Nat} (h : XJ wa la cap oa eu dv hi lo) {p : Nat} (h1 : 809 ≤ p) (h2 : p < 2865) : cap p = 125 := by
  rw [h.2.1 p (by omega)]
  unfold capx
  rw [if_neg (by omega), if_neg (by omega), if_neg (by omega), if_neg (by omega), if_neg (by omega), if_neg (by omega), if_neg (by omega), if_pos (by omega)]
theorem XJ.capw {wa la cap oa : Nat → Nat} {eu dv hi lo : Nat} (h : XJ wa la cap oa eu dv hi lo) {p : Nat} (h1 : 809 ≤ p) (h2 : p < 3122) : cap p ≤ 252 ∧ 1 ≤ cap p := by
  rcases Nat.lt_or_ge p 2865 with g | g
  · rw [h.cap125 h1 g]; omega
  · rw [h.cap252 g h2]; omega
section X2
variable {G : jg} {d : Nat} {Q : jq} {rc rs : Nat} {M : mheap} {wa la cap oa : Nat → Nat} {eu dv hi lo : Nat} {V : Nat → Int} {sc : Int32} {R C : Nat → Nat}
theorem x_red20 {q : Nat → Rat} (hG : kG G) (hJ : XJ wa la cap oa eu dv hi lo) (hS : KS M wa la cap 3122 eu dv hi lo (oa 3) V) (hO : XO M wa oa sc R C) (h1r : 1 ≤ R 8) (hr : R 8 ≤ 16) (h1c : 1 ≤ C 8) (hcc : C 8 ≤ 16) (hH : HAS V 2865 (R 8) (C 8) q) (hpos : 0 < V (2865 + 256)) (k : ∀ (M' : mheap) (V' : Nat → Int), KS M' wa la cap 3122 eu dv hi lo (oa 3) V' → XO M' wa oa sc R C → NRM V' 2865 (R 8) (C 8) q → (∀ p, 13 ≤ p → p < 2865 → V' p = V p) → EF M M' wa la 3122 eu dv hi lo → Q (.returned none) M' rc rs) : jj G kX_reduceDraft (d + 7) Q rc rs 20 [some (.ref (oa 0))] [] M := by
  have hK := hJ.1
  obtain ⟨b, hb⟩ : ∃ b, b = 2865 := ⟨_, rfl⟩
  obtain ⟨r, er⟩ : ∃ r, R 8 = r := ⟨_, rfl⟩
  obtain ⟨c, ec⟩ : ∃ c, C 8 = c := ⟨_, rfl⟩
  have hM := hO.dr hb
  rw [er, ec] at hM
  have hm := hM.1
  have hx := hO.1
  have hcp : ∀ p, b ≤ p → p ≤ b + 256 → cap p ≤ 252 := fun p _ _ => (hJ.capw (by omega) (by omega)).1
  rw [er] at hr h1r
  rw [ec] at hcc h1c
  rw [er, ec] at hH k
  rw [← hb] at hH hpos k
  obtain ⟨hI, hN, hcap, hdi⟩ := id hK
  obtain ⟨hc0, ⟨r_a, px_a, pf_a, py_a, po_a, ps_a, od_a, hU0⟩, hdk0⟩ := id hS
  have hf0 : EF M M wa la 3122 eu dv hi lo := fun _ _ _ _ _ _ => rfl
  obtain ⟨V0, hV0⟩ : ∃ V0, V = V0 := ⟨_, rfl⟩
  rw [hV0] at hc0
  have hn0 := hU0.1
  have b_r0 := hn0.2.1
  have b_x0 := hn0.2.2.1
  have b_f0 := hn0.2.2.2.1
  have hdv0 := hU0.2.1
  obtain ⟨ea0, eb0, ec0, ed0, hE0⟩ := hU0.2.2.2
  have hD0 := hdv0.1
  rw [hV0] at hH hpos k
  show jj G kX_reduceDraft (d + 7) Q rc rs 20 [some (.ref (oa 0))] [] M
  refine jj_aload_n (pc := 20) kX_reduceDraft_d20 rfl ?_
  refine jj_getf (pc := 21) kX_reduceDraft_d21 (kfX_desk hG) hx rfl ?_
  refine jj_aload_n (pc := 24) kX_reduceDraft_d24 rfl ?_
  refine jj_getf (pc := 25) kX_reduceDraft_d25 (kfX_draft hG) hx rfl ?_
  refine jn_iconst (pc := 28) 0 kX_reduceDraft_d28 (by decide) ?_
  refine jj_aload_n (pc := 29) kX_reduceDraft_d29 rfl ?_
  refine jj_getf (pc := 30) kX_reduceDraft_d30 (kfX_draft hG) hx rfl ?_
  refine jj_getf (pc := 33) kX_reduceDraft_d33 (kfX_M_rows hG) hm rfl ?_
  refine jj_callV (pc := 36) (b := (oa 3)) (As := [.ref (oa 21), .int (nI (0)), .int (nI (r))]) kX_reduceDraft_d36 (kvX_K_commonDivisor hG) (kG_cl hG rfl) rfl hdk0 rfl rfl rfl (Nat.le_of_ble_eq_true rfl) (Nat.le_of_ble_eq_true rfl) (jj_bare0 rfl) ?_
  refine k_common hG hK (hV0 ▸ hS) hM (by omega) (by omega) hcp hcc (Nat.zero_le _) hr hpos (fun M1 V1 hS1 hcd ot1 hw1 => ?_) 
  obtain ⟨hc1, ⟨r_1, px_1, pf_1, py_1, po_1, ps_1, od_1, hU1⟩, _⟩ := id hS1
  have hf1 := hf0.trans hw1
  have q1_oa0 := hw1.obj hc0 hU0 hx (by decide) (by decide) (by decide)
  have q1_oa21 := hw1.obj hc0 hU0 hm (by decide) (by decide) (by decide)
  have q1_oa3 := hw1.obj hc0 hU0 hdk0 (by decide) (by decide) (by decide)
  have hn1 := hU1.1
  have b_r1 := hn1.2.1
  have b_x1 := hn1.2.2.1
  have b_f1 := hn1.2.2.2.1
  have hdv1 := hU1.2.1
  obtain ⟨ea1, eb1, ec1, ed1, hE1⟩ := hU1.2.2.2
  have hD1 := hdv1.1
  show jj G kX_reduceDraft (d + 7) Q rc rs 39 [some (.ref (oa 0))] [] M1
  have hM1 := hM.ef hS hw1
  have oO : ∀ p, 13 ≤ p → V1 p = V0 p := fun p p1 => ot1 p (by omega) (by omega)
  obtain ⟨T10_1, t10_1, hT10_1, _, _⟩ := hc1 10 (by omega)
  refine jj_aload_n (pc := 39) kX_reduceDraft_d39 rfl ?_
  refine jj_getf (pc := 40) kX_reduceDraft_d40 (kfX_desk hG) q1_oa0 rfl ?_
  refine jj_getf (pc := 43) kX_reduceDraft_d43 (kfX_K_divisor hG) q1_oa3 rfl ?_
  refine jj_callV (pc := 46) (b := (wa 10)) (As := []) kX_reduceDraft_d46 (kvX_W_isOne hG) (kG_cl hG rfl) rfl hT10_1 rfl rfl rfl (Nat.le_of_ble_eq_true rfl) (Nat.le_of_ble_eq_true rfl) (jj_bare0 rfl) ?_
  refine w_isOne hG hI hc1 (by omega) (fun c1 => ?_) (fun c1 => ?_)
  · skip
    show jj G kX_reduceDraft (d + 7) Q rc rs 49 [some (.ref (oa 0))] [.int (nI (1))] M1
    refine jn_if_ne (pc := 49) (tgt := 63) kX_reduceDraft_d49 (by decide) (by omega) (fun _ => ?_) (fun c => by exfalso; omega)
    rw [c1] at hcd
    exact jj_vret (pc := 63) kX_reduceDraft_d63 rfl (k M1 V1 hS1 (hO.ef hJ hw1) (NRM.of (V := V0) (gg := 1) hpos hH.2 hcd (by rw [Int.mul_one, oO _ (by omega)]) (fun i j _ _ => by rw [Int.mul_one, oO _ (by omega)])) (fun p p1 p2 => oO p p1) hw1)
  · skip
    show jj G kX_reduceDraft (d + 7) Q rc rs 49 [some (.ref (oa 0))] [.int (nI (0))] M1
    refine jn_if_ne (pc := 49) (tgt := 63) kX_reduceDraft_d49 (by decide) (by omega) (fun c => by exfalso; omega) (fun _ => ?_)
    refine jj_aload_n (pc := 52) kX_reduceDraft_d52 rfl ?_
    refine jj_getf (pc := 53) kX_reduceDraft_d53 (kfX_draft hG) q1_oa0 rfl ?_
    refine jj_aload_n (pc := 56) kX_reduceDraft_d56 rfl ?_
    refine jj_getf (pc := 57) kX_reduceDraft_d57 (kfX_desk hG) q1_oa0 rfl ?_
    have hv1 : ∀ p, b ≤ p → p ≤ b + 256 → V1 p = V0 p := fun p _ _ => oO p (by omega)
    refine jj_callV (pc := 60) (b := (oa 21)) (As := [.ref (oa 3)]) kX_reduceDraft_d60 (kvX_M_divide hG) (kG_cl hG rfl) rfl q1_oa21 rfl rfl rfl (Nat.le_of_ble_eq_true rfl) (Nat.le_of_ble_eq_true rfl) (jj_bare0 rfl) ?_
    refine m_divide hG hK hS1 hM1 (by omega) (by omega) hr hcc hcp (fun M2 V2 hS2 hM2 v1 v2 vo hw2 => ?_)
    show jj G kX_reduceDraft (d + 7) Q rc rs 63 [some (.ref (oa 0))] [] M2
    have hN2 : NRM V2 b r c q := NRM.of (V := V0) (gg := V1 10) hpos hH.2 hcd (by rw [v1, hv1 _ (by omega) (by omega)]; exact tdiv_back hcd.2.1) (fun i j hi' hj => by
      rw [v2 i j hi' hj, hv1 _ (by omega) (by omega)]
      exact tdiv_back (hcd.2.2.1 i j (Nat.zero_le _) ⟨hj, Or.inl hi'⟩))
    exact jj_vret (pc := 63) kX_reduceDraft_d63 rfl (k M2 V2 hS2 (hO.ef hJ (hw1.trans hw2)) hN2 (fun p p1 p2 => by rw [vo p (by omega) (by omega) (fun i j _ _ => by omega)]; exact oO p p1) (hw1.trans hw2))
theorem x_reduceDraft {q : Nat → Rat} (hG : kG G) (hJ : XJ wa la cap oa eu dv hi lo) (hS : KS M wa la cap 3122 eu dv hi lo (oa 3) V) (hO : XO M wa oa sc R C) (h1r : 1 ≤ R 8) (hr : R 8 ≤ 16) (h1c : 1 ≤ C 8) (hcc : C 8 ≤ 16) (hH : HAS V 2865 (R 8) (C 8) q) (k : ∀ (M' : mheap) (V' : Nat → Int), KS M' wa la cap 3122 eu dv hi lo (oa 3) V' → XO M' wa oa sc R C → NRM V' 2865 (R 8) (C 8) q → (∀ p, 13 ≤ p → p < 2865 → V' p = V p) → EF M M' wa la 3122 eu dv hi lo → Q (.returned none) M' rc rs) : jj G kX_reduceDraft (d + 7) Q rc rs 0 (jj_ent [.ref (oa 0)] 1) [] M := by
  have hK := hJ.1
  have hI := hK.1
  obtain ⟨b, hb⟩ : ∃ b, b = 2865 := ⟨_, rfl⟩
  obtain ⟨r, er⟩ : ∃ r, R 8 = r := ⟨_, rfl⟩
  obtain ⟨c, ec⟩ : ∃ c, C 8 = c := ⟨_, rfl⟩
  have hM := hO.dr hb
  rw [er, ec] at hM
  have hm := hM.1
  have hx := hO.1
  obtain ⟨T1, t1, hT1, _, _⟩ := hS.1 (b + 256) (by omega)
  show jj G kX_reduceDraft (d + 7) Q rc rs 0 [some (.ref (oa 0))] [] M
  refine jj_aload_n (pc := 0) kX_reduceDraft_d0 rfl ?_
  refine jj_getf (pc := 1) kX_reduceDraft_d1 (kfX_draft hG) hx rfl ?_
  refine jj_getf (pc := 4) kX_reduceDraft_d4 (kfX_M_common hG) hm rfl ?_
  refine jj_getf (pc := 7) kX_reduceDraft_d7 (kfX_W_below hG) hT1 rfl ?_
  refine jj_if_eq (pc := 10) (tgt := 20) kX_reduceDraft_d10 (by decide) (fun c0 => ?_) (fun c0 => ?_)
  · skip
    show jj G kX_reduceDraft (d + 7) Q rc rs 20 [some (.ref (oa 0))] [] M
    have c1 := sg_eq0.mp c0
    have c2 := hH.1
    rw [hb] at c1
    exact x_red20 hG hJ hS hO h1r hr h1c hcc hH (by omega) k
  · skip
    have hneg : V (b + 256) < 0 := by
      rcases (show V (b + 256) < 0 ∨ 0 ≤ V (b + 256) by omega) with e | e
      · exact e
      · exact absurd (sg_eq0.mpr e) c0
    refine jj_aload_n (pc := 13) kX_reduceDraft_d13 rfl ?_
    refine jj_getf (pc := 14) kX_reduceDraft_d14 (kfX_draft hG) hx rfl ?_
    refine jj_callV (pc := 17) (b := (oa 21)) (As := []) kX_reduceDraft_d17 (kvX_M_negate hG) (kG_cl hG rfl) rfl hm rfl rfl rfl (Nat.le_of_ble_eq_true rfl) (Nat.le_of_ble_eq_true rfl) (jj_bare0 rfl) ?_
    refine m_negate hG hK hS hM (by omega) (by omega) (by omega) (by omega) (fun M1 V1 hS1 hM1 v1 v2 vo hw1 => ?_)
    show jj G kX_reduceDraft (d + 7) Q rc rs 20 [some (.ref (oa 0))] [] M1
    rw [hb] at v1 v2 vo hneg
    refine x_red20 hG hJ hS1 (hO.ef hJ hw1) h1r hr h1c hcc ⟨by omega, fun i j hi' hj => ?_⟩ (by omega) (fun M2 V2 hS2 hO2 hN2 o2 hw2 => k M2 V2 hS2 hO2 hN2 (fun p p1 p2 => by rw [o2 p p1 p2, vo p (by omega) (by omega) (fun i j _ _ => by omega)]) (hw1.trans hw2))
    rw [er] at hi'
    rw [ec] at hj
    rw [v1, v2 i j hi' hj, Rat.intCast_neg, Rat.intCast_neg, hH.2 i j (by omega) (by omega)]
    grind
theorem x_keepDraft {q : Nat → Rat} {n : Nat} (hG : kG G) (hJ : XJ wa la cap oa eu dv hi lo) (hS : KS M wa la cap 3122 eu dv hi lo (oa 3) V) (hO : XO M wa oa sc R C) (h1r : 1 ≤ R 8) (hr : R 8 ≤ 16) (h1c : 1 ≤ C 8) (hcc : C 8 ≤ 16) (hn : n < 8) (hN : NRM V 2865 (R 8) (C 8) q) (hrc : 1 ≤ rc) (hrs : 6 ≤ rs) (k : ∀ (M' : mheap) (V' : Nat → Int), FIT (R 8) (C 8) q → KS M' wa la cap 3122 eu dv hi lo (oa 3) V' → XO M' wa oa (-1) (fun i => if i = n then R 8 else R i) (fun i => if i = n then C 8 else C i) → NRM V' (809 + 257 * n) (R 8) (C 8) q → (∀ p, 13 ≤ p → (p < 809 + 257 * n ∨ 809 + 257 * n + 256 < p) → V' p = V p) → XF oa M M' wa la eu dv hi lo → Q (.returned none) M' rc rs) (kt : ¬ FIT (R 8) (C 8) q → ∀ x, M x = none → Q (.threw x) (jj_up M x (.inl 6, [])) (rc - 1) (rs - 6)) : jj G kX_keepDraft (d + 8) Q rc rs 0 (jj_ent [.ref (oa 0), .int (nI n)] 2) [] M := by
  have hK := hJ.1
  have hI := hK.1
  have hfit := hN.fit hr hcc
  obtain ⟨b, hb⟩ : ∃ b, b = 2865 := ⟨_, rfl⟩
  obtain ⟨b2, hb2⟩ : ∃ b2, b2 = 809 + 257 * n := ⟨_, rfl⟩
  obtain ⟨r, er⟩ : ∃ r, R 8 = r := ⟨_, rfl⟩
  obtain ⟨c, ec⟩ : ∃ c, C 8 = c := ⟨_, rfl⟩
  have hM := hO.dr hb
  have hM2 := hO.2.2.2.2.2.2.2 n (by omega)
  rw [er, ec] at hM
  rw [er] at hr h1r
  rw [ec] at hcc h1c
  rw [er, ec] at hN k kt hfit
  rw [← hb] at hN hfit
  rw [← hb2] at hM2 k
  have hm := hM.1
  have hm2 := hM2.1
  have hx := hO.1
  show jj G kX_keepDraft (d + 8) Q rc rs 0 [some (.ref (oa 0)), some (.int (nI (n)))] [] M
  refine jj_aload_n (pc := 0) kX_keepDraft_d0 rfl ?_
  refine jj_getf (pc := 1) kX_keepDraft_d1 (kfX_draft hG) hx rfl ?_
  refine jj_callV (pc := 4) (b := (oa 21)) (As := []) kX_keepDraft_d4 (kvX_M_isTooLong hG) (kG_cl hG rfl) rfl hm rfl rfl rfl (Nat.le_of_ble_eq_true rfl) (Nat.le_of_ble_eq_true rfl) (jj_bare0 rfl) ?_
  refine m_isTooLong hG hI hS.1 hM (by omega) hr hcc (fun c1 => ?_) (fun c1 => ?_)
  · skip
    show jj G kX_keepDraft (d + 8) Q rc rs 7 [some (.ref (oa 0)), some (.int (nI (n)))] [.int (nI (1))] M
    refine jn_if_eq (pc := 7) (tgt := 21) kX_keepDraft_d7 (by decide) (by omega) (fun c => by exfalso; omega) (fun _ => ?_)
    exact jj_throw (pc := 10) (ll := 3) kX_keepDraft_d10 kX_keepDraft_d13 (Or.inr ⟨kX_keepDraft_d14, rfl⟩) kX_keepDraft_d17 kX_keepDraft_d20 (ktX_lengths_or_limbs_beyond_their_bounds hG) rfl (Nat.le_of_ble_eq_true rfl) (jj_bare0 rfl) hrc hrs (fun y hy => kt (fun h => hfit.1 h c1) y hy)
  · skip
    show jj G kX_keepDraft (d + 8) Q rc rs 7 [some (.ref (oa 0)), some (.int (nI (n)))] [.int (nI (0))] M
    refine jn_if_eq (pc := 7) (tgt := 21) kX_keepDraft_d7 (by decide) (by omega) (fun _ => ?_) (fun c => by exfalso; omega)
    refine jj_aload_n (pc := 21) kX_keepDraft_d21 rfl ?_
    refine jj_getf (pc := 22) kX_keepDraft_d22 (kfX_registers hG) hx rfl ?_
    refine jj_iload_n (pc := 25) kX_keepDraft_d25 rfl ?_
    refine jj_aald (pc := 26) (i := n) kX_keepDraft_d26 (kG_t hG rfl) hO.2.1 rfl (by rw [List.length_map, List.length_range]; decide) (by rw [List.getElem?_map, List.getElem?_range hn]; rfl) ?_
    show jj G kX_keepDraft (d + 8) Q rc rs 27 [some (.ref (oa 0)), some (.int (nI (n)))] [.ref (oa (13 + n))] M
    refine jj_aload_n (pc := 27) kX_keepDraft_d27 rfl ?_
    refine jj_getf (pc := 28) kX_keepDraft_d28 (kfX_draft hG) hx rfl ?_
    obtain ⟨l1, l2⟩ := LNG.not c1
    have hroom : ∀ p, (p = 256 ∨ ∃ i j, i < r ∧ j < c ∧ p = 16 * i + j) → (V (b + p)).natAbs < BB ^ cap (b2 + p) := fun p hp => by
      have hp9 : p ≤ 256 := by rcases hp with h | ⟨i, j, h1, h2, h3⟩ <;> omega
      rw [hJ.cap125 (by omega) (by omega)]
      rcases hp with h | ⟨i, j, h1, h2, h3⟩
      · rw [h]; exact lc_room l1
      · rw [h3]; exact lc_room (l2 i j h1 h2)
    refine jj_callV (pc := 31) (b := (oa (13 + n))) (As := [.ref (oa 21)]) kX_keepDraft_d31 (kvX_M_copy hG) (kG_cl hG rfl) rfl hm2 rfl rfl rfl (Nat.le_of_ble_eq_true rfl) (Nat.le_of_ble_eq_true rfl) (jj_bare0 rfl) ?_
    refine m_copy hG hK hS hM2 (by omega) (by omega) hr hcc hM (by omega) (by omega) (by omega) hroom (fun M1 V1 hS1 hM1 v1 v2 vo hw1 => ?_)
    have hk1 : ∀ i, i < 31 → i ≠ 13 + n → M1 (oa i) = M (oa i) := fun i hi' hne => by
      obtain ⟨g1, g2, g3, g4, g5⟩ := hJ.2.2.1 i hi'
      exact hw1 _ g1 g2 g3 g4 g5 (hJ.ne hi' (by omega) hne)
    rw [hb2] at hM1
    have hO1 := hO.mx (show n < 9 by omega) hM1 hk1
    have hx1 := hO1.1
    have hF1 : XF oa M M1 wa la eu dv hi lo := fun x hx f => hw1 x f.1 f.2.1 f.2.2.1 f.2.2.2.1 f.2.2.2.2 (fun e => hx ⟨13 + n, by omega, e⟩)
    show jj G kX_keepDraft (d + 8) Q rc rs 34 [some (.ref (oa 0)), some (.int (nI (n)))] [] M1
    refine jj_aload_n (pc := 34) kX_keepDraft_d34 rfl ?_
    refine jj_iconst (pc := 35) (v := (-1)) kX_keepDraft_d35 (by decide) ?_
    refine jj_putf (pc := 36) kX_keepDraft_d36 (kpX_shownCell hG) hx1 (by rfl) rfl ?_
    refine jn_gen (fun M101 hM102 => ?_)
    have h103 : M101 (oa 0) = some (.inl nX, [.ref (oa 1), .ref (oa 2), .ref (oa 21), .ref (oa 3), .ref (oa 4), .ref (oa 9), .ref (oa 11), .ref (oa 12), .int (-1)]) := by rw [hM102]; exact jj_up_at _ _ _
    have hu : ∀ x, x ≠ oa 0 → M101 x = M1 x := fun x hx => by rw [hM102, jj_up_ne _ _ hx]
    exact jj_vret (pc := 39) kX_keepDraft_d39 rfl (k M101 V1 (hfit.2 c1) (hS1.up (hJ.2.2.1 0 (by omega)) (hJ.ne (by omega) (by omega) (by omega)) hu) (hO1.shw h103 hJ hu) (hN.congr v1 v2 (fun _ _ => rfl)) (fun p p1 p2 => vo p (by omega) (by omega) (fun i j _ _ => by omega)) (hF1.trans (EFX.up hu ⟨0, by omega, rfl⟩)))
end X2
