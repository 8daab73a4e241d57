/-! ===== ExactForms: part (printed by wip/gen/rX6.py) ===== -/
theorem nsum_monof {f g : Nat → Nat} : ∀ {n : Nat}, (∀ i, i < n → f i ≤ g i) → nsum f n ≤ nsum g n
  | 0, _ => Nat.le_refl _
  | n + 1, h => by
    show nsum f n + f n ≤ nsum g n + g n
    have := nsum_monof (n := n) (fun i hi => h i (by omega))
    have := h n (by omega)
    omega
theorem nsum_sub {f : Nat → Nat} {a n m : Nat} (h : a + n ≤ m) : nsum (fun j => f (a + j)) n ≤ nsum f m := by
  have h1 := nsum_append (f := f) (a := a) (n := n)
  have h2 := nsum_le (f := f) h
  omega
theorem FIT.part {V V' : Nat → Int} {b b' r c r' c' i0 j0 : Nat} {q q' : Nat → Rat} (h : NRM V b r c q) (hf : FIT r c q) (h' : NRM V' b' r' c' q') (hi : i0 + r' ≤ r) (hj : j0 + c' ≤ c) (hq : ∀ i j, i < r' → j < c' → q' (i * c' + j) = q ((i0 + i) * c + (j0 + j))) : FIT r' c' q' := by
  have hn := (h.fit hf.1 hf.2.1).1 hf
  obtain ⟨e, he⟩ : V' (b' + 256) ∣ V (b + 256) := by
    rw [h.lcm, h'.lcm]
    refine lcmf_least ⟨_, (Int.one_mul _).symm⟩ (fun t ht => ?_)
    obtain ⟨i, j, hi', hj', rfl⟩ := dense_of ht
    rw [hq i j hi' hj']
    exact lcmf_dvd' (f := fun t => (q t).den) (dense_lt (show i0 + i < r by omega) (show j0 + j < c by omega))
  have hp := h.1
  have hp' := h'.1
  have he0 : 0 < e := int_pos_of_mul hp' (by rw [← he]; exact hp)
  have c1 : (V' (b' + 256)).natAbs ≤ (V (b + 256)).natAbs := by
    rw [he, Int.natAbs_mul]
    exact Nat.le_mul_of_pos_right _ (by omega)
  have c2 : ∀ i j, i < r' → j < c' → (V' (b' + (16 * i + j))).natAbs ≤ (V (b + (16 * (i0 + i) + (j0 + j)))).natAbs := fun i j hi' hj' => by
    have e2 : V (b + (16 * (i0 + i) + (j0 + j))) = V' (b' + (16 * i + j)) * e := by
      apply Rat.intCast_inj.mp
      rw [Rat.intCast_mul, h.2.1.2 _ _ (show i0 + i < r by omega) (show j0 + j < c by omega), h'.2.1.2 i j hi' hj', hq i j hi' hj', he, Rat.intCast_mul, Rat.mul_assoc]
    rw [e2, Int.natAbs_mul]
    exact Nat.le_mul_of_pos_right _ (by omega)
  refine (h'.fit (by have := hf.1; omega) (by have := hf.2.1; omega)).2 (fun hl => hn ?_)
  rcases hl with hl | ⟨i, j, hi', hj', hl⟩ | hl
  · exact Or.inl (Nat.lt_of_lt_of_le hl (blen_mono c1))
  · exact Or.inr (Or.inl ⟨i0 + i, j0 + j, by omega, by omega, Nat.lt_of_lt_of_le hl (blen_mono (c2 i j hi' hj'))⟩)
  · refine Or.inr (Or.inr (Nat.lt_of_lt_of_le hl (Nat.add_le_add (lc_mono c1) ?_)))
    refine Nat.le_trans (nsum_monof (g := fun i => nsum (fun j => lc (V (b + (16 * (i0 + i) + j)))) c) (fun i hi' => ?_)) (nsum_sub (f := fun i => nsum (fun j => lc (V (b + (16 * i + j)))) c) hi)
    exact Nat.le_trans (nsum_monof (g := fun j => lc (V (b + (16 * (i0 + i) + (j0 + j))))) (fun j hj' => lc_mono (c2 i j hi' hj'))) (nsum_sub (f := fun j => lc (V (b + (16 * (i0 + i) + j)))) hj)
section X6
variable {G : jg} {d : Nat} {Q : jq} {rc rs : Nat} {M : mheap} {wa la cap oa : Nat → Nat} {eu dv hi lo : Nat} {σ : rst}
theorem xp_part {x y i k j l : Int32} (hG : kG G) (hJ : XJ wa la cap oa eu dv hi lo) (hT : XT M wa la cap oa eu dv hi lo σ) (hLG : LG σ) (hrc : 1 ≤ rc) (hrs : 6 ≤ rs) (kr : ∀ (M' : mheap)  (σ' : rst), semPart σ x y i k j l 0 σ' → XT M' wa la cap oa eu dv hi lo σ' → XF oa M M' wa la eu dv hi lo → Q (.returned none) M' rc rs) (kt : ∀ (M' : mheap) (cd ci : Nat), semPart σ x y i k j l cd σ → (cd = 1 ∧ ci = 4 ∨ cd = 2 ∧ ci = 5) → XT M' wa la cap oa eu dv hi lo σ → XF oa M M' wa la eu dv hi lo → ∀ x, M' x = none → Q (.threw x) (jj_up M' x (.inl ci, [])) (rc - 1) (rs - 6)) : jj G kX_part (d + 9) Q rc rs 0 (jj_ent [.ref (oa 0), .int x, .int y, .int i, .int k, .int j, .int l] 10) [] M := by
  obtain ⟨V, sc, R, C, hS, hO, hV⟩ := id hT
  have hK := hJ.1
  have hI := hK.1
  have hx := hO.1
  show jj G kX_part (d + 9) Q rc rs 0 [some (.ref (oa 0)), some (.int (x)), some (.int (y)), some (.int (i)), some (.int (k)), some (.int (j)), some (.int (l)), none, none, none] [] M
  refine jj_aload_n (pc := 0) kX_part_d0 rfl ?_
  refine jj_iload_n (pc := 1) kX_part_d1 rfl ?_
  refine jj_callV (pc := 2) (b := (oa 0)) (As := [.int (x)]) kX_part_d2 (kvX_X_register hG) (kG_cl hG rfl) rfl hx rfl rfl rfl (Nat.le_of_ble_eq_true rfl) (Nat.le_of_ble_eq_true rfl) (jj_bare0 rfl) ?_
  refine x_register hG hO hrc hrs (fun n hn en => ?_) (fun h y hy => kt M 1 4 (Or.inl ⟨fun g => h g.1, rfl, rfl⟩) (by omega) hT (fun _ _ _ => rfl) y hy)
  subst en
  show jj G kX_part (d + 9) Q rc rs 5 [some (.ref (oa 0)), some (.int (nI (n))), some (.int (y)), some (.int (i)), some (.int (k)), some (.int (j)), some (.int (l)), none, none, none] [.ref (oa (13 + n))] M
  refine jj_pop (pc := 5) kX_part_d5 rfl ?_
  refine jj_aload_n (pc := 6) kX_part_d6 rfl ?_
  refine jj_iload_n (pc := 7) kX_part_d7 rfl ?_
  refine jj_callV (pc := 8) (b := (oa 0)) (As := [.int (y)]) kX_part_d8 (kvX_X_register hG) (kG_cl hG rfl) rfl hx rfl rfl rfl (Nat.le_of_ble_eq_true rfl) (Nat.le_of_ble_eq_true rfl) (jj_bare0 rfl) ?_
  refine x_register hG hO hrc hrs (fun m hm em => ?_) (fun h y hy => kt M 1 4 (Or.inl ⟨fun g => by obtain ⟨_, ⟨k, i, j, h1, h2, _⟩, _⟩ := g; exact h ⟨k, h1, h2⟩, rfl, rfl⟩) (by omega) hT (fun _ _ _ => rfl) y hy)
  subst em
  show jj G kX_part (d + 9) Q rc rs 11 [some (.ref (oa 0)), some (.int (nI (n))), some (.int (nI (m))), some (.int (i)), some (.int (k)), some (.int (j)), some (.int (l)), none, none, none] [.ref (oa (13 + m))] M
  obtain ⟨erm, ecm, s1m, s2m, s3m, s4m, hNm⟩ := hV.1 m hm
  obtain ⟨bm, ebm⟩ : ∃ b, b = 809 + 257 * m := ⟨_, rfl⟩
  have hMm := hO.2.2.2.2.2.2.2 m (by omega)
  rw [← ebm] at hMm hNm
  have hmm := hMm.1
  refine jj_astore (pc := 11) kX_part_d11 (Nat.le_of_ble_eq_true rfl) ?_
  show jj G kX_part (d + 9) Q rc rs 13 [some (.ref (oa 0)), some (.int (nI (n))), some (.int (nI (m))), some (.int (i)), some (.int (k)), some (.int (j)), some (.int (l)), some (.ref (oa (13 + m))), none, none] [] M
  refine jj_aload (pc := 13) kX_part_d13 rfl ?_
  refine jj_iload_n (pc := 15) kX_part_d15 rfl ?_
  refine jj_iload (pc := 16) kX_part_d16 rfl ?_
  refine jj_callS (pc := 18) (As := [.ref (oa (13 + m)), .int (i), .int (j)]) kX_part_d18 (kvX_X_needCell hG) rfl rfl rfl (Nat.le_of_ble_eq_true rfl) (Nat.le_of_ble_eq_true rfl) (jj_bare0 rfl) ?_
  refine x_needCell hG hMm s2m s4m hrc hrs (fun i0 j0 hi0 ei0 hj0 ej0 => ?_) (fun h a ha => kt M 1 4 (Or.inl ⟨fun g => by obtain ⟨k9, i9, j9, q1, q2, q3, q4, q5, q6⟩ := g.2.1; have q7 := nI_inj (by omega) (by omega) q2; exact h ⟨i9, j9, by rw [erm, q7]; exact q3, q4, by rw [ecm, q7]; exact q5, q6⟩, rfl, rfl⟩) (by omega) hT (fun _ _ _ => rfl) a ha)
  subst ei0 ej0
  show jj G kX_part (d + 9) Q rc rs 21 [some (.ref (oa 0)), some (.int (nI (n))), some (.int (nI (m))), some (.int (nI (i0))), some (.int (k)), some (.int (nI (j0))), some (.int (l)), some (.ref (oa (13 + m))), none, none] [] M
  refine jj_aload (pc := 21) kX_part_d21 rfl ?_
  refine jj_iload (pc := 23) kX_part_d23 rfl ?_
  refine jj_iload (pc := 25) kX_part_d25 rfl ?_
  refine jj_callS (pc := 27) (As := [.ref (oa (13 + m)), .int (k), .int (l)]) kX_part_d27 (kvX_X_needCell hG) rfl rfl rfl (Nat.le_of_ble_eq_true rfl) (Nat.le_of_ble_eq_true rfl) (jj_bare0 rfl) ?_
  refine x_needCell hG hMm s2m s4m hrc hrs (fun i1 j1 hi1 ei1 hj1 ej1 => ?_) (fun h a ha => kt M 1 4 (Or.inl ⟨fun g => by obtain ⟨k9, i9, j9, q1, q2, q3, q4, q5, q6⟩ := g.2.2; have q7 := nI_inj (by omega) (by omega) q2; exact h ⟨i9, j9, by rw [erm, q7]; exact q3, q4, by rw [ecm, q7]; exact q5, q6⟩, rfl, rfl⟩) (by omega) hT (fun _ _ _ => rfl) a ha)
  subst ei1 ej1
  show jj G kX_part (d + 9) Q rc rs 30 [some (.ref (oa 0)), some (.int (nI (n))), some (.int (nI (m))), some (.int (nI (i0))), some (.int (nI (i1))), some (.int (nI (j0))), some (.int (nI (j1))), some (.ref (oa (13 + m))), none, none] [] M
  refine jj_iload_n (pc := 30) kX_part_d30 rfl ?_
  refine jj_iload (pc := 31) kX_part_d31 rfl ?_
  refine jn_icmp_gt (pc := 33) (tgt := 43) kX_part_d33 (by decide) (by omega) (by omega) (fun c1 => ?_) (fun c1 => ?_)
  · skip
    show jj G kX_part (d + 9) Q rc rs 43 [some (.ref (oa 0)), some (.int (nI (n))), some (.int (nI (m))), some (.int (nI (i0))), some (.int (nI (i1))), some (.int (nI (j0))), some (.int (nI (j1))), some (.ref (oa (13 + m))), none, none] [] M
    exact jj_throw (pc := 43) (ll := 2) kX_part_d43 kX_part_d46 (Or.inl ⟨kX_part_d47, rfl⟩) kX_part_d49 kX_part_d52 (ktX_the_first_is_behind_the_last hG) rfl (Nat.le_of_ble_eq_true rfl) (jj_bare0 rfl) hrc hrs (fun a ha => kt M 2 5 (Or.inr ⟨n, m, i0, i1, j0, j1, hn, rfl, hm, rfl, by omega, rfl, by omega, rfl, by omega, rfl, by omega, rfl, Or.inl ⟨fun h => by omega, rfl, rfl⟩⟩) (by omega) hT (fun _ _ _ => rfl) a ha)
  · skip
    refine jj_iload (pc := 36) kX_part_d36 rfl ?_
    refine jj_iload (pc := 38) kX_part_d38 rfl ?_
    refine jn_icmp_le (pc := 40) (tgt := 53) kX_part_d40 (by decide) (by omega) (by omega) (fun c2 => ?_) (fun c2 => ?_)
    · skip
      obtain ⟨rr, err⟩ : ∃ r, r = i1 - i0 + 1 := ⟨_, rfl⟩
      obtain ⟨cc, ecc⟩ : ∃ c, c = j1 - j0 + 1 := ⟨_, rfl⟩
      obtain ⟨bd, ebd⟩ : ∃ b, b = 2865 := ⟨_, rfl⟩
      have hMd := hO.dr ebd
      have hmd := hMd.1
      show jj G kX_part (d + 9) Q rc rs 53 [some (.ref (oa 0)), some (.int (nI (n))), some (.int (nI (m))), some (.int (nI (i0))), some (.int (nI (i1))), some (.int (nI (j0))), some (.int (nI (j1))), some (.ref (oa (13 + m))), none, none] [] M
      refine jj_aload_n (pc := 53) kX_part_d53 rfl ?_
      refine jj_getf (pc := 54) kX_part_d54 (kfX_draft hG) hx rfl ?_
      refine jj_iload (pc := 57) kX_part_d57 rfl ?_
      refine jj_iload_n (pc := 59) kX_part_d59 rfl ?_
      refine jn_isub (pc := 60) (i1 - i0) kX_part_d60 (by omega) ?_
      refine jn_iconst (pc := 61) 1 kX_part_d61 (by decide) ?_
      refine jn_iadd (pc := 62) (rr) kX_part_d62 (by omega) ?_
      refine jj_iload (pc := 63) kX_part_d63 rfl ?_
      refine jj_iload (pc := 65) kX_part_d65 rfl ?_
      refine jn_isub (pc := 67) (j1 - j0) kX_part_d67 (by omega) ?_
      refine jn_iconst (pc := 68) 1 kX_part_d68 (by decide) ?_
      refine jn_iadd (pc := 69) (cc) kX_part_d69 (by omega) ?_
      refine jj_callV (pc := 70) (b := (oa 21)) (As := [.int (nI (rr)), .int (nI (cc))]) kX_part_d70 (kvX_M_clear hG) (kG_cl hG rfl) rfl hmd rfl rfl rfl (Nat.le_of_ble_eq_true rfl) (Nat.le_of_ble_eq_true rfl) (jj_bare0 rfl) ?_
      refine m_clear hG hK hS hMd (by omega) (by omega) (by have := (hJ.capw (p := bd + 256) (by omega) (by omega)).2; exact this) (by omega) (by omega) (fun M1 V1 hS1 hM1 v1 v0 vo f1 => ?_)
      obtain ⟨R1, C1, hO1, e8, f8, rk1, hF1⟩ := hO.draft hJ hM1 ebd f1
      have hx1 := hO1.1
      have hMd1 := hO1.dr ebd
      rw [e8, f8] at hMd1
      have hmd1 := hMd1.1
      have hMm1 := hO1.2.2.2.2.2.2.2 m (by omega)
      rw [← ebm, (rk1 m hm).1, (rk1 m hm).2] at hMm1
      have hmm1 := hMm1.1
      obtain ⟨T1, t1, hT1, _, _⟩ := hS1.1 (bd + 256) (by omega)
      show jj G kX_part (d + 9) Q rc rs 73 [some (.ref (oa 0)), some (.int (nI (n))), some (.int (nI (m))), some (.int (nI (i0))), some (.int (nI (i1))), some (.int (nI (j0))), some (.int (nI (j1))), some (.ref (oa (13 + m))), none, none] [] M1
      refine jj_aload_n (pc := 73) kX_part_d73 rfl ?_
      refine jj_getf (pc := 74) kX_part_d74 (kfX_draft hG) hx1 rfl ?_
      refine jj_getf (pc := 77) kX_part_d77 (kfX_M_common hG) hmd1 rfl ?_
      refine jj_aload (pc := 80) kX_part_d80 rfl ?_
      refine jj_getf (pc := 82) kX_part_d82 (kfX_M_common hG) hmm1 rfl ?_
      have lcm1 : ∀ p, bm ≤ p → p ≤ bm + 256 → (V1 p).natAbs < BB ^ 125 := fun p _ _ => by
        have := hS1.1.wide (p := p) (by omega)
        rw [hJ.cap125 (by omega) (by omega)] at this
        exact this
      have up : ∀ z : Nat, z < BB ^ 125 → z < BB ^ 252 := fun z h => Nat.lt_of_lt_of_le h (Nat.pow_le_pow_right (by decide) (by omega))
      refine jj_callV (pc := 85) (b := (wa (bd + 256))) (As := [.ref (wa (bm + 256))]) kX_part_d85 (kvX_W_copy hG) (kG_cl hG rfl) rfl hT1 rfl rfl rfl (Nat.le_of_ble_eq_true rfl) (Nat.le_of_ble_eq_true rfl) (jj_bare0 rfl) ?_
      refine w_copy hG hI hS1.1 (t := bd + 256) (u := bm + 256) (by omega) (by omega) (by rw [hJ.cap252 (by omega) (by omega)]; exact up _ (lcm1 _ (by omega) (by omega))) (fun M2 hc2 hw2 => ?_)
      have hS2x := hS1.wt hK (by omega) hw2 hc2
      have hw2e : EF M1 M2 wa la 3122 eu dv hi lo := hw2.ef (by omega)
      have hO2 := hO1.ef hJ hw2e
      have hF2 := hF1.trans (hw2e.efx (X := XAD oa))
      obtain ⟨Vb, eVb⟩ : ∃ W, vup V1 (bd + 256) (V1 (bm + 256)) = W := ⟨_, rfl⟩
      have hS2 : KS M2 wa la cap 3122 eu dv hi lo (oa 3) Vb := by rw [← eVb]; exact hS2x
      have vb0 : Vb (bd + 256) = V (bm + 256) := by rw [← eVb, vup_at]; exact vo _ (by omega)
      have vb1 : ∀ p, p < bd → Vb p = V p := fun p hp => by rw [← eVb, vup_ne _ _ (by omega)]; exact vo _ (Or.inl hp)
      have hx2 := hO2.1
      have hMd2 := hO2.dr ebd
      rw [e8, f8] at hMd2
      have hmd2 := hMd2.1
      have hMm2 := hO2.2.2.2.2.2.2.2 m (by omega)
      rw [← ebm, (rk1 m hm).1, (rk1 m hm).2] at hMm2
      have hmm2 := hMm2.1
      show jj G kX_part (d + 9) Q rc rs 88 [some (.ref (oa 0)), some (.int (nI (n))), some (.int (nI (m))), some (.int (nI (i0))), some (.int (nI (i1))), some (.int (nI (j0))), some (.int (nI (j1))), some (.ref (oa (13 + m))), none, none] [] M2
      refine jj_iload_n (pc := 88) kX_part_d88 rfl ?_
      refine jj_istore (pc := 89) kX_part_d89 (Nat.le_of_ble_eq_true rfl) ?_
      show jj G kX_part (d + 9) Q rc rs 91 [some (.ref (oa 0)), some (.int (nI (n))), some (.int (nI (m))), some (.int (nI (i0))), some (.int (nI (i1))), some (.int (nI (j0))), some (.int (nI (j1))), some (.ref (oa (13 + m))), some (.int (nI (i0))), none] [] M2
      show jj G kX_part (d + 9) Q rc rs 91 [some (.ref (oa 0)), some (.int (nI (n))), some (.int (nI (m))), some (.int (nI (i0))), some (.int (nI (i1))), some (.int (nI (j0))), some (.int (nI (j1))), some (.ref (oa (13 + m))), some (.int (nI (i0))), none] [] M2
      have fin : ∀ (oj : Option Value) (M9 : mheap) (V9 : Nat → Int), KS M9 wa la cap 3122 eu dv hi lo (oa 3) V9 → EF M2 M9 wa la 3122 eu dv hi lo → (∀ p, 10 ≤ p → (∀ i' j', i' < rr → j' < cc → p ≠ (bd + (16 * i' + j'))) → V9 p = Vb p) → (∀ i' j', i' < rr → j' < cc → V9 (bd + (16 * i' + j')) = Vb (bm + (16 * (i0 + i') + (j0 + j')))) → jj G kX_part (d + 9) Q rc rs 149 [some (.ref (oa 0)), some (.int (nI (n))), some (.int (nI (m))), some (.int (nI (i0))), some (.int (nI (i1))), some (.int (nI (j0))), some (.int (nI (j1))), some (.ref (oa (13 + m))), some (.int (nI (i0 + rr))), (oj)] [] M9 := by
        intro oj M9 V9 hS9 f9 o9 v9
        have hO9 := hO2.ef hJ f9
        have hx9 := hO9.1
        have hMd9 := hO9.dr ebd
        rw [e8, f8] at hMd9
        have hmd9 := hMd9.1
        have hMm9 := hO9.2.2.2.2.2.2.2 m (by omega)
        rw [← ebm, (rk1 m hm).1, (rk1 m hm).2] at hMm9
        have hmm9 := hMm9.1
        have ov9 : ∀ p, 13 ≤ p → p < 2865 → V9 p = V p := fun p p1 p2 => by rw [o9 p (by omega) (fun i' j' h1 h2 => by omega)]; exact vb1 p (by omega)
        have hF9 := hF2.trans (f9.efx (X := XAD oa))
        have c9 : V9 (bd + 256) = V (bm + 256) := by rw [o9 _ (by omega) (fun i' j' h1 h2 => by omega)]; exact vb0
        have hqc : ∀ i j, i < rr → j < cc → (fun t => σ.2.2 m ((i0 + t / cc) * σ.2.1 m + j0 + t % cc)) (i * cc + j) = σ.2.2 m ((i0 + i) * C m + (j0 + j)) := fun i j hi' hj' => by
          have d1 : (i * cc + j) / cc = i := by rw [Nat.mul_comm, Nat.mul_add_div (by omega), Nat.div_eq_of_lt hj', Nat.add_zero]
          have d2 : (i * cc + j) % cc = j := by rw [Nat.mul_comm, Nat.mul_add_mod, Nat.mod_eq_of_lt hj']
          dsimp only
          rw [d1, d2, ecm, Nat.add_assoc]
        have hH : HAS V9 2865 rr cc (fun t => σ.2.2 m ((i0 + t / cc) * σ.2.1 m + j0 + t % cc)) := by
          rw [← ebd]
          refine ⟨by rw [c9]; have := hNm.1; omega, fun i j hi' hj' => ?_⟩
          rw [v9 i j hi' hj', vb1 _ (by omega), c9, hqc i j hi' hj']
          exact hNm.2.1.2 (i0 + i) (j0 + j) (by omega) (by omega)
        have hLf := hLG m hm
        rw [← erm, ← ecm] at hLf
        have hx9 := hO9.1
        show jj G kX_part (d + 9) Q rc rs 149 [some (.ref (oa 0)), some (.int (nI (n))), some (.int (nI (m))), some (.int (nI (i0))), some (.int (nI (i1))), some (.int (nI (j0))), some (.int (nI (j1))), some (.ref (oa (13 + m))), some (.int (nI (i0 + rr))), (oj)] [] M9
        refine jj_aload_n (pc := 149) kX_part_d149 rfl ?_
        refine jj_callV (pc := 150) (b := (oa 0)) (As := []) kX_part_d150 (kvX_X_reduceDraft hG) (kG_cl hG rfl) rfl hx9 rfl rfl rfl (Nat.le_of_ble_eq_true rfl) (Nat.le_of_ble_eq_true rfl) (jj_bare0 rfl) ?_
        refine x_reduceDraft hG hJ hS9 hO9 (q := (fun t => σ.2.2 m ((i0 + t / cc) * σ.2.1 m + j0 + t % cc))) (by omega) (by omega) (by omega) (by omega) (by rw [e8, f8]; exact hH) (fun Ma Va hSa hOa hNa va wa9 => ?_)
        have hxa := hOa.1
        have hFa := hF9.trans wa9.efx
        have ova : ∀ p, 13 ≤ p → p < 2865 → Va p = V p := fun p p1 p2 => by rw [va p p1 p2]; exact ov9 p p1 p2
        show jj G kX_part (d + 9) Q rc rs 153 [some (.ref (oa 0)), some (.int (nI (n))), some (.int (nI (m))), some (.int (nI (i0))), some (.int (nI (i1))), some (.int (nI (j0))), some (.int (nI (j1))), some (.ref (oa (13 + m))), some (.int (nI (i0 + rr))), (oj)] [] Ma
        refine jj_aload_n (pc := 153) kX_part_d153 rfl ?_
        refine jj_iload_n (pc := 154) kX_part_d154 rfl ?_
        refine jj_callV (pc := 155) (b := (oa 0)) (As := [.int (nI (n))]) kX_part_d155 (kvX_X_keepDraft hG) (kG_cl hG rfl) rfl hxa rfl rfl rfl (Nat.le_of_ble_eq_true rfl) (Nat.le_of_ble_eq_true rfl) (jj_bare0 rfl) ?_
        refine x_keepDraft hG hJ hSa hOa (q := (fun t => σ.2.2 m ((i0 + t / cc) * σ.2.1 m + j0 + t % cc))) (by omega) (by omega) (by omega) (by omega) hn hNa hrc hrs (fun Mb Vb hfit hSb hOb hNb vb hFb => ?_) (fun hnf y hy => absurd (by rw [e8, f8] at hNa ⊢; exact FIT.part (i0 := i0) (j0 := j0) hNm hLf.2.2 hNa (by omega) (by omega) hqc) hnf)
        rw [e8, f8] at hfit hNb
        show jj G kX_part (d + 9) Q rc rs 158 [some (.ref (oa 0)), some (.int (nI (n))), some (.int (nI (m))), some (.int (nI (i0))), some (.int (nI (i1))), some (.int (nI (j0))), some (.int (nI (j1))), some (.ref (oa (13 + m))), some (.int (nI (i0 + rr))), (oj)] [] Mb
        exact jj_vret (pc := 158) kX_part_d158 rfl (kr Mb _ (Or.inr ⟨n, m, i0, i1, j0, j1, hn, rfl, hm, rfl, by omega, rfl, by omega, rfl, by omega, rfl, by omega, rfl, Or.inr ⟨by omega, c2, by rw [← err, ← ecc]; exact Or.inl ⟨hfit, rfl, rfl⟩⟩⟩) ⟨Vb, -1, _, _, hSb, hOb, hV.put (n := n) (r := rr) (c := cc) (q := (fun t => σ.2.2 m ((i0 + t / cc) * σ.2.1 m + j0 + t % cc))) hn (fun p _ _ p3 => by rw [vb p (by omega) p3]; exact ova p (by omega) (by omega)) (fun k hk => by show (if k = n then R1 8 else R1 k) = _; rw [e8, (rk1 k hk).1]) (fun k hk => by show (if k = n then C1 8 else C1 k) = _; rw [f8, (rk1 k hk).2]) (by omega) (by omega) (by omega) (by omega) hNb⟩ (hFa.trans hFb))
      have outer : ∀ mu i, rr = i + mu → ∀ (oj : Option Value) (M9 : mheap) (V9 : Nat → Int), KS M9 wa la cap 3122 eu dv hi lo (oa 3) V9 → EF M2 M9 wa la 3122 eu dv hi lo → (∀ p, 10 ≤ p → (∀ i' j', i' < rr → j' < cc → p ≠ (bd + (16 * i' + j'))) → V9 p = Vb p) → (∀ i' j', i' < rr → j' < cc → ¬ thru cc i 0 i' j' → V9 (bd + (16 * i' + j')) = Vb (bd + (16 * i' + j'))) → (∀ i' j', i' < rr → thru cc i 0 i' j' → V9 (bd + (16 * i' + j')) = Vb (bm + (16 * (i0 + i') + (j0 + j')))) → jj G kX_part (d + 9) Q rc rs 91 [some (.ref (oa 0)), some (.int (nI (n))), some (.int (nI (m))), some (.int (nI (i0))), some (.int (nI (i1))), some (.int (nI (j0))), some (.int (nI (j1))), some (.ref (oa (13 + m))), some (.int (nI (i0 + i))), (oj)] [] M9 := by
        intro mu
        induction mu with
        | zero =>
          intro i hk oj M9 V9 hS9 f9 o9 u9 v9
          have e9 : rr = i := by omega
          subst e9
          have hO9 := hO2.ef hJ f9
          have hx9 := hO9.1
          have hMd9 := hO9.dr ebd
          rw [e8, f8] at hMd9
          have hmd9 := hMd9.1
          have hMm9 := hO9.2.2.2.2.2.2.2 m (by omega)
          rw [← ebm, (rk1 m hm).1, (rk1 m hm).2] at hMm9
          have hmm9 := hMm9.1
          refine jj_iload (pc := 91) kX_part_d91 rfl ?_
          refine jj_iload (pc := 93) kX_part_d93 rfl ?_
          refine jn_icmp_gt (pc := 95) (tgt := 149) kX_part_d95 (by decide) (by omega) (by omega) (fun _ => ?_) (fun c => by exfalso; omega)
          show jj G kX_part (d + 9) Q rc rs 149 [some (.ref (oa 0)), some (.int (nI (n))), some (.int (nI (m))), some (.int (nI (i0))), some (.int (nI (i1))), some (.int (nI (j0))), some (.int (nI (j1))), some (.ref (oa (13 + m))), some (.int (nI (i0 + rr))), (oj)] [] M9
          exact fin _ M9 V9 hS9 f9 o9 (fun i j hi' hj' => v9 i j hi' ⟨hj', Or.inl hi'⟩)
        | succ mu ih =>
          intro i hk oj M9 V9 hS9 f9 o9 u9 v9
          have hO9 := hO2.ef hJ f9
          have hx9 := hO9.1
          have hMd9 := hO9.dr ebd
          rw [e8, f8] at hMd9
          have hmd9 := hMd9.1
          have hMm9 := hO9.2.2.2.2.2.2.2 m (by omega)
          rw [← ebm, (rk1 m hm).1, (rk1 m hm).2] at hMm9
          have hmm9 := hMm9.1
          refine jj_iload (pc := 91) kX_part_d91 rfl ?_
          refine jj_iload (pc := 93) kX_part_d93 rfl ?_
          refine jn_icmp_gt (pc := 95) (tgt := 149) kX_part_d95 (by decide) (by omega) (by omega) (fun c => by exfalso; omega) (fun _ => ?_)
          refine jj_iload (pc := 98) kX_part_d98 rfl ?_
          refine jj_istore (pc := 100) kX_part_d100 (Nat.le_of_ble_eq_true rfl) ?_
          show jj G kX_part (d + 9) Q rc rs 102 [some (.ref (oa 0)), some (.int (nI (n))), some (.int (nI (m))), some (.int (nI (i0))), some (.int (nI (i1))), some (.int (nI (j0))), some (.int (nI (j1))), some (.ref (oa (13 + m))), some (.int (nI (i0 + i))), some (.int (nI (j0)))] [] M9
          show jj G kX_part (d + 9) Q rc rs 102 [some (.ref (oa 0)), some (.int (nI (n))), some (.int (nI (m))), some (.int (nI (i0))), some (.int (nI (i1))), some (.int (nI (j0))), some (.int (nI (j1))), some (.ref (oa (13 + m))), some (.int (nI (i0 + i))), some (.int (nI (j0)))] [] M9
          have inner : ∀ mu2 j, cc = j + mu2 → ∀ (M9 : mheap) (V9 : Nat → Int), KS M9 wa la cap 3122 eu dv hi lo (oa 3) V9 → EF M2 M9 wa la 3122 eu dv hi lo → (∀ p, 10 ≤ p → (∀ i' j', i' < rr → j' < cc → p ≠ (bd + (16 * i' + j'))) → V9 p = Vb p) → (∀ i' j', i' < rr → j' < cc → ¬ thru cc i j i' j' → V9 (bd + (16 * i' + j')) = Vb (bd + (16 * i' + j'))) → (∀ i' j', i' < rr → thru cc i j i' j' → V9 (bd + (16 * i' + j')) = Vb (bm + (16 * (i0 + i') + (j0 + j')))) → jj G kX_part (d + 9) Q rc rs 102 [some (.ref (oa 0)), some (.int (nI (n))), some (.int (nI (m))), some (.int (nI (i0))), some (.int (nI (i1))), some (.int (nI (j0))), some (.int (nI (j1))), some (.ref (oa (13 + m))), some (.int (nI (i0 + i))), some (.int (nI (j0 + j)))] [] M9 := by
            intro mu2
            induction mu2 with
            | zero =>
              intro j hk2 M9 V9 hS9 f9 o9 u9 v9
              have e9 : cc = j := by omega
              subst e9
              have hO9 := hO2.ef hJ f9
              have hx9 := hO9.1
              have hMd9 := hO9.dr ebd
              rw [e8, f8] at hMd9
              have hmd9 := hMd9.1
              have hMm9 := hO9.2.2.2.2.2.2.2 m (by omega)
              rw [← ebm, (rk1 m hm).1, (rk1 m hm).2] at hMm9
              have hmm9 := hMm9.1
              refine jj_iload (pc := 102) kX_part_d102 rfl ?_
              refine jj_iload (pc := 104) kX_part_d104 rfl ?_
              refine jn_icmp_gt (pc := 106) (tgt := 143) kX_part_d106 (by decide) (by omega) (by omega) (fun _ => ?_) (fun c => by exfalso; omega)
              refine jn_iinc (pc := 143) (i0 + i + 1) kX_part_d143 rfl (nI_1 _) ?_
              refine jj_goto (pc := 146) (tgt := 91) kX_part_d146 (by decide) ?_
              show jj G kX_part (d + 9) Q rc rs 91 [some (.ref (oa 0)), some (.int (nI (n))), some (.int (nI (m))), some (.int (nI (i0))), some (.int (nI (i1))), some (.int (nI (j0))), some (.int (nI (j1))), some (.ref (oa (13 + m))), some (.int (nI (i0 + i + 1))), some (.int (nI (j0 + cc)))] [] M9
              exact ih (i + 1) (by omega) _ M9 V9 hS9 f9 o9 (fun i' j' h1 h2 h3 => u9 i' j' h1 h2 (fun h => h3 (thru_row.1 h))) (fun i' j' h1 h2 => v9 i' j' h1 (thru_row.2 h2))
            | succ mu2 ih2 =>
              intro j hk2 M9 V9 hS9 f9 o9 u9 v9
              have hO9 := hO2.ef hJ f9
              have old9 : V9 (bd + (16 * i + j)) = Vb (bd + (16 * i + j)) := u9 i j (by omega) (by omega) (fun h => by unfold thru at h; omega)
              have hx9 := hO9.1
              have hMd9 := hO9.dr ebd
              rw [e8, f8] at hMd9
              have hmd9 := hMd9.1
              have hMm9 := hO9.2.2.2.2.2.2.2 m (by omega)
              rw [← ebm, (rk1 m hm).1, (rk1 m hm).2] at hMm9
              have hmm9 := hMm9.1
              refine jj_iload (pc := 102) kX_part_d102 rfl ?_
              refine jj_iload (pc := 104) kX_part_d104 rfl ?_
              refine jn_icmp_gt (pc := 106) (tgt := 143) kX_part_d106 (by decide) (by omega) (by omega) (fun c => by exfalso; omega) (fun _ => ?_)
              refine jj_aload_n (pc := 109) kX_part_d109 rfl ?_
              refine jj_getf (pc := 110) kX_part_d110 (kfX_draft hG) hx9 rfl ?_
              refine jj_iload (pc := 113) kX_part_d113 rfl ?_
              refine jj_iload_n (pc := 115) kX_part_d115 rfl ?_
              refine jn_isub (pc := 116) (i) kX_part_d116 (by omega) ?_
              refine jj_iload (pc := 117) kX_part_d117 rfl ?_
              refine jj_iload (pc := 119) kX_part_d119 rfl ?_
              refine jn_isub (pc := 121) (j) kX_part_d121 (by omega) ?_
              refine jj_callV (pc := 122) (b := (oa 21)) (As := [.int (nI (i)), .int (nI (j))]) kX_part_d122 (kvX_M_at hG) (kG_cl hG rfl) rfl hmd9 rfl rfl rfl (Nat.le_of_ble_eq_true rfl) (Nat.le_of_ble_eq_true rfl) (jj_bare0 rfl) ?_
              refine m_at hG hMd9 (by omega) (by omega) ?_
              show jj G kX_part (d + 9) Q rc rs 125 [some (.ref (oa 0)), some (.int (nI (n))), some (.int (nI (m))), some (.int (nI (i0))), some (.int (nI (i1))), some (.int (nI (j0))), some (.int (nI (j1))), some (.ref (oa (13 + m))), some (.int (nI (i0 + i))), some (.int (nI (j0 + j)))] [.ref (wa (bd + (16 * i + j)))] M9
              refine jj_aload (pc := 125) kX_part_d125 rfl ?_
              refine jj_iload (pc := 127) kX_part_d127 rfl ?_
              refine jj_iload (pc := 129) kX_part_d129 rfl ?_
              refine jj_callV (pc := 131) (b := (oa (13 + m))) (As := [.int (nI (i0 + i)), .int (nI (j0 + j))]) kX_part_d131 (kvX_M_at hG) (kG_cl hG rfl) rfl hmm9 rfl rfl rfl (Nat.le_of_ble_eq_true rfl) (Nat.le_of_ble_eq_true rfl) (jj_bare0 rfl) ?_
              refine m_at hG hMm9 (i := i0 + i) (j := j0 + j) (by omega) (by omega) ?_
              show jj G kX_part (d + 9) Q rc rs 134 [some (.ref (oa 0)), some (.int (nI (n))), some (.int (nI (m))), some (.int (nI (i0))), some (.int (nI (i1))), some (.int (nI (j0))), some (.int (nI (j1))), some (.ref (oa (13 + m))), some (.int (nI (i0 + i))), some (.int (nI (j0 + j)))] [.ref (wa (bm + (16 * (i0 + i) + (j0 + j)))), .ref (wa (bd + (16 * i + j)))] M9
              obtain ⟨T9, t9, hT9, _, _⟩ := hS9.1 (bd + (16 * i + j)) (by omega)
              have vs : V9 (bm + (16 * (i0 + i) + (j0 + j))) = Vb (bm + (16 * (i0 + i) + (j0 + j))) := o9 _ (by omega) (fun i' j' h1 h2 => by omega)
              refine jj_callV (pc := 134) (b := (wa (bd + (16 * i + j)))) (As := [.ref (wa (bm + (16 * (i0 + i) + (j0 + j))))]) kX_part_d134 (kvX_W_copy hG) (kG_cl hG rfl) rfl hT9 rfl rfl rfl (Nat.le_of_ble_eq_true rfl) (Nat.le_of_ble_eq_true rfl) (jj_bare0 rfl) ?_
              refine w_copy hG hI hS9.1 (t := (bd + (16 * i + j))) (u := (bm + (16 * (i0 + i) + (j0 + j)))) (by omega) (by omega) (by rw [hJ.cap252 (by omega) (by omega), vs, vb1 _ (by omega), ← vo _ (Or.inl (by omega))]; exact up _ (lcm1 _ (by omega) (by omega))) (fun M8 hc8 hw8 => ?_)
              show jj G kX_part (d + 9) Q rc rs 137 [some (.ref (oa 0)), some (.int (nI (n))), some (.int (nI (m))), some (.int (nI (i0))), some (.int (nI (i1))), some (.int (nI (j0))), some (.int (nI (j1))), some (.ref (oa (13 + m))), some (.int (nI (i0 + i))), some (.int (nI (j0 + j)))] [] M8
              have hat : vup V9 (bd + (16 * i + j)) (V9 (bm + (16 * (i0 + i) + (j0 + j)))) (bd + (16 * i + j)) = Vb (bm + (16 * (i0 + i) + (j0 + j))) := by rw [vup_at, vs]
              have hot : ∀ p, 10 ≤ p → p ≠ (bd + (16 * i + j)) → vup V9 (bd + (16 * i + j)) (V9 (bm + (16 * (i0 + i) + (j0 + j)))) p = V9 p := fun p _ h => vup_ne _ _ h
              refine jn_iinc (pc := 137) (j0 + j + 1) kX_part_d137 rfl (nI_1 _) ?_
              refine jj_goto (pc := 140) (tgt := 102) kX_part_d140 (by decide) ?_
              show jj G kX_part (d + 9) Q rc rs 102 [some (.ref (oa 0)), some (.int (nI (n))), some (.int (nI (m))), some (.int (nI (i0))), some (.int (nI (i1))), some (.int (nI (j0))), some (.int (nI (j1))), some (.ref (oa (13 + m))), some (.int (nI (i0 + i))), some (.int (nI (j0 + j + 1)))] [] M8
              refine ih2 (j + 1) (by omega) M8 _ (hS9.wt hK (by omega) hw8 hc8) (f9.trans (hw8.ef (by omega))) (fun p p1 p2 => ?_) (fun i' j' h1 h2 h3 => ?_) (fun i' j' h1 h2 => ?_)
              · rw [hot p p1 (p2 i j (by omega) (by omega))]
                exact o9 p p1 p2
              · have hne : ¬ (i' = i ∧ j' = j) := fun e => h3 ((thru_next (by omega)).2 (Or.inr e))
                rw [hot _ (by omega) (by omega)]
                exact u9 i' j' h1 h2 (fun h => h3 ((thru_next (by omega)).2 (Or.inl h)))
              · by_cases e : i' = i ∧ j' = j
                · rw [e.1, e.2]; exact hat
                · have hj9 := h2.1
                  rw [hot _ (by omega) (by omega)]
                  rcases (thru_next (by omega)).1 h2 with h | h
                  · exact v9 i' j' h1 h
                  · exact absurd h e
          exact inner cc 0 (by omega) M9 V9 hS9 f9 o9 u9 v9
      refine outer rr 0 (by omega) _ M2 Vb hS2 (fun _ _ _ _ _ _ => rfl) (fun _ _ _ => rfl) (fun _ _ _ _ _ => rfl) (fun i' j' _ h => ?_)
      unfold thru at h
      omega
    · skip
      show jj G kX_part (d + 9) Q rc rs 43 [some (.ref (oa 0)), some (.int (nI (n))), some (.int (nI (m))), some (.int (nI (i0))), some (.int (nI (i1))), some (.int (nI (j0))), some (.int (nI (j1))), some (.ref (oa (13 + m))), none, none] [] M
      exact jj_throw (pc := 43) (ll := 2) kX_part_d43 kX_part_d46 (Or.inl ⟨kX_part_d47, rfl⟩) kX_part_d49 kX_part_d52 (ktX_the_first_is_behind_the_last hG) rfl (Nat.le_of_ble_eq_true rfl) (jj_bare0 rfl) hrc hrs (fun a ha => kt M 2 5 (Or.inr ⟨n, m, i0, i1, j0, j1, hn, rfl, hm, rfl, by omega, rfl, by omega, rfl, by omega, rfl, by omega, rfl, Or.inl ⟨fun h => by omega, rfl, rfl⟩⟩) (by omega) hT (fun _ _ _ => rfl) a ha)
end X6
