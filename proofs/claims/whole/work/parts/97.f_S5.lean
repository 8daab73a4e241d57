/-! ===== Residues: clearBehind, divideModulus, joinPivot (printed by wip/gen/rS5.py) ===== -/
section S5
variable {G : jg} {d : Nat} {Q : jq} {rc rs : Nat} {M : mheap} {wa la cap : Nat → Nat} {N eu dv hi lo dk re rca ln pl ls ps : Nat} {s : Nat → Nat} {V : Nat → Int}
theorem r_clearBehind {t : Nat} {m : Int} (hG : kG G) (hK : KJI wa la cap N hi lo) (hS : KS M wa la cap N eu dv hi lo dk V) (hJ : QJ wa la cap N eu dv hi lo dk re rca) (hR : RST M wa re rca dk ln pl ls ps s) (hs : STP ls ps) (hln : ln ≤ 16) (hpl : pl ≤ 16) (htl : t < ln) (htp : t < pl) (hm : V 547 = m) (hm0 : 0 < m) (hlm : lc m ≤ 63) (hrg : (∀ i p, t ≤ i → i < ln → t ≤ p → p < pl → 0 ≤ rz V s ls ps i p ∧ rz V s ls ps i p < m)) (k : ∀ (M' : mheap) (V' : Nat → Int) (s' : Nat → Nat), KS M' wa la cap N eu dv hi lo dk V' → RST M' wa re rca dk ln pl ls ps s' → EFX (fun x => x = re ∨ x = rca) M M' wa la N eu dv hi lo → CST ls ps t ln pl m V s V' s' → (∀ i, t < i → i < ln → rz V' s' ls ps i t = 0) → (rz V s ls ps t t ≠ 0 → ∀ i, t < i → i < ln → rz V' s' ls ps t t ∣ rz V s ls ps i t) → Q (.returned none) M' rc rs) : jj G kS_clearBehind (d + 6) Q rc rs 0 (jj_ent [.ref re, .int (nI t)] 3) [] M := by
  have hre := hR.1
  show jj G kS_clearBehind (d + 6) Q rc rs 0 [some (.ref re), some (.int (nI (t))), none] [] M
  refine jj_iload_n (pc := 0) kS_clearBehind_d0 rfl ?_
  refine jn_iconst (pc := 1) 1 kS_clearBehind_d1 (by decide) ?_
  refine jn_iadd (pc := 2) (t + 1) kS_clearBehind_d2 (by omega) ?_
  refine jj_istore_n (pc := 3) kS_clearBehind_d3 (Nat.le_of_ble_eq_true rfl) ?_
  show jj G kS_clearBehind (d + 6) Q rc rs 4 [some (.ref re), some (.int (nI (t))), some (.int (nI (t + 1)))] [] M
  show jj G kS_clearBehind (d + 6) Q rc rs 4 [some (.ref re), some (.int (nI (t))), some (.int (nI (t + 1)))] [] M
  have loop : ∀ mu i, ln = i + mu → t < i → ∀ (M9 : mheap) (V9 : Nat → Int) (s9 : Nat → Nat), KS M9 wa la cap N eu dv hi lo dk V9 → RST M9 wa re rca dk ln pl ls ps s9 → EFX (fun x => x = re ∨ x = rca) M M9 wa la N eu dv hi lo → CST ls ps t ln pl m V s V9 s9 → (∀ i', t < i' → i' < i → rz V9 s9 ls ps i' t = 0) → (∀ i' p, i ≤ i' → i' < 16 → p < 16 → rz V9 s9 ls ps i' p = rz V s ls ps i' p) → (rz V s ls ps t t ≠ 0 → ∀ i', t < i' → i' < i → rz V9 s9 ls ps t t ∣ rz V s ls ps i' t) → jj G kS_clearBehind (d + 6) Q rc rs 4 [some (.ref re), some (.int (nI (t))), some (.int (nI (i)))] [] M9 := by
    intro mu
    induction mu with
    | zero =>
      intro i hk hti M9 V9 s9 hS9 hR9 f9 c9 z9 u9 d9
      have ei : ln = i := by omega
      subst ei
      have hre9 := hR9.1
      refine jj_iload_n (pc := 4) kS_clearBehind_d4 rfl ?_
      refine jj_aload_n (pc := 5) kS_clearBehind_d5 rfl ?_
      refine jj_getf (pc := 6) kS_clearBehind_d6 (kfS_lines hG) hre9 rfl ?_
      refine jn_icmp_ge (pc := 9) (tgt := 105) kS_clearBehind_d9 (by decide) (by omega) (by omega) (fun _ => ?_) (fun c => by exfalso; omega)
      exact jj_vret (pc := 105) kS_clearBehind_d105 rfl (k M9 V9 s9 hS9 hR9 f9 c9 z9 d9)
    | succ mu ih =>
      intro i hk hti M9 V9 s9 hS9 hR9 f9 c9 z9 u9 d9
      have hre9 := hR9.1
      refine jj_iload_n (pc := 4) kS_clearBehind_d4 rfl ?_
      refine jj_aload_n (pc := 5) kS_clearBehind_d5 rfl ?_
      refine jj_getf (pc := 6) kS_clearBehind_d6 (kfS_lines hG) hre9 rfl ?_
      refine jn_icmp_ge (pc := 9) (tgt := 105) kS_clearBehind_d9 (by decide) (by omega) (by omega) (fun c => by exfalso; omega) (fun _ => ?_)
      show jj G kS_clearBehind (d + 6) Q rc rs 12 [some (.ref re), some (.int (nI (t))), some (.int (nI (i)))] [] M9
      obtain ⟨a1, a2, a3, a4, a5, a6⟩ := c9
      refine r_clearLine hG hK hS9 hJ hR9 hs hln hpl hti (by omega) htp (by rw [a3 547 (by omega) (by omega)]; exact hm) hm0 hlm a2 (fun M8 V8 s8 hS8 hR8 f8 c8 => ?_)
      obtain ⟨b1, b2, b3, b4, b5, b6, b7, b8⟩ := c8
      have hre8 := hR8.1
      show jj G kS_clearBehind (d + 6) Q rc rs 99 [some (.ref re), some (.int (nI (t))), some (.int (nI (i)))] [] M8
      refine jn_iinc (pc := 99) (i + 1) kS_clearBehind_d99 rfl (nI_1 _) ?_
      refine jj_goto (pc := 102) (tgt := 4) kS_clearBehind_d102 (by decide) ?_
      show jj G kS_clearBehind (d + 6) Q rc rs 4 [some (.ref re), some (.int (nI (t))), some (.int (nI (i + 1)))] [] M8
      refine ih (i + 1) (by omega) (by omega) M8 V8 s8 hS8 hR8 (f9.trans f8) ⟨a1.trans b1, fun i' p h1 h2 h3 h4 => ?_, fun q h1 h2 => by rw [b3 q h1 h2]; exact a3 q h1 h2, fun i' p h1 h2 h3 => ?_, fun h i' p h1 h2 h3 => ?_, fun h => ?_⟩ (fun i' h1 h2 => ?_) (fun i' p h1 h2 h3 => ?_) (fun h i' h1 h2 => ?_)
      · by_cases e1 : i' = t
        · rw [e1]; exact (b2 p h3 h4).1
        · by_cases e2 : i' = i
          · rw [e2]; exact (b2 p h3 h4).2
          · rw [b4 i' p (by omega) (by omega) (Or.inl ⟨e1, e2⟩)]; exact a2 i' p h1 h2 h3 h4
      · rw [b4 i' p h1 h2 (by omega)]; exact a4 i' p h1 h2 h3
      · have q := b5 p h3 (a5 h t p (Nat.le_refl _) htl h3) (a5 h i p (by omega) (by omega) h3)
        by_cases e1 : i' = t
        · rw [e1]; exact q.1
        · by_cases e2 : i' = i
          · rw [e2]; exact q.2
          · rw [b4 i' p (by omega) (by omega) (Or.inl ⟨e1, e2⟩)]; exact a5 h i' p h1 h2 h3
      · obtain ⟨x1, x2, x3⟩ := a6 h
        obtain ⟨y1, y2, y4, y3⟩ := b7 x1
        refine ⟨y1, Int.dvd_trans y2 x2, fun hd p hp => ?_⟩
        rw [y3 (by rw [x3 hd t (by omega), u9 i t (Nat.le_refl _) (by omega) (by omega)]; exact hd i hti (by omega)) p hp]
        exact x3 hd p hp
      · by_cases e : i' = i
        · rw [e]; exact b6
        · rw [b4 i' t (by omega) (by omega) (Or.inl ⟨by omega, e⟩)]; exact z9 i' h1 (by omega)
      · rw [b4 i' p h2 h3 (Or.inl ⟨by omega, by omega⟩)]; exact u9 i' p (by omega) h2 h3
      · obtain ⟨x1, x2, x3⟩ := a6 h
        obtain ⟨y1, y2, y4, y3⟩ := b7 x1
        by_cases e : i' = i
        · rw [e, ← u9 i t (Nat.le_refl _) (by omega) (by omega)]; exact y4
        · exact Int.dvd_trans y2 (d9 h i' h1 (by omega))
  exact loop (ln - (t + 1)) (t + 1) (by omega) (by omega) M V s hS hR (fun _ _ _ => rfl) ⟨LQE.refl _, hrg, fun _ _ _ => rfl, fun _ _ _ _ _ => rfl, fun h => h, fun h => ⟨h, Int.dvd_refl _, fun _ _ _ => rfl⟩⟩ (fun i' h1 h2 => by omega) (fun _ _ _ _ _ => rfl) (fun _ i' h1 h2 => by omega)
theorem r_divideModulus {t : Nat} {m g m' : Int} (hG : kG G) (hK : KJI wa la cap N hi lo) (hS : KS M wa la cap N eu dv hi lo dk V) (hJ : QJ wa la cap N eu dv hi lo dk re rca) (hR : RST M wa re rca dk ln pl ls ps s) (hs : STP ls ps) (hln : ln ≤ 16) (hpl : pl ≤ 16) (ht16 : t < 16) (hm : V 547 = m) (hm0 : 0 < m) (hlm : lc m ≤ 63) (hg : V (rp s ls ps t t) = g) (hg0 : 0 < g) (hgm : m = m' * g) (hrg : ∀ i p, t < i → i < ln → t < p → p < pl → 0 ≤ V (rp s ls ps i p) ∧ V (rp s ls ps i p) < m) (k : ∀ (M' : mheap) (V' : Nat → Int), KS M' wa la cap N eu dv hi lo dk V' → V' 547 = m' → (∀ i p, t < i → i < ln → t < p → p < pl → V' (rp s ls ps i p) = V (rp s ls ps i p) % m') → (∀ q, 10 ≤ q → q ≠ 547 → (∀ i p, t < i → i < ln → t < p → p < pl → q ≠ (rp s ls ps i p)) → V' q = V q) → EF M M' wa la N eu dv hi lo → Q (.returned none) M' rc rs) : jj G kS_divideModulus (d + 5) Q rc rs 0 (jj_ent [.ref re, .int (nI t)] 4) [] M := by
  obtain ⟨h809, c547, c548, c553, f1, f2, n1, n2⟩ := id hJ
  have hsp := hR.2.2
  have hre := hR.1
  have b1 := hsp.b hs ht16 ht16
  obtain ⟨hI, hN, hcap, hdi⟩ := id hK
  obtain ⟨hc0, ⟨r_a, px_a, pf_a, py_a, po_a, ps_a, od_a, hU0⟩, hdk0⟩ := id hS
  have hf0 : EF M M wa la N eu dv hi lo := fun _ _ _ _ _ _ => rfl
  obtain ⟨V0, hV0⟩ : ∃ V0, V = V0 := ⟨_, rfl⟩
  rw [hV0] at hc0
  have hn0 := hU0.1
  have b_r0 := hn0.2.1
  have b_x0 := hn0.2.2.1
  have b_f0 := hn0.2.2.2.1
  have hdv0 := hU0.2.1
  obtain ⟨ea0, eb0, ec0, ed0, hE0⟩ := hU0.2.2.2
  have hD0 := hdv0.1
  rw [hV0] at hm hg hrg k
  show jj G kS_divideModulus (d + 5) Q rc rs 0 [some (.ref re), some (.int (nI (t))), none, none] [] M
  refine jj_aload_n (pc := 0) kS_divideModulus_d0 rfl ?_
  refine jj_iload_n (pc := 1) kS_divideModulus_d1 rfl ?_
  refine jj_iload_n (pc := 2) kS_divideModulus_d2 rfl ?_
  refine jj_callV (pc := 3) (b := re) (As := [.int (nI (t)), .int (nI (t))]) kS_divideModulus_d3 (kvS_S_at hG) (kG_cl hG rfl) rfl hre rfl rfl rfl (Nat.le_of_ble_eq_true rfl) (Nat.le_of_ble_eq_true rfl) (jj_bare0 rfl) ?_
  refine r_at hG hR hs ht16 ht16 ?_
  show jj G kS_divideModulus (d + 5) Q rc rs 6 [some (.ref re), some (.int (nI (t))), none, none] [.ref (wa (rp s ls ps t t))] M
  obtain ⟨Trpslspstt_0, trpslspstt_0, hTrpslspstt_0, _, _⟩ := hc0 (rp s ls ps t t) (by omega)
  refine jj_callV (pc := 6) (b := (wa (rp s ls ps t t))) (As := []) kS_divideModulus_d6 (kvS_W_isOne hG) (kG_cl hG rfl) rfl hTrpslspstt_0 rfl rfl rfl (Nat.le_of_ble_eq_true rfl) (Nat.le_of_ble_eq_true rfl) (jj_bare0 rfl) ?_
  refine w_isOne hG hI hc0 (by omega) (fun c1 => ?_) (fun c1 => ?_)
  · skip
    show jj G kS_divideModulus (d + 5) Q rc rs 9 [some (.ref re), some (.int (nI (t))), none, none] [.int (nI (1))] M
    refine jn_if_eq (pc := 9) (tgt := 13) kS_divideModulus_d9 (by decide) (by omega) (fun c => by exfalso; omega) (fun _ => ?_)
    have g1 : g = 1 := by omega
    have em : m' = m := by rw [hgm, g1, Int.mul_one]
    exact jj_vret (pc := 12) kS_divideModulus_d12 rfl (k M V0 (by rw [← hV0]; exact hS) (by rw [em]; exact hm) (fun i p h1 h2 h3 h4 => by rw [em]; exact (Int.emod_eq_of_lt (hrg i p h1 h2 h3 h4).1 (hrg i p h1 h2 h3 h4).2).symm) (fun _ _ _ _ => rfl) hf0)
  · skip
    show jj G kS_divideModulus (d + 5) Q rc rs 9 [some (.ref re), some (.int (nI (t))), none, none] [.int (nI (0))] M
    refine jn_if_eq (pc := 9) (tgt := 13) kS_divideModulus_d9 (by decide) (by omega) (fun _ => ?_) (fun c => by exfalso; omega)
    refine jj_aload_n (pc := 13) kS_divideModulus_d13 rfl ?_
    refine jj_getf (pc := 14) kS_divideModulus_d14 (kfS_desk hG) hre rfl ?_
    refine jj_getf (pc := 17) kS_divideModulus_d17 (kfS_K_divider hG) hdk0 rfl ?_
    refine jj_aload_n (pc := 20) kS_divideModulus_d20 rfl ?_
    refine jj_getf (pc := 21) kS_divideModulus_d21 (kfS_modulus hG) hre rfl ?_
    refine jj_aload_n (pc := 24) kS_divideModulus_d24 rfl ?_
    refine jj_iload_n (pc := 25) kS_divideModulus_d25 rfl ?_
    refine jj_iload_n (pc := 26) kS_divideModulus_d26 rfl ?_
    refine jj_callV (pc := 27) (b := re) (As := [.int (nI (t)), .int (nI (t))]) kS_divideModulus_d27 (kvS_S_at hG) (kG_cl hG rfl) rfl hre rfl rfl rfl (Nat.le_of_ble_eq_true rfl) (Nat.le_of_ble_eq_true rfl) (jj_bare0 rfl) ?_
    refine r_at hG hR hs ht16 ht16 ?_
    show jj G kS_divideModulus (d + 5) Q rc rs 30 [some (.ref re), some (.int (nI (t))), none, none] [.ref (wa (rp s ls ps t t)), .ref (wa 547), .ref dv] M
    refine jj_callV (pc := 30) (b := dv) (As := [.ref (wa 547), .ref (wa (rp s ls ps t t))]) kS_divideModulus_d30 (kvS_D_divide hG) (kG_cl hG rfl) rfl hD0 rfl rfl rfl (Nat.le_of_ble_eq_true rfl) (Nat.le_of_ble_eq_true rfl) (jj_bare0 rfl) ?_
    refine d_divide hG hI hc0 hdv0 hdi (by omega) (by omega) (by omega) (by omega) hn0.nqr (by omega) (by omega) (by omega) (by omega) (by rw [hm]; omega) (by rw [hcap 0 (by omega)]; exact (by rw [hm]; omega)) (by rw [hcap r_a (by omega)]; exact (by rw [hm]; omega)) (fun M1 hcx1 hdx1 hw1 => ?_)
    obtain ⟨V1, hV1⟩ : ∃ W, vup (vup V0 0 ((V0 547).tdiv (V0 (rp s ls ps t t)))) r_a ((V0 547).tmod (V0 (rp s ls ps t t))) = W := ⟨_, rfl⟩
    have hc1 : CW M1 wa la cap N V1 := by rw [← hV1]; exact hcx1
    have at1 : V1 0 = (V0 547).tdiv (V0 (rp s ls ps t t)) := by rw [← hV1, vup_ne _ _ hn0.nqr, vup_at]
    have rt1 : V1 r_a = (V0 547).tmod (V0 (rp s ls ps t t)) := by rw [← hV1, vup_at]
    have ot1 : ∀ p, p ≠ 0 → p ≠ r_a → V1 p = V0 p := fun p h1 h2 => by rw [← hV1, vup_ne _ _ h2, vup_ne _ _ h1]
    have hU1 := hU0.div hc0 hdx1 hw1
    have hf1 := hf0.trans (hw1.ef (eu := eu) (dv := dv))
    have q1_re := (hw1.ef (eu := eu) (dv := dv)).obj hc0 hU0 hre (by decide) (by decide) (by decide)
    have q1_dk := (hw1.ef (eu := eu) (dv := dv)).obj hc0 hU0 hdk0 (by decide) (by decide) (by decide)
    have hn1 := hU1.1
    have b_r1 := hn1.2.1
    have b_x1 := hn1.2.2.1
    have b_f1 := hn1.2.2.2.1
    have hdv1 := hU1.2.1
    obtain ⟨ea1, eb1, ec1, ed1, hE1⟩ := hU1.2.2.2
    have hD1 := hdv1.1
    show jj G kS_divideModulus (d + 5) Q rc rs 33 [some (.ref re), some (.int (nI (t))), none, none] [] M1
    have q1 : V1 0 = m' := by rw [at1, hm, hg]; exact tdiv_is hgm.symm (by omega)
    have m'0 : 0 < m' := by
      rcases (show 0 < m' ∨ m' ≤ 0 by omega) with h | h
      · exact h
      · have := Int.mul_nonpos_of_nonpos_of_nonneg h (Int.le_of_lt hg0)
        omega
    have lm' : lc m' ≤ 63 := by
      refine Nat.le_trans (lc_mono ?_) hlm
      rw [hgm, Int.natAbs_mul]
      exact Nat.le_mul_of_pos_right _ (by omega)
    obtain ⟨T547_1, t547_1, hT547_1, _, _⟩ := hc1 547 (by omega)
    refine jj_aload_n (pc := 33) kS_divideModulus_d33 rfl ?_
    refine jj_getf (pc := 34) kS_divideModulus_d34 (kfS_modulus hG) q1_re rfl ?_
    refine jj_aload_n (pc := 37) kS_divideModulus_d37 rfl ?_
    refine jj_getf (pc := 38) kS_divideModulus_d38 (kfS_desk hG) q1_re rfl ?_
    refine jj_getf (pc := 41) kS_divideModulus_d41 (kfS_K_divider hG) q1_dk rfl ?_
    refine jj_getf (pc := 44) kS_divideModulus_d44 (kfS_D_quotient hG) hD1 rfl ?_
    refine jj_callV (pc := 47) (b := (wa 547)) (As := [.ref (wa 0)]) kS_divideModulus_d47 (kvS_W_copy hG) (kG_cl hG rfl) rfl hT547_1 rfl rfl rfl (Nat.le_of_ble_eq_true rfl) (Nat.le_of_ble_eq_true rfl) (jj_bare0 rfl) ?_
    refine w_copy hG hI hc1 (by omega : 547 < N) (by omega : 0 < N) (by rw [q1, c547]; exact lc_room (by omega)) (fun M2 hcx2 hw2  => ?_) 
    obtain ⟨V2, hV2⟩ : ∃ W, vup V1 547 (V1 0) = W := ⟨_, rfl⟩
    have hc2 : CW M2 wa la cap N V2 := by rw [← hV2]; exact hcx2
    have at2 : V2 547 = V1 0 := by rw [← hV2, vup_at]
    have ot2 : ∀ p, p ≠ 547 → V2 p = V1 p := fun p hp => by rw [← hV2, vup_ne _ _ hp]
    have hU2 := hU1.wt hc1 hdi (by omega) hw2
    have hf2 := hf1.trans (hw2.ef (by omega))
    have q2_re := (hw2.ef (eu := eu) (dv := dv) (hi := hi) (lo := lo) (by omega)).obj hc1 hU1 q1_re (by decide) (by decide) (by decide)
    have q2_dk := (hw2.ef (eu := eu) (dv := dv) (hi := hi) (lo := lo) (by omega)).obj hc1 hU1 q1_dk (by decide) (by decide) (by decide)
    have hn2 := hU2.1
    have b_r2 := hn2.2.1
    have b_x2 := hn2.2.2.1
    have b_f2 := hn2.2.2.2.1
    have hdv2 := hU2.2.1
    obtain ⟨ea2, eb2, ec2, ed2, hE2⟩ := hU2.2.2.2
    have hD2 := hdv2.1
    show jj G kS_divideModulus (d + 5) Q rc rs 50 [some (.ref re), some (.int (nI (t))), none, none] [] M2
    rw [q1] at at2
    have o2 : ∀ q, 10 ≤ q → q ≠ 547 → V2 q = V0 q := fun q h1 h2 => by rw [ot2 q h2, ot1 q (by omega) (by omega)]
    have hS2a : KS M2 wa la cap N eu dv hi lo dk V2 := ⟨hc2, ⟨r_a, px_a, pf_a, py_a, po_a, ps_a, od_a, hU2⟩, q2_dk⟩
    refine jj_iload_n (pc := 50) kS_divideModulus_d50 rfl ?_
    refine jn_iconst (pc := 51) 1 kS_divideModulus_d51 (by decide) ?_
    refine jn_iadd (pc := 52) (t + 1) kS_divideModulus_d52 (by omega) ?_
    refine jj_istore_n (pc := 53) kS_divideModulus_d53 (Nat.le_of_ble_eq_true rfl) ?_
    show jj G kS_divideModulus (d + 5) Q rc rs 54 [some (.ref re), some (.int (nI (t))), some (.int (nI (t + 1))), none] [] M2
    show jj G kS_divideModulus (d + 5) Q rc rs 54 [some (.ref re), some (.int (nI (t))), some (.int (nI (t + 1))), none] [] M2
    have outer : ∀ mu i, ln ≤ i + mu → t < i → ∀ (oj : Option Value) (M9 : mheap) (V9 : Nat → Int), KS M9 wa la cap N eu dv hi lo dk V9 → EF M M9 wa la N eu dv hi lo → V9 547 = m' → (∀ i' p', (t < i' ∧ t < p' ∧ p' < pl ∧ (i' < i ∨ (i' = i ∧ p' < 0))) → i' < ln → V9 (rp s ls ps i' p') = V0 (rp s ls ps i' p') % m') → (∀ q, 10 ≤ q → q ≠ 547 → (∀ i' p', (t < i' ∧ t < p' ∧ p' < pl ∧ (i' < i ∨ (i' = i ∧ p' < 0))) → i' < ln → q ≠ rp s ls ps i' p') → V9 q = V0 q) → (i ≤ ln ∨ i = t + 1) → i < 18 → jj G kS_divideModulus (d + 5) Q rc rs 54 [some (.ref re), some (.int (nI (t))), some (.int (nI (i))), (oj)] [] M9 := by
      intro mu
      induction mu with
      | zero =>
        intro i hk hti oj M9 V9 hS9 f9 m9 e9 o9 hie hi18
        have hre9 := (hR.ef hJ f9).1
        refine jj_iload_n (pc := 54) kS_divideModulus_d54 rfl ?_
        refine jj_aload_n (pc := 55) kS_divideModulus_d55 rfl ?_
        refine jj_getf (pc := 56) kS_divideModulus_d56 (kfS_lines hG) hre9 rfl ?_
        refine jn_icmp_ge (pc := 59) (tgt := 102) kS_divideModulus_d59 (by decide) (by omega) (by omega) (fun _ => ?_) (fun c => by exfalso; omega)
        exact jj_vret (pc := 102) kS_divideModulus_d102 rfl (k M9 V9 hS9 m9 (fun i p h1 h2 h3 h4 => e9 i p ⟨h1, h3, h4, Or.inl (by omega)⟩ h2) (fun q h1 h2 h3 => o9 q h1 h2 (fun i' p' h4 h5 => h3 i' p' h4.1 h5 h4.2.1 h4.2.2.1)) f9)
      | succ mu ih =>
        intro i hk hti oj M9 V9 hS9 f9 m9 e9 o9 hie hi18
        have hR9 := hR.ef hJ f9
        have hre9 := hR9.1
        refine jj_iload_n (pc := 54) kS_divideModulus_d54 rfl ?_
        refine jj_aload_n (pc := 55) kS_divideModulus_d55 rfl ?_
        refine jj_getf (pc := 56) kS_divideModulus_d56 (kfS_lines hG) hre9 rfl ?_
        refine jn_icmp_ge (pc := 59) (tgt := 102) kS_divideModulus_d59 (by decide) (by omega) (by omega) (fun ce => ?_) (fun ce => ?_)
        · skip
          exact jj_vret (pc := 102) kS_divideModulus_d102 rfl (k M9 V9 hS9 m9 (fun i p h1 h2 h3 h4 => e9 i p ⟨h1, h3, h4, Or.inl (by omega)⟩ h2) (fun q h1 h2 h3 => o9 q h1 h2 (fun i' p' h4 h5 => h3 i' p' h4.1 h5 h4.2.1 h4.2.2.1)) f9)
        · skip
          refine jj_iload_n (pc := 62) kS_divideModulus_d62 rfl ?_
          refine jn_iconst (pc := 63) 1 kS_divideModulus_d63 (by decide) ?_
          refine jn_iadd (pc := 64) (t + 1) kS_divideModulus_d64 (by omega) ?_
          refine jj_istore_n (pc := 65) kS_divideModulus_d65 (Nat.le_of_ble_eq_true rfl) ?_
          show jj G kS_divideModulus (d + 5) Q rc rs 66 [some (.ref re), some (.int (nI (t))), some (.int (nI (i))), some (.int (nI (t + 1)))] [] M9
          show jj G kS_divideModulus (d + 5) Q rc rs 66 [some (.ref re), some (.int (nI (t))), some (.int (nI (i))), some (.int (nI (t + 1)))] [] M9
          have inner : ∀ mu2 j, pl ≤ j + mu2 → t < j → j < 18 → ∀ (M9 : mheap) (V9 : Nat → Int), KS M9 wa la cap N eu dv hi lo dk V9 → EF M M9 wa la N eu dv hi lo → V9 547 = m' → (∀ i' p', (t < i' ∧ t < p' ∧ p' < pl ∧ (i' < i ∨ (i' = i ∧ p' < j))) → i' < ln → V9 (rp s ls ps i' p') = V0 (rp s ls ps i' p') % m') → (∀ q, 10 ≤ q → q ≠ 547 → (∀ i' p', (t < i' ∧ t < p' ∧ p' < pl ∧ (i' < i ∨ (i' = i ∧ p' < j))) → i' < ln → q ≠ rp s ls ps i' p') → V9 q = V0 q) → jj G kS_divideModulus (d + 5) Q rc rs 66 [some (.ref re), some (.int (nI (t))), some (.int (nI (i))), some (.int (nI (j)))] [] M9 := by
            intro mu2
            induction mu2 with
            | zero =>
              intro j hk2 htj hj18 M9 V9 hS9 f9 m9 e9 o9
              have hre9 := (hR.ef hJ f9).1
              refine jj_iload_n (pc := 66) kS_divideModulus_d66 rfl ?_
              refine jj_aload_n (pc := 67) kS_divideModulus_d67 rfl ?_
              refine jj_getf (pc := 68) kS_divideModulus_d68 (kfS_places hG) hre9 rfl ?_
              refine jn_icmp_ge (pc := 71) (tgt := 96) kS_divideModulus_d71 (by decide) (by omega) (by omega) (fun _ => ?_) (fun c => by exfalso; omega)
              refine jn_iinc (pc := 96) (i + 1) kS_divideModulus_d96 rfl (nI_1 _) ?_
              refine jj_goto (pc := 99) (tgt := 54) kS_divideModulus_d99 (by decide) ?_
              show jj G kS_divideModulus (d + 5) Q rc rs 54 [some (.ref re), some (.int (nI (t))), some (.int (nI (i + 1))), some (.int (nI (j)))] [] M9
              refine ih (i + 1) (by omega) (by omega) _ M9 V9 hS9 f9 m9 (fun i' p' h1 h2 => e9 i' p' ⟨h1.1, h1.2.1, h1.2.2.1, by omega⟩ h2) (fun q h1 h2 h3 => o9 q h1 h2 (fun i' p' h4 h5 => h3 i' p' ⟨h4.1, h4.2.1, h4.2.2.1, by omega⟩ h5)) (by omega) (by omega)
            | succ mu2 ih2 =>
              intro j hk2 htj hj18 M9 V9 hS9 f9 m9 e9 o9
              have hR9 := hR.ef hJ f9
              have hre9 := hR9.1
              refine jj_iload_n (pc := 66) kS_divideModulus_d66 rfl ?_
              refine jj_aload_n (pc := 67) kS_divideModulus_d67 rfl ?_
              refine jj_getf (pc := 68) kS_divideModulus_d68 (kfS_places hG) hre9 rfl ?_
              refine jn_icmp_ge (pc := 71) (tgt := 96) kS_divideModulus_d71 (by decide) (by omega) (by omega) (fun cj => ?_) (fun cj => ?_)
              · skip
                refine jn_iinc (pc := 96) (i + 1) kS_divideModulus_d96 rfl (nI_1 _) ?_
                refine jj_goto (pc := 99) (tgt := 54) kS_divideModulus_d99 (by decide) ?_
                show jj G kS_divideModulus (d + 5) Q rc rs 54 [some (.ref re), some (.int (nI (t))), some (.int (nI (i + 1))), some (.int (nI (j)))] [] M9
                refine ih (i + 1) (by omega) (by omega) _ M9 V9 hS9 f9 m9 (fun i' p' h1 h2 => e9 i' p' ⟨h1.1, h1.2.1, h1.2.2.1, by omega⟩ h2) (fun q h1 h2 h3 => o9 q h1 h2 (fun i' p' h4 h5 => h3 i' p' ⟨h4.1, h4.2.1, h4.2.2.1, by omega⟩ h5)) (by omega) (by omega)
              · skip
                have bij := hsp.b hs (show i < 16 by omega) (show j < 16 by omega)
                have vij : V9 (rp s ls ps i j) = V0 (rp s ls ps i j) := o9 _ (by omega) (by omega) (fun i' p' h1 h2 => hsp.ne hs (by omega) (by omega) (by omega) (by omega) (by omega))
                have lij : lc (V9 (rp s ls ps i j)) ≤ 252 := by have := hS9.1.lc (p := (rp s ls ps i j)) (by omega); rw [c553 _ bij.1 bij.2] at this; omega
                have cij : cap (rp s ls ps i j) = 64 := c553 _ bij.1 bij.2
                refine jj_aload_n (pc := 74) kS_divideModulus_d74 rfl ?_
                refine jj_aload_n (pc := 75) kS_divideModulus_d75 rfl ?_
                refine jj_iload_n (pc := 76) kS_divideModulus_d76 rfl ?_
                refine jj_iload_n (pc := 77) kS_divideModulus_d77 rfl ?_
                refine jj_callV (pc := 78) (b := re) (As := [.int (nI (i)), .int (nI (j))]) kS_divideModulus_d78 (kvS_S_at hG) (kG_cl hG rfl) rfl hre9 rfl rfl rfl (Nat.le_of_ble_eq_true rfl) (Nat.le_of_ble_eq_true rfl) (jj_bare0 rfl) ?_
                refine r_at hG hR9 hs (by omega) (by omega) ?_
                show jj G kS_divideModulus (d + 5) Q rc rs 81 [some (.ref re), some (.int (nI (t))), some (.int (nI (i))), some (.int (nI (j)))] [.ref (wa (rp s ls ps i j)), .ref re] M9
                refine jj_aload_n (pc := 81) kS_divideModulus_d81 rfl ?_
                refine jj_iload_n (pc := 82) kS_divideModulus_d82 rfl ?_
                refine jj_iload_n (pc := 83) kS_divideModulus_d83 rfl ?_
                refine jj_callV (pc := 84) (b := re) (As := [.int (nI (i)), .int (nI (j))]) kS_divideModulus_d84 (kvS_S_at hG) (kG_cl hG rfl) rfl hre9 rfl rfl rfl (Nat.le_of_ble_eq_true rfl) (Nat.le_of_ble_eq_true rfl) (jj_bare0 rfl) ?_
                refine r_at hG hR9 hs (by omega) (by omega) ?_
                show jj G kS_divideModulus (d + 5) Q rc rs 87 [some (.ref re), some (.int (nI (t))), some (.int (nI (i))), some (.int (nI (j)))] [.ref (wa (rp s ls ps i j)), .ref (wa (rp s ls ps i j)), .ref re] M9
                refine jj_callV (pc := 87) (b := re) (As := [.ref (wa (rp s ls ps i j)), .ref (wa (rp s ls ps i j))]) kS_divideModulus_d87 (kvS_S_keep hG) (kG_cl hG rfl) rfl hre9 rfl rfl rfl (Nat.le_of_ble_eq_true rfl) (Nat.le_of_ble_eq_true rfl) (jj_bare0 rfl) ?_
                refine r_keep hG hK hS9 hJ hR9 (u := (rp s ls ps i j)) (t := (rp s ls ps i j)) (by omega) (by omega) (by omega) (by omega) (by omega) (by omega) lij (by rw [m9]; exact m'0) (by rw [m9]; exact lm') (fun M8 V8 hS8 at8 ot8 hw8 => ?_)
                have hre8 := (hR9.ef hJ hw8).1
                show jj G kS_divideModulus (d + 5) Q rc rs 90 [some (.ref re), some (.int (nI (t))), some (.int (nI (i))), some (.int (nI (j)))] [] M8
                refine jn_iinc (pc := 90) (j + 1) kS_divideModulus_d90 rfl (nI_1 _) ?_
                refine jj_goto (pc := 93) (tgt := 66) kS_divideModulus_d93 (by decide) ?_
                show jj G kS_divideModulus (d + 5) Q rc rs 66 [some (.ref re), some (.int (nI (t))), some (.int (nI (i))), some (.int (nI (j + 1)))] [] M8
                rw [m9, vij] at at8
                refine ih2 (j + 1) (by omega) (by omega) (by omega) M8 V8 hS8 (f9.trans hw8) (by rw [ot8 _ (by omega) (by omega)]; exact m9) (fun i' p' h1 h2 => ?_) (fun q h1 h2 h3 => ?_)
                · by_cases e : i' = i ∧ p' = j
                  · rw [e.1, e.2]; exact at8
                  · have := hsp.b hs (show i' < 16 by omega) (show p' < 16 by omega)
                    rw [ot8 _ (by omega) (hsp.ne hs (by omega) (by omega) (by omega) (by omega) e)]
                    exact e9 i' p' ⟨h1.1, h1.2.1, h1.2.2.1, by omega⟩ h2
                · rw [ot8 q (by omega) (h3 i j ⟨hti, htj, by omega, by omega⟩ (by omega))]
                  exact o9 q h1 h2 (fun i' p' h4 h5 => h3 i' p' ⟨h4.1, h4.2.1, h4.2.2.1, by omega⟩ h5)
          refine inner pl (t + 1) (by omega) (by omega) (by omega) M9 V9 hS9 f9 m9 (fun i' p' h1 h2 => e9 i' p' ⟨h1.1, h1.2.1, h1.2.2.1, by omega⟩ h2) (fun q h1 h2 h3 => o9 q h1 h2 (fun i' p' h4 h5 => h3 i' p' ⟨h4.1, h4.2.1, h4.2.2.1, by omega⟩ h5))
    refine outer ln (t + 1) (by omega) (by omega) _ M2 V2 hS2a hf2 at2 (fun i' p' h1 h2 => by omega) (fun q h1 h2 _ => o2 q h1 h2) (by omega) (by omega)
end S5
