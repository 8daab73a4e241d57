/-! ===== Residues: isClearBehind, joinModulus, lineNotDivided, copyLine, fetchPivot (printed by wip/gen/rS9.py) ===== -/
theorem LQE.swap {Z Z' : imat} {t ln pl x : Nat} {m : Int} (hx1 : t ≤ x) (hx : x < ln) (h : ∀ i p, t ≤ i → i < ln → t ≤ p → p < pl → Z' i p = Z (swp x t i) p) : LQE Z Z' t ln pl m := by
  by_cases c : x = t
  · refine (LQE.refl Z).congr (fun i p h1 h2 h3 h4 => ?_)
    rw [h i p h1 h2 h3 h4]
    congr 1
    unfold swp
    split
    · omega
    · split <;> omega
  · refine LQE.pair (x := t) (y := x) (a := 0) (b := 1) (c := 1) (e := 0) (a' := 0) (b' := 1) (c' := 1) (e' := 0) (Nat.le_refl _) (by omega) (by omega) hx (by omega) (by decide) (by decide) (by decide) (by decide) (by decide) (by decide) (by decide) (by decide) (fun i h1 h2 h3 h4 p h5 h6 => ?_) (fun p h1 h2 => ⟨0, ?_⟩) (fun p h1 h2 => ⟨0, ?_⟩)
    · rw [h i p h1 h2 h5 h6]
      unfold swp
      rw [if_neg h4, if_neg h3]
    · rw [h t p (Nat.le_refl _) (by omega) h1 h2]
      unfold swp
      rw [if_neg (by omega), if_pos rfl]; omega
    · rw [h x p hx1 hx h1 h2]
      unfold swp
      rw [if_pos rfl]; omega
theorem swp_le {x t i : Nat} (hx : t ≤ x) (hi : t ≤ i) : t ≤ swp x t i := by
  unfold swp
  split
  · omega
  · split <;> omega
theorem tmod_dvd {a b : Int} : b ∣ a ↔ a.tmod b = 0 := by
  constructor
  · intro h
    obtain ⟨y, hy⟩ := h
    rw [hy, Int.mul_tmod_right]
  · intro h
    have := Int.mul_tdiv_add_tmod a b
    rw [h, Int.add_zero] at this
    exact ⟨_, this.symm⟩
section S9
variable {G : jg} {d : Nat} {Q : jq} {rc rs : Nat} {M : mheap} {wa la cap : Nat → Nat} {N eu dv hi lo dk re rca ln pl ls ps : Nat} {s : Nat → Nat} {V : Nat → Int}
theorem r_isClearBehind {t : Nat} (hG : kG G) (hK : KJI wa la cap N hi lo) (hS : KS M wa la cap N eu dv hi lo dk V) (hJ : QJ wa la cap N eu dv hi lo dk re rca) (hR : RST M wa re rca dk ln pl ls ps s) (hs : STP ls ps) (hln : ln ≤ 16) (ht16 : t < 16) (k1 : (∀ i, t < i → i < ln → rz V s ls ps i t = 0) → Q (.returned (some (.int (nI 1)))) M rc rs) (k0 : ∀ i, t < i → i < ln → rz V s ls ps i t ≠ 0 → Q (.returned (some (.int (nI 0)))) M rc rs) : jj G kS_isClearBehind (d + 1) Q rc rs 0 (jj_ent [.ref re, .int (nI t)] 3) [] M := by
  obtain ⟨h809, c547, c548, c553, f1, f2, n1, n2⟩ := id hJ
  have hre := hR.1
  have hsp := hR.2.2
  have hI := hK.1
  have hc0 := hS.1
  show jj G kS_isClearBehind (d + 1) Q rc rs 0 [some (.ref re), some (.int (nI (t))), none] [] M
  refine jj_iload_n (pc := 0) kS_isClearBehind_d0 rfl ?_
  refine jn_iconst (pc := 1) 1 kS_isClearBehind_d1 (by decide) ?_
  refine jn_iadd (pc := 2) (t + 1) kS_isClearBehind_d2 (by omega) ?_
  refine jj_istore_n (pc := 3) kS_isClearBehind_d3 (Nat.le_of_ble_eq_true rfl) ?_
  show jj G kS_isClearBehind (d + 1) Q rc rs 4 [some (.ref re), some (.int (nI (t))), some (.int (nI (t + 1)))] [] M
  show jj G kS_isClearBehind (d + 1) Q rc rs 4 [some (.ref re), some (.int (nI (t))), some (.int (nI (t + 1)))] [] M
  have loop : ∀ mu i, (i + mu = ln ∨ (mu = 0 ∧ ln ≤ i)) → t < i → i ≤ 16 → (∀ i', t < i' → i' < i → i' < ln → rz V s ls ps i' t = 0) → jj G kS_isClearBehind (d + 1) Q rc rs 4 [some (.ref re), some (.int (nI (t))), some (.int (nI (i)))] [] M := by
    intro mu
    induction mu with
    | zero =>
      intro i hk hti hi6 e9
      refine jj_iload_n (pc := 4) kS_isClearBehind_d4 rfl ?_
      refine jj_aload_n (pc := 5) kS_isClearBehind_d5 rfl ?_
      refine jj_getf (pc := 6) kS_isClearBehind_d6 (kfS_lines hG) hre rfl ?_
      refine jn_icmp_ge (pc := 9) (tgt := 32) kS_isClearBehind_d9 (by decide) (by omega) (by omega) (fun _ => ?_) (fun c => by exfalso; omega)
      refine jn_iconst (pc := 32) 1 kS_isClearBehind_d32 (by decide) ?_
      exact jj_iret (pc := 33) kS_isClearBehind_d33 rfl (by rfl) (k1 (fun i' h1 h2 => e9 i' h1 (by omega) h2))
    | succ mu ih =>
      intro i hk hti hi6 e9
      have bI := hsp.b hs (show i < 16 by omega) ht16
      refine jj_iload_n (pc := 4) kS_isClearBehind_d4 rfl ?_
      refine jj_aload_n (pc := 5) kS_isClearBehind_d5 rfl ?_
      refine jj_getf (pc := 6) kS_isClearBehind_d6 (kfS_lines hG) hre rfl ?_
      refine jn_icmp_ge (pc := 9) (tgt := 32) kS_isClearBehind_d9 (by decide) (by omega) (by omega) (fun c => by exfalso; omega) (fun _ => ?_)
      refine jj_aload_n (pc := 12) kS_isClearBehind_d12 rfl ?_
      refine jj_iload_n (pc := 13) kS_isClearBehind_d13 rfl ?_
      refine jj_iload_n (pc := 14) kS_isClearBehind_d14 rfl ?_
      refine jj_callV (pc := 15) (b := re) (As := [.int (nI (i)), .int (nI (t))]) kS_isClearBehind_d15 (kvS_S_at hG) (kG_cl hG rfl) rfl hre rfl rfl rfl (Nat.le_of_ble_eq_true rfl) (Nat.le_of_ble_eq_true rfl) (jj_bare0 rfl) ?_
      refine r_at hG hR hs (by omega) ht16 ?_
      show jj G kS_isClearBehind (d + 1) Q rc rs 18 [some (.ref re), some (.int (nI (t))), some (.int (nI (i)))] [.ref (wa (rp s ls ps i t))] M
      obtain ⟨Tn101, tn101, hTn101, _, _, hZn101⟩ := hc0 (rp s ls ps i t) (by omega)
      have eZn101 := hZn101.cnt
      subst eZn101
      have bZn101 := hc0.lc (p := (rp s ls ps i t)) (by omega)
      have bYn101 := hI.2.2 (rp s ls ps i t) (by omega)
      refine jj_getf (pc := 18) kS_isClearBehind_d18 (kfS_W_count hG) hTn101 rfl ?_
      refine jn_if_le (pc := 21) (tgt := 26) kS_isClearBehind_d21 (by decide) (by omega) (fun c0 => ?_) (fun c0 => ?_)
      · skip
        refine jn_iinc (pc := 26) (i + 1) kS_isClearBehind_d26 rfl (nI_1 _) ?_
        refine jj_goto (pc := 29) (tgt := 4) kS_isClearBehind_d29 (by decide) ?_
        show jj G kS_isClearBehind (d + 1) Q rc rs 4 [some (.ref re), some (.int (nI (t))), some (.int (nI (i + 1)))] [] M
        refine ih (i + 1) (by omega) (by omega) (by omega) (fun i' h1 h2 h3 => ?_)
        by_cases e : i' = i
        · rw [e]; exact lc_nil (show lc (V (rp s ls ps i t)) ≤ 0 by omega)
        · exact e9 i' h1 (by omega) h3
      · skip
        refine jn_iconst (pc := 24) 0 kS_isClearBehind_d24 (by decide) ?_
        exact jj_iret (pc := 25) kS_isClearBehind_d25 rfl (by rfl) (k0 i hti (by omega) (lc_pos (show 0 < lc (V (rp s ls ps i t)) by omega)))
  exact loop (ln - (t + 1)) (t + 1) (by omega) (by omega) (by omega) (fun i' h1 h2 => by omega)
theorem r_joinModulus {t : Nat} {m : Int} (hG : kG G) (hK : KJI wa la cap N hi lo) (hS : KS M wa la cap N eu dv hi lo dk V) (hJ : QJ wa la cap N eu dv hi lo dk re rca) (hR : RST M wa re rca dk ln pl ls ps s) (hs : STP ls ps) (ht16 : t < 16) (hm : V 547 = m) (hm0 : 0 < m) (hlm : lc m ≤ 63) (hrg : 0 ≤ V (rp s ls ps t t) ∧ V (rp s ls ps t t) < m) (k : ∀ (M' : mheap) (V' : Nat → Int), KS M' wa la cap N eu dv hi lo dk V' → EF M M' wa la N eu dv hi lo → V' (rp s ls ps t t) = gI (V (rp s ls ps t t)) m → (∀ q, 10 ≤ q → q ≠ (rp s ls ps t t) → V' q = V q) → Q (.returned none) M' rc rs) : jj G kS_joinModulus (d + 6) Q rc rs 0 (jj_ent [.ref re, .int (nI t)] 2) [] M := by
  obtain ⟨h809, c547, c548, c553, f1, f2, n1, n2⟩ := id hJ
  have hsp := hR.2.2
  have hre := hR.1
  have b1 := hsp.b hs ht16 ht16
  obtain ⟨hI, hN, hcap, hdi⟩ := id hK
  obtain ⟨hc0, ⟨r_a, px_a, pf_a, py_a, po_a, ps_a, od_a, hU0⟩, hdk0⟩ := id hS
  have hf0 : EF M M wa la N eu dv hi lo := fun _ _ _ _ _ _ => rfl
  obtain ⟨V0, hV0⟩ : ∃ V0, V = V0 := ⟨_, rfl⟩
  rw [hV0] at hc0
  have hn0 := hU0.1
  have b_r0 := hn0.2.1
  have b_x0 := hn0.2.2.1
  have b_f0 := hn0.2.2.2.1
  have hdv0 := hU0.2.1
  obtain ⟨ea0, eb0, ec0, ed0, hE0⟩ := hU0.2.2.2
  have hD0 := hdv0.1
  rw [hV0] at hm hrg k
  have lT : lc (V0 (rp s ls ps t t)) ≤ 63 := Nat.le_trans (lc_mono (by omega)) hlm
  show jj G kS_joinModulus (d + 6) Q rc rs 0 [some (.ref re), some (.int (nI (t)))] [] M
  refine jj_aload_n (pc := 0) kS_joinModulus_d0 rfl ?_
  refine jj_getf (pc := 1) kS_joinModulus_d1 (kfS_desk hG) hre rfl ?_
  refine jj_getf (pc := 4) kS_joinModulus_d4 (kfS_K_euclid hG) hdk0 rfl ?_
  refine jj_aload_n (pc := 7) kS_joinModulus_d7 rfl ?_
  refine jj_iload_n (pc := 8) kS_joinModulus_d8 rfl ?_
  refine jj_iload_n (pc := 9) kS_joinModulus_d9 rfl ?_
  refine jj_callV (pc := 10) (b := re) (As := [.int (nI (t)), .int (nI (t))]) kS_joinModulus_d10 (kvS_S_at hG) (kG_cl hG rfl) rfl hre rfl rfl rfl (Nat.le_of_ble_eq_true rfl) (Nat.le_of_ble_eq_true rfl) (jj_bare0 rfl) ?_
  refine r_at hG hR hs ht16 ht16 ?_
  show jj G kS_joinModulus (d + 6) Q rc rs 13 [some (.ref re), some (.int (nI (t)))] [.ref (wa (rp s ls ps t t)), .ref eu] M
  refine jj_aload_n (pc := 13) kS_joinModulus_d13 rfl ?_
  refine jj_getf (pc := 14) kS_joinModulus_d14 (kfS_modulus hG) hre rfl ?_
  refine jn_iconst (pc := 17) 0 kS_joinModulus_d17 (by decide) ?_
  refine jj_callV (pc := 18) (b := eu) (As := [.ref (wa (rp s ls ps t t)), .ref (wa 547), .int (nI (0))]) kS_joinModulus_d18 (kvS_U_run hG) (kG_cl hG rfl) rfl hE0 rfl rfl rfl (Nat.le_of_ble_eq_true rfl) (Nat.le_of_ble_eq_true rfl) (jj_bare0 rfl) ?_
  refine u_run hG hI hc0 (by omega) (fun p hp => hcap p (by omega)) hdi hU0 (by omega) (by omega) (by omega) (by omega) (by omega) (by omega) (by rw [hm]; omega) (fun h => absurd h (by omega)) (fun M1 V1 r_1 px_1 pf_1 py_1 po_1 ps_1 od_1 hc1 ot1 hU1 gx1 gf1 hw1 => ?_)
  have hf1 := hf0.trans hw1
  have q1_re := hw1.obj hc0 hU0 hre (by decide) (by decide) (by decide)
  have q1_dk := hw1.obj hc0 hU0 hdk0 (by decide) (by decide) (by decide)
  have hn1 := hU1.1
  have b_r1 := hn1.2.1
  have b_x1 := hn1.2.2.1
  have b_f1 := hn1.2.2.2.1
  have hdv1 := hU1.2.1
  obtain ⟨ea1, eb1, ec1, ed1, hE1⟩ := hU1.2.2.2
  have hD1 := hdv1.1
  show jj G kS_joinModulus (d + 6) Q rc rs 21 [some (.ref re), some (.int (nI (t)))] [] M1
  rw [hm] at gx1
  have egg : V1 px_1 = gI (V0 (rp s ls ps t t)) m := gx1
  have hgle : gI (V0 (rp s ls ps t t)) m ≤ m := Int.le_of_dvd hm0 (gI_r _ _)
  have hgn := gI_nn (V0 (rp s ls ps t t)) m
  have lg : lc (gI (V0 (rp s ls ps t t)) m) ≤ 63 := Nat.le_trans (lc_mono (by omega)) hlm
  have hR1 := hR.ef hJ hf1
  refine jj_aload_n (pc := 21) kS_joinModulus_d21 rfl ?_
  refine jj_iload_n (pc := 22) kS_joinModulus_d22 rfl ?_
  refine jj_iload_n (pc := 23) kS_joinModulus_d23 rfl ?_
  refine jj_callV (pc := 24) (b := re) (As := [.int (nI (t)), .int (nI (t))]) kS_joinModulus_d24 (kvS_S_at hG) (kG_cl hG rfl) rfl q1_re rfl rfl rfl (Nat.le_of_ble_eq_true rfl) (Nat.le_of_ble_eq_true rfl) (jj_bare0 rfl) ?_
  refine r_at hG hR1 hs ht16 ht16 ?_
  show jj G kS_joinModulus (d + 6) Q rc rs 27 [some (.ref re), some (.int (nI (t)))] [.ref (wa (rp s ls ps t t))] M1
  obtain ⟨Trpslspstt_1, trpslspstt_1, hTrpslspstt_1, _, _⟩ := hc1 (rp s ls ps t t) (by omega)
  refine jj_aload_n (pc := 27) kS_joinModulus_d27 rfl ?_
  refine jj_getf (pc := 28) kS_joinModulus_d28 (kfS_desk hG) q1_re rfl ?_
  refine jj_getf (pc := 31) kS_joinModulus_d31 (kfS_K_euclid hG) q1_dk rfl ?_
  refine jj_getf (pc := 34) kS_joinModulus_d34 (kfS_U_x hG) hE1 rfl ?_
  refine jj_callV (pc := 37) (b := (wa (rp s ls ps t t))) (As := [.ref (wa px_1)]) kS_joinModulus_d37 (kvS_W_copy hG) (kG_cl hG rfl) rfl hTrpslspstt_1 rfl rfl rfl (Nat.le_of_ble_eq_true rfl) (Nat.le_of_ble_eq_true rfl) (jj_bare0 rfl) ?_
  refine w_copy hG hI hc1 (by omega : (rp s ls ps t t) < N) (by omega) (by rw [egg, c553 _ b1.1 b1.2]; exact lc_room (by omega)) (fun M2 hcx2 hw2  => ?_) 
  obtain ⟨V2, hV2⟩ : ∃ W, vup V1 (rp s ls ps t t) (V1 px_1) = W := ⟨_, rfl⟩
  have hc2 : CW M2 wa la cap N V2 := by rw [← hV2]; exact hcx2
  have at2 : V2 (rp s ls ps t t) = V1 px_1 := by rw [← hV2, vup_at]
  have ot2 : ∀ p, p ≠ (rp s ls ps t t) → V2 p = V1 p := fun p hp => by rw [← hV2, vup_ne _ _ hp]
  have hU2 := hU1.wt hc1 hdi (by omega) hw2
  have hf2 := hf1.trans (hw2.ef (by omega))
  have q2_re := (hw2.ef (eu := eu) (dv := dv) (hi := hi) (lo := lo) (by omega)).obj hc1 hU1 q1_re (by decide) (by decide) (by decide)
  have q2_dk := (hw2.ef (eu := eu) (dv := dv) (hi := hi) (lo := lo) (by omega)).obj hc1 hU1 q1_dk (by decide) (by decide) (by decide)
  have hn2 := hU2.1
  have b_r2 := hn2.2.1
  have b_x2 := hn2.2.2.1
  have b_f2 := hn2.2.2.2.1
  have hdv2 := hU2.2.1
  obtain ⟨ea2, eb2, ec2, ed2, hE2⟩ := hU2.2.2.2
  have hD2 := hdv2.1
  show jj G kS_joinModulus (d + 6) Q rc rs 40 [some (.ref re), some (.int (nI (t)))] [] M2
  exact jj_vret (pc := 40) kS_joinModulus_d40 rfl (k M2 V2 ⟨hc2, ⟨r_1, px_1, pf_1, py_1, po_1, ps_1, od_1, hU2⟩, q2_dk⟩ hf2 (by rw [at2]; exact egg) (fun q h1 h2 => by rw [ot2 q h2, ot1 q (by omega)]))
theorem r_copyLine {f t : Nat} (hG : kG G) (hK : KJI wa la cap N hi lo) (hS : KS M wa la cap N eu dv hi lo dk V) (hJ : QJ wa la cap N eu dv hi lo dk re rca) (hR : RST M wa re rca dk ln pl ls ps s) (hs : STP ls ps) (hpl : pl ≤ 16) (ht16 : t < 16) (hf16 : f < 16) (hft : f ≠ t) (htp : t < pl) (k : ∀ (M' : mheap) (V' : Nat → Int), KS M' wa la cap N eu dv hi lo dk V' → EF M M' wa la N eu dv hi lo → (∀ p, t < p → p < pl → V' (rp s ls ps t p) = V (rp s ls ps f p)) → (∀ q, (∀ p, t < p → p < pl → q ≠ (rp s ls ps t p)) → V' q = V q) → Q (.returned none) M' rc rs) : jj G kS_copyLine (d + 3) Q rc rs 0 (jj_ent [.ref re, .int (nI f), .int (nI t)] 4) [] M := by
  obtain ⟨h809, c547, c548, c553, f1, f2, n1, n2⟩ := id hJ
  have hre := hR.1
  have hsp := hR.2.2
  have hI := hK.1
  show jj G kS_copyLine (d + 3) Q rc rs 0 [some (.ref re), some (.int (nI (f))), some (.int (nI (t))), none] [] M
  refine jj_iload_n (pc := 0) kS_copyLine_d0 rfl ?_
  refine jn_iconst (pc := 1) 1 kS_copyLine_d1 (by decide) ?_
  refine jn_iadd (pc := 2) (t + 1) kS_copyLine_d2 (by omega) ?_
  refine jj_istore_n (pc := 3) kS_copyLine_d3 (Nat.le_of_ble_eq_true rfl) ?_
  show jj G kS_copyLine (d + 3) Q rc rs 4 [some (.ref re), some (.int (nI (f))), some (.int (nI (t))), some (.int (nI (t + 1)))] [] M
  show jj G kS_copyLine (d + 3) Q rc rs 4 [some (.ref re), some (.int (nI (f))), some (.int (nI (t))), some (.int (nI (t + 1)))] [] M
  have loop : ∀ mu x, pl = x + mu → t < x → ∀ (M9 : mheap) (V9 : Nat → Int), KS M9 wa la cap N eu dv hi lo dk V9 → EF M M9 wa la N eu dv hi lo → (∀ p, t < p → p < x → V9 (rp s ls ps t p) = V (rp s ls ps f p)) → (∀ q, (∀ p, t < p → p < x → q ≠ (rp s ls ps t p)) → V9 q = V q) → jj G kS_copyLine (d + 3) Q rc rs 4 [some (.ref re), some (.int (nI (f))), some (.int (nI (t))), some (.int (nI (x)))] [] M9 := by
    intro mu
    induction mu with
    | zero =>
      intro x hk htx M9 V9 hS9 f9 e9 o9
      have ex : pl = x := by omega
      subst ex
      have hre9 := (hR.ef hJ f9).1
      refine jj_iload_n (pc := 4) kS_copyLine_d4 rfl ?_
      refine jj_aload_n (pc := 5) kS_copyLine_d5 rfl ?_
      refine jj_getf (pc := 6) kS_copyLine_d6 (kfS_places hG) hre9 rfl ?_
      refine jn_icmp_ge (pc := 9) (tgt := 33) kS_copyLine_d9 (by decide) (by omega) (by omega) (fun _ => ?_) (fun c => by exfalso; omega)
      exact jj_vret (pc := 33) kS_copyLine_d33 rfl (k M9 V9 hS9 f9 e9 o9)
    | succ mu ih =>
      intro x hk htx M9 V9 hS9 f9 e9 o9
      have hR9 := hR.ef hJ f9
      have hre9 := hR9.1
      have b1 := hsp.b hs ht16 (show x < 16 by omega)
      have b2 := hsp.b hs hf16 (show x < 16 by omega)
      have lf : lc (V9 (rp s ls ps f x)) ≤ 64 := by have := hS9.1.lc (p := (rp s ls ps f x)) (by omega); rw [c553 _ b2.1 b2.2] at this; exact this
      have eF : V9 (rp s ls ps f x) = V (rp s ls ps f x) := o9 _ (fun p h1 h2 => hsp.ne hs hf16 (by omega) ht16 (by omega) (by omega))
      have hc0 := hS9.1
      refine jj_iload_n (pc := 4) kS_copyLine_d4 rfl ?_
      refine jj_aload_n (pc := 5) kS_copyLine_d5 rfl ?_
      refine jj_getf (pc := 6) kS_copyLine_d6 (kfS_places hG) hre9 rfl ?_
      refine jn_icmp_ge (pc := 9) (tgt := 33) kS_copyLine_d9 (by decide) (by omega) (by omega) (fun c => by exfalso; omega) (fun _ => ?_)
      refine jj_aload_n (pc := 12) kS_copyLine_d12 rfl ?_
      refine jj_iload_n (pc := 13) kS_copyLine_d13 rfl ?_
      refine jj_iload_n (pc := 14) kS_copyLine_d14 rfl ?_
      refine jj_callV (pc := 15) (b := re) (As := [.int (nI (t)), .int (nI (x))]) kS_copyLine_d15 (kvS_S_at hG) (kG_cl hG rfl) rfl hre9 rfl rfl rfl (Nat.le_of_ble_eq_true rfl) (Nat.le_of_ble_eq_true rfl) (jj_bare0 rfl) ?_
      refine r_at hG hR9 hs ht16 (by omega) ?_
      show jj G kS_copyLine (d + 3) Q rc rs 18 [some (.ref re), some (.int (nI (f))), some (.int (nI (t))), some (.int (nI (x)))] [.ref (wa (rp s ls ps t x))] M9
      refine jj_aload_n (pc := 18) kS_copyLine_d18 rfl ?_
      refine jj_iload_n (pc := 19) kS_copyLine_d19 rfl ?_
      refine jj_iload_n (pc := 20) kS_copyLine_d20 rfl ?_
      refine jj_callV (pc := 21) (b := re) (As := [.int (nI (f)), .int (nI (x))]) kS_copyLine_d21 (kvS_S_at hG) (kG_cl hG rfl) rfl hre9 rfl rfl rfl (Nat.le_of_ble_eq_true rfl) (Nat.le_of_ble_eq_true rfl) (jj_bare0 rfl) ?_
      refine r_at hG hR9 hs hf16 (by omega) ?_
      show jj G kS_copyLine (d + 3) Q rc rs 24 [some (.ref re), some (.int (nI (f))), some (.int (nI (t))), some (.int (nI (x)))] [.ref (wa (rp s ls ps f x)), .ref (wa (rp s ls ps t x))] M9
      obtain ⟨Trpslspstx_0, trpslspstx_0, hTrpslspstx_0, _, _⟩ := hc0 (rp s ls ps t x) (by omega)
      refine jj_callV (pc := 24) (b := (wa (rp s ls ps t x))) (As := [.ref (wa (rp s ls ps f x))]) kS_copyLine_d24 (kvS_W_copy hG) (kG_cl hG rfl) rfl hTrpslspstx_0 rfl rfl rfl (Nat.le_of_ble_eq_true rfl) (Nat.le_of_ble_eq_true rfl) (jj_bare0 rfl) ?_
      refine w_copy hG hI hS9.1 (t := (rp s ls ps t x)) (u := (rp s ls ps f x)) (by omega) (by omega) (by rw [c553 _ b1.1 b1.2]; exact lc_room (by omega)) (fun M8 hc8 hw8 => ?_)
      have hre8 := (hR9.ef hJ (hw8.ef (by omega))).1
      show jj G kS_copyLine (d + 3) Q rc rs 27 [some (.ref re), some (.int (nI (f))), some (.int (nI (t))), some (.int (nI (x)))] [] M8
      refine jn_iinc (pc := 27) (x + 1) kS_copyLine_d27 rfl (nI_1 _) ?_
      refine jj_goto (pc := 30) (tgt := 4) kS_copyLine_d30 (by decide) ?_
      show jj G kS_copyLine (d + 3) Q rc rs 4 [some (.ref re), some (.int (nI (f))), some (.int (nI (t))), some (.int (nI (x + 1)))] [] M8
      refine ih (x + 1) (by omega) (by omega) M8 _ (hS9.wt hK (by omega) hw8 hc8) (f9.trans (hw8.ef (by omega))) (fun p h1 h2 => ?_) (fun q h => ?_)
      · by_cases e : p = x
        · rw [e, vup_at]; exact eF
        · rw [vup_ne _ _ (hsp.ne hs ht16 (by omega) ht16 (by omega) (by omega))]
          exact e9 p h1 (by omega)
      · rw [vup_ne _ _ (h x htx (by omega))]
        exact o9 q (fun p h1 h2 => h p h1 (by omega))
  exact loop (pl - (t + 1)) (t + 1) (by omega) (by omega) M V hS (fun _ _ _ _ _ _ => rfl) (fun p h1 h2 => by omega) (fun _ _ => rfl)
theorem r_lnd {t i p : Nat} (hG : kG G) (hK : KJI wa la cap N hi lo) (hS : KS M wa la cap N eu dv hi lo dk V) (hJ : QJ wa la cap N eu dv hi lo dk re rca) (hR : RST M wa re rca dk ln pl ls ps s) (hs : STP ls ps) (hi16 : i < 16) (hp16 : p < 16) (ht16 : t < 16) (k0 : ∀ (M' : mheap) (V' : Nat → Int), KS M' wa la cap N eu dv hi lo dk V' → EF M M' wa la N eu dv hi lo → (∀ q, 10 ≤ q → V' q = V q) → ¬ V (rp s ls ps t t) ∣ V (rp s ls ps i p) → Q (.returned (some (.int (nI i)))) M' rc rs) (k1 : ∀ (M' : mheap) (V' : Nat → Int), KS M' wa la cap N eu dv hi lo dk V' → EF M M' wa la N eu dv hi lo → (∀ q, 10 ≤ q → V' q = V q) → V (rp s ls ps t t) ∣ V (rp s ls ps i p) → jj G kS_lineNotDivided (d + 4) Q rc rs 76 [some (.ref re), some (.int (nI (t))), some (.int (nI (i))), some (.int (nI (p)))] [] M') (hT0 : 0 < V (rp s ls ps t t)) : jj G kS_lineNotDivided (d + 4) Q rc rs 36 [some (.ref re), some (.int (nI (t))), some (.int (nI (i))), some (.int (nI (p)))] [] M := by
  obtain ⟨h809, c547, c548, c553, f1, f2, n1, n2⟩ := id hJ
  have hsp := hR.2.2
  have hre := hR.1
  have b1 := hsp.b hs ht16 ht16
  have b2 := hsp.b hs hi16 hp16
  obtain ⟨hI, hN, hcap, hdi⟩ := id hK
  obtain ⟨hc0, ⟨r_a, px_a, pf_a, py_a, po_a, ps_a, od_a, hU0⟩, hdk0⟩ := id hS
  have hf0 : EF M M wa la N eu dv hi lo := fun _ _ _ _ _ _ => rfl
  obtain ⟨V0, hV0⟩ : ∃ V0, V = V0 := ⟨_, rfl⟩
  rw [hV0] at hc0
  have hn0 := hU0.1
  have b_r0 := hn0.2.1
  have b_x0 := hn0.2.2.1
  have b_f0 := hn0.2.2.2.1
  have hdv0 := hU0.2.1
  obtain ⟨ea0, eb0, ec0, ed0, hE0⟩ := hU0.2.2.2
  have hD0 := hdv0.1
  rw [hV0] at k0 k1 hT0
  have la1 : lc (V0 (rp s ls ps t t)) ≤ 64 := by have := hc0.lc (p := (rp s ls ps t t)) (by omega); rw [c553 _ b1.1 b1.2] at this; exact this
  have lb1 : lc (V0 (rp s ls ps i p)) ≤ 64 := by have := hc0.lc (p := (rp s ls ps i p)) (by omega); rw [c553 _ b2.1 b2.2] at this; exact this
  show jj G kS_lineNotDivided (d + 4) Q rc rs 36 [some (.ref re), some (.int (nI (t))), some (.int (nI (i))), some (.int (nI (p)))] [] M
  refine jj_aload_n (pc := 36) kS_lineNotDivided_d36 rfl ?_
  refine jj_getf (pc := 37) kS_lineNotDivided_d37 (kfS_desk hG) hre rfl ?_
  refine jj_getf (pc := 40) kS_lineNotDivided_d40 (kfS_K_divider hG) hdk0 rfl ?_
  refine jj_aload_n (pc := 43) kS_lineNotDivided_d43 rfl ?_
  refine jj_iload_n (pc := 44) kS_lineNotDivided_d44 rfl ?_
  refine jj_iload_n (pc := 45) kS_lineNotDivided_d45 rfl ?_
  refine jj_callV (pc := 46) (b := re) (As := [.int (nI (i)), .int (nI (p))]) kS_lineNotDivided_d46 (kvS_S_at hG) (kG_cl hG rfl) rfl hre rfl rfl rfl (Nat.le_of_ble_eq_true rfl) (Nat.le_of_ble_eq_true rfl) (jj_bare0 rfl) ?_
  refine r_at hG hR hs hi16 hp16 ?_
  show jj G kS_lineNotDivided (d + 4) Q rc rs 49 [some (.ref re), some (.int (nI (t))), some (.int (nI (i))), some (.int (nI (p)))] [.ref (wa (rp s ls ps i p)), .ref dv] M
  refine jj_aload_n (pc := 49) kS_lineNotDivided_d49 rfl ?_
  refine jj_iload_n (pc := 50) kS_lineNotDivided_d50 rfl ?_
  refine jj_iload_n (pc := 51) kS_lineNotDivided_d51 rfl ?_
  refine jj_callV (pc := 52) (b := re) (As := [.int (nI (t)), .int (nI (t))]) kS_lineNotDivided_d52 (kvS_S_at hG) (kG_cl hG rfl) rfl hre rfl rfl rfl (Nat.le_of_ble_eq_true rfl) (Nat.le_of_ble_eq_true rfl) (jj_bare0 rfl) ?_
  refine r_at hG hR hs ht16 ht16 ?_
  show jj G kS_lineNotDivided (d + 4) Q rc rs 55 [some (.ref re), some (.int (nI (t))), some (.int (nI (i))), some (.int (nI (p)))] [.ref (wa (rp s ls ps t t)), .ref (wa (rp s ls ps i p)), .ref dv] M
  refine jj_callV (pc := 55) (b := dv) (As := [.ref (wa (rp s ls ps i p)), .ref (wa (rp s ls ps t t))]) kS_lineNotDivided_d55 (kvS_D_divide hG) (kG_cl hG rfl) rfl hD0 rfl rfl rfl (Nat.le_of_ble_eq_true rfl) (Nat.le_of_ble_eq_true rfl) (jj_bare0 rfl) ?_
  refine d_divide hG hI hc0 hdv0 hdi (by omega) (by omega) (by omega) (by omega) hn0.nqr (by omega) (by omega) (by omega) (by omega) (by omega) (by rw [hcap 0 (by omega)]; exact (by omega)) (by rw [hcap r_a (by omega)]; exact (by omega)) (fun M1 hcx1 hdx1 hw1 => ?_)
  obtain ⟨V1, hV1⟩ : ∃ W, vup (vup V0 0 ((V0 (rp s ls ps i p)).tdiv (V0 (rp s ls ps t t)))) r_a ((V0 (rp s ls ps i p)).tmod (V0 (rp s ls ps t t))) = W := ⟨_, rfl⟩
  have hc1 : CW M1 wa la cap N V1 := by rw [← hV1]; exact hcx1
  have at1 : V1 0 = (V0 (rp s ls ps i p)).tdiv (V0 (rp s ls ps t t)) := by rw [← hV1, vup_ne _ _ hn0.nqr, vup_at]
  have rt1 : V1 r_a = (V0 (rp s ls ps i p)).tmod (V0 (rp s ls ps t t)) := by rw [← hV1, vup_at]
  have ot1 : ∀ p, p ≠ 0 → p ≠ r_a → V1 p = V0 p := fun p h1 h2 => by rw [← hV1, vup_ne _ _ h2, vup_ne _ _ h1]
  have hU1 := hU0.div hc0 hdx1 hw1
  have hf1 := hf0.trans (hw1.ef (eu := eu) (dv := dv))
  have q1_re := (hw1.ef (eu := eu) (dv := dv)).obj hc0 hU0 hre (by decide) (by decide) (by decide)
  have q1_dk := (hw1.ef (eu := eu) (dv := dv)).obj hc0 hU0 hdk0 (by decide) (by decide) (by decide)
  have hn1 := hU1.1
  have b_r1 := hn1.2.1
  have b_x1 := hn1.2.2.1
  have b_f1 := hn1.2.2.2.1
  have hdv1 := hU1.2.1
  obtain ⟨ea1, eb1, ec1, ed1, hE1⟩ := hU1.2.2.2
  have hD1 := hdv1.1
  show jj G kS_lineNotDivided (d + 4) Q rc rs 58 [some (.ref re), some (.int (nI (t))), some (.int (nI (i))), some (.int (nI (p)))] [] M1
  have dvi : V0 (rp s ls ps t t) ∣ V0 (rp s ls ps i p) ↔ V1 r_a = 0 := by rw [rt1]; exact tmod_dvd
  obtain ⟨Tn102, tn102, hTn102, _, _, hZn102⟩ := hc1 r_a (by omega)
  have eZn102 := hZn102.cnt
  subst eZn102
  have bZn102 := hc1.lc (p := r_a) (by omega)
  have bYn102 := hI.2.2 r_a (by omega)
  refine jj_aload_n (pc := 58) kS_lineNotDivided_d58 rfl ?_
  refine jj_getf (pc := 59) kS_lineNotDivided_d59 (kfS_desk hG) q1_re rfl ?_
  refine jj_getf (pc := 62) kS_lineNotDivided_d62 (kfS_K_divider hG) q1_dk rfl ?_
  refine jj_getf (pc := 65) kS_lineNotDivided_d65 (kfS_D_remainder hG) hD1 rfl ?_
  refine jj_getf (pc := 68) kS_lineNotDivided_d68 (kfS_W_count hG) hTn102 rfl ?_
  refine jn_if_le (pc := 71) (tgt := 76) kS_lineNotDivided_d71 (by decide) (by omega) (fun c2 => ?_) (fun c2 => ?_)
  · skip
    show jj G kS_lineNotDivided (d + 4) Q rc rs 76 [some (.ref re), some (.int (nI (t))), some (.int (nI (i))), some (.int (nI (p)))] [] M1
    exact k1 M1 V1 ⟨hc1, ⟨r_a, px_a, pf_a, py_a, po_a, ps_a, od_a, hU1⟩, q1_dk⟩ hf1 (fun q h => ot1 q (by omega) (by omega)) (dvi.2 (lc_nil (by omega)))
  · skip
    refine jj_iload_n (pc := 74) kS_lineNotDivided_d74 rfl ?_
    exact jj_iret (pc := 75) kS_lineNotDivided_d75 rfl (by rfl) (k0 M1 V1 ⟨hc1, ⟨r_a, px_a, pf_a, py_a, po_a, ps_a, od_a, hU1⟩, q1_dk⟩ hf1 (fun q h => ot1 q (by omega) (by omega)) (fun h => lc_pos (show 0 < lc (V1 r_a) by omega) (dvi.1 h)))
theorem r_lineNotDivided {t : Nat} (hG : kG G) (hK : KJI wa la cap N hi lo) (hS : KS M wa la cap N eu dv hi lo dk V) (hJ : QJ wa la cap N eu dv hi lo dk re rca) (hR : RST M wa re rca dk ln pl ls ps s) (hs : STP ls ps) (hln : ln ≤ 16) (hpl : pl ≤ 16) (htl : t < ln) (htp : t < pl) (hT0 : 0 < V (rp s ls ps t t)) (k0 : ∀ (M' : mheap) (V' : Nat → Int) (f p : Nat), KS M' wa la cap N eu dv hi lo dk V' → EF M M' wa la N eu dv hi lo → (∀ q, 10 ≤ q → V' q = V q) → t < f → f < ln → t < p → p < pl → ¬ V (rp s ls ps t t) ∣ V (rp s ls ps f p) → Q (.returned (some (.int (nI f)))) M' rc rs) (k1 : ∀ (M' : mheap) (V' : Nat → Int), KS M' wa la cap N eu dv hi lo dk V' → EF M M' wa la N eu dv hi lo → (∀ q, 10 ≤ q → V' q = V q) → (∀ i p, t < i → i < ln → t < p → p < pl → V (rp s ls ps t t) ∣ V (rp s ls ps i p)) → Q (.returned (some (.int (-1)))) M' rc rs) : jj G kS_lineNotDivided (d + 4) Q rc rs 0 (jj_ent [.ref re, .int (nI t)] 4) [] M := by
  obtain ⟨h809, c547, c548, c553, f1, f2, n1, n2⟩ := id hJ
  have hre := hR.1
  have hsp := hR.2.2
  have hI := hK.1
  show jj G kS_lineNotDivided (d + 4) Q rc rs 0 [some (.ref re), some (.int (nI (t))), none, none] [] M
  refine jj_iload_n (pc := 0) kS_lineNotDivided_d0 rfl ?_
  refine jn_iconst (pc := 1) 1 kS_lineNotDivided_d1 (by decide) ?_
  refine jn_iadd (pc := 2) (t + 1) kS_lineNotDivided_d2 (by omega) ?_
  refine jj_istore_n (pc := 3) kS_lineNotDivided_d3 (Nat.le_of_ble_eq_true rfl) ?_
  show jj G kS_lineNotDivided (d + 4) Q rc rs 4 [some (.ref re), some (.int (nI (t))), some (.int (nI (t + 1))), none] [] M
  show jj G kS_lineNotDivided (d + 4) Q rc rs 4 [some (.ref re), some (.int (nI (t))), some (.int (nI (t + 1))), none] [] M
  have loop : ∀ mu i, ln = i + mu → t < i → ∀ (op : Option Value) (M9 : mheap) (V9 : Nat → Int), KS M9 wa la cap N eu dv hi lo dk V9 → EF M M9 wa la N eu dv hi lo → (∀ q, 10 ≤ q → V9 q = V q) → (∀ i' p, t < i' → i' < i → t < p → p < pl → V (rp s ls ps t t) ∣ V (rp s ls ps i' p)) → jj G kS_lineNotDivided (d + 4) Q rc rs 4 [some (.ref re), some (.int (nI (t))), some (.int (nI (i))), (op)] [] M9 := by
    intro mu
    induction mu with
    | zero =>
      intro i hk hti op M9 V9 hS9 f9 o9 e9
      have ei : ln = i := by omega
      subst ei
      have hR9 := hR.ef hJ f9
      have hre9 := hR9.1
      have hc0 := hS9.1
      have b1 := hsp.b hs (show t < 16 by omega) (show t < 16 by omega)
      have tt9 : V9 (rp s ls ps t t) = V (rp s ls ps t t) := o9 _ (by omega)
      refine jj_iload_n (pc := 4) kS_lineNotDivided_d4 rfl ?_
      refine jj_aload_n (pc := 5) kS_lineNotDivided_d5 rfl ?_
      refine jj_getf (pc := 6) kS_lineNotDivided_d6 (kfS_lines hG) hre9 rfl ?_
      refine jn_icmp_ge (pc := 9) (tgt := 88) kS_lineNotDivided_d9 (by decide) (by omega) (by omega) (fun _ => ?_) (fun c => by exfalso; omega)
      refine jj_iconst (pc := 88) (v := (-1)) kS_lineNotDivided_d88 (by decide) ?_
      exact jj_iret (pc := 89) kS_lineNotDivided_d89 rfl (by rfl) (k1 M9 V9 hS9 f9 o9 e9)
    | succ mu ih =>
      intro i hk hti op M9 V9 hS9 f9 o9 e9
      have hR9 := hR.ef hJ f9
      have hre9 := hR9.1
      have hc0 := hS9.1
      have b1 := hsp.b hs (show t < 16 by omega) (show t < 16 by omega)
      have tt9 : V9 (rp s ls ps t t) = V (rp s ls ps t t) := o9 _ (by omega)
      refine jj_iload_n (pc := 4) kS_lineNotDivided_d4 rfl ?_
      refine jj_aload_n (pc := 5) kS_lineNotDivided_d5 rfl ?_
      refine jj_getf (pc := 6) kS_lineNotDivided_d6 (kfS_lines hG) hre9 rfl ?_
      refine jn_icmp_ge (pc := 9) (tgt := 88) kS_lineNotDivided_d9 (by decide) (by omega) (by omega) (fun c => by exfalso; omega) (fun _ => ?_)
      refine jj_aload_n (pc := 12) kS_lineNotDivided_d12 rfl ?_
      refine jj_iload_n (pc := 13) kS_lineNotDivided_d13 rfl ?_
      refine jj_iload_n (pc := 14) kS_lineNotDivided_d14 rfl ?_
      refine jj_callV (pc := 15) (b := re) (As := [.int (nI (t)), .int (nI (t))]) kS_lineNotDivided_d15 (kvS_S_at hG) (kG_cl hG rfl) rfl hre9 rfl rfl rfl (Nat.le_of_ble_eq_true rfl) (Nat.le_of_ble_eq_true rfl) (jj_bare0 rfl) ?_
      refine r_at hG hR9 hs (by omega) (by omega) ?_
      show jj G kS_lineNotDivided (d + 4) Q rc rs 18 [some (.ref re), some (.int (nI (t))), some (.int (nI (i))), (op)] [.ref (wa (rp s ls ps t t))] M9
      obtain ⟨Trpslspstt_0, trpslspstt_0, hTrpslspstt_0, _, _⟩ := hc0 (rp s ls ps t t) (by omega)
      refine jj_callV (pc := 18) (b := (wa (rp s ls ps t t))) (As := []) kS_lineNotDivided_d18 (kvS_W_isOne hG) (kG_cl hG rfl) rfl hTrpslspstt_0 rfl rfl rfl (Nat.le_of_ble_eq_true rfl) (Nat.le_of_ble_eq_true rfl) (jj_bare0 rfl) ?_
      refine w_isOne hG hI hc0 (by omega) (fun c1 => ?_) (fun c1 => ?_)
      · skip
        show jj G kS_lineNotDivided (d + 4) Q rc rs 21 [some (.ref re), some (.int (nI (t))), some (.int (nI (i))), (op)] [.int (nI (1))] M9
        refine jn_if_ne (pc := 21) (tgt := 88) kS_lineNotDivided_d21 (by decide) (by omega) (fun _ => ?_) (fun c => by exfalso; omega)
        refine jj_iconst (pc := 88) (v := (-1)) kS_lineNotDivided_d88 (by decide) ?_
        exact jj_iret (pc := 89) kS_lineNotDivided_d89 rfl (by rfl) (k1 M9 V9 hS9 f9 o9 (fun i p _ _ _ _ => by rw [← tt9, c1]; exact Int.one_dvd _))
      · skip
        show jj G kS_lineNotDivided (d + 4) Q rc rs 21 [some (.ref re), some (.int (nI (t))), some (.int (nI (i))), (op)] [.int (nI (0))] M9
        refine jn_if_ne (pc := 21) (tgt := 88) kS_lineNotDivided_d21 (by decide) (by omega) (fun c => by exfalso; omega) (fun _ => ?_)
        refine jj_iload_n (pc := 24) kS_lineNotDivided_d24 rfl ?_
        refine jn_iconst (pc := 25) 1 kS_lineNotDivided_d25 (by decide) ?_
        refine jn_iadd (pc := 26) (t + 1) kS_lineNotDivided_d26 (by omega) ?_
        refine jj_istore_n (pc := 27) kS_lineNotDivided_d27 (Nat.le_of_ble_eq_true rfl) ?_
        show jj G kS_lineNotDivided (d + 4) Q rc rs 28 [some (.ref re), some (.int (nI (t))), some (.int (nI (i))), some (.int (nI (t + 1)))] [] M9
        show jj G kS_lineNotDivided (d + 4) Q rc rs 28 [some (.ref re), some (.int (nI (t))), some (.int (nI (i))), some (.int (nI (t + 1)))] [] M9
        have inner : ∀ mu2 x, pl = x + mu2 → t < x → ∀ (M9 : mheap) (V9 : Nat → Int), KS M9 wa la cap N eu dv hi lo dk V9 → EF M M9 wa la N eu dv hi lo → (∀ q, 10 ≤ q → V9 q = V q) → (∀ p, t < p → p < x → V (rp s ls ps t t) ∣ V (rp s ls ps i p)) → jj G kS_lineNotDivided (d + 4) Q rc rs 28 [some (.ref re), some (.int (nI (t))), some (.int (nI (i))), some (.int (nI (x)))] [] M9 := by
          intro mu2
          induction mu2 with
          | zero =>
            intro x hk2 htx M9 V9 hS9 f9 o9 g9
            have ex : pl = x := by omega
            subst ex
            have hR9 := hR.ef hJ f9
            have hre9 := hR9.1
            have hc0 := hS9.1
            have b1 := hsp.b hs (show t < 16 by omega) (show t < 16 by omega)
            have tt9 : V9 (rp s ls ps t t) = V (rp s ls ps t t) := o9 _ (by omega)
            refine jj_iload_n (pc := 28) kS_lineNotDivided_d28 rfl ?_
            refine jj_aload_n (pc := 29) kS_lineNotDivided_d29 rfl ?_
            refine jj_getf (pc := 30) kS_lineNotDivided_d30 (kfS_places hG) hre9 rfl ?_
            refine jn_icmp_ge (pc := 33) (tgt := 82) kS_lineNotDivided_d33 (by decide) (by omega) (by omega) (fun _ => ?_) (fun c => by exfalso; omega)
            refine jn_iinc (pc := 82) (i + 1) kS_lineNotDivided_d82 rfl (nI_1 _) ?_
            refine jj_goto (pc := 85) (tgt := 4) kS_lineNotDivided_d85 (by decide) ?_
            show jj G kS_lineNotDivided (d + 4) Q rc rs 4 [some (.ref re), some (.int (nI (t))), some (.int (nI (i + 1))), some (.int (nI (pl)))] [] M9
            refine ih (i + 1) (by omega) (by omega) _ M9 V9 hS9 f9 o9 (fun i' p h1 h2 h3 h4 => ?_)
            by_cases e : i' = i
            · rw [e]; exact g9 p h3 h4
            · exact e9 i' p h1 (by omega) h3 h4
          | succ mu2 ih2 =>
            intro x hk2 htx M9 V9 hS9 f9 o9 g9
            have hR9 := hR.ef hJ f9
            have hre9 := hR9.1
            have hc0 := hS9.1
            have b1 := hsp.b hs (show t < 16 by omega) (show t < 16 by omega)
            have tt9 : V9 (rp s ls ps t t) = V (rp s ls ps t t) := o9 _ (by omega)
            have b2 := hsp.b hs (show i < 16 by omega) (show x < 16 by omega)
            have ix9 : V9 (rp s ls ps i x) = V (rp s ls ps i x) := o9 _ (by omega)
            refine jj_iload_n (pc := 28) kS_lineNotDivided_d28 rfl ?_
            refine jj_aload_n (pc := 29) kS_lineNotDivided_d29 rfl ?_
            refine jj_getf (pc := 30) kS_lineNotDivided_d30 (kfS_places hG) hre9 rfl ?_
            refine jn_icmp_ge (pc := 33) (tgt := 82) kS_lineNotDivided_d33 (by decide) (by omega) (by omega) (fun c => by exfalso; omega) (fun _ => ?_)
            show jj G kS_lineNotDivided (d + 4) Q rc rs 36 [some (.ref re), some (.int (nI (t))), some (.int (nI (i))), some (.int (nI (x)))] [] M9
            refine r_lnd hG hK hS9 hJ hR9 hs (by omega) (by omega) (by omega) (fun M8 V8 hS8 f8 o8 nd => k0 M8 V8 i x hS8 (f9.trans f8) (fun q h => by rw [o8 q h]; exact o9 q h) hti (by omega) htx (by omega) (by rw [← tt9, ← ix9]; exact nd)) (fun M8 V8 hS8 f8 o8 yd => ?_) (by rw [tt9]; exact hT0)
            have hre8 := (hR9.ef hJ f8).1
            show jj G kS_lineNotDivided (d + 4) Q rc rs 76 [some (.ref re), some (.int (nI (t))), some (.int (nI (i))), some (.int (nI (x)))] [] M8
            refine jn_iinc (pc := 76) (x + 1) kS_lineNotDivided_d76 rfl (nI_1 _) ?_
            refine jj_goto (pc := 79) (tgt := 28) kS_lineNotDivided_d79 (by decide) ?_
            show jj G kS_lineNotDivided (d + 4) Q rc rs 28 [some (.ref re), some (.int (nI (t))), some (.int (nI (i))), some (.int (nI (x + 1)))] [] M8
            refine ih2 (x + 1) (by omega) (by omega) M8 V8 hS8 (f9.trans f8) (fun q h => by rw [o8 q h]; exact o9 q h) (fun p h1 h2 => ?_)
            by_cases e : p = x
            · rw [e, ← tt9, ← ix9]; exact yd
            · exact g9 p h1 (by omega)
        exact inner (pl - (t + 1)) (t + 1) (by omega) (by omega) M9 V9 hS9 f9 o9 (fun p h1 h2 => by omega)
  exact loop (ln - (t + 1)) (t + 1) (by omega) (by omega) _ M V hS (fun _ _ _ _ _ _ => rfl) (fun _ _ => rfl) (fun i' p h1 h2 => by omega)
theorem r_fetchPivot {t : Nat} {m : Int} (hG : kG G) (hK : KJI wa la cap N hi lo) (hS : KS M wa la cap N eu dv hi lo dk V) (hJ : QJ wa la cap N eu dv hi lo dk re rca) (hR : RST M wa re rca dk ln pl ls ps s) (hs : STP ls ps) (hln : ln ≤ 16) (hpl : pl ≤ 16) (htl : t < ln) (htp : t < pl) (k : ∀ (M' : mheap) (s' : Nat → Nat), KS M' wa la cap N eu dv hi lo dk V → RST M' wa re rca dk ln pl ls ps s' → EFX (fun x => x = re ∨ x = rca) M M' wa la N eu dv hi lo → (∃ s1, LQE (rz V s ls ps) (rz V s1 ls ps) t ln pl m ∧ LQE (rz V s1 ps ls) (rz V s' ps ls) t pl ln m) → (∀ i p, t ≤ i → i < ln → t ≤ p → p < pl → ∃ i' p', t ≤ i' ∧ i' < ln ∧ t ≤ p' ∧ p' < pl ∧ rp s' ls ps i p = rp s ls ps i' p') → ((∀ i p, t ≤ i → i < ln → t ≤ p → p < pl → rz V s' ls ps i p = 0) ∨ rz V s' ls ps t t ≠ 0) → Q (.returned none) M' rc rs) : jj G kS_fetchPivot (d + 2) Q rc rs 0 (jj_ent [.ref re, .int (nI t)] 4) [] M := by
  obtain ⟨h809, c547, c548, c553, f1, f2, n1, n2⟩ := id hJ
  have hre := hR.1
  have hsp := hR.2.2
  have hI := hK.1
  have hc0 := hS.1
  show jj G kS_fetchPivot (d + 2) Q rc rs 0 [some (.ref re), some (.int (nI (t))), none, none] [] M
  refine jj_iload_n (pc := 0) kS_fetchPivot_d0 rfl ?_
  refine jj_istore_n (pc := 1) kS_fetchPivot_d1 (Nat.le_of_ble_eq_true rfl) ?_
  show jj G kS_fetchPivot (d + 2) Q rc rs 2 [some (.ref re), some (.int (nI (t))), some (.int (nI (t))), none] [] M
  show jj G kS_fetchPivot (d + 2) Q rc rs 2 [some (.ref re), some (.int (nI (t))), some (.int (nI (t))), none] [] M
  have loop : ∀ mu i, ln = i + mu → t ≤ i → ∀ (op : Option Value), (∀ i' p, t ≤ i' → i' < i → t ≤ p → p < pl → rz V s ls ps i' p = 0) → jj G kS_fetchPivot (d + 2) Q rc rs 2 [some (.ref re), some (.int (nI (t))), some (.int (nI (i))), (op)] [] M := by
    intro mu
    induction mu with
    | zero =>
      intro i hk hti op e9
      have ei : ln = i := by omega
      subst ei
      refine jj_iload_n (pc := 2) kS_fetchPivot_d2 rfl ?_
      refine jj_aload_n (pc := 3) kS_fetchPivot_d3 rfl ?_
      refine jj_getf (pc := 4) kS_fetchPivot_d4 (kfS_lines hG) hre rfl ?_
      refine jn_icmp_ge (pc := 7) (tgt := 65) kS_fetchPivot_d7 (by decide) (by omega) (by omega) (fun _ => ?_) (fun c => by exfalso; omega)
      exact jj_vret (pc := 65) kS_fetchPivot_d65 rfl (k M s hS hR (fun _ _ _ => rfl) ⟨s, LQE.refl _, LQE.refl _⟩ (fun i p h1 h2 h3 h4 => ⟨i, p, h1, h2, h3, h4, rfl⟩) (Or.inl e9))
    | succ mu ih =>
      intro i hk hti op e9
      refine jj_iload_n (pc := 2) kS_fetchPivot_d2 rfl ?_
      refine jj_aload_n (pc := 3) kS_fetchPivot_d3 rfl ?_
      refine jj_getf (pc := 4) kS_fetchPivot_d4 (kfS_lines hG) hre rfl ?_
      refine jn_icmp_ge (pc := 7) (tgt := 65) kS_fetchPivot_d7 (by decide) (by omega) (by omega) (fun c => by exfalso; omega) (fun _ => ?_)
      refine jj_iload_n (pc := 10) kS_fetchPivot_d10 rfl ?_
      refine jj_istore_n (pc := 11) kS_fetchPivot_d11 (Nat.le_of_ble_eq_true rfl) ?_
      show jj G kS_fetchPivot (d + 2) Q rc rs 12 [some (.ref re), some (.int (nI (t))), some (.int (nI (i))), some (.int (nI (t)))] [] M
      show jj G kS_fetchPivot (d + 2) Q rc rs 12 [some (.ref re), some (.int (nI (t))), some (.int (nI (i))), some (.int (nI (t)))] [] M
      have inner : ∀ mu2 x, pl = x + mu2 → t ≤ x → (∀ p, t ≤ p → p < x → rz V s ls ps i p = 0) → jj G kS_fetchPivot (d + 2) Q rc rs 12 [some (.ref re), some (.int (nI (t))), some (.int (nI (i))), some (.int (nI (x)))] [] M := by
        intro mu2
        induction mu2 with
        | zero =>
            intro x hk2 htx g9
            have ex : pl = x := by omega
            subst ex
            refine jj_iload_n (pc := 12) kS_fetchPivot_d12 rfl ?_
            refine jj_aload_n (pc := 13) kS_fetchPivot_d13 rfl ?_
            refine jj_getf (pc := 14) kS_fetchPivot_d14 (kfS_places hG) hre rfl ?_
            refine jn_icmp_ge (pc := 17) (tgt := 59) kS_fetchPivot_d17 (by decide) (by omega) (by omega) (fun _ => ?_) (fun c => by exfalso; omega)
            refine jn_iinc (pc := 59) (i + 1) kS_fetchPivot_d59 rfl (nI_1 _) ?_
            refine jj_goto (pc := 62) (tgt := 2) kS_fetchPivot_d62 (by decide) ?_
            show jj G kS_fetchPivot (d + 2) Q rc rs 2 [some (.ref re), some (.int (nI (t))), some (.int (nI (i + 1))), some (.int (nI (pl)))] [] M
            refine ih (i + 1) (by omega) (by omega) _ (fun i' p h1 h2 h3 h4 => ?_)
            by_cases e : i' = i
            · rw [e]; exact g9 p h3 h4
            · exact e9 i' p h1 (by omega) h3 h4
        | succ mu2 ih2 =>
            intro x hk2 htx g9
            have bI := hsp.b hs (show i < 16 by omega) (show x < 16 by omega)
            refine jj_iload_n (pc := 12) kS_fetchPivot_d12 rfl ?_
            refine jj_aload_n (pc := 13) kS_fetchPivot_d13 rfl ?_
            refine jj_getf (pc := 14) kS_fetchPivot_d14 (kfS_places hG) hre rfl ?_
            refine jn_icmp_ge (pc := 17) (tgt := 59) kS_fetchPivot_d17 (by decide) (by omega) (by omega) (fun c => by exfalso; omega) (fun _ => ?_)
            refine jj_aload_n (pc := 20) kS_fetchPivot_d20 rfl ?_
            refine jj_iload_n (pc := 21) kS_fetchPivot_d21 rfl ?_
            refine jj_iload_n (pc := 22) kS_fetchPivot_d22 rfl ?_
            refine jj_callV (pc := 23) (b := re) (As := [.int (nI (i)), .int (nI (x))]) kS_fetchPivot_d23 (kvS_S_at hG) (kG_cl hG rfl) rfl hre rfl rfl rfl (Nat.le_of_ble_eq_true rfl) (Nat.le_of_ble_eq_true rfl) (jj_bare0 rfl) ?_
            refine r_at hG hR hs (by omega) (by omega) ?_
            show jj G kS_fetchPivot (d + 2) Q rc rs 26 [some (.ref re), some (.int (nI (t))), some (.int (nI (i))), some (.int (nI (x)))] [.ref (wa (rp s ls ps i x))] M
            obtain ⟨Tn103, tn103, hTn103, _, _, hZn103⟩ := hc0 (rp s ls ps i x) (by omega)
            have eZn103 := hZn103.cnt
            subst eZn103
            have bZn103 := hc0.lc (p := (rp s ls ps i x)) (by omega)
            have bYn103 := hI.2.2 (rp s ls ps i x) (by omega)
            refine jj_getf (pc := 26) kS_fetchPivot_d26 (kfS_W_count hG) hTn103 rfl ?_
            refine jn_if_le (pc := 29) (tgt := 53) kS_fetchPivot_d29 (by decide) (by omega) (fun c0 => ?_) (fun c0 => ?_)
            · skip
              refine jn_iinc (pc := 53) (x + 1) kS_fetchPivot_d53 rfl (nI_1 _) ?_
              refine jj_goto (pc := 56) (tgt := 12) kS_fetchPivot_d56 (by decide) ?_
              show jj G kS_fetchPivot (d + 2) Q rc rs 12 [some (.ref re), some (.int (nI (t))), some (.int (nI (i))), some (.int (nI (x + 1)))] [] M
              refine ih2 (x + 1) (by omega) (by omega) (fun p h1 h2 => ?_)
              by_cases e : p = x
              · rw [e]; exact lc_nil (show lc (V (rp s ls ps i x)) ≤ 0 by omega)
              · exact g9 p h1 (by omega)
            · skip
              refine jj_aload_n (pc := 32) kS_fetchPivot_d32 rfl ?_
              refine jj_iload_n (pc := 33) kS_fetchPivot_d33 rfl ?_
              refine jj_iload_n (pc := 34) kS_fetchPivot_d34 rfl ?_
              refine jj_callV (pc := 35) (b := re) (As := [.int (nI (i)), .int (nI (t))]) kS_fetchPivot_d35 (kvS_S_swapLines hG) (kG_cl hG rfl) rfl hre rfl rfl rfl (Nat.le_of_ble_eq_true rfl) (Nat.le_of_ble_eq_true rfl) (jj_bare0 rfl) ?_
              refine r_swapLines hG hK hS hJ hR hs hpl (by omega) (by omega) (fun M1 s1 hS1 hR1 e1 hx1 => ?_)
              have hre1 := hR1.1
              show jj G kS_fetchPivot (d + 2) Q rc rs 38 [some (.ref re), some (.int (nI (t))), some (.int (nI (i))), some (.int (nI (x)))] [] M1
              refine jj_aload_n (pc := 38) kS_fetchPivot_d38 rfl ?_
              refine jj_callV (pc := 39) (b := re) (As := []) kS_fetchPivot_d39 (kvS_S_turnOver hG) (kG_cl hG rfl) rfl hre1 rfl rfl rfl (Nat.le_of_ble_eq_true rfl) (Nat.le_of_ble_eq_true rfl) (jj_bare0 rfl) ?_
              refine r_turnOver hG hK hS1 hJ hR1 (fun M2 hS2 hR2 hx2 => ?_)
              have hre2 := hR2.1
              show jj G kS_fetchPivot (d + 2) Q rc rs 42 [some (.ref re), some (.int (nI (t))), some (.int (nI (i))), some (.int (nI (x)))] [] M2
              refine jj_aload_n (pc := 42) kS_fetchPivot_d42 rfl ?_
              refine jj_iload_n (pc := 43) kS_fetchPivot_d43 rfl ?_
              refine jj_iload_n (pc := 44) kS_fetchPivot_d44 rfl ?_
              refine jj_callV (pc := 45) (b := re) (As := [.int (nI (x)), .int (nI (t))]) kS_fetchPivot_d45 (kvS_S_swapLines hG) (kG_cl hG rfl) rfl hre2 rfl rfl rfl (Nat.le_of_ble_eq_true rfl) (Nat.le_of_ble_eq_true rfl) (jj_bare0 rfl) ?_
              refine r_swapLines hG hK hS2 hJ hR2 hs.turn hln (by omega) (by omega) (fun M3 s3 hS3 hR3 e3 hx3 => ?_)
              have hre3 := hR3.1
              show jj G kS_fetchPivot (d + 2) Q rc rs 48 [some (.ref re), some (.int (nI (t))), some (.int (nI (i))), some (.int (nI (x)))] [] M3
              refine jj_aload_n (pc := 48) kS_fetchPivot_d48 rfl ?_
              refine jj_callV (pc := 49) (b := re) (As := []) kS_fetchPivot_d49 (kvS_S_turnOver hG) (kG_cl hG rfl) rfl hre3 rfl rfl rfl (Nat.le_of_ble_eq_true rfl) (Nat.le_of_ble_eq_true rfl) (jj_bare0 rfl) ?_
              refine r_turnOver hG hK hS3 hJ hR3 (fun M4 hS4 hR4 hx4 => ?_)
              have hre4 := hR4.1
              have m1 : ∀ i' p, i' < 16 → p < pl → rp s1 ls ps i' p = rp s ls ps (swp i t i') p := fun i' p h1 h2 => by rw [e1 i' p h1 (by omega), if_pos h2]
              have m3 : ∀ i' p, i' < 16 → p < ln → rp s3 ps ls i' p = rp s1 ps ls (swp x t i') p := fun i' p h1 h2 => by rw [e3 i' p h1 (by omega), if_pos h2]
              have mm : ∀ i' p, i' < ln → p < pl → rp s3 ls ps i' p = rp s ls ps (swp i t i') (swp x t p) := fun i' p h1 h2 => by
                rw [← rpl_turn, m3 p i' (by omega) h1, rpl_turn, m1 i' _ (by omega) (swp_lt (by omega) htp h2)]
              show jj G kS_fetchPivot (d + 2) Q rc rs 52 [some (.ref re), some (.int (nI (t))), some (.int (nI (i))), some (.int (nI (x)))] [] M4
              exact jj_vret (pc := 52) kS_fetchPivot_d52 rfl (k M4 s3 hS4 hR4 (((hx1.trans hx2).trans hx3).trans hx4) ⟨s1, LQE.swap hti (by omega) (fun i' p h1 h2 h3 h4 => congrArg V (m1 i' p (by omega) h4)), LQE.swap htx (by omega) (fun i' p h1 h2 h3 h4 => congrArg V (m3 i' p (by omega) h4))⟩ (fun i' p h1 h2 h3 h4 => ⟨swp i t i', swp x t p, swp_le hti h1, swp_lt (by omega) htl h2, swp_le htx h3, swp_lt (by omega) htp h4, mm i' p h2 h4⟩) (Or.inr (by
                          have st : ∀ y, swp y t t = y := fun y => by
                            unfold swp
                            split
                            · omega
                            · rw [if_pos rfl]
                          show V (rp s3 ls ps t t) ≠ 0
                          rw [mm t t htl htp, st, st]
                          exact lc_pos (show 0 < lc (V (rp s ls ps i x)) by omega))))
      exact inner (pl - t) t (by omega) (Nat.le_refl _) (fun p h1 h2 => by omega)
  exact loop (ln - t) t (by omega) (Nat.le_refl _) _ (fun i' p h1 h2 => by omega)
end S9
