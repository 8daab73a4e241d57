/-! ===== Residues: findFactors, findMultiple (printed by wip/gen/rS3.py) ===== -/
section S3
variable {G : jg} {d : Nat} {Q : jq} {rc rs : Nat} {M : mheap} {wa la cap : Nat → Nat} {N eu dv hi lo dk re rca ln pl ls ps : Nat} {s : Nat → Nat} {V : Nat → Int}
theorem r_findFactors {i t r_a px_a pf_a py_a po_a ps_a od_a : Nat} {g m1 : Int} (hG : kG G) (hK : KJI wa la cap N hi lo) (hc : CW M wa la cap N V) (hU : US M wa eu dv hi lo 0 r_a px_a pf_a py_a po_a ps_a od_a) (hdk : M dk = some (.inl nK, [.ref dv, .ref eu, .ref (wa 7), .ref (wa 8), .ref (wa 9), .ref (wa 10), .ref (wa 11), .ref (wa 12)])) (hJ : QJ wa la cap N eu dv hi lo dk re rca) (hR : RST M wa re rca dk ln pl ls ps s) (hs : STP ls ps) (hi16 : i < 16) (ht16 : t < 16) (hit : i ≠ t) (ha : 0 < V (rp s ls ps t t)) (hb : 0 < V (rp s ls ps i t)) (hg : V px_a = g) (hg1 : g ∣ V (rp s ls ps t t)) (hg2 : g ∣ V (rp s ls ps i t)) (hg0 : 0 < g) (hbz : g = V pf_a * V (rp s ls ps t t) + m1 * V (rp s ls ps i t)) (hlf : lc (V pf_a) ≤ 64) (k : ∀ (M' : mheap) (V' : Nat → Int), KS M' wa la cap N eu dv hi lo dk V' → V' 548 * V (rp s ls ps t t) + V' 549 * V (rp s ls ps i t) = g → V' 550 * g = V (rp s ls ps t t) → V' 551 * g = V (rp s ls ps i t) → (∀ q, 548 ≤ q → q < 552 → lc (V' q) ≤ 130) → (∀ q, 10 ≤ q → q < 548 ∨ 552 ≤ q → V' q = V q) → EF M M' wa la N eu dv hi lo → Q (.returned none) M' rc rs) : jj G kS_findFactors (d + 5) Q rc rs 0 (jj_ent [.ref re, .int (nI i), .int (nI t)] 4) [] M := by
  obtain ⟨h809, c547, c548, c553, f1, f2, n1, n2⟩ := id hJ
  have hsp := hR.2.2
  have hre := hR.1
  have b1 := hsp.b hs ht16 ht16
  have b2 := hsp.b hs hi16 ht16
  obtain ⟨hI, hN, hcap, hdi⟩ := id hK
  have hU0 := hU
  have hdk0 := hdk
  have hc0 := hc
  have hf0 : EF M M wa la N eu dv hi lo := fun _ _ _ _ _ _ => rfl
  obtain ⟨V0, hV0⟩ : ∃ V0, V = V0 := ⟨_, rfl⟩
  rw [hV0] at hc0
  have hn0 := hU0.1
  have b_r0 := hn0.2.1
  have b_x0 := hn0.2.2.1
  have b_f0 := hn0.2.2.2.1
  have hdv0 := hU0.2.1
  obtain ⟨ea0, eb0, ec0, ed0, hE0⟩ := hU0.2.2.2
  have hD0 := hdv0.1
  rw [hV0] at ha hb hg hg1 hg2 hbz hlf k
  have hE7 := hU.1
  have bpx : px_a < 7 := hE7.2.2.1
  have bpf : pf_a < 7 := hE7.2.2.2.1
  have la1 : lc (V0 (rp s ls ps t t)) ≤ 64 := by have := hc0.lc (p := (rp s ls ps t t)) (by omega); rw [c553 _ b1.1 b1.2] at this; exact this
  have lb1 : lc (V0 (rp s ls ps i t)) ≤ 64 := by have := hc0.lc (p := (rp s ls ps i t)) (by omega); rw [c553 _ b2.1 b2.2] at this; exact this
  have lg : lc g ≤ 64 := by
    refine Nat.le_trans (lc_mono ?_) la1
    exact Nat.le_of_dvd (by omega) (Int.natAbs_dvd_natAbs.mpr hg1)
  have m9 := lc_mul (V0 pf_a) (V0 (rp s ls ps t t))
  show jj G kS_findFactors (d + 5) Q rc rs 0 [some (.ref re), some (.int (nI (i))), some (.int (nI (t))), none] [] M
  obtain ⟨T548_0, t548_0, hT548_0, _, _⟩ := hc0 548 (by omega)
  refine jj_aload_n (pc := 0) kS_findFactors_d0 rfl ?_
  refine jj_getf (pc := 1) kS_findFactors_d1 (kfS_desk hG) hre rfl ?_
  refine jj_getf (pc := 4) kS_findFactors_d4 (kfS_K_euclid hG) hdk0 rfl ?_
  refine jj_getf (pc := 7) kS_findFactors_d7 (kfS_U_x hG) hE0 rfl ?_
  refine jj_astore_n (pc := 10) kS_findFactors_d10 (Nat.le_of_ble_eq_true rfl) ?_
  show jj G kS_findFactors (d + 5) Q rc rs 11 [some (.ref re), some (.int (nI (i))), some (.int (nI (t))), some (.ref (wa px_a))] [] M
  refine jj_aload_n (pc := 11) kS_findFactors_d11 rfl ?_
  refine jj_getf (pc := 12) kS_findFactors_d12 (kfS_firstFactor hG) hre rfl ?_
  refine jj_aload_n (pc := 15) kS_findFactors_d15 rfl ?_
  refine jj_getf (pc := 16) kS_findFactors_d16 (kfS_desk hG) hre rfl ?_
  refine jj_getf (pc := 19) kS_findFactors_d19 (kfS_K_euclid hG) hdk0 rfl ?_
  refine jj_getf (pc := 22) kS_findFactors_d22 (kfS_U_factor hG) hE0 rfl ?_
  refine jj_callV (pc := 25) (b := (wa 548)) (As := [.ref (wa pf_a)]) kS_findFactors_d25 (kvS_W_copy hG) (kG_cl hG rfl) rfl hT548_0 rfl rfl rfl (Nat.le_of_ble_eq_true rfl) (Nat.le_of_ble_eq_true rfl) (jj_bare0 rfl) ?_
  refine w_copy hG hI hc0 (by omega : 548 < N) (by omega) (by rw [c548 548 (by omega) (by omega)]; exact lc_room (by omega)) (fun M1 hcx1 hw1  => ?_) 
  obtain ⟨V1, hV1⟩ : ∃ W, vup V0 548 (V0 pf_a) = W := ⟨_, rfl⟩
  have hc1 : CW M1 wa la cap N V1 := by rw [← hV1]; exact hcx1
  have at1 : V1 548 = V0 pf_a := by rw [← hV1, vup_at]
  have ot1 : ∀ p, p ≠ 548 → V1 p = V0 p := fun p hp => by rw [← hV1, vup_ne _ _ hp]
  have hU1 := hU0.wt hc0 hdi (by omega) hw1
  have hf1 := hf0.trans (hw1.ef (by omega))
  have q1_re := (hw1.ef (eu := eu) (dv := dv) (hi := hi) (lo := lo) (by omega)).obj hc0 hU0 hre (by decide) (by decide) (by decide)
  have q1_dk := (hw1.ef (eu := eu) (dv := dv) (hi := hi) (lo := lo) (by omega)).obj hc0 hU0 hdk0 (by decide) (by decide) (by decide)
  have hn1 := hU1.1
  have b_r1 := hn1.2.1
  have b_x1 := hn1.2.2.1
  have b_f1 := hn1.2.2.2.1
  have hdv1 := hU1.2.1
  obtain ⟨ea1, eb1, ec1, ed1, hE1⟩ := hU1.2.2.2
  have hD1 := hdv1.1
  show jj G kS_findFactors (d + 5) Q rc rs 28 [some (.ref re), some (.int (nI (i))), some (.int (nI (t))), some (.ref (wa px_a))] [] M1
  have t1 : V1 (rp s ls ps t t) = V0 (rp s ls ps t t) := ot1 _ (by omega)
  have hR1 := hR.ef hJ hf1
  refine jj_aload_n (pc := 28) kS_findFactors_d28 rfl ?_
  refine jj_getf (pc := 29) kS_findFactors_d29 (kfS_desk hG) q1_re rfl ?_
  refine jj_getf (pc := 32) kS_findFactors_d32 (kfS_K_left hG) q1_dk rfl ?_
  refine jj_aload_n (pc := 35) kS_findFactors_d35 rfl ?_
  refine jj_getf (pc := 36) kS_findFactors_d36 (kfS_firstFactor hG) q1_re rfl ?_
  refine jj_aload_n (pc := 39) kS_findFactors_d39 rfl ?_
  refine jj_iload_n (pc := 40) kS_findFactors_d40 rfl ?_
  refine jj_iload_n (pc := 41) kS_findFactors_d41 rfl ?_
  refine jj_callV (pc := 42) (b := re) (As := [.int (nI (t)), .int (nI (t))]) kS_findFactors_d42 (kvS_S_at hG) (kG_cl hG rfl) rfl q1_re rfl rfl rfl (Nat.le_of_ble_eq_true rfl) (Nat.le_of_ble_eq_true rfl) (jj_bare0 rfl) ?_
  refine r_at hG hR1 hs ht16 ht16 ?_
  show jj G kS_findFactors (d + 5) Q rc rs 45 [some (.ref re), some (.int (nI (i))), some (.int (nI (t))), some (.ref (wa px_a))] [.ref (wa (rp s ls ps t t)), .ref (wa 548), .ref (wa 7)] M1
  obtain ⟨T7_1, t7_1, hT7_1, _, _⟩ := hc1 7 (by omega)
  refine jj_callV (pc := 45) (b := (wa 7)) (As := [.ref (wa 548), .ref (wa (rp s ls ps t t))]) kS_findFactors_d45 (kvS_W_product hG) (kG_cl hG rfl) rfl hT7_1 rfl rfl rfl (Nat.le_of_ble_eq_true rfl) (Nat.le_of_ble_eq_true rfl) (jj_bare0 rfl) ?_
  refine w_product hG hI hc1 (by omega : 7 < N) (by omega) (by omega) (by omega) (by omega) (by rw [hcap 7 (by omega), at1, t1]; omega) (fun M2 hcx2 hw2  => ?_) 
  obtain ⟨V2, hV2⟩ : ∃ W, vup V1 7 (V1 548 * V1 (rp s ls ps t t)) = W := ⟨_, rfl⟩
  have hc2 : CW M2 wa la cap N V2 := by rw [← hV2]; exact hcx2
  have at2 : V2 7 = V1 548 * V1 (rp s ls ps t t) := by rw [← hV2, vup_at]
  have ot2 : ∀ p, p ≠ 7 → V2 p = V1 p := fun p hp => by rw [← hV2, vup_ne _ _ hp]
  have hU2 := hU1.wt hc1 hdi (by omega) hw2
  have hf2 := hf1.trans (hw2.ef (by omega))
  have q2_re := (hw2.ef (eu := eu) (dv := dv) (hi := hi) (lo := lo) (by omega)).obj hc1 hU1 q1_re (by decide) (by decide) (by decide)
  have q2_dk := (hw2.ef (eu := eu) (dv := dv) (hi := hi) (lo := lo) (by omega)).obj hc1 hU1 q1_dk (by decide) (by decide) (by decide)
  have hn2 := hU2.1
  have b_r2 := hn2.2.1
  have b_x2 := hn2.2.2.1
  have b_f2 := hn2.2.2.2.1
  have hdv2 := hU2.2.1
  obtain ⟨ea2, eb2, ec2, ed2, hE2⟩ := hU2.2.2.2
  have hD2 := hdv2.1
  show jj G kS_findFactors (d + 5) Q rc rs 48 [some (.ref re), some (.int (nI (i))), some (.int (nI (t))), some (.ref (wa px_a))] [] M2
  rw [at1, t1] at at2
  have x2 : V2 px_a = g := by rw [ot2 _ (by omega), ot1 _ (by omega)]; exact hg
  have l7 : lc (V2 7) ≤ 128 := by rw [at2]; omega
  obtain ⟨T9_2, t9_2, hT9_2, _, _⟩ := hc2 9 (by omega)
  refine jj_aload_n (pc := 48) kS_findFactors_d48 rfl ?_
  refine jj_getf (pc := 49) kS_findFactors_d49 (kfS_desk hG) q2_re rfl ?_
  refine jj_getf (pc := 52) kS_findFactors_d52 (kfS_K_sum hG) q2_dk rfl ?_
  refine jj_aload_n (pc := 55) kS_findFactors_d55 rfl ?_
  refine jj_aload_n (pc := 56) kS_findFactors_d56 rfl ?_
  refine jj_getf (pc := 57) kS_findFactors_d57 (kfS_desk hG) q2_re rfl ?_
  refine jj_getf (pc := 60) kS_findFactors_d60 (kfS_K_left hG) q2_dk rfl ?_
  refine jn_iconst (pc := 63) 1 kS_findFactors_d63 (by decide) ?_
  refine jn_top (.int (sg (-1))) (congrArg Value.int (by decide)) ?_
  refine jj_callV (pc := 64) (b := (wa 9)) (As := [.ref (wa px_a), .ref (wa 7), .int (sg (-1))]) kS_findFactors_d64 (kvS_W_sum hG) (kG_cl hG rfl) rfl hT9_2 rfl rfl rfl (Nat.le_of_ble_eq_true rfl) (Nat.le_of_ble_eq_true rfl) (jj_bare0 rfl) ?_
  refine w_sum hG hI hc2 (u := px_a) (v := 7) (ls := -1) (by omega : 9 < N) (by omega) (by omega) (by rw [hcap 9 (by omega), x2]; omega) (by rw [hcap 9 (by omega)]; omega) (by rw [if_pos (by decide)]) (fun M3 hcx3 hw3  => ?_) 
  obtain ⟨V3, hV3⟩ : ∃ W, vup V2 9 (V2 px_a - V2 7) = W := ⟨_, rfl⟩
  have hc3 : CW M3 wa la cap N V3 := by rw [← hV3]; exact hcx3
  have at3 : V3 9 = V2 px_a - V2 7 := by rw [← hV3, vup_at]
  have ot3 : ∀ p, p ≠ 9 → V3 p = V2 p := fun p hp => by rw [← hV3, vup_ne _ _ hp]
  have hU3 := hU2.wt hc2 hdi (by omega) hw3
  have hf3 := hf2.trans (hw3.ef (by omega))
  have q3_re := (hw3.ef (eu := eu) (dv := dv) (hi := hi) (lo := lo) (by omega)).obj hc2 hU2 q2_re (by decide) (by decide) (by decide)
  have q3_dk := (hw3.ef (eu := eu) (dv := dv) (hi := hi) (lo := lo) (by omega)).obj hc2 hU2 q2_dk (by decide) (by decide) (by decide)
  have hn3 := hU3.1
  have b_r3 := hn3.2.1
  have b_x3 := hn3.2.2.1
  have b_f3 := hn3.2.2.2.1
  have hdv3 := hU3.2.1
  obtain ⟨ea3, eb3, ec3, ed3, hE3⟩ := hU3.2.2.2
  have hD3 := hdv3.1
  show jj G kS_findFactors (d + 5) Q rc rs 67 [some (.ref re), some (.int (nI (i))), some (.int (nI (t))), some (.ref (wa px_a))] [] M3
  rw [x2, at2] at at3
  have l9 : lc (V3 9) ≤ 129 := by rw [at3, ← at2]; exact lc_sub (n := 128) (by omega) l7
  have i3 : V3 (rp s ls ps i t) = V0 (rp s ls ps i t) := by rw [ot3 _ (by omega), ot2 _ (by omega), ot1 _ (by omega)]
  have hR3 := hR.ef hJ hf3
  refine jj_aload_n (pc := 67) kS_findFactors_d67 rfl ?_
  refine jj_getf (pc := 68) kS_findFactors_d68 (kfS_desk hG) q3_re rfl ?_
  refine jj_getf (pc := 71) kS_findFactors_d71 (kfS_K_divider hG) q3_dk rfl ?_
  refine jj_aload_n (pc := 74) kS_findFactors_d74 rfl ?_
  refine jj_getf (pc := 75) kS_findFactors_d75 (kfS_desk hG) q3_re rfl ?_
  refine jj_getf (pc := 78) kS_findFactors_d78 (kfS_K_sum hG) q3_dk rfl ?_
  refine jj_aload_n (pc := 81) kS_findFactors_d81 rfl ?_
  refine jj_iload_n (pc := 82) kS_findFactors_d82 rfl ?_
  refine jj_iload_n (pc := 83) kS_findFactors_d83 rfl ?_
  refine jj_callV (pc := 84) (b := re) (As := [.int (nI (i)), .int (nI (t))]) kS_findFactors_d84 (kvS_S_at hG) (kG_cl hG rfl) rfl q3_re rfl rfl rfl (Nat.le_of_ble_eq_true rfl) (Nat.le_of_ble_eq_true rfl) (jj_bare0 rfl) ?_
  refine r_at hG hR3 hs hi16 ht16 ?_
  show jj G kS_findFactors (d + 5) Q rc rs 87 [some (.ref re), some (.int (nI (i))), some (.int (nI (t))), some (.ref (wa px_a))] [.ref (wa (rp s ls ps i t)), .ref (wa 9), .ref dv] M3
  refine jj_callV (pc := 87) (b := dv) (As := [.ref (wa 9), .ref (wa (rp s ls ps i t))]) kS_findFactors_d87 (kvS_D_divide hG) (kG_cl hG rfl) rfl hD3 rfl rfl rfl (Nat.le_of_ble_eq_true rfl) (Nat.le_of_ble_eq_true rfl) (jj_bare0 rfl) ?_
  refine d_divide hG hI hc3 hdv3 hdi (by omega) (by omega) (by omega) (by omega) hn3.nqr (by omega) (by omega) (by omega) (by omega) (by omega) (by rw [hcap 0 (by omega)]; exact (by omega)) (by rw [hcap r_a (by omega)]; exact (by omega)) (fun M4 hcx4 hdx4 hw4 => ?_)
  obtain ⟨V4, hV4⟩ : ∃ W, vup (vup V3 0 ((V3 9).tdiv (V3 (rp s ls ps i t)))) r_a ((V3 9).tmod (V3 (rp s ls ps i t))) = W := ⟨_, rfl⟩
  have hc4 : CW M4 wa la cap N V4 := by rw [← hV4]; exact hcx4
  have at4 : V4 0 = (V3 9).tdiv (V3 (rp s ls ps i t)) := by rw [← hV4, vup_ne _ _ hn3.nqr, vup_at]
  have rt4 : V4 r_a = (V3 9).tmod (V3 (rp s ls ps i t)) := by rw [← hV4, vup_at]
  have ot4 : ∀ p, p ≠ 0 → p ≠ r_a → V4 p = V3 p := fun p h1 h2 => by rw [← hV4, vup_ne _ _ h2, vup_ne _ _ h1]
  have hU4 := hU3.div hc3 hdx4 hw4
  have hf4 := hf3.trans (hw4.ef (eu := eu) (dv := dv))
  have q4_re := (hw4.ef (eu := eu) (dv := dv)).obj hc3 hU3 q3_re (by decide) (by decide) (by decide)
  have q4_dk := (hw4.ef (eu := eu) (dv := dv)).obj hc3 hU3 q3_dk (by decide) (by decide) (by decide)
  have hn4 := hU4.1
  have b_r4 := hn4.2.1
  have b_x4 := hn4.2.2.1
  have b_f4 := hn4.2.2.2.1
  have hdv4 := hU4.2.1
  obtain ⟨ea4, eb4, ec4, ed4, hE4⟩ := hU4.2.2.2
  have hD4 := hdv4.1
  show jj G kS_findFactors (d + 5) Q rc rs 90 [some (.ref re), some (.int (nI (i))), some (.int (nI (t))), some (.ref (wa px_a))] [] M4
  have q4 : V4 0 = m1 := by rw [at4, i3]; exact tdiv_is (by rw [at3]; omega) (by omega)
  have lq4 : lc (V4 0) ≤ 129 := by rw [at4]; exact Nat.le_trans (lc_tdiv _ _) l9
  obtain ⟨T549_4, t549_4, hT549_4, _, _⟩ := hc4 549 (by omega)
  refine jj_aload_n (pc := 90) kS_findFactors_d90 rfl ?_
  refine jj_getf (pc := 91) kS_findFactors_d91 (kfS_secondFactor hG) q4_re rfl ?_
  refine jj_aload_n (pc := 94) kS_findFactors_d94 rfl ?_
  refine jj_getf (pc := 95) kS_findFactors_d95 (kfS_desk hG) q4_re rfl ?_
  refine jj_getf (pc := 98) kS_findFactors_d98 (kfS_K_divider hG) q4_dk rfl ?_
  refine jj_getf (pc := 101) kS_findFactors_d101 (kfS_D_quotient hG) hD4 rfl ?_
  refine jj_callV (pc := 104) (b := (wa 549)) (As := [.ref (wa 0)]) kS_findFactors_d104 (kvS_W_copy hG) (kG_cl hG rfl) rfl hT549_4 rfl rfl rfl (Nat.le_of_ble_eq_true rfl) (Nat.le_of_ble_eq_true rfl) (jj_bare0 rfl) ?_
  refine w_copy hG hI hc4 (by omega : 549 < N) (by omega : 0 < N) (by rw [c548 549 (by omega) (by omega)]; exact lc_room (by omega)) (fun M5 hcx5 hw5  => ?_) 
  obtain ⟨V5, hV5⟩ : ∃ W, vup V4 549 (V4 0) = W := ⟨_, rfl⟩
  have hc5 : CW M5 wa la cap N V5 := by rw [← hV5]; exact hcx5
  have at5 : V5 549 = V4 0 := by rw [← hV5, vup_at]
  have ot5 : ∀ p, p ≠ 549 → V5 p = V4 p := fun p hp => by rw [← hV5, vup_ne _ _ hp]
  have hU5 := hU4.wt hc4 hdi (by omega) hw5
  have hf5 := hf4.trans (hw5.ef (by omega))
  have q5_re := (hw5.ef (eu := eu) (dv := dv) (hi := hi) (lo := lo) (by omega)).obj hc4 hU4 q4_re (by decide) (by decide) (by decide)
  have q5_dk := (hw5.ef (eu := eu) (dv := dv) (hi := hi) (lo := lo) (by omega)).obj hc4 hU4 q4_dk (by decide) (by decide) (by decide)
  have hn5 := hU5.1
  have b_r5 := hn5.2.1
  have b_x5 := hn5.2.2.1
  have b_f5 := hn5.2.2.2.1
  have hdv5 := hU5.2.1
  obtain ⟨ea5, eb5, ec5, ed5, hE5⟩ := hU5.2.2.2
  have hD5 := hdv5.1
  show jj G kS_findFactors (d + 5) Q rc rs 107 [some (.ref re), some (.int (nI (i))), some (.int (nI (t))), some (.ref (wa px_a))] [] M5
  have t5 : V5 (rp s ls ps t t) = V0 (rp s ls ps t t) := by rw [ot5 _ (by omega), ot4 _ (by omega) (by omega), ot3 _ (by omega), ot2 _ (by omega)]; exact t1
  have x5 : V5 px_a = g := by rw [ot5 _ (by omega), ot4 _ (Ne.symm hn3.nqx) (Ne.symm hn3.nrx), ot3 _ (by omega)]; exact x2
  have hR5 := hR.ef hJ hf5
  refine jj_aload_n (pc := 107) kS_findFactors_d107 rfl ?_
  refine jj_getf (pc := 108) kS_findFactors_d108 (kfS_desk hG) q5_re rfl ?_
  refine jj_getf (pc := 111) kS_findFactors_d111 (kfS_K_divider hG) q5_dk rfl ?_
  refine jj_aload_n (pc := 114) kS_findFactors_d114 rfl ?_
  refine jj_iload_n (pc := 115) kS_findFactors_d115 rfl ?_
  refine jj_iload_n (pc := 116) kS_findFactors_d116 rfl ?_
  refine jj_callV (pc := 117) (b := re) (As := [.int (nI (t)), .int (nI (t))]) kS_findFactors_d117 (kvS_S_at hG) (kG_cl hG rfl) rfl q5_re rfl rfl rfl (Nat.le_of_ble_eq_true rfl) (Nat.le_of_ble_eq_true rfl) (jj_bare0 rfl) ?_
  refine r_at hG hR5 hs ht16 ht16 ?_
  show jj G kS_findFactors (d + 5) Q rc rs 120 [some (.ref re), some (.int (nI (i))), some (.int (nI (t))), some (.ref (wa px_a))] [.ref (wa (rp s ls ps t t)), .ref dv] M5
  refine jj_aload_n (pc := 120) kS_findFactors_d120 rfl ?_
  refine jj_callV (pc := 121) (b := dv) (As := [.ref (wa (rp s ls ps t t)), .ref (wa px_a)]) kS_findFactors_d121 (kvS_D_divide hG) (kG_cl hG rfl) rfl hD5 rfl rfl rfl (Nat.le_of_ble_eq_true rfl) (Nat.le_of_ble_eq_true rfl) (jj_bare0 rfl) ?_
  refine d_divide hG hI hc5 hdv5 hdi (by omega) (by omega) (by omega) (by omega) hn5.nqr (by omega) hn5.nqx (by omega) hn5.nrx (by rw [t5]; omega) (by rw [hcap 0 (by omega)]; exact (by rw [t5]; omega)) (by rw [hcap r_a (by omega)]; exact (by rw [t5]; omega)) (fun M6 hcx6 hdx6 hw6 => ?_)
  obtain ⟨V6, hV6⟩ : ∃ W, vup (vup V5 0 ((V5 (rp s ls ps t t)).tdiv (V5 px_a))) r_a ((V5 (rp s ls ps t t)).tmod (V5 px_a)) = W := ⟨_, rfl⟩
  have hc6 : CW M6 wa la cap N V6 := by rw [← hV6]; exact hcx6
  have at6 : V6 0 = (V5 (rp s ls ps t t)).tdiv (V5 px_a) := by rw [← hV6, vup_ne _ _ hn5.nqr, vup_at]
  have rt6 : V6 r_a = (V5 (rp s ls ps t t)).tmod (V5 px_a) := by rw [← hV6, vup_at]
  have ot6 : ∀ p, p ≠ 0 → p ≠ r_a → V6 p = V5 p := fun p h1 h2 => by rw [← hV6, vup_ne _ _ h2, vup_ne _ _ h1]
  have hU6 := hU5.div hc5 hdx6 hw6
  have hf6 := hf5.trans (hw6.ef (eu := eu) (dv := dv))
  have q6_re := (hw6.ef (eu := eu) (dv := dv)).obj hc5 hU5 q5_re (by decide) (by decide) (by decide)
  have q6_dk := (hw6.ef (eu := eu) (dv := dv)).obj hc5 hU5 q5_dk (by decide) (by decide) (by decide)
  have hn6 := hU6.1
  have b_r6 := hn6.2.1
  have b_x6 := hn6.2.2.1
  have b_f6 := hn6.2.2.2.1
  have hdv6 := hU6.2.1
  obtain ⟨ea6, eb6, ec6, ed6, hE6⟩ := hU6.2.2.2
  have hD6 := hdv6.1
  show jj G kS_findFactors (d + 5) Q rc rs 124 [some (.ref re), some (.int (nI (i))), some (.int (nI (t))), some (.ref (wa px_a))] [] M6
  rw [t5, x5] at at6
  have lq6 : lc (V6 0) ≤ 64 := by rw [at6]; exact Nat.le_trans (lc_tdiv _ _) la1
  obtain ⟨T550_6, t550_6, hT550_6, _, _⟩ := hc6 550 (by omega)
  refine jj_aload_n (pc := 124) kS_findFactors_d124 rfl ?_
  refine jj_getf (pc := 125) kS_findFactors_d125 (kfS_firstRest hG) q6_re rfl ?_
  refine jj_aload_n (pc := 128) kS_findFactors_d128 rfl ?_
  refine jj_getf (pc := 129) kS_findFactors_d129 (kfS_desk hG) q6_re rfl ?_
  refine jj_getf (pc := 132) kS_findFactors_d132 (kfS_K_divider hG) q6_dk rfl ?_
  refine jj_getf (pc := 135) kS_findFactors_d135 (kfS_D_quotient hG) hD6 rfl ?_
  refine jj_callV (pc := 138) (b := (wa 550)) (As := [.ref (wa 0)]) kS_findFactors_d138 (kvS_W_copy hG) (kG_cl hG rfl) rfl hT550_6 rfl rfl rfl (Nat.le_of_ble_eq_true rfl) (Nat.le_of_ble_eq_true rfl) (jj_bare0 rfl) ?_
  refine w_copy hG hI hc6 (by omega : 550 < N) (by omega : 0 < N) (by rw [c548 550 (by omega) (by omega)]; exact lc_room (by omega)) (fun M7 hcx7 hw7  => ?_) 
  obtain ⟨V7, hV7⟩ : ∃ W, vup V6 550 (V6 0) = W := ⟨_, rfl⟩
  have hc7 : CW M7 wa la cap N V7 := by rw [← hV7]; exact hcx7
  have at7 : V7 550 = V6 0 := by rw [← hV7, vup_at]
  have ot7 : ∀ p, p ≠ 550 → V7 p = V6 p := fun p hp => by rw [← hV7, vup_ne _ _ hp]
  have hU7 := hU6.wt hc6 hdi (by omega) hw7
  have hf7 := hf6.trans (hw7.ef (by omega))
  have q7_re := (hw7.ef (eu := eu) (dv := dv) (hi := hi) (lo := lo) (by omega)).obj hc6 hU6 q6_re (by decide) (by decide) (by decide)
  have q7_dk := (hw7.ef (eu := eu) (dv := dv) (hi := hi) (lo := lo) (by omega)).obj hc6 hU6 q6_dk (by decide) (by decide) (by decide)
  have hn7 := hU7.1
  have b_r7 := hn7.2.1
  have b_x7 := hn7.2.2.1
  have b_f7 := hn7.2.2.2.1
  have hdv7 := hU7.2.1
  obtain ⟨ea7, eb7, ec7, ed7, hE7⟩ := hU7.2.2.2
  have hD7 := hdv7.1
  show jj G kS_findFactors (d + 5) Q rc rs 141 [some (.ref re), some (.int (nI (i))), some (.int (nI (t))), some (.ref (wa px_a))] [] M7
  have i7 : V7 (rp s ls ps i t) = V0 (rp s ls ps i t) := by rw [ot7 _ (by omega), ot6 _ (by omega) (by omega), ot5 _ (by omega), ot4 _ (by omega) (by omega)]; exact i3
  have x7 : V7 px_a = g := by rw [ot7 _ (by omega), ot6 _ (Ne.symm hn5.nqx) (Ne.symm hn5.nrx)]; exact x5
  have hR7 := hR.ef hJ hf7
  refine jj_aload_n (pc := 141) kS_findFactors_d141 rfl ?_
  refine jj_getf (pc := 142) kS_findFactors_d142 (kfS_desk hG) q7_re rfl ?_
  refine jj_getf (pc := 145) kS_findFactors_d145 (kfS_K_divider hG) q7_dk rfl ?_
  refine jj_aload_n (pc := 148) kS_findFactors_d148 rfl ?_
  refine jj_iload_n (pc := 149) kS_findFactors_d149 rfl ?_
  refine jj_iload_n (pc := 150) kS_findFactors_d150 rfl ?_
  refine jj_callV (pc := 151) (b := re) (As := [.int (nI (i)), .int (nI (t))]) kS_findFactors_d151 (kvS_S_at hG) (kG_cl hG rfl) rfl q7_re rfl rfl rfl (Nat.le_of_ble_eq_true rfl) (Nat.le_of_ble_eq_true rfl) (jj_bare0 rfl) ?_
  refine r_at hG hR7 hs hi16 ht16 ?_
  show jj G kS_findFactors (d + 5) Q rc rs 154 [some (.ref re), some (.int (nI (i))), some (.int (nI (t))), some (.ref (wa px_a))] [.ref (wa (rp s ls ps i t)), .ref dv] M7
  refine jj_aload_n (pc := 154) kS_findFactors_d154 rfl ?_
  refine jj_callV (pc := 155) (b := dv) (As := [.ref (wa (rp s ls ps i t)), .ref (wa px_a)]) kS_findFactors_d155 (kvS_D_divide hG) (kG_cl hG rfl) rfl hD7 rfl rfl rfl (Nat.le_of_ble_eq_true rfl) (Nat.le_of_ble_eq_true rfl) (jj_bare0 rfl) ?_
  refine d_divide hG hI hc7 hdv7 hdi (by omega) (by omega) (by omega) (by omega) hn7.nqr (by omega) hn7.nqx (by omega) hn7.nrx (by rw [i7]; omega) (by rw [hcap 0 (by omega)]; exact (by rw [i7]; omega)) (by rw [hcap r_a (by omega)]; exact (by rw [i7]; omega)) (fun M8 hcx8 hdx8 hw8 => ?_)
  obtain ⟨V8, hV8⟩ : ∃ W, vup (vup V7 0 ((V7 (rp s ls ps i t)).tdiv (V7 px_a))) r_a ((V7 (rp s ls ps i t)).tmod (V7 px_a)) = W := ⟨_, rfl⟩
  have hc8 : CW M8 wa la cap N V8 := by rw [← hV8]; exact hcx8
  have at8 : V8 0 = (V7 (rp s ls ps i t)).tdiv (V7 px_a) := by rw [← hV8, vup_ne _ _ hn7.nqr, vup_at]
  have rt8 : V8 r_a = (V7 (rp s ls ps i t)).tmod (V7 px_a) := by rw [← hV8, vup_at]
  have ot8 : ∀ p, p ≠ 0 → p ≠ r_a → V8 p = V7 p := fun p h1 h2 => by rw [← hV8, vup_ne _ _ h2, vup_ne _ _ h1]
  have hU8 := hU7.div hc7 hdx8 hw8
  have hf8 := hf7.trans (hw8.ef (eu := eu) (dv := dv))
  have q8_re := (hw8.ef (eu := eu) (dv := dv)).obj hc7 hU7 q7_re (by decide) (by decide) (by decide)
  have q8_dk := (hw8.ef (eu := eu) (dv := dv)).obj hc7 hU7 q7_dk (by decide) (by decide) (by decide)
  have hn8 := hU8.1
  have b_r8 := hn8.2.1
  have b_x8 := hn8.2.2.1
  have b_f8 := hn8.2.2.2.1
  have hdv8 := hU8.2.1
  obtain ⟨ea8, eb8, ec8, ed8, hE8⟩ := hU8.2.2.2
  have hD8 := hdv8.1
  show jj G kS_findFactors (d + 5) Q rc rs 158 [some (.ref re), some (.int (nI (i))), some (.int (nI (t))), some (.ref (wa px_a))] [] M8
  rw [i7, x7] at at8
  have lq8 : lc (V8 0) ≤ 64 := by rw [at8]; exact Nat.le_trans (lc_tdiv _ _) lb1
  obtain ⟨T551_8, t551_8, hT551_8, _, _⟩ := hc8 551 (by omega)
  refine jj_aload_n (pc := 158) kS_findFactors_d158 rfl ?_
  refine jj_getf (pc := 159) kS_findFactors_d159 (kfS_secondRest hG) q8_re rfl ?_
  refine jj_aload_n (pc := 162) kS_findFactors_d162 rfl ?_
  refine jj_getf (pc := 163) kS_findFactors_d163 (kfS_desk hG) q8_re rfl ?_
  refine jj_getf (pc := 166) kS_findFactors_d166 (kfS_K_divider hG) q8_dk rfl ?_
  refine jj_getf (pc := 169) kS_findFactors_d169 (kfS_D_quotient hG) hD8 rfl ?_
  refine jj_callV (pc := 172) (b := (wa 551)) (As := [.ref (wa 0)]) kS_findFactors_d172 (kvS_W_copy hG) (kG_cl hG rfl) rfl hT551_8 rfl rfl rfl (Nat.le_of_ble_eq_true rfl) (Nat.le_of_ble_eq_true rfl) (jj_bare0 rfl) ?_
  refine w_copy hG hI hc8 (by omega : 551 < N) (by omega : 0 < N) (by rw [c548 551 (by omega) (by omega)]; exact lc_room (by omega)) (fun M9 hcx9 hw9  => ?_) 
  obtain ⟨V9, hV9⟩ : ∃ W, vup V8 551 (V8 0) = W := ⟨_, rfl⟩
  have hc9 : CW M9 wa la cap N V9 := by rw [← hV9]; exact hcx9
  have at9 : V9 551 = V8 0 := by rw [← hV9, vup_at]
  have ot9 : ∀ p, p ≠ 551 → V9 p = V8 p := fun p hp => by rw [← hV9, vup_ne _ _ hp]
  have hU9 := hU8.wt hc8 hdi (by omega) hw9
  have hf9 := hf8.trans (hw9.ef (by omega))
  have q9_re := (hw9.ef (eu := eu) (dv := dv) (hi := hi) (lo := lo) (by omega)).obj hc8 hU8 q8_re (by decide) (by decide) (by decide)
  have q9_dk := (hw9.ef (eu := eu) (dv := dv) (hi := hi) (lo := lo) (by omega)).obj hc8 hU8 q8_dk (by decide) (by decide) (by decide)
  have hn9 := hU9.1
  have b_r9 := hn9.2.1
  have b_x9 := hn9.2.2.1
  have b_f9 := hn9.2.2.2.1
  have hdv9 := hU9.2.1
  obtain ⟨ea9, eb9, ec9, ed9, hE9⟩ := hU9.2.2.2
  have hD9 := hdv9.1
  show jj G kS_findFactors (d + 5) Q rc rs 175 [some (.ref re), some (.int (nI (i))), some (.int (nI (t))), some (.ref (wa px_a))] [] M9
  have y548 : V9 548 = V0 pf_a := by rw [ot9 _ (by omega), ot8 _ (by omega) (by omega), ot7 _ (by omega), ot6 _ (by omega) (by omega), ot5 _ (by omega), ot4 _ (by omega) (by omega), ot3 _ (by omega), ot2 _ (by omega), at1]
  have y549 : V9 549 = m1 := by rw [ot9 _ (by omega), ot8 _ (by omega) (by omega), ot7 _ (by omega), ot6 _ (by omega) (by omega), at5, q4]
  have y550 : V9 550 = (V0 (rp s ls ps t t)).tdiv g := by rw [ot9 _ (by omega), ot8 _ (by omega) (by omega), at7, at6]
  have y551 : V9 551 = (V0 (rp s ls ps i t)).tdiv g := by rw [at9, at8]
  exact jj_vret (pc := 175) kS_findFactors_d175 rfl (k M9 V9 ⟨hc9, ⟨r_a, px_a, pf_a, py_a, po_a, ps_a, od_a, hU9⟩, q9_dk⟩ (by rw [y548, y549]; exact hbz.symm) (by rw [y550]; exact tdiv_back hg1) (by rw [y551]; exact tdiv_back hg2) (fun q h1 h2 => by
    rcases (show q = 548 ∨ q = 549 ∨ q = 550 ∨ q = 551 by omega) with e | e | e | e
    · rw [e, y548]; omega
    · rw [e, y549, ← q4]; omega
    · rw [e, y550, ← at6]; omega
    · rw [e, y551, ← at8]; omega) (fun q h1 h2 => by rw [ot9 q (by omega), ot8 q (by omega) (by omega), ot7 q (by omega), ot6 q (by omega) (by omega), ot5 q (by omega), ot4 q (by omega) (by omega), ot3 q (by omega), ot2 q (by omega), ot1 q (by omega)]) hf9)
theorem r_findMultiple {i t : Nat} (hG : kG G) (hK : KJI wa la cap N hi lo) (hS : KS M wa la cap N eu dv hi lo dk V) (hJ : QJ wa la cap N eu dv hi lo dk re rca) (hR : RST M wa re rca dk ln pl ls ps s) (hs : STP ls ps) (hpl : pl ≤ 16) (hi16 : i < 16) (ht16 : t < 16) (hit : i ≠ t) (htp : t < pl) (ha : 0 < V (rp s ls ps t t)) (hb : 0 < V (rp s ls ps i t)) (k0 : ∀ (M' : mheap) (V' : Nat → Int), KS M' wa la cap N eu dv hi lo dk V' → EF M M' wa la N eu dv hi lo → (∀ q, 10 ≤ q → V' q = V q) → ¬ V (rp s ls ps t t) ∣ V (rp s ls ps i t) → ¬ V (rp s ls ps i t) ∣ V (rp s ls ps t t) → Q (.returned (some (.int (nI 0)))) M' rc rs) (k1 : ∀ (M' : mheap) (V' : Nat → Int) (s' : Nat → Nat), KS M' wa la cap N eu dv hi lo dk V' → RST M' wa re rca dk ln pl ls ps s' → EFX (fun x => x = re ∨ x = rca) M M' wa la N eu dv hi lo → (∀ q, 10 ≤ q → q ≠ 548 → V' q = V q) → lc (V' 548) ≤ 64 → ((V (rp s ls ps t t) ≤ V (rp s ls ps i t) ∧ V (rp s ls ps i t) = V' 548 * V (rp s ls ps t t) ∧ (∀ i' p, i' < 16 → p < 16 → rp s' ls ps i' p = rp s ls ps i' p)) ∨ (V (rp s ls ps i t) < V (rp s ls ps t t) ∧ V (rp s ls ps t t) = V' 548 * V (rp s ls ps i t) ∧ (∀ i' p, i' < 16 → p < 16 → rp s' ls ps i' p = if p < pl then rp s ls ps (swp i t i') p else rp s ls ps i' p))) → Q (.returned (some (.int (nI 1)))) M' rc rs) : jj G kS_findMultiple (d + 4) Q rc rs 0 (jj_ent [.ref re, .int (nI i), .int (nI t)] 6) [] M := by
  obtain ⟨h809, c547, c548, c553, f1, f2, n1, n2⟩ := id hJ
  have hsp := hR.2.2
  have hre := hR.1
  have b1 := hsp.b hs ht16 ht16
  have b2 := hsp.b hs hi16 ht16
  obtain ⟨hI, hN, hcap, hdi⟩ := id hK
  obtain ⟨hc0, ⟨r_a, px_a, pf_a, py_a, po_a, ps_a, od_a, hU0⟩, hdk0⟩ := id hS
  have hf0 : EF M M wa la N eu dv hi lo := fun _ _ _ _ _ _ => rfl
  obtain ⟨V0, hV0⟩ : ∃ V0, V = V0 := ⟨_, rfl⟩
  rw [hV0] at hc0
  have hn0 := hU0.1
  have b_r0 := hn0.2.1
  have b_x0 := hn0.2.2.1
  have b_f0 := hn0.2.2.2.1
  have hdv0 := hU0.2.1
  obtain ⟨ea0, eb0, ec0, ed0, hE0⟩ := hU0.2.2.2
  have hD0 := hdv0.1
  rw [hV0] at ha hb k0 k1
  have la1 : lc (V0 (rp s ls ps t t)) ≤ 64 := by have := hc0.lc (p := (rp s ls ps t t)) (by omega); rw [c553 _ b1.1 b1.2] at this; exact this
  have lb1 : lc (V0 (rp s ls ps i t)) ≤ 64 := by have := hc0.lc (p := (rp s ls ps i t)) (by omega); rw [c553 _ b2.1 b2.2] at this; exact this
  show jj G kS_findMultiple (d + 4) Q rc rs 0 [some (.ref re), some (.int (nI (i))), some (.int (nI (t))), none, none, none] [] M
  refine jj_aload_n (pc := 0) kS_findMultiple_d0 rfl ?_
  refine jj_iload_n (pc := 1) kS_findMultiple_d1 rfl ?_
  refine jj_iload_n (pc := 2) kS_findMultiple_d2 rfl ?_
  refine jj_callV (pc := 3) (b := re) (As := [.int (nI (t)), .int (nI (t))]) kS_findMultiple_d3 (kvS_S_at hG) (kG_cl hG rfl) rfl hre rfl rfl rfl (Nat.le_of_ble_eq_true rfl) (Nat.le_of_ble_eq_true rfl) (jj_bare0 rfl) ?_
  refine r_at hG hR hs ht16 ht16 ?_
  show jj G kS_findMultiple (d + 4) Q rc rs 6 [some (.ref re), some (.int (nI (i))), some (.int (nI (t))), none, none, none] [.ref (wa (rp s ls ps t t))] M
  refine jj_aload_n (pc := 6) kS_findMultiple_d6 rfl ?_
  refine jj_iload_n (pc := 7) kS_findMultiple_d7 rfl ?_
  refine jj_iload_n (pc := 8) kS_findMultiple_d8 rfl ?_
  refine jj_callV (pc := 9) (b := re) (As := [.int (nI (i)), .int (nI (t))]) kS_findMultiple_d9 (kvS_S_at hG) (kG_cl hG rfl) rfl hre rfl rfl rfl (Nat.le_of_ble_eq_true rfl) (Nat.le_of_ble_eq_true rfl) (jj_bare0 rfl) ?_
  refine r_at hG hR hs hi16 ht16 ?_
  show jj G kS_findMultiple (d + 4) Q rc rs 12 [some (.ref re), some (.int (nI (i))), some (.int (nI (t))), none, none, none] [.ref (wa (rp s ls ps i t)), .ref (wa (rp s ls ps t t))] M
  obtain ⟨Trpslspstt_0, trpslspstt_0, hTrpslspstt_0, _, _⟩ := hc0 (rp s ls ps t t) (by omega)
  refine jj_callV (pc := 12) (b := (wa (rp s ls ps t t))) (As := [.ref (wa (rp s ls ps i t))]) kS_findMultiple_d12 (kvS_W_compareSizes hG) (kG_cl hG rfl) rfl hTrpslspstt_0 rfl rfl rfl (Nat.le_of_ble_eq_true rfl) (Nat.le_of_ble_eq_true rfl) (jj_bare0 rfl) ?_
  refine w_compareSizes hG hI hc0 (t := (rp s ls ps t t)) (u := (rp s ls ps i t)) (by omega) (by omega) (fun c1 => ?_) (fun c1 => ?_) (fun c1 => ?_)
  · skip
    show jj G kS_findMultiple (d + 4) Q rc rs 15 [some (.ref re), some (.int (nI (i))), some (.int (nI (t))), none, none, none] [.int (-1)] M
    refine jj_if_le (pc := 15) (tgt := 22) kS_findMultiple_d15 (by decide) (fun _ => ?_) (fun c => absurd c (by decide))
    refine jn_iconst (pc := 22) 0 kS_findMultiple_d22 (by decide) ?_
    refine jj_istore_n (pc := 23) kS_findMultiple_d23 (Nat.le_of_ble_eq_true rfl) ?_
    show jj G kS_findMultiple (d + 4) Q rc rs 24 [some (.ref re), some (.int (nI (i))), some (.int (nI (t))), some (.int (nI (0))), none, none] [] M
    show jj G kS_findMultiple (d + 4) Q rc rs 24 [some (.ref re), some (.int (nI (i))), some (.int (nI (t))), some (.int (nI (0))), none, none] [] M
    refine jj_iload_n (pc := 24) kS_findMultiple_d24 rfl ?_
    refine jn_if_eq (pc := 25) (tgt := 37) kS_findMultiple_d25 (by decide) (by omega) (fun _ => ?_) (fun c => by exfalso; omega)
    refine jj_aload_n (pc := 37) kS_findMultiple_d37 rfl ?_
    refine jj_iload_n (pc := 38) kS_findMultiple_d38 rfl ?_
    refine jj_iload_n (pc := 39) kS_findMultiple_d39 rfl ?_
    refine jj_callV (pc := 40) (b := re) (As := [.int (nI (i)), .int (nI (t))]) kS_findMultiple_d40 (kvS_S_at hG) (kG_cl hG rfl) rfl hre rfl rfl rfl (Nat.le_of_ble_eq_true rfl) (Nat.le_of_ble_eq_true rfl) (jj_bare0 rfl) ?_
    refine r_at hG hR hs hi16 ht16 ?_
    show jj G kS_findMultiple (d + 4) Q rc rs 43 [some (.ref re), some (.int (nI (i))), some (.int (nI (t))), some (.int (nI (0))), none, none] [.ref (wa (rp s ls ps i t))] M
    refine jj_astore (pc := 43) kS_findMultiple_d43 (Nat.le_of_ble_eq_true rfl) ?_
    show jj G kS_findMultiple (d + 4) Q rc rs 45 [some (.ref re), some (.int (nI (i))), some (.int (nI (t))), some (.int (nI (0))), some (.ref (wa (rp s ls ps i t))), none] [] M
    refine jj_iload_n (pc := 45) kS_findMultiple_d45 rfl ?_
    refine jn_if_eq (pc := 46) (tgt := 58) kS_findMultiple_d46 (by decide) (by omega) (fun _ => ?_) (fun c => by exfalso; omega)
    refine jj_aload_n (pc := 58) kS_findMultiple_d58 rfl ?_
    refine jj_iload_n (pc := 59) kS_findMultiple_d59 rfl ?_
    refine jj_iload_n (pc := 60) kS_findMultiple_d60 rfl ?_
    refine jj_callV (pc := 61) (b := re) (As := [.int (nI (t)), .int (nI (t))]) kS_findMultiple_d61 (kvS_S_at hG) (kG_cl hG rfl) rfl hre rfl rfl rfl (Nat.le_of_ble_eq_true rfl) (Nat.le_of_ble_eq_true rfl) (jj_bare0 rfl) ?_
    refine r_at hG hR hs ht16 ht16 ?_
    show jj G kS_findMultiple (d + 4) Q rc rs 64 [some (.ref re), some (.int (nI (i))), some (.int (nI (t))), some (.int (nI (0))), some (.ref (wa (rp s ls ps i t))), none] [.ref (wa (rp s ls ps t t))] M
    refine jj_astore (pc := 64) kS_findMultiple_d64 (Nat.le_of_ble_eq_true rfl) ?_
    show jj G kS_findMultiple (d + 4) Q rc rs 66 [some (.ref re), some (.int (nI (i))), some (.int (nI (t))), some (.int (nI (0))), some (.ref (wa (rp s ls ps i t))), some (.ref (wa (rp s ls ps t t)))] [] M
    refine jj_aload_n (pc := 66) kS_findMultiple_d66 rfl ?_
    refine jj_getf (pc := 67) kS_findMultiple_d67 (kfS_desk hG) hre rfl ?_
    refine jj_getf (pc := 70) kS_findMultiple_d70 (kfS_K_divider hG) hdk0 rfl ?_
    refine jj_aload (pc := 73) kS_findMultiple_d73 rfl ?_
    refine jj_aload (pc := 75) kS_findMultiple_d75 rfl ?_
    refine jj_callV (pc := 77) (b := dv) (As := [.ref (wa (rp s ls ps i t)), .ref (wa (rp s ls ps t t))]) kS_findMultiple_d77 (kvS_D_divide hG) (kG_cl hG rfl) rfl hD0 rfl rfl rfl (Nat.le_of_ble_eq_true rfl) (Nat.le_of_ble_eq_true rfl) (jj_bare0 rfl) ?_
    refine d_divide hG hI hc0 hdv0 hdi (by omega) (by omega) (by omega) (by omega) hn0.nqr (by omega) (by omega) (by omega) (by omega) (by omega) (by rw [hcap 0 (by omega)]; exact (by omega)) (by rw [hcap r_a (by omega)]; exact (by omega)) (fun M1 hcx1 hdx1 hw1 => ?_)
    obtain ⟨V1, hV1⟩ : ∃ W, vup (vup V0 0 ((V0 (rp s ls ps i t)).tdiv (V0 (rp s ls ps t t)))) r_a ((V0 (rp s ls ps i t)).tmod (V0 (rp s ls ps t t))) = W := ⟨_, rfl⟩
    have hc1 : CW M1 wa la cap N V1 := by rw [← hV1]; exact hcx1
    have at1 : V1 0 = (V0 (rp s ls ps i t)).tdiv (V0 (rp s ls ps t t)) := by rw [← hV1, vup_ne _ _ hn0.nqr, vup_at]
    have rt1 : V1 r_a = (V0 (rp s ls ps i t)).tmod (V0 (rp s ls ps t t)) := by rw [← hV1, vup_at]
    have ot1 : ∀ p, p ≠ 0 → p ≠ r_a → V1 p = V0 p := fun p h1 h2 => by rw [← hV1, vup_ne _ _ h2, vup_ne _ _ h1]
    have hU1 := hU0.div hc0 hdx1 hw1
    have hf1 := hf0.trans (hw1.ef (eu := eu) (dv := dv))
    have q1_re := (hw1.ef (eu := eu) (dv := dv)).obj hc0 hU0 hre (by decide) (by decide) (by decide)
    have q1_dk := (hw1.ef (eu := eu) (dv := dv)).obj hc0 hU0 hdk0 (by decide) (by decide) (by decide)
    have hn1 := hU1.1
    have b_r1 := hn1.2.1
    have b_x1 := hn1.2.2.1
    have b_f1 := hn1.2.2.2.1
    have hdv1 := hU1.2.1
    obtain ⟨ea1, eb1, ec1, ed1, hE1⟩ := hU1.2.2.2
    have hD1 := hdv1.1
    show jj G kS_findMultiple (d + 4) Q rc rs 80 [some (.ref re), some (.int (nI (i))), some (.int (nI (t))), some (.int (nI (0))), some (.ref (wa (rp s ls ps i t))), some (.ref (wa (rp s ls ps t t)))] [] M1
    have lq : lc (V1 0) ≤ 64 := by rw [at1]; exact Nat.le_trans (lc_tdiv _ _) (by omega)
    have dvi : V0 (rp s ls ps t t) ∣ V0 (rp s ls ps i t) ↔ V1 r_a = 0 := by
      rw [rt1]
      constructor
      · intro h
        obtain ⟨y, hy⟩ := h
        rw [hy, Int.mul_tmod_right]
      · intro h
        have := Int.mul_tdiv_add_tmod (V0 (rp s ls ps i t)) (V0 (rp s ls ps t t))
        rw [h, Int.add_zero] at this
        exact ⟨_, this.symm⟩
    obtain ⟨Tn101, tn101, hTn101, _, _, hZn101⟩ := hc1 r_a (by omega)
    have eZn101 := hZn101.cnt
    subst eZn101
    have bZn101 := hc1.lc (p := r_a) (by omega)
    have bYn101 := hI.2.2 r_a (by omega)
    refine jj_aload_n (pc := 80) kS_findMultiple_d80 rfl ?_
    refine jj_getf (pc := 81) kS_findMultiple_d81 (kfS_desk hG) q1_re rfl ?_
    refine jj_getf (pc := 84) kS_findMultiple_d84 (kfS_K_divider hG) q1_dk rfl ?_
    refine jj_getf (pc := 87) kS_findMultiple_d87 (kfS_D_remainder hG) hD1 rfl ?_
    refine jj_getf (pc := 90) kS_findMultiple_d90 (kfS_W_count hG) hTn101 rfl ?_
    refine jn_if_le (pc := 93) (tgt := 98) kS_findMultiple_d93 (by decide) (by omega) (fun c2 => ?_) (fun c2 => ?_)
    · skip
      have hz : V1 r_a = 0 := lc_nil (by omega)
      have hex : V0 (rp s ls ps i t) = V1 0 * V0 (rp s ls ps t t) := by
        have := Int.mul_tdiv_add_tmod (V0 (rp s ls ps i t)) (V0 (rp s ls ps t t))
        rw [← rt1, hz, Int.add_zero, ← at1, Int.mul_comm] at this
        exact this.symm
      obtain ⟨T548_1, t548_1, hT548_1, _, _⟩ := hc1 548 (by omega)
      refine jj_aload_n (pc := 98) kS_findMultiple_d98 rfl ?_
      refine jj_getf (pc := 99) kS_findMultiple_d99 (kfS_firstFactor hG) q1_re rfl ?_
      refine jj_aload_n (pc := 102) kS_findMultiple_d102 rfl ?_
      refine jj_getf (pc := 103) kS_findMultiple_d103 (kfS_desk hG) q1_re rfl ?_
      refine jj_getf (pc := 106) kS_findMultiple_d106 (kfS_K_divider hG) q1_dk rfl ?_
      refine jj_getf (pc := 109) kS_findMultiple_d109 (kfS_D_quotient hG) hD1 rfl ?_
      refine jj_callV (pc := 112) (b := (wa 548)) (As := [.ref (wa 0)]) kS_findMultiple_d112 (kvS_W_copy hG) (kG_cl hG rfl) rfl hT548_1 rfl rfl rfl (Nat.le_of_ble_eq_true rfl) (Nat.le_of_ble_eq_true rfl) (jj_bare0 rfl) ?_
      refine w_copy hG hI hc1 (by omega : 548 < N) (by omega : 0 < N) (by rw [c548 548 (by omega) (by omega)]; exact lc_room (by omega)) (fun M2 hcx2 hw2  => ?_) 
      obtain ⟨V2, hV2⟩ : ∃ W, vup V1 548 (V1 0) = W := ⟨_, rfl⟩
      have hc2 : CW M2 wa la cap N V2 := by rw [← hV2]; exact hcx2
      have at2 : V2 548 = V1 0 := by rw [← hV2, vup_at]
      have ot2 : ∀ p, p ≠ 548 → V2 p = V1 p := fun p hp => by rw [← hV2, vup_ne _ _ hp]
      have hU2 := hU1.wt hc1 hdi (by omega) hw2
      have hf2 := hf1.trans (hw2.ef (by omega))
      have q2_re := (hw2.ef (eu := eu) (dv := dv) (hi := hi) (lo := lo) (by omega)).obj hc1 hU1 q1_re (by decide) (by decide) (by decide)
      have q2_dk := (hw2.ef (eu := eu) (dv := dv) (hi := hi) (lo := lo) (by omega)).obj hc1 hU1 q1_dk (by decide) (by decide) (by decide)
      have hn2 := hU2.1
      have b_r2 := hn2.2.1
      have b_x2 := hn2.2.2.1
      have b_f2 := hn2.2.2.2.1
      have hdv2 := hU2.2.1
      obtain ⟨ea2, eb2, ec2, ed2, hE2⟩ := hU2.2.2.2
      have hD2 := hdv2.1
      show jj G kS_findMultiple (d + 4) Q rc rs 115 [some (.ref re), some (.int (nI (i))), some (.int (nI (t))), some (.int (nI (0))), some (.ref (wa (rp s ls ps i t))), some (.ref (wa (rp s ls ps t t)))] [] M2
      have hS2a : KS M2 wa la cap N eu dv hi lo dk V2 := ⟨hc2, ⟨r_a, px_a, pf_a, py_a, po_a, ps_a, od_a, hU2⟩, q2_dk⟩
      have o2 : ∀ q, 10 ≤ q → q ≠ 548 → V2 q = V0 q := fun q h1 h2 => by rw [ot2 q h2, ot1 q (by omega) (by omega)]
      have hR2 := hR.ef hJ hf2
      refine jj_iload_n (pc := 115) kS_findMultiple_d115 rfl ?_
      refine jn_if_eq (pc := 116) (tgt := 125) kS_findMultiple_d116 (by decide) (by omega) (fun _ => ?_) (fun c => by exfalso; omega)
      refine jn_iconst (pc := 125) 1 kS_findMultiple_d125 (by decide) ?_
      exact jj_iret (pc := 126) kS_findMultiple_d126 rfl (by rfl) (k1 M2 V2 s hS2a hR2 hf2.efx o2 (by rw [at2]; exact lq) (Or.inl ⟨by omega, by rw [at2]; exact hex, fun _ _ _ _ => rfl⟩))
    · skip
      refine jn_iconst (pc := 96) 0 kS_findMultiple_d96 (by decide) ?_
      have nd : ¬ V0 (rp s ls ps t t) ∣ V0 (rp s ls ps i t) := fun h => lc_pos (show 0 < lc (V1 r_a) by omega) (dvi.1 h)
      have nd2 : ¬ V0 (rp s ls ps i t) ∣ V0 (rp s ls ps t t) := fun h => by
          obtain ⟨y, hy⟩ := h
          have h1 : 0 < y := int_pos_of_mul hb (by rw [← hy]; exact ha)
          have h2 := Int.mul_le_mul_of_nonneg_left (show 1 ≤ y by omega) (Int.le_of_lt hb)
          rw [← hy, Int.mul_one] at h2
          exact nd ⟨1, by omega⟩
      exact jj_iret (pc := 97) kS_findMultiple_d97 rfl (by rfl) (k0 M1 V1 ⟨hc1, ⟨r_a, px_a, pf_a, py_a, po_a, ps_a, od_a, hU1⟩, q1_dk⟩ hf1 (fun q h => ot1 q (by omega) (by omega)) nd nd2)
  · skip
    show jj G kS_findMultiple (d + 4) Q rc rs 15 [some (.ref re), some (.int (nI (i))), some (.int (nI (t))), none, none, none] [.int (nI (0))] M
    refine jn_if_le (pc := 15) (tgt := 22) kS_findMultiple_d15 (by decide) (by omega) (fun _ => ?_) (fun c => by exfalso; omega)
    refine jn_iconst (pc := 22) 0 kS_findMultiple_d22 (by decide) ?_
    refine jj_istore_n (pc := 23) kS_findMultiple_d23 (Nat.le_of_ble_eq_true rfl) ?_
    show jj G kS_findMultiple (d + 4) Q rc rs 24 [some (.ref re), some (.int (nI (i))), some (.int (nI (t))), some (.int (nI (0))), none, none] [] M
    show jj G kS_findMultiple (d + 4) Q rc rs 24 [some (.ref re), some (.int (nI (i))), some (.int (nI (t))), some (.int (nI (0))), none, none] [] M
    refine jj_iload_n (pc := 24) kS_findMultiple_d24 rfl ?_
    refine jn_if_eq (pc := 25) (tgt := 37) kS_findMultiple_d25 (by decide) (by omega) (fun _ => ?_) (fun c => by exfalso; omega)
    refine jj_aload_n (pc := 37) kS_findMultiple_d37 rfl ?_
    refine jj_iload_n (pc := 38) kS_findMultiple_d38 rfl ?_
    refine jj_iload_n (pc := 39) kS_findMultiple_d39 rfl ?_
    refine jj_callV (pc := 40) (b := re) (As := [.int (nI (i)), .int (nI (t))]) kS_findMultiple_d40 (kvS_S_at hG) (kG_cl hG rfl) rfl hre rfl rfl rfl (Nat.le_of_ble_eq_true rfl) (Nat.le_of_ble_eq_true rfl) (jj_bare0 rfl) ?_
    refine r_at hG hR hs hi16 ht16 ?_
    show jj G kS_findMultiple (d + 4) Q rc rs 43 [some (.ref re), some (.int (nI (i))), some (.int (nI (t))), some (.int (nI (0))), none, none] [.ref (wa (rp s ls ps i t))] M
    refine jj_astore (pc := 43) kS_findMultiple_d43 (Nat.le_of_ble_eq_true rfl) ?_
    show jj G kS_findMultiple (d + 4) Q rc rs 45 [some (.ref re), some (.int (nI (i))), some (.int (nI (t))), some (.int (nI (0))), some (.ref (wa (rp s ls ps i t))), none] [] M
    refine jj_iload_n (pc := 45) kS_findMultiple_d45 rfl ?_
    refine jn_if_eq (pc := 46) (tgt := 58) kS_findMultiple_d46 (by decide) (by omega) (fun _ => ?_) (fun c => by exfalso; omega)
    refine jj_aload_n (pc := 58) kS_findMultiple_d58 rfl ?_
    refine jj_iload_n (pc := 59) kS_findMultiple_d59 rfl ?_
    refine jj_iload_n (pc := 60) kS_findMultiple_d60 rfl ?_
    refine jj_callV (pc := 61) (b := re) (As := [.int (nI (t)), .int (nI (t))]) kS_findMultiple_d61 (kvS_S_at hG) (kG_cl hG rfl) rfl hre rfl rfl rfl (Nat.le_of_ble_eq_true rfl) (Nat.le_of_ble_eq_true rfl) (jj_bare0 rfl) ?_
    refine r_at hG hR hs ht16 ht16 ?_
    show jj G kS_findMultiple (d + 4) Q rc rs 64 [some (.ref re), some (.int (nI (i))), some (.int (nI (t))), some (.int (nI (0))), some (.ref (wa (rp s ls ps i t))), none] [.ref (wa (rp s ls ps t t))] M
    refine jj_astore (pc := 64) kS_findMultiple_d64 (Nat.le_of_ble_eq_true rfl) ?_
    show jj G kS_findMultiple (d + 4) Q rc rs 66 [some (.ref re), some (.int (nI (i))), some (.int (nI (t))), some (.int (nI (0))), some (.ref (wa (rp s ls ps i t))), some (.ref (wa (rp s ls ps t t)))] [] M
    refine jj_aload_n (pc := 66) kS_findMultiple_d66 rfl ?_
    refine jj_getf (pc := 67) kS_findMultiple_d67 (kfS_desk hG) hre rfl ?_
    refine jj_getf (pc := 70) kS_findMultiple_d70 (kfS_K_divider hG) hdk0 rfl ?_
    refine jj_aload (pc := 73) kS_findMultiple_d73 rfl ?_
    refine jj_aload (pc := 75) kS_findMultiple_d75 rfl ?_
    refine jj_callV (pc := 77) (b := dv) (As := [.ref (wa (rp s ls ps i t)), .ref (wa (rp s ls ps t t))]) kS_findMultiple_d77 (kvS_D_divide hG) (kG_cl hG rfl) rfl hD0 rfl rfl rfl (Nat.le_of_ble_eq_true rfl) (Nat.le_of_ble_eq_true rfl) (jj_bare0 rfl) ?_
    refine d_divide hG hI hc0 hdv0 hdi (by omega) (by omega) (by omega) (by omega) hn0.nqr (by omega) (by omega) (by omega) (by omega) (by omega) (by rw [hcap 0 (by omega)]; exact (by omega)) (by rw [hcap r_a (by omega)]; exact (by omega)) (fun M1 hcx1 hdx1 hw1 => ?_)
    obtain ⟨V1, hV1⟩ : ∃ W, vup (vup V0 0 ((V0 (rp s ls ps i t)).tdiv (V0 (rp s ls ps t t)))) r_a ((V0 (rp s ls ps i t)).tmod (V0 (rp s ls ps t t))) = W := ⟨_, rfl⟩
    have hc1 : CW M1 wa la cap N V1 := by rw [← hV1]; exact hcx1
    have at1 : V1 0 = (V0 (rp s ls ps i t)).tdiv (V0 (rp s ls ps t t)) := by rw [← hV1, vup_ne _ _ hn0.nqr, vup_at]
    have rt1 : V1 r_a = (V0 (rp s ls ps i t)).tmod (V0 (rp s ls ps t t)) := by rw [← hV1, vup_at]
    have ot1 : ∀ p, p ≠ 0 → p ≠ r_a → V1 p = V0 p := fun p h1 h2 => by rw [← hV1, vup_ne _ _ h2, vup_ne _ _ h1]
    have hU1 := hU0.div hc0 hdx1 hw1
    have hf1 := hf0.trans (hw1.ef (eu := eu) (dv := dv))
    have q1_re := (hw1.ef (eu := eu) (dv := dv)).obj hc0 hU0 hre (by decide) (by decide) (by decide)
    have q1_dk := (hw1.ef (eu := eu) (dv := dv)).obj hc0 hU0 hdk0 (by decide) (by decide) (by decide)
    have hn1 := hU1.1
    have b_r1 := hn1.2.1
    have b_x1 := hn1.2.2.1
    have b_f1 := hn1.2.2.2.1
    have hdv1 := hU1.2.1
    obtain ⟨ea1, eb1, ec1, ed1, hE1⟩ := hU1.2.2.2
    have hD1 := hdv1.1
    show jj G kS_findMultiple (d + 4) Q rc rs 80 [some (.ref re), some (.int (nI (i))), some (.int (nI (t))), some (.int (nI (0))), some (.ref (wa (rp s ls ps i t))), some (.ref (wa (rp s ls ps t t)))] [] M1
    have lq : lc (V1 0) ≤ 64 := by rw [at1]; exact Nat.le_trans (lc_tdiv _ _) (by omega)
    have dvi : V0 (rp s ls ps t t) ∣ V0 (rp s ls ps i t) ↔ V1 r_a = 0 := by
      rw [rt1]
      constructor
      · intro h
        obtain ⟨y, hy⟩ := h
        rw [hy, Int.mul_tmod_right]
      · intro h
        have := Int.mul_tdiv_add_tmod (V0 (rp s ls ps i t)) (V0 (rp s ls ps t t))
        rw [h, Int.add_zero] at this
        exact ⟨_, this.symm⟩
    obtain ⟨Tn102, tn102, hTn102, _, _, hZn102⟩ := hc1 r_a (by omega)
    have eZn102 := hZn102.cnt
    subst eZn102
    have bZn102 := hc1.lc (p := r_a) (by omega)
    have bYn102 := hI.2.2 r_a (by omega)
    refine jj_aload_n (pc := 80) kS_findMultiple_d80 rfl ?_
    refine jj_getf (pc := 81) kS_findMultiple_d81 (kfS_desk hG) q1_re rfl ?_
    refine jj_getf (pc := 84) kS_findMultiple_d84 (kfS_K_divider hG) q1_dk rfl ?_
    refine jj_getf (pc := 87) kS_findMultiple_d87 (kfS_D_remainder hG) hD1 rfl ?_
    refine jj_getf (pc := 90) kS_findMultiple_d90 (kfS_W_count hG) hTn102 rfl ?_
    refine jn_if_le (pc := 93) (tgt := 98) kS_findMultiple_d93 (by decide) (by omega) (fun c2 => ?_) (fun c2 => ?_)
    · skip
      have hz : V1 r_a = 0 := lc_nil (by omega)
      have hex : V0 (rp s ls ps i t) = V1 0 * V0 (rp s ls ps t t) := by
        have := Int.mul_tdiv_add_tmod (V0 (rp s ls ps i t)) (V0 (rp s ls ps t t))
        rw [← rt1, hz, Int.add_zero, ← at1, Int.mul_comm] at this
        exact this.symm
      obtain ⟨T548_1, t548_1, hT548_1, _, _⟩ := hc1 548 (by omega)
      refine jj_aload_n (pc := 98) kS_findMultiple_d98 rfl ?_
      refine jj_getf (pc := 99) kS_findMultiple_d99 (kfS_firstFactor hG) q1_re rfl ?_
      refine jj_aload_n (pc := 102) kS_findMultiple_d102 rfl ?_
      refine jj_getf (pc := 103) kS_findMultiple_d103 (kfS_desk hG) q1_re rfl ?_
      refine jj_getf (pc := 106) kS_findMultiple_d106 (kfS_K_divider hG) q1_dk rfl ?_
      refine jj_getf (pc := 109) kS_findMultiple_d109 (kfS_D_quotient hG) hD1 rfl ?_
      refine jj_callV (pc := 112) (b := (wa 548)) (As := [.ref (wa 0)]) kS_findMultiple_d112 (kvS_W_copy hG) (kG_cl hG rfl) rfl hT548_1 rfl rfl rfl (Nat.le_of_ble_eq_true rfl) (Nat.le_of_ble_eq_true rfl) (jj_bare0 rfl) ?_
      refine w_copy hG hI hc1 (by omega : 548 < N) (by omega : 0 < N) (by rw [c548 548 (by omega) (by omega)]; exact lc_room (by omega)) (fun M2 hcx2 hw2  => ?_) 
      obtain ⟨V2, hV2⟩ : ∃ W, vup V1 548 (V1 0) = W := ⟨_, rfl⟩
      have hc2 : CW M2 wa la cap N V2 := by rw [← hV2]; exact hcx2
      have at2 : V2 548 = V1 0 := by rw [← hV2, vup_at]
      have ot2 : ∀ p, p ≠ 548 → V2 p = V1 p := fun p hp => by rw [← hV2, vup_ne _ _ hp]
      have hU2 := hU1.wt hc1 hdi (by omega) hw2
      have hf2 := hf1.trans (hw2.ef (by omega))
      have q2_re := (hw2.ef (eu := eu) (dv := dv) (hi := hi) (lo := lo) (by omega)).obj hc1 hU1 q1_re (by decide) (by decide) (by decide)
      have q2_dk := (hw2.ef (eu := eu) (dv := dv) (hi := hi) (lo := lo) (by omega)).obj hc1 hU1 q1_dk (by decide) (by decide) (by decide)
      have hn2 := hU2.1
      have b_r2 := hn2.2.1
      have b_x2 := hn2.2.2.1
      have b_f2 := hn2.2.2.2.1
      have hdv2 := hU2.2.1
      obtain ⟨ea2, eb2, ec2, ed2, hE2⟩ := hU2.2.2.2
      have hD2 := hdv2.1
      show jj G kS_findMultiple (d + 4) Q rc rs 115 [some (.ref re), some (.int (nI (i))), some (.int (nI (t))), some (.int (nI (0))), some (.ref (wa (rp s ls ps i t))), some (.ref (wa (rp s ls ps t t)))] [] M2
      have hS2a : KS M2 wa la cap N eu dv hi lo dk V2 := ⟨hc2, ⟨r_a, px_a, pf_a, py_a, po_a, ps_a, od_a, hU2⟩, q2_dk⟩
      have o2 : ∀ q, 10 ≤ q → q ≠ 548 → V2 q = V0 q := fun q h1 h2 => by rw [ot2 q h2, ot1 q (by omega) (by omega)]
      have hR2 := hR.ef hJ hf2
      refine jj_iload_n (pc := 115) kS_findMultiple_d115 rfl ?_
      refine jn_if_eq (pc := 116) (tgt := 125) kS_findMultiple_d116 (by decide) (by omega) (fun _ => ?_) (fun c => by exfalso; omega)
      refine jn_iconst (pc := 125) 1 kS_findMultiple_d125 (by decide) ?_
      exact jj_iret (pc := 126) kS_findMultiple_d126 rfl (by rfl) (k1 M2 V2 s hS2a hR2 hf2.efx o2 (by rw [at2]; exact lq) (Or.inl ⟨by omega, by rw [at2]; exact hex, fun _ _ _ _ => rfl⟩))
    · skip
      refine jn_iconst (pc := 96) 0 kS_findMultiple_d96 (by decide) ?_
      have nd : ¬ V0 (rp s ls ps t t) ∣ V0 (rp s ls ps i t) := fun h => lc_pos (show 0 < lc (V1 r_a) by omega) (dvi.1 h)
      have nd2 : ¬ V0 (rp s ls ps i t) ∣ V0 (rp s ls ps t t) := fun h => by
          obtain ⟨y, hy⟩ := h
          have h1 : 0 < y := int_pos_of_mul hb (by rw [← hy]; exact ha)
          have h2 := Int.mul_le_mul_of_nonneg_left (show 1 ≤ y by omega) (Int.le_of_lt hb)
          rw [← hy, Int.mul_one] at h2
          exact nd ⟨1, by omega⟩
      exact jj_iret (pc := 97) kS_findMultiple_d97 rfl (by rfl) (k0 M1 V1 ⟨hc1, ⟨r_a, px_a, pf_a, py_a, po_a, ps_a, od_a, hU1⟩, q1_dk⟩ hf1 (fun q h => ot1 q (by omega) (by omega)) nd nd2)
  · skip
    show jj G kS_findMultiple (d + 4) Q rc rs 15 [some (.ref re), some (.int (nI (i))), some (.int (nI (t))), none, none, none] [.int (nI (1))] M
    refine jn_if_le (pc := 15) (tgt := 22) kS_findMultiple_d15 (by decide) (by omega) (fun c => by exfalso; omega) (fun _ => ?_)
    refine jn_iconst (pc := 18) 1 kS_findMultiple_d18 (by decide) ?_
    refine jj_goto (pc := 19) (tgt := 23) kS_findMultiple_d19 (by decide) ?_
    refine jj_istore_n (pc := 23) kS_findMultiple_d23 (Nat.le_of_ble_eq_true rfl) ?_
    show jj G kS_findMultiple (d + 4) Q rc rs 24 [some (.ref re), some (.int (nI (i))), some (.int (nI (t))), some (.int (nI (1))), none, none] [] M
    show jj G kS_findMultiple (d + 4) Q rc rs 24 [some (.ref re), some (.int (nI (i))), some (.int (nI (t))), some (.int (nI (1))), none, none] [] M
    refine jj_iload_n (pc := 24) kS_findMultiple_d24 rfl ?_
    refine jn_if_eq (pc := 25) (tgt := 37) kS_findMultiple_d25 (by decide) (by omega) (fun c => by exfalso; omega) (fun _ => ?_)
    refine jj_aload_n (pc := 28) kS_findMultiple_d28 rfl ?_
    refine jj_iload_n (pc := 29) kS_findMultiple_d29 rfl ?_
    refine jj_iload_n (pc := 30) kS_findMultiple_d30 rfl ?_
    refine jj_callV (pc := 31) (b := re) (As := [.int (nI (t)), .int (nI (t))]) kS_findMultiple_d31 (kvS_S_at hG) (kG_cl hG rfl) rfl hre rfl rfl rfl (Nat.le_of_ble_eq_true rfl) (Nat.le_of_ble_eq_true rfl) (jj_bare0 rfl) ?_
    refine r_at hG hR hs ht16 ht16 ?_
    show jj G kS_findMultiple (d + 4) Q rc rs 34 [some (.ref re), some (.int (nI (i))), some (.int (nI (t))), some (.int (nI (1))), none, none] [.ref (wa (rp s ls ps t t))] M
    refine jj_goto (pc := 34) (tgt := 43) kS_findMultiple_d34 (by decide) ?_
    refine jj_astore (pc := 43) kS_findMultiple_d43 (Nat.le_of_ble_eq_true rfl) ?_
    show jj G kS_findMultiple (d + 4) Q rc rs 45 [some (.ref re), some (.int (nI (i))), some (.int (nI (t))), some (.int (nI (1))), some (.ref (wa (rp s ls ps t t))), none] [] M
    refine jj_iload_n (pc := 45) kS_findMultiple_d45 rfl ?_
    refine jn_if_eq (pc := 46) (tgt := 58) kS_findMultiple_d46 (by decide) (by omega) (fun c => by exfalso; omega) (fun _ => ?_)
    refine jj_aload_n (pc := 49) kS_findMultiple_d49 rfl ?_
    refine jj_iload_n (pc := 50) kS_findMultiple_d50 rfl ?_
    refine jj_iload_n (pc := 51) kS_findMultiple_d51 rfl ?_
    refine jj_callV (pc := 52) (b := re) (As := [.int (nI (i)), .int (nI (t))]) kS_findMultiple_d52 (kvS_S_at hG) (kG_cl hG rfl) rfl hre rfl rfl rfl (Nat.le_of_ble_eq_true rfl) (Nat.le_of_ble_eq_true rfl) (jj_bare0 rfl) ?_
    refine r_at hG hR hs hi16 ht16 ?_
    show jj G kS_findMultiple (d + 4) Q rc rs 55 [some (.ref re), some (.int (nI (i))), some (.int (nI (t))), some (.int (nI (1))), some (.ref (wa (rp s ls ps t t))), none] [.ref (wa (rp s ls ps i t))] M
    refine jj_goto (pc := 55) (tgt := 64) kS_findMultiple_d55 (by decide) ?_
    refine jj_astore (pc := 64) kS_findMultiple_d64 (Nat.le_of_ble_eq_true rfl) ?_
    show jj G kS_findMultiple (d + 4) Q rc rs 66 [some (.ref re), some (.int (nI (i))), some (.int (nI (t))), some (.int (nI (1))), some (.ref (wa (rp s ls ps t t))), some (.ref (wa (rp s ls ps i t)))] [] M
    refine jj_aload_n (pc := 66) kS_findMultiple_d66 rfl ?_
    refine jj_getf (pc := 67) kS_findMultiple_d67 (kfS_desk hG) hre rfl ?_
    refine jj_getf (pc := 70) kS_findMultiple_d70 (kfS_K_divider hG) hdk0 rfl ?_
    refine jj_aload (pc := 73) kS_findMultiple_d73 rfl ?_
    refine jj_aload (pc := 75) kS_findMultiple_d75 rfl ?_
    refine jj_callV (pc := 77) (b := dv) (As := [.ref (wa (rp s ls ps t t)), .ref (wa (rp s ls ps i t))]) kS_findMultiple_d77 (kvS_D_divide hG) (kG_cl hG rfl) rfl hD0 rfl rfl rfl (Nat.le_of_ble_eq_true rfl) (Nat.le_of_ble_eq_true rfl) (jj_bare0 rfl) ?_
    refine d_divide hG hI hc0 hdv0 hdi (by omega) (by omega) (by omega) (by omega) hn0.nqr (by omega) (by omega) (by omega) (by omega) (by omega) (by rw [hcap 0 (by omega)]; exact (by omega)) (by rw [hcap r_a (by omega)]; exact (by omega)) (fun M1 hcx1 hdx1 hw1 => ?_)
    obtain ⟨V1, hV1⟩ : ∃ W, vup (vup V0 0 ((V0 (rp s ls ps t t)).tdiv (V0 (rp s ls ps i t)))) r_a ((V0 (rp s ls ps t t)).tmod (V0 (rp s ls ps i t))) = W := ⟨_, rfl⟩
    have hc1 : CW M1 wa la cap N V1 := by rw [← hV1]; exact hcx1
    have at1 : V1 0 = (V0 (rp s ls ps t t)).tdiv (V0 (rp s ls ps i t)) := by rw [← hV1, vup_ne _ _ hn0.nqr, vup_at]
    have rt1 : V1 r_a = (V0 (rp s ls ps t t)).tmod (V0 (rp s ls ps i t)) := by rw [← hV1, vup_at]
    have ot1 : ∀ p, p ≠ 0 → p ≠ r_a → V1 p = V0 p := fun p h1 h2 => by rw [← hV1, vup_ne _ _ h2, vup_ne _ _ h1]
    have hU1 := hU0.div hc0 hdx1 hw1
    have hf1 := hf0.trans (hw1.ef (eu := eu) (dv := dv))
    have q1_re := (hw1.ef (eu := eu) (dv := dv)).obj hc0 hU0 hre (by decide) (by decide) (by decide)
    have q1_dk := (hw1.ef (eu := eu) (dv := dv)).obj hc0 hU0 hdk0 (by decide) (by decide) (by decide)
    have hn1 := hU1.1
    have b_r1 := hn1.2.1
    have b_x1 := hn1.2.2.1
    have b_f1 := hn1.2.2.2.1
    have hdv1 := hU1.2.1
    obtain ⟨ea1, eb1, ec1, ed1, hE1⟩ := hU1.2.2.2
    have hD1 := hdv1.1
    show jj G kS_findMultiple (d + 4) Q rc rs 80 [some (.ref re), some (.int (nI (i))), some (.int (nI (t))), some (.int (nI (1))), some (.ref (wa (rp s ls ps t t))), some (.ref (wa (rp s ls ps i t)))] [] M1
    have lq : lc (V1 0) ≤ 64 := by rw [at1]; exact Nat.le_trans (lc_tdiv _ _) (by omega)
    have dvi : V0 (rp s ls ps i t) ∣ V0 (rp s ls ps t t) ↔ V1 r_a = 0 := by
      rw [rt1]
      constructor
      · intro h
        obtain ⟨y, hy⟩ := h
        rw [hy, Int.mul_tmod_right]
      · intro h
        have := Int.mul_tdiv_add_tmod (V0 (rp s ls ps t t)) (V0 (rp s ls ps i t))
        rw [h, Int.add_zero] at this
        exact ⟨_, this.symm⟩
    obtain ⟨Tn103, tn103, hTn103, _, _, hZn103⟩ := hc1 r_a (by omega)
    have eZn103 := hZn103.cnt
    subst eZn103
    have bZn103 := hc1.lc (p := r_a) (by omega)
    have bYn103 := hI.2.2 r_a (by omega)
    refine jj_aload_n (pc := 80) kS_findMultiple_d80 rfl ?_
    refine jj_getf (pc := 81) kS_findMultiple_d81 (kfS_desk hG) q1_re rfl ?_
    refine jj_getf (pc := 84) kS_findMultiple_d84 (kfS_K_divider hG) q1_dk rfl ?_
    refine jj_getf (pc := 87) kS_findMultiple_d87 (kfS_D_remainder hG) hD1 rfl ?_
    refine jj_getf (pc := 90) kS_findMultiple_d90 (kfS_W_count hG) hTn103 rfl ?_
    refine jn_if_le (pc := 93) (tgt := 98) kS_findMultiple_d93 (by decide) (by omega) (fun c2 => ?_) (fun c2 => ?_)
    · skip
      have hz : V1 r_a = 0 := lc_nil (by omega)
      have hex : V0 (rp s ls ps t t) = V1 0 * V0 (rp s ls ps i t) := by
        have := Int.mul_tdiv_add_tmod (V0 (rp s ls ps t t)) (V0 (rp s ls ps i t))
        rw [← rt1, hz, Int.add_zero, ← at1, Int.mul_comm] at this
        exact this.symm
      obtain ⟨T548_1, t548_1, hT548_1, _, _⟩ := hc1 548 (by omega)
      refine jj_aload_n (pc := 98) kS_findMultiple_d98 rfl ?_
      refine jj_getf (pc := 99) kS_findMultiple_d99 (kfS_firstFactor hG) q1_re rfl ?_
      refine jj_aload_n (pc := 102) kS_findMultiple_d102 rfl ?_
      refine jj_getf (pc := 103) kS_findMultiple_d103 (kfS_desk hG) q1_re rfl ?_
      refine jj_getf (pc := 106) kS_findMultiple_d106 (kfS_K_divider hG) q1_dk rfl ?_
      refine jj_getf (pc := 109) kS_findMultiple_d109 (kfS_D_quotient hG) hD1 rfl ?_
      refine jj_callV (pc := 112) (b := (wa 548)) (As := [.ref (wa 0)]) kS_findMultiple_d112 (kvS_W_copy hG) (kG_cl hG rfl) rfl hT548_1 rfl rfl rfl (Nat.le_of_ble_eq_true rfl) (Nat.le_of_ble_eq_true rfl) (jj_bare0 rfl) ?_
      refine w_copy hG hI hc1 (by omega : 548 < N) (by omega : 0 < N) (by rw [c548 548 (by omega) (by omega)]; exact lc_room (by omega)) (fun M2 hcx2 hw2  => ?_) 
      obtain ⟨V2, hV2⟩ : ∃ W, vup V1 548 (V1 0) = W := ⟨_, rfl⟩
      have hc2 : CW M2 wa la cap N V2 := by rw [← hV2]; exact hcx2
      have at2 : V2 548 = V1 0 := by rw [← hV2, vup_at]
      have ot2 : ∀ p, p ≠ 548 → V2 p = V1 p := fun p hp => by rw [← hV2, vup_ne _ _ hp]
      have hU2 := hU1.wt hc1 hdi (by omega) hw2
      have hf2 := hf1.trans (hw2.ef (by omega))
      have q2_re := (hw2.ef (eu := eu) (dv := dv) (hi := hi) (lo := lo) (by omega)).obj hc1 hU1 q1_re (by decide) (by decide) (by decide)
      have q2_dk := (hw2.ef (eu := eu) (dv := dv) (hi := hi) (lo := lo) (by omega)).obj hc1 hU1 q1_dk (by decide) (by decide) (by decide)
      have hn2 := hU2.1
      have b_r2 := hn2.2.1
      have b_x2 := hn2.2.2.1
      have b_f2 := hn2.2.2.2.1
      have hdv2 := hU2.2.1
      obtain ⟨ea2, eb2, ec2, ed2, hE2⟩ := hU2.2.2.2
      have hD2 := hdv2.1
      show jj G kS_findMultiple (d + 4) Q rc rs 115 [some (.ref re), some (.int (nI (i))), some (.int (nI (t))), some (.int (nI (1))), some (.ref (wa (rp s ls ps t t))), some (.ref (wa (rp s ls ps i t)))] [] M2
      have hS2a : KS M2 wa la cap N eu dv hi lo dk V2 := ⟨hc2, ⟨r_a, px_a, pf_a, py_a, po_a, ps_a, od_a, hU2⟩, q2_dk⟩
      have o2 : ∀ q, 10 ≤ q → q ≠ 548 → V2 q = V0 q := fun q h1 h2 => by rw [ot2 q h2, ot1 q (by omega) (by omega)]
      have hR2 := hR.ef hJ hf2
      refine jj_iload_n (pc := 115) kS_findMultiple_d115 rfl ?_
      refine jn_if_eq (pc := 116) (tgt := 125) kS_findMultiple_d116 (by decide) (by omega) (fun c => by exfalso; omega) (fun _ => ?_)
      refine jj_aload_n (pc := 119) kS_findMultiple_d119 rfl ?_
      refine jj_iload_n (pc := 120) kS_findMultiple_d120 rfl ?_
      refine jj_iload_n (pc := 121) kS_findMultiple_d121 rfl ?_
      refine jj_callV (pc := 122) (b := re) (As := [.int (nI (i)), .int (nI (t))]) kS_findMultiple_d122 (kvS_S_swapLines hG) (kG_cl hG rfl) rfl q2_re rfl rfl rfl (Nat.le_of_ble_eq_true rfl) (Nat.le_of_ble_eq_true rfl) (jj_bare0 rfl) ?_
      refine r_swapLines hG hK hS2a hJ hR2 hs hpl hi16 ht16 (fun M3 s3 hS3 hR3 e3 hx3 => ?_)
      show jj G kS_findMultiple (d + 4) Q rc rs 125 [some (.ref re), some (.int (nI (i))), some (.int (nI (t))), some (.int (nI (1))), some (.ref (wa (rp s ls ps t t))), some (.ref (wa (rp s ls ps i t)))] [] M3
      refine jn_iconst (pc := 125) 1 kS_findMultiple_d125 (by decide) ?_
      exact jj_iret (pc := 126) kS_findMultiple_d126 rfl (by rfl) (k1 M3 V2 s3 hS3 hR3 (hf2.efx.trans hx3) o2 (by rw [at2]; exact lq) (Or.inr ⟨by omega, by rw [at2]; exact hex, e3⟩))
    · skip
      refine jn_iconst (pc := 96) 0 kS_findMultiple_d96 (by decide) ?_
      have nd : ¬ V0 (rp s ls ps i t) ∣ V0 (rp s ls ps t t) := fun h => lc_pos (show 0 < lc (V1 r_a) by omega) (dvi.1 h)
      have nd2 : ¬ V0 (rp s ls ps t t) ∣ V0 (rp s ls ps i t) := fun h => by
          obtain ⟨y, hy⟩ := h
          have h1 : 0 < y := int_pos_of_mul ha (by rw [← hy]; exact hb)
          have h2 := Int.mul_le_mul_of_nonneg_left (show 1 ≤ y by omega) (Int.le_of_lt ha)
          rw [← hy, Int.mul_one] at h2
          exact nd ⟨1, by omega⟩
      exact jj_iret (pc := 97) kS_findMultiple_d97 rfl (by rfl) (k0 M1 V1 ⟨hc1, ⟨r_a, px_a, pf_a, py_a, po_a, ps_a, od_a, hU1⟩, q1_dk⟩ hf1 (fun q h => ot1 q (by omega) (by omega)) nd2 nd)
end S3
