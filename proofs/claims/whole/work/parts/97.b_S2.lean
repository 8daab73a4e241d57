/-! ===== Residues: subtractLine, findFactors, mixLines, findMultiple (printed by wip/gen/rS2.py) ===== -/
section S2
variable {G : jg} {d : Nat} {Q : jq} {rc rs : Nat} {M : mheap} {wa la cap : Nat → Nat} {N eu dv hi lo dk re rca ln pl ls ps : Nat} {s : Nat → Nat} {V : Nat → Int}
theorem r_subtractLine {i t f : Nat} (hG : kG G) (hK : KJI wa la cap N hi lo) (hS : KS M wa la cap N eu dv hi lo dk V) (hJ : QJ wa la cap N eu dv hi lo dk re rca) (hR : RST M wa re rca dk ln pl ls ps s) (hs : STP ls ps) (hpl : pl ≤ 16) (hi16 : i < 16) (ht16 : t < 16) (hit : i ≠ t) (hf : f ≤ pl) (hm : 0 < V 547) (hlm : lc (V 547) ≤ 63) (hl8 : lc (V 548) ≤ 127) (k : ∀ (M' : mheap) (V' : Nat → Int), KS M' wa la cap N eu dv hi lo dk V' → (∀ p, f ≤ p → p < pl → V' (rp s ls ps i p) = if V (rp s ls ps t p) = 0 then V (rp s ls ps i p) else (V (rp s ls ps i p) - V 548 * V (rp s ls ps t p)) % V 547) → (∀ q, 10 ≤ q → (∀ p, f ≤ p → p < pl → q ≠ (rp s ls ps i p)) → V' q = V q) → EF M M' wa la N eu dv hi lo → Q (.returned none) M' rc rs) : jj G kS_subtractLine (d + 5) Q rc rs 0 (jj_ent [.ref re, .int (nI i), .int (nI t), .int (nI f)] 5) [] M := by
  obtain ⟨hI, hN, hcap, hdi⟩ := id hK
  obtain ⟨h809, c547, c548, c553, f1, f2, n1, n2⟩ := id hJ
  have hsp := hR.2.2
  refine jj_iload_n (pc := 0) kS_subtractLine_d0 rfl ?_
  refine jj_istore (pc := 1) kS_subtractLine_d1 (Nat.le_of_ble_eq_true rfl) ?_
  show jj G kS_subtractLine (d + 5) Q rc rs 3 [some (.ref re), some (.int (nI (i))), some (.int (nI (t))), some (.int (nI (f))), some (.int (nI (f)))] [] M
  show jj G kS_subtractLine (d + 5) Q rc rs 3 [some (.ref re), some (.int (nI (i))), some (.int (nI (t))), some (.int (nI (f))), some (.int (nI (f)))] [] M
  have loop : ∀ mu x, pl = x + mu → f ≤ x → ∀ (M9 : mheap) (V9 : Nat → Int), KS M9 wa la cap N eu dv hi lo dk V9 → (∀ p, f ≤ p → p < x → V9 (rp s ls ps i p) = if V (rp s ls ps t p) = 0 then V (rp s ls ps i p) else (V (rp s ls ps i p) - V 548 * V (rp s ls ps t p)) % V 547) → (∀ q, 10 ≤ q → (∀ p, f ≤ p → p < x → q ≠ (rp s ls ps i p)) → V9 q = V q) → EF M M9 wa la N eu dv hi lo → jj G kS_subtractLine (d + 5) Q rc rs 3 [some (.ref re), some (.int (nI (i))), some (.int (nI (t))), some (.int (nI (f))), some (.int (nI (x)))] [] M9 := by
    intro mu
    induction mu with
    | zero =>
      intro x hx hfx M9 V9 hS9 e9 o9 f9
      have ex : pl = x := by omega
      subst ex
      have hre9 := (hR.ef hJ f9).1
      refine jj_iload (pc := 3) kS_subtractLine_d3 rfl ?_
      refine jj_aload_n (pc := 5) kS_subtractLine_d5 rfl ?_
      refine jj_getf (pc := 6) kS_subtractLine_d6 (kfS_places hG) hre9 rfl ?_
      refine jn_icmp_ge (pc := 9) (tgt := 95) kS_subtractLine_d9 (by decide) (by omega) (by omega) (fun _ => ?_) (fun c => by exfalso; omega)
      exact jj_vret (pc := 95) kS_subtractLine_d95 rfl (k M9 V9 hS9 e9 o9 f9)
    | succ mu ih =>
      intro x hx hfx M9 V9 hS9 e9 o9 f9
      have hR9 := hR.ef hJ f9
      have hre9 := hR9.1
      have b1 := hsp.b hs hi16 (show x < 16 by omega)
      have b2 := hsp.b hs ht16 (show x < 16 by omega)
      obtain ⟨hc0, ⟨r_b, px_b, pf_b, py_b, po_b, ps_b, od_b, hU0⟩, hdk0⟩ := id hS9
      have hf0 : EF M9 M9 wa la N eu dv hi lo := fun _ _ _ _ _ _ => rfl
      obtain ⟨V0, hV0⟩ : ∃ V0, V9 = V0 := ⟨_, rfl⟩
      rw [hV0] at hc0
      have hn0 := hU0.1
      have b_r0 := hn0.2.1
      have b_x0 := hn0.2.2.1
      have b_f0 := hn0.2.2.2.1
      have hdv0 := hU0.2.1
      obtain ⟨ea0, eb0, ec0, ed0, hE0⟩ := hU0.2.2.2
      have hD0 := hdv0.1
      rw [hV0] at e9 o9
      have vi : V0 (rp s ls ps i x) = V (rp s ls ps i x) := o9 _ (by omega) (fun p h1 h2 => hsp.ne hs hi16 (by omega) hi16 (by omega) (by omega))
      have vt : V0 (rp s ls ps t x) = V (rp s ls ps t x) := o9 _ (by omega) (fun p h1 h2 => hsp.ne hs ht16 (by omega) hi16 (by omega) (by omega))
      have v8 : V0 548 = V 548 := o9 _ (by omega) (fun p h1 h2 => by have := hsp.b hs hi16 (show p < 16 by omega); omega)
      have v7 : V0 547 = V 547 := o9 _ (by omega) (fun p h1 h2 => by have := hsp.b hs hi16 (show p < 16 by omega); omega)
      have l1 : lc (V0 (rp s ls ps i x)) ≤ 64 := by have := hc0.lc (p := (rp s ls ps i x)) (by omega); rw [c553 _ b1.1 b1.2] at this; exact this
      have l2 : lc (V0 (rp s ls ps t x)) ≤ 64 := by have := hc0.lc (p := (rp s ls ps t x)) (by omega); rw [c553 _ b2.1 b2.2] at this; exact this
      have l8 : lc (V0 548) ≤ 127 := by rw [v8]; exact hl8
      have m1 := lc_mul (V0 548) (V0 (rp s ls ps t x))
      have c9 : cap (rp s ls ps i x) = 64 := c553 _ b1.1 b1.2
      show jj G kS_subtractLine (d + 5) Q rc rs 3 [some (.ref re), some (.int (nI (i))), some (.int (nI (t))), some (.int (nI (f))), some (.int (nI (x)))] [] M9
      refine jj_iload (pc := 3) kS_subtractLine_d3 rfl ?_
      refine jj_aload_n (pc := 5) kS_subtractLine_d5 rfl ?_
      refine jj_getf (pc := 6) kS_subtractLine_d6 (kfS_places hG) hre9 rfl ?_
      refine jn_icmp_ge (pc := 9) (tgt := 95) kS_subtractLine_d9 (by decide) (by omega) (by omega) (fun c => by exfalso; omega) (fun _ => ?_)
      refine jj_aload_n (pc := 12) kS_subtractLine_d12 rfl ?_
      refine jj_iload_n (pc := 13) kS_subtractLine_d13 rfl ?_
      refine jj_iload (pc := 14) kS_subtractLine_d14 rfl ?_
      refine jj_callV (pc := 16) (b := re) (As := [.int (nI (t)), .int (nI (x))]) kS_subtractLine_d16 (kvS_S_at hG) (kG_cl hG rfl) rfl hre9 rfl rfl rfl (Nat.le_of_ble_eq_true rfl) (Nat.le_of_ble_eq_true rfl) (jj_bare0 rfl) ?_
      refine r_at hG hR9 hs ht16 (by omega) ?_
      show jj G kS_subtractLine (d + 5) Q rc rs 19 [some (.ref re), some (.int (nI (i))), some (.int (nI (t))), some (.int (nI (f))), some (.int (nI (x)))] [.ref (wa (rp s ls ps t x))] M9
      obtain ⟨Tn101, tn101, hTn101, _, _, hZn101⟩ := hc0 (rp s ls ps t x) (by omega)
      have eZn101 := hZn101.cnt
      subst eZn101
      have bZn101 := hc0.lc (p := (rp s ls ps t x)) (by omega)
      have bYn101 := hI.2.2 (rp s ls ps t x) (by omega)
      refine jj_getf (pc := 19) kS_subtractLine_d19 (kfS_W_count hG) hTn101 rfl ?_
      refine jn_if_le (pc := 22) (tgt := 89) kS_subtractLine_d22 (by decide) (by omega) (fun cz => ?_) (fun cz => ?_)
      · skip
        refine jn_iinc (pc := 89) (x + 1) kS_subtractLine_d89 rfl (nI_1 _) ?_
        refine jj_goto (pc := 92) (tgt := 3) kS_subtractLine_d92 (by decide) ?_
        show jj G kS_subtractLine (d + 5) Q rc rs 3 [some (.ref re), some (.int (nI (i))), some (.int (nI (t))), some (.int (nI (f))), some (.int (nI (x + 1)))] [] M9
        have z0 : V (rp s ls ps t x) = 0 := by rw [← vt]; exact lc_nil (by omega)
        refine ih (x + 1) (by omega) (by omega) M9 V0 (by rw [← hV0]; exact hS9) (fun p h1 h2 => ?_) (fun q h1 h2 => o9 q h1 (fun p h3 h4 => h2 p h3 (by omega))) f9
        by_cases e : p = x
        · rw [e, if_pos z0, vi]
        · exact e9 p h1 (by omega)
      · skip
        have z0 : V (rp s ls ps t x) ≠ 0 := by rw [← vt]; exact lc_pos (by omega)
        refine jj_aload_n (pc := 25) kS_subtractLine_d25 rfl ?_
        refine jj_getf (pc := 26) kS_subtractLine_d26 (kfS_desk hG) hre9 rfl ?_
        refine jj_getf (pc := 29) kS_subtractLine_d29 (kfS_K_left hG) hdk0 rfl ?_
        refine jj_aload_n (pc := 32) kS_subtractLine_d32 rfl ?_
        refine jj_getf (pc := 33) kS_subtractLine_d33 (kfS_firstFactor hG) hre9 rfl ?_
        refine jj_aload_n (pc := 36) kS_subtractLine_d36 rfl ?_
        refine jj_iload_n (pc := 37) kS_subtractLine_d37 rfl ?_
        refine jj_iload (pc := 38) kS_subtractLine_d38 rfl ?_
        refine jj_callV (pc := 40) (b := re) (As := [.int (nI (t)), .int (nI (x))]) kS_subtractLine_d40 (kvS_S_at hG) (kG_cl hG rfl) rfl hre9 rfl rfl rfl (Nat.le_of_ble_eq_true rfl) (Nat.le_of_ble_eq_true rfl) (jj_bare0 rfl) ?_
        refine r_at hG hR9 hs ht16 (by omega) ?_
        show jj G kS_subtractLine (d + 5) Q rc rs 43 [some (.ref re), some (.int (nI (i))), some (.int (nI (t))), some (.int (nI (f))), some (.int (nI (x)))] [.ref (wa (rp s ls ps t x)), .ref (wa 548), .ref (wa 7)] M9
        obtain ⟨T7_0, t7_0, hT7_0, _, _⟩ := hc0 7 (by omega)
        refine jj_callV (pc := 43) (b := (wa 7)) (As := [.ref (wa 548), .ref (wa (rp s ls ps t x))]) kS_subtractLine_d43 (kvS_W_product hG) (kG_cl hG rfl) rfl hT7_0 rfl rfl rfl (Nat.le_of_ble_eq_true rfl) (Nat.le_of_ble_eq_true rfl) (jj_bare0 rfl) ?_
        refine w_product hG hI hc0 (by omega : 7 < N) (by omega) (by omega) (by omega) (by omega) (by rw [hcap 7 (by omega)]; omega) (fun M1 hcx1 hw1  => ?_) 
        obtain ⟨V1, hV1⟩ : ∃ W, vup V0 7 (V0 548 * V0 (rp s ls ps t x)) = W := ⟨_, rfl⟩
        have hc1 : CW M1 wa la cap N V1 := by rw [← hV1]; exact hcx1
        have at1 : V1 7 = V0 548 * V0 (rp s ls ps t x) := by rw [← hV1, vup_at]
        have ot1 : ∀ p, p ≠ 7 → V1 p = V0 p := fun p hp => by rw [← hV1, vup_ne _ _ hp]
        have hU1 := hU0.wt hc0 hdi (by omega) hw1
        have hf1 := hf0.trans (hw1.ef (by omega))
        have q1_re := (hw1.ef (eu := eu) (dv := dv) (hi := hi) (lo := lo) (by omega)).obj hc0 hU0 hre9 (by decide) (by decide) (by decide)
        have q1_dk := (hw1.ef (eu := eu) (dv := dv) (hi := hi) (lo := lo) (by omega)).obj hc0 hU0 hdk0 (by decide) (by decide) (by decide)
        have hn1 := hU1.1
        have b_r1 := hn1.2.1
        have b_x1 := hn1.2.2.1
        have b_f1 := hn1.2.2.2.1
        have hdv1 := hU1.2.1
        obtain ⟨ea1, eb1, ec1, ed1, hE1⟩ := hU1.2.2.2
        have hD1 := hdv1.1
        show jj G kS_subtractLine (d + 5) Q rc rs 46 [some (.ref re), some (.int (nI (i))), some (.int (nI (t))), some (.int (nI (f))), some (.int (nI (x)))] [] M1
        have hR1 := hR9.ef hJ hf1
        have w1 : V1 (rp s ls ps i x) = V0 (rp s ls ps i x) := ot1 _ (by omega)
        have l7 : lc (V1 7) ≤ 191 := by rw [at1]; omega
        refine jj_aload_n (pc := 46) kS_subtractLine_d46 rfl ?_
        refine jj_getf (pc := 47) kS_subtractLine_d47 (kfS_desk hG) q1_re rfl ?_
        refine jj_getf (pc := 50) kS_subtractLine_d50 (kfS_K_sum hG) q1_dk rfl ?_
        refine jj_aload_n (pc := 53) kS_subtractLine_d53 rfl ?_
        refine jj_iload_n (pc := 54) kS_subtractLine_d54 rfl ?_
        refine jj_iload (pc := 55) kS_subtractLine_d55 rfl ?_
        refine jj_callV (pc := 57) (b := re) (As := [.int (nI (i)), .int (nI (x))]) kS_subtractLine_d57 (kvS_S_at hG) (kG_cl hG rfl) rfl q1_re rfl rfl rfl (Nat.le_of_ble_eq_true rfl) (Nat.le_of_ble_eq_true rfl) (jj_bare0 rfl) ?_
        refine r_at hG hR1 hs hi16 (by omega) ?_
        show jj G kS_subtractLine (d + 5) Q rc rs 60 [some (.ref re), some (.int (nI (i))), some (.int (nI (t))), some (.int (nI (f))), some (.int (nI (x)))] [.ref (wa (rp s ls ps i x)), .ref (wa 9)] M1
        obtain ⟨T9_1, t9_1, hT9_1, _, _⟩ := hc1 9 (by omega)
        refine jj_aload_n (pc := 60) kS_subtractLine_d60 rfl ?_
        refine jj_getf (pc := 61) kS_subtractLine_d61 (kfS_desk hG) q1_re rfl ?_
        refine jj_getf (pc := 64) kS_subtractLine_d64 (kfS_K_left hG) q1_dk rfl ?_
        refine jn_iconst (pc := 67) 1 kS_subtractLine_d67 (by decide) ?_
        refine jn_top (.int (sg (-1))) (congrArg Value.int (by decide)) ?_
        refine jj_callV (pc := 68) (b := (wa 9)) (As := [.ref (wa (rp s ls ps i x)), .ref (wa 7), .int (sg (-1))]) kS_subtractLine_d68 (kvS_W_sum hG) (kG_cl hG rfl) rfl hT9_1 rfl rfl rfl (Nat.le_of_ble_eq_true rfl) (Nat.le_of_ble_eq_true rfl) (jj_bare0 rfl) ?_
        refine w_sum hG hI hc1 (u := (rp s ls ps i x)) (v := 7) (ls := -1) (by omega : 9 < N) (by omega) (by omega) (by rw [hcap 9 (by omega), w1]; omega) (by rw [hcap 9 (by omega)]; omega) (by rw [if_pos (by decide)]) (fun M2 hcx2 hw2  => ?_) 
        obtain ⟨V2, hV2⟩ : ∃ W, vup V1 9 (V1 (rp s ls ps i x) - V1 7) = W := ⟨_, rfl⟩
        have hc2 : CW M2 wa la cap N V2 := by rw [← hV2]; exact hcx2
        have at2 : V2 9 = V1 (rp s ls ps i x) - V1 7 := by rw [← hV2, vup_at]
        have ot2 : ∀ p, p ≠ 9 → V2 p = V1 p := fun p hp => by rw [← hV2, vup_ne _ _ hp]
        have hU2 := hU1.wt hc1 hdi (by omega) hw2
        have hf2 := hf1.trans (hw2.ef (by omega))
        have q2_re := (hw2.ef (eu := eu) (dv := dv) (hi := hi) (lo := lo) (by omega)).obj hc1 hU1 q1_re (by decide) (by decide) (by decide)
        have q2_dk := (hw2.ef (eu := eu) (dv := dv) (hi := hi) (lo := lo) (by omega)).obj hc1 hU1 q1_dk (by decide) (by decide) (by decide)
        have hn2 := hU2.1
        have b_r2 := hn2.2.1
        have b_x2 := hn2.2.2.1
        have b_f2 := hn2.2.2.2.1
        have hdv2 := hU2.2.1
        obtain ⟨ea2, eb2, ec2, ed2, hE2⟩ := hU2.2.2.2
        have hD2 := hdv2.1
        show jj G kS_subtractLine (d + 5) Q rc rs 71 [some (.ref re), some (.int (nI (i))), some (.int (nI (t))), some (.int (nI (f))), some (.int (nI (x)))] [] M2
        have l9 : lc (V2 9) ≤ 252 := by rw [at2, w1]; exact Nat.le_trans (lc_sub (n := 191) (by omega) l7) (by omega)
        have hR2 := hR9.ef hJ hf2
        have w547 : V2 547 = V 547 := by rw [ot2 _ (by omega), ot1 _ (by omega)]; exact v7
        have hS2a : KS M2 wa la cap N eu dv hi lo dk V2 := ⟨hc2, ⟨r_b, px_b, pf_b, py_b, po_b, ps_b, od_b, hU2⟩, q2_dk⟩
        refine jj_aload_n (pc := 71) kS_subtractLine_d71 rfl ?_
        refine jj_aload_n (pc := 72) kS_subtractLine_d72 rfl ?_
        refine jj_getf (pc := 73) kS_subtractLine_d73 (kfS_desk hG) q2_re rfl ?_
        refine jj_getf (pc := 76) kS_subtractLine_d76 (kfS_K_sum hG) q2_dk rfl ?_
        refine jj_aload_n (pc := 79) kS_subtractLine_d79 rfl ?_
        refine jj_iload_n (pc := 80) kS_subtractLine_d80 rfl ?_
        refine jj_iload (pc := 81) kS_subtractLine_d81 rfl ?_
        refine jj_callV (pc := 83) (b := re) (As := [.int (nI (i)), .int (nI (x))]) kS_subtractLine_d83 (kvS_S_at hG) (kG_cl hG rfl) rfl q2_re rfl rfl rfl (Nat.le_of_ble_eq_true rfl) (Nat.le_of_ble_eq_true rfl) (jj_bare0 rfl) ?_
        refine r_at hG hR2 hs hi16 (by omega) ?_
        show jj G kS_subtractLine (d + 5) Q rc rs 86 [some (.ref re), some (.int (nI (i))), some (.int (nI (t))), some (.int (nI (f))), some (.int (nI (x)))] [.ref (wa (rp s ls ps i x)), .ref (wa 9), .ref re] M2
        refine jj_callV (pc := 86) (b := re) (As := [.ref (wa 9), .ref (wa (rp s ls ps i x))]) kS_subtractLine_d86 (kvS_S_keep hG) (kG_cl hG rfl) rfl q2_re rfl rfl rfl (Nat.le_of_ble_eq_true rfl) (Nat.le_of_ble_eq_true rfl) (jj_bare0 rfl) ?_
        refine r_keep hG hK hS2a hJ hR2 (u := 9) (t := (rp s ls ps i x)) (by omega) (by omega) (by omega) (by omega) (by omega) (by omega) l9 (by rw [w547]; exact hm) (by rw [w547]; exact hlm) (fun M3 V3 hS3 at3 ot3 hw3 => ?_) 
        obtain ⟨hc3, ⟨r_3, px_3, pf_3, py_3, po_3, ps_3, od_3, hU3⟩, _⟩ := id hS3
        have hf3 := hf2.trans hw3
        have q3_re := hw3.obj hc2 hU2 q2_re (by decide) (by decide) (by decide)
        have q3_dk := hw3.obj hc2 hU2 q2_dk (by decide) (by decide) (by decide)
        have hn3 := hU3.1
        have b_r3 := hn3.2.1
        have b_x3 := hn3.2.2.1
        have b_f3 := hn3.2.2.2.1
        have hdv3 := hU3.2.1
        obtain ⟨ea3, eb3, ec3, ed3, hE3⟩ := hU3.2.2.2
        have hD3 := hdv3.1
        show jj G kS_subtractLine (d + 5) Q rc rs 89 [some (.ref re), some (.int (nI (i))), some (.int (nI (t))), some (.int (nI (f))), some (.int (nI (x)))] [] M3
        refine jn_iinc (pc := 89) (x + 1) kS_subtractLine_d89 rfl (nI_1 _) ?_
        refine jj_goto (pc := 92) (tgt := 3) kS_subtractLine_d92 (by decide) ?_
        show jj G kS_subtractLine (d + 5) Q rc rs 3 [some (.ref re), some (.int (nI (i))), some (.int (nI (t))), some (.int (nI (f))), some (.int (nI (x + 1)))] [] M3
        have v3 : ∀ q, 10 ≤ q → q ≠ (rp s ls ps i x) → V3 q = V0 q := fun q h1 h2 => by rw [ot3 q (by omega) h2, ot2 q (by omega), ot1 q (by omega)]
        refine ih (x + 1) (by omega) (by omega) M3 V3 hS3 (fun p h1 h2 => ?_) (fun q h1 h2 => by rw [v3 q h1 (h2 x hfx (by omega))]; exact o9 q h1 (fun p h3 h4 => h2 p h3 (by omega))) (f9.trans hf3)
        by_cases e : p = x
        · rw [e, if_neg z0, at3, w547, at2, w1, at1, vi, v8, vt]
        · have bp := hsp.b hs hi16 (show p < 16 by omega)
          rw [v3 _ (by omega) (hsp.ne hs hi16 (by omega) hi16 (by omega) (by omega))]
          exact e9 p h1 (by omega)
  exact loop (pl - f) f (by omega) (Nat.le_refl _) M V hS (fun p h1 h2 => by omega) (fun _ _ _ => rfl) (fun _ _ _ _ _ _ => rfl)
theorem r_mixLines {i t : Nat} (hG : kG G) (hK : KJI wa la cap N hi lo) (hS : KS M wa la cap N eu dv hi lo dk V) (hJ : QJ wa la cap N eu dv hi lo dk re rca) (hR : RST M wa re rca dk ln pl ls ps s) (hs : STP ls ps) (hpl : pl ≤ 16) (hi16 : i < 16) (ht16 : t < 16) (hit : i ≠ t) (htp : t ≤ pl) (hm : 0 < V 547) (hlm : lc (V 547) ≤ 63) (hl8 : ∀ q, 548 ≤ q → q < 552 → lc (V q) ≤ 130) (k : ∀ (M' : mheap) (V' : Nat → Int), KS M' wa la cap N eu dv hi lo dk V' → (∀ p, t ≤ p → p < pl → V' (rp s ls ps t p) = (V 548 * V (rp s ls ps t p) + V 549 * V (rp s ls ps i p)) % V 547 ∧ V' (rp s ls ps i p) = (V 550 * V (rp s ls ps i p) - V 551 * V (rp s ls ps t p)) % V 547) → (∀ q, 10 ≤ q → q ≠ 552 → (∀ p, t ≤ p → p < pl → q ≠ (rp s ls ps i p) ∧ q ≠ (rp s ls ps t p)) → V' q = V q) → EF M M' wa la N eu dv hi lo → Q (.returned none) M' rc rs) : jj G kS_mixLines (d + 5) Q rc rs 0 (jj_ent [.ref re, .int (nI i), .int (nI t)] 4) [] M := by
  obtain ⟨hI, hN, hcap, hdi⟩ := id hK
  obtain ⟨h809, c547, c548, c553, f1, f2, n1, n2⟩ := id hJ
  have hsp := hR.2.2
  refine jj_iload_n (pc := 0) kS_mixLines_d0 rfl ?_
  refine jj_istore_n (pc := 1) kS_mixLines_d1 (Nat.le_of_ble_eq_true rfl) ?_
  show jj G kS_mixLines (d + 5) Q rc rs 2 [some (.ref re), some (.int (nI (i))), some (.int (nI (t))), some (.int (nI (t)))] [] M
  show jj G kS_mixLines (d + 5) Q rc rs 2 [some (.ref re), some (.int (nI (i))), some (.int (nI (t))), some (.int (nI (t)))] [] M
  have loop : ∀ mu x, pl = x + mu → t ≤ x → ∀ (M9 : mheap) (V9 : Nat → Int), KS M9 wa la cap N eu dv hi lo dk V9 → (∀ p, t ≤ p → p < x → V9 (rp s ls ps t p) = (V 548 * V (rp s ls ps t p) + V 549 * V (rp s ls ps i p)) % V 547 ∧ V9 (rp s ls ps i p) = (V 550 * V (rp s ls ps i p) - V 551 * V (rp s ls ps t p)) % V 547) → (∀ q, 10 ≤ q → q ≠ 552 → (∀ p, t ≤ p → p < x → q ≠ (rp s ls ps i p) ∧ q ≠ (rp s ls ps t p)) → V9 q = V q) → EF M M9 wa la N eu dv hi lo → jj G kS_mixLines (d + 5) Q rc rs 2 [some (.ref re), some (.int (nI (i))), some (.int (nI (t))), some (.int (nI (x)))] [] M9 := by
    intro mu
    induction mu with
    | zero =>
      intro x hx hfx M9 V9 hS9 e9 o9 f9
      have ex : pl = x := by omega
      subst ex
      have hre9 := (hR.ef hJ f9).1
      refine jj_iload_n (pc := 2) kS_mixLines_d2 rfl ?_
      refine jj_aload_n (pc := 3) kS_mixLines_d3 rfl ?_
      refine jj_getf (pc := 4) kS_mixLines_d4 (kfS_places hG) hre9 rfl ?_
      refine jn_icmp_ge (pc := 7) (tgt := 141) kS_mixLines_d7 (by decide) (by omega) (by omega) (fun _ => ?_) (fun c => by exfalso; omega)
      exact jj_vret (pc := 141) kS_mixLines_d141 rfl (k M9 V9 hS9 e9 o9 f9)
    | succ mu ih =>
      intro x hx hfx M9 V9 hS9 e9 o9 f9
      have hR9 := hR.ef hJ f9
      have hre9 := hR9.1
      have b1 := hsp.b hs hi16 (show x < 16 by omega)
      have b2 := hsp.b hs ht16 (show x < 16 by omega)
      have nit : (rp s ls ps i x) ≠ (rp s ls ps t x) := hsp.ne hs hi16 (by omega) ht16 (by omega) (by omega)
      obtain ⟨hc0, ⟨r_b, px_b, pf_b, py_b, po_b, ps_b, od_b, hU0⟩, hdk0⟩ := id hS9
      have hf0 : EF M9 M9 wa la N eu dv hi lo := fun _ _ _ _ _ _ => rfl
      obtain ⟨V0, hV0⟩ : ∃ V0, V9 = V0 := ⟨_, rfl⟩
      rw [hV0] at hc0
      have hn0 := hU0.1
      have b_r0 := hn0.2.1
      have b_x0 := hn0.2.2.1
      have b_f0 := hn0.2.2.2.1
      have hdv0 := hU0.2.1
      obtain ⟨ea0, eb0, ec0, ed0, hE0⟩ := hU0.2.2.2
      have hD0 := hdv0.1
      rw [hV0] at e9 o9
      have vi : V0 (rp s ls ps i x) = V (rp s ls ps i x) := o9 _ (by omega) (by omega) (fun p h1 h2 => ⟨hsp.ne hs hi16 (by omega) hi16 (by omega) (by omega), hsp.ne hs hi16 (by omega) ht16 (by omega) (by omega)⟩)
      have vt : V0 (rp s ls ps t x) = V (rp s ls ps t x) := o9 _ (by omega) (by omega) (fun p h1 h2 => ⟨hsp.ne hs ht16 (by omega) hi16 (by omega) (by omega), hsp.ne hs ht16 (by omega) ht16 (by omega) (by omega)⟩)
      have vq : ∀ q, 547 ≤ q → q < 552 → V0 q = V q := fun q h1 h2 => o9 _ (by omega) (by omega) (fun p h3 h4 => by have a := hsp.b hs hi16 (show p < 16 by omega); have b := hsp.b hs ht16 (show p < 16 by omega); omega)
      have l1 : lc (V0 (rp s ls ps i x)) ≤ 64 := by have := hc0.lc (p := (rp s ls ps i x)) (by omega); rw [c553 _ b1.1 b1.2] at this; exact this
      have l2 : lc (V0 (rp s ls ps t x)) ≤ 64 := by have := hc0.lc (p := (rp s ls ps t x)) (by omega); rw [c553 _ b2.1 b2.2] at this; exact this
      have l548 : lc (V0 548) ≤ 130 := by rw [vq 548 (by omega) (by omega)]; exact hl8 _ (by omega) (by omega)
      have l549 : lc (V0 549) ≤ 130 := by rw [vq 549 (by omega) (by omega)]; exact hl8 _ (by omega) (by omega)
      have l550 : lc (V0 550) ≤ 130 := by rw [vq 550 (by omega) (by omega)]; exact hl8 _ (by omega) (by omega)
      have l551 : lc (V0 551) ≤ 130 := by rw [vq 551 (by omega) (by omega)]; exact hl8 _ (by omega) (by omega)
      have m1 := lc_mul (V0 548) (V0 (rp s ls ps t x))
      have m2 := lc_mul (V0 549) (V0 (rp s ls ps i x))
      have m3 := lc_mul (V0 550) (V0 (rp s ls ps i x))
      have m4 := lc_mul (V0 551) (V0 (rp s ls ps t x))
      have ci : cap (rp s ls ps i x) = 64 := c553 _ b1.1 b1.2
      have ct : cap (rp s ls ps t x) = 64 := c553 _ b2.1 b2.2
      show jj G kS_mixLines (d + 5) Q rc rs 2 [some (.ref re), some (.int (nI (i))), some (.int (nI (t))), some (.int (nI (x)))] [] M9
      refine jj_iload_n (pc := 2) kS_mixLines_d2 rfl ?_
      refine jj_aload_n (pc := 3) kS_mixLines_d3 rfl ?_
      refine jj_getf (pc := 4) kS_mixLines_d4 (kfS_places hG) hre9 rfl ?_
      refine jn_icmp_ge (pc := 7) (tgt := 141) kS_mixLines_d7 (by decide) (by omega) (by omega) (fun c => by exfalso; omega) (fun _ => ?_)
      have main : jj G kS_mixLines (d + 5) Q rc rs 34 [some (.ref re), some (.int (nI (i))), some (.int (nI (t))), some (.int (nI (x)))] [] M9 := by
        refine jj_aload_n (pc := 34) kS_mixLines_d34 rfl ?_
        refine jj_getf (pc := 35) kS_mixLines_d35 (kfS_desk hG) hre9 rfl ?_
        refine jj_aload_n (pc := 38) kS_mixLines_d38 rfl ?_
        refine jj_getf (pc := 39) kS_mixLines_d39 (kfS_firstFactor hG) hre9 rfl ?_
        refine jj_aload_n (pc := 42) kS_mixLines_d42 rfl ?_
        refine jj_iload_n (pc := 43) kS_mixLines_d43 rfl ?_
        refine jj_iload_n (pc := 44) kS_mixLines_d44 rfl ?_
        refine jj_callV (pc := 45) (b := re) (As := [.int (nI (t)), .int (nI (x))]) kS_mixLines_d45 (kvS_S_at hG) (kG_cl hG rfl) rfl hre9 rfl rfl rfl (Nat.le_of_ble_eq_true rfl) (Nat.le_of_ble_eq_true rfl) (jj_bare0 rfl) ?_
        refine r_at hG hR9 hs ht16 (by omega) ?_
        show jj G kS_mixLines (d + 5) Q rc rs 48 [some (.ref re), some (.int (nI (i))), some (.int (nI (t))), some (.int (nI (x)))] [.ref (wa (rp s ls ps t x)), .ref (wa 548), .ref dk] M9
        refine jj_aload_n (pc := 48) kS_mixLines_d48 rfl ?_
        refine jj_getf (pc := 49) kS_mixLines_d49 (kfS_secondFactor hG) hre9 rfl ?_
        refine jj_aload_n (pc := 52) kS_mixLines_d52 rfl ?_
        refine jj_iload_n (pc := 53) kS_mixLines_d53 rfl ?_
        refine jj_iload_n (pc := 54) kS_mixLines_d54 rfl ?_
        refine jj_callV (pc := 55) (b := re) (As := [.int (nI (i)), .int (nI (x))]) kS_mixLines_d55 (kvS_S_at hG) (kG_cl hG rfl) rfl hre9 rfl rfl rfl (Nat.le_of_ble_eq_true rfl) (Nat.le_of_ble_eq_true rfl) (jj_bare0 rfl) ?_
        refine r_at hG hR9 hs hi16 (by omega) ?_
        show jj G kS_mixLines (d + 5) Q rc rs 58 [some (.ref re), some (.int (nI (i))), some (.int (nI (t))), some (.int (nI (x)))] [.ref (wa (rp s ls ps i x)), .ref (wa 549), .ref (wa (rp s ls ps t x)), .ref (wa 548), .ref dk] M9
        refine jn_iconst (pc := 58) 0 kS_mixLines_d58 (by decide) ?_
        refine jn_top (.int (sg 0)) (congrArg Value.int (by decide)) ?_
        have hSk0 : KS M9 wa la cap N eu dv hi lo dk V0 := ⟨hc0, ⟨r_b, px_b, pf_b, py_b, po_b, ps_b, od_b, hU0⟩, hdk0⟩
        refine jj_callV (pc := 59) (b := dk) (As := [.ref (wa 548), .ref (wa (rp s ls ps t x)), .ref (wa 549), .ref (wa (rp s ls ps i x)), .int (sg 0)]) kS_mixLines_d59 (kvS_K_cross hG) (kG_cl hG rfl) rfl hdk0 rfl rfl rfl (Nat.le_of_ble_eq_true rfl) (Nat.le_of_ble_eq_true rfl) (jj_bare0 rfl) ?_
        refine k_cross hG hK hSk0 (ls := 0) (z := V0 548 * V0 (rp s ls ps t x) + V0 549 * V0 (rp s ls ps i x)) (a := 548) (x := (rp s ls ps t x)) (b := 549) (y := (rp s ls ps i x)) (by omega) (by omega) (by omega) (by omega) (by omega) (by omega) (by omega) (by omega) (by omega) (by omega) (by omega) (by omega) (by omega) (by omega) (by rw [if_neg (by decide)]) (fun M1 hSx1 hw1 => ?_)
        obtain ⟨V1, hV1⟩ : ∃ W, vup (vup (vup V0 7 (V0 548 * V0 (rp s ls ps t x))) 8 (V0 549 * V0 (rp s ls ps i x))) 9 (V0 548 * V0 (rp s ls ps t x) + V0 549 * V0 (rp s ls ps i x)) = W := ⟨_, rfl⟩
        have hS1 : KS M1 wa la cap N eu dv hi lo dk V1 := by rw [← hV1]; exact hSx1
        have at1 : V1 9 = V0 548 * V0 (rp s ls ps t x) + V0 549 * V0 (rp s ls ps i x) := by rw [← hV1, vup_at]
        have ot1 : ∀ p, p ≠ 7 → p ≠ 8 → p ≠ 9 → V1 p = V0 p := fun p h1 h2 h3 => by rw [← hV1, vup_ne _ _ h3, vup_ne _ _ h2, vup_ne _ _ h1]
        obtain ⟨hc1, ⟨r_1, px_1, pf_1, py_1, po_1, ps_1, od_1, hU1⟩, _⟩ := id hS1
        have hf1 := hf0.trans hw1
        have q1_re := hw1.obj hc0 hU0 hre9 (by decide) (by decide) (by decide)
        have q1_dk := hw1.obj hc0 hU0 hdk0 (by decide) (by decide) (by decide)
        have hn1 := hU1.1
        have b_r1 := hn1.2.1
        have b_x1 := hn1.2.2.1
        have b_f1 := hn1.2.2.2.1
        have hdv1 := hU1.2.1
        obtain ⟨ea1, eb1, ec1, ed1, hE1⟩ := hU1.2.2.2
        have hD1 := hdv1.1
        show jj G kS_mixLines (d + 5) Q rc rs 62 [some (.ref re), some (.int (nI (i))), some (.int (nI (t))), some (.int (nI (x)))] [] M1
        have l91 : lc (V1 9) ≤ 252 := by rw [at1]; exact Nat.le_trans (lc_add (n := 194) (by omega) (by omega)) (by omega)
        obtain ⟨T552_1, t552_1, hT552_1, _, _⟩ := hc1 552 (by omega)
        refine jj_aload_n (pc := 62) kS_mixLines_d62 rfl ?_
        refine jj_getf (pc := 63) kS_mixLines_d63 (kfS_spare hG) q1_re rfl ?_
        refine jj_aload_n (pc := 66) kS_mixLines_d66 rfl ?_
        refine jj_getf (pc := 67) kS_mixLines_d67 (kfS_desk hG) q1_re rfl ?_
        refine jj_getf (pc := 70) kS_mixLines_d70 (kfS_K_sum hG) q1_dk rfl ?_
        refine jj_callV (pc := 73) (b := (wa 552)) (As := [.ref (wa 9)]) kS_mixLines_d73 (kvS_W_copy hG) (kG_cl hG rfl) rfl hT552_1 rfl rfl rfl (Nat.le_of_ble_eq_true rfl) (Nat.le_of_ble_eq_true rfl) (jj_bare0 rfl) ?_
        refine w_copy hG hI hc1 (by omega : 552 < N) (by omega : 9 < N) (by rw [c548 552 (by omega) (by omega)]; exact lc_room l91) (fun M2 hcx2 hw2  => ?_) 
        obtain ⟨V2, hV2⟩ : ∃ W, vup V1 552 (V1 9) = W := ⟨_, rfl⟩
        have hc2 : CW M2 wa la cap N V2 := by rw [← hV2]; exact hcx2
        have at2 : V2 552 = V1 9 := by rw [← hV2, vup_at]
        have ot2 : ∀ p, p ≠ 552 → V2 p = V1 p := fun p hp => by rw [← hV2, vup_ne _ _ hp]
        have hU2 := hU1.wt hc1 hdi (by omega) hw2
        have hf2 := hf1.trans (hw2.ef (by omega))
        have q2_re := (hw2.ef (eu := eu) (dv := dv) (hi := hi) (lo := lo) (by omega)).obj hc1 hU1 q1_re (by decide) (by decide) (by decide)
        have q2_dk := (hw2.ef (eu := eu) (dv := dv) (hi := hi) (lo := lo) (by omega)).obj hc1 hU1 q1_dk (by decide) (by decide) (by decide)
        have hn2 := hU2.1
        have b_r2 := hn2.2.1
        have b_x2 := hn2.2.2.1
        have b_f2 := hn2.2.2.2.1
        have hdv2 := hU2.2.1
        obtain ⟨ea2, eb2, ec2, ed2, hE2⟩ := hU2.2.2.2
        have hD2 := hdv2.1
        show jj G kS_mixLines (d + 5) Q rc rs 76 [some (.ref re), some (.int (nI (i))), some (.int (nI (t))), some (.int (nI (x)))] [] M2
        have hR2 := hR9.ef hJ hf2
        have w2 : ∀ q, 10 ≤ q → q ≠ 552 → V2 q = V0 q := fun q h1 h2 => by rw [ot2 q h2, ot1 q (by omega) (by omega) (by omega)]
        have u1 : V2 (rp s ls ps i x) = V0 (rp s ls ps i x) := w2 _ (by omega) (by omega)
        have u2 : V2 (rp s ls ps t x) = V0 (rp s ls ps t x) := w2 _ (by omega) (by omega)
        have u3 : V2 550 = V0 550 := w2 _ (by omega) (by omega)
        have u4 : V2 551 = V0 551 := w2 _ (by omega) (by omega)
        refine jj_aload_n (pc := 76) kS_mixLines_d76 rfl ?_
        refine jj_getf (pc := 77) kS_mixLines_d77 (kfS_desk hG) q2_re rfl ?_
        refine jj_aload_n (pc := 80) kS_mixLines_d80 rfl ?_
        refine jj_getf (pc := 81) kS_mixLines_d81 (kfS_firstRest hG) q2_re rfl ?_
        refine jj_aload_n (pc := 84) kS_mixLines_d84 rfl ?_
        refine jj_iload_n (pc := 85) kS_mixLines_d85 rfl ?_
        refine jj_iload_n (pc := 86) kS_mixLines_d86 rfl ?_
        refine jj_callV (pc := 87) (b := re) (As := [.int (nI (i)), .int (nI (x))]) kS_mixLines_d87 (kvS_S_at hG) (kG_cl hG rfl) rfl q2_re rfl rfl rfl (Nat.le_of_ble_eq_true rfl) (Nat.le_of_ble_eq_true rfl) (jj_bare0 rfl) ?_
        refine r_at hG hR2 hs hi16 (by omega) ?_
        show jj G kS_mixLines (d + 5) Q rc rs 90 [some (.ref re), some (.int (nI (i))), some (.int (nI (t))), some (.int (nI (x)))] [.ref (wa (rp s ls ps i x)), .ref (wa 550), .ref dk] M2
        refine jj_aload_n (pc := 90) kS_mixLines_d90 rfl ?_
        refine jj_getf (pc := 91) kS_mixLines_d91 (kfS_secondRest hG) q2_re rfl ?_
        refine jj_aload_n (pc := 94) kS_mixLines_d94 rfl ?_
        refine jj_iload_n (pc := 95) kS_mixLines_d95 rfl ?_
        refine jj_iload_n (pc := 96) kS_mixLines_d96 rfl ?_
        refine jj_callV (pc := 97) (b := re) (As := [.int (nI (t)), .int (nI (x))]) kS_mixLines_d97 (kvS_S_at hG) (kG_cl hG rfl) rfl q2_re rfl rfl rfl (Nat.le_of_ble_eq_true rfl) (Nat.le_of_ble_eq_true rfl) (jj_bare0 rfl) ?_
        refine r_at hG hR2 hs ht16 (by omega) ?_
        show jj G kS_mixLines (d + 5) Q rc rs 100 [some (.ref re), some (.int (nI (i))), some (.int (nI (t))), some (.int (nI (x)))] [.ref (wa (rp s ls ps t x)), .ref (wa 551), .ref (wa (rp s ls ps i x)), .ref (wa 550), .ref dk] M2
        refine jn_iconst (pc := 100) 1 kS_mixLines_d100 (by decide) ?_
        refine jn_top (.int (sg (-1))) (congrArg Value.int (by decide)) ?_
        have hSk2 : KS M2 wa la cap N eu dv hi lo dk V2 := ⟨hc2, ⟨r_1, px_1, pf_1, py_1, po_1, ps_1, od_1, hU2⟩, q2_dk⟩
        refine jj_callV (pc := 101) (b := dk) (As := [.ref (wa 550), .ref (wa (rp s ls ps i x)), .ref (wa 551), .ref (wa (rp s ls ps t x)), .int (sg (-1))]) kS_mixLines_d101 (kvS_K_cross hG) (kG_cl hG rfl) rfl q2_dk rfl rfl rfl (Nat.le_of_ble_eq_true rfl) (Nat.le_of_ble_eq_true rfl) (jj_bare0 rfl) ?_
        refine k_cross hG hK hSk2 (ls := (-1)) (z := V2 550 * V2 (rp s ls ps i x) - V2 551 * V2 (rp s ls ps t x)) (a := 550) (x := (rp s ls ps i x)) (b := 551) (y := (rp s ls ps t x)) (by omega) (by omega) (by omega) (by omega) (by omega) (by omega) (by omega) (by omega) (by omega) (by omega) (by rw [u1, u3]; omega) (by rw [u2, u4]; omega) (by rw [u1, u3]; omega) (by rw [u2, u4]; omega) (by rw [if_pos (by decide)]) (fun M3 hSx3 hw3 => ?_)
        obtain ⟨V3, hV3⟩ : ∃ W, vup (vup (vup V2 7 (V2 550 * V2 (rp s ls ps i x))) 8 (V2 551 * V2 (rp s ls ps t x))) 9 (V2 550 * V2 (rp s ls ps i x) - V2 551 * V2 (rp s ls ps t x)) = W := ⟨_, rfl⟩
        have hS3 : KS M3 wa la cap N eu dv hi lo dk V3 := by rw [← hV3]; exact hSx3
        have at3 : V3 9 = V2 550 * V2 (rp s ls ps i x) - V2 551 * V2 (rp s ls ps t x) := by rw [← hV3, vup_at]
        have ot3 : ∀ p, p ≠ 7 → p ≠ 8 → p ≠ 9 → V3 p = V2 p := fun p h1 h2 h3 => by rw [← hV3, vup_ne _ _ h3, vup_ne _ _ h2, vup_ne _ _ h1]
        obtain ⟨hc3, ⟨r_3, px_3, pf_3, py_3, po_3, ps_3, od_3, hU3⟩, _⟩ := id hS3
        have hf3 := hf2.trans hw3
        have q3_re := hw3.obj hc2 hU2 q2_re (by decide) (by decide) (by decide)
        have q3_dk := hw3.obj hc2 hU2 q2_dk (by decide) (by decide) (by decide)
        have hn3 := hU3.1
        have b_r3 := hn3.2.1
        have b_x3 := hn3.2.2.1
        have b_f3 := hn3.2.2.2.1
        have hdv3 := hU3.2.1
        obtain ⟨ea3, eb3, ec3, ed3, hE3⟩ := hU3.2.2.2
        have hD3 := hdv3.1
        show jj G kS_mixLines (d + 5) Q rc rs 104 [some (.ref re), some (.int (nI (i))), some (.int (nI (t))), some (.int (nI (x)))] [] M3
        rw [u1, u2, u3, u4] at at3
        have l93 : lc (V3 9) ≤ 252 := by rw [at3]; exact Nat.le_trans (lc_sub (n := 194) (by omega) (by omega)) (by omega)
        have hR3 := hR9.ef hJ hf3
        have w3 : ∀ q, 10 ≤ q → V3 q = V2 q := fun q h1 => ot3 q (by omega) (by omega) (by omega)
        have w547 : V3 547 = V 547 := by rw [w3 _ (by omega), w2 _ (by omega) (by omega)]; exact vq _ (by omega) (by omega)
        refine jj_aload_n (pc := 104) kS_mixLines_d104 rfl ?_
        refine jj_aload_n (pc := 105) kS_mixLines_d105 rfl ?_
        refine jj_getf (pc := 106) kS_mixLines_d106 (kfS_desk hG) q3_re rfl ?_
        refine jj_getf (pc := 109) kS_mixLines_d109 (kfS_K_sum hG) q3_dk rfl ?_
        refine jj_aload_n (pc := 112) kS_mixLines_d112 rfl ?_
        refine jj_iload_n (pc := 113) kS_mixLines_d113 rfl ?_
        refine jj_iload_n (pc := 114) kS_mixLines_d114 rfl ?_
        refine jj_callV (pc := 115) (b := re) (As := [.int (nI (i)), .int (nI (x))]) kS_mixLines_d115 (kvS_S_at hG) (kG_cl hG rfl) rfl q3_re rfl rfl rfl (Nat.le_of_ble_eq_true rfl) (Nat.le_of_ble_eq_true rfl) (jj_bare0 rfl) ?_
        refine r_at hG hR3 hs hi16 (by omega) ?_
        show jj G kS_mixLines (d + 5) Q rc rs 118 [some (.ref re), some (.int (nI (i))), some (.int (nI (t))), some (.int (nI (x)))] [.ref (wa (rp s ls ps i x)), .ref (wa 9), .ref re] M3
        refine jj_callV (pc := 118) (b := re) (As := [.ref (wa 9), .ref (wa (rp s ls ps i x))]) kS_mixLines_d118 (kvS_S_keep hG) (kG_cl hG rfl) rfl q3_re rfl rfl rfl (Nat.le_of_ble_eq_true rfl) (Nat.le_of_ble_eq_true rfl) (jj_bare0 rfl) ?_
        refine r_keep hG hK hS3 hJ hR3 (u := 9) (t := (rp s ls ps i x)) (by omega) (by omega) (by omega) (by omega) (by omega) (by omega) l93 (by rw [w547]; exact hm) (by rw [w547]; exact hlm) (fun M4 V4 hS4 at4 ot4 hw4 => ?_) 
        obtain ⟨hc4, ⟨r_4, px_4, pf_4, py_4, po_4, ps_4, od_4, hU4⟩, _⟩ := id hS4
        have hf4 := hf3.trans hw4
        have q4_re := hw4.obj hc3 hU3 q3_re (by decide) (by decide) (by decide)
        have q4_dk := hw4.obj hc3 hU3 q3_dk (by decide) (by decide) (by decide)
        have hn4 := hU4.1
        have b_r4 := hn4.2.1
        have b_x4 := hn4.2.2.1
        have b_f4 := hn4.2.2.2.1
        have hdv4 := hU4.2.1
        obtain ⟨ea4, eb4, ec4, ed4, hE4⟩ := hU4.2.2.2
        have hD4 := hdv4.1
        show jj G kS_mixLines (d + 5) Q rc rs 121 [some (.ref re), some (.int (nI (i))), some (.int (nI (t))), some (.int (nI (x)))] [] M4
        have hR4 := hR9.ef hJ hf4
        have x552 : V4 552 = V1 9 := by rw [ot4 _ (by omega) (by omega), w3 _ (by omega), at2]
        have x547 : V4 547 = V 547 := by rw [ot4 _ (by omega) (by omega)]; exact w547
        refine jj_aload_n (pc := 121) kS_mixLines_d121 rfl ?_
        refine jj_aload_n (pc := 122) kS_mixLines_d122 rfl ?_
        refine jj_getf (pc := 123) kS_mixLines_d123 (kfS_spare hG) q4_re rfl ?_
        refine jj_aload_n (pc := 126) kS_mixLines_d126 rfl ?_
        refine jj_iload_n (pc := 127) kS_mixLines_d127 rfl ?_
        refine jj_iload_n (pc := 128) kS_mixLines_d128 rfl ?_
        refine jj_callV (pc := 129) (b := re) (As := [.int (nI (t)), .int (nI (x))]) kS_mixLines_d129 (kvS_S_at hG) (kG_cl hG rfl) rfl q4_re rfl rfl rfl (Nat.le_of_ble_eq_true rfl) (Nat.le_of_ble_eq_true rfl) (jj_bare0 rfl) ?_
        refine r_at hG hR4 hs ht16 (by omega) ?_
        show jj G kS_mixLines (d + 5) Q rc rs 132 [some (.ref re), some (.int (nI (i))), some (.int (nI (t))), some (.int (nI (x)))] [.ref (wa (rp s ls ps t x)), .ref (wa 552), .ref re] M4
        refine jj_callV (pc := 132) (b := re) (As := [.ref (wa 552), .ref (wa (rp s ls ps t x))]) kS_mixLines_d132 (kvS_S_keep hG) (kG_cl hG rfl) rfl q4_re rfl rfl rfl (Nat.le_of_ble_eq_true rfl) (Nat.le_of_ble_eq_true rfl) (jj_bare0 rfl) ?_
        refine r_keep hG hK hS4 hJ hR4 (u := 552) (t := (rp s ls ps t x)) (by omega) (by omega) (by omega) (by omega) (by omega) (by omega) (by rw [x552]; exact l91) (by rw [x547]; exact hm) (by rw [x547]; exact hlm) (fun M5 V5 hS5 at5 ot5 hw5 => ?_) 
        obtain ⟨hc5, ⟨r_5, px_5, pf_5, py_5, po_5, ps_5, od_5, hU5⟩, _⟩ := id hS5
        have hf5 := hf4.trans hw5
        have q5_re := hw5.obj hc4 hU4 q4_re (by decide) (by decide) (by decide)
        have q5_dk := hw5.obj hc4 hU4 q4_dk (by decide) (by decide) (by decide)
        have hn5 := hU5.1
        have b_r5 := hn5.2.1
        have b_x5 := hn5.2.2.1
        have b_f5 := hn5.2.2.2.1
        have hdv5 := hU5.2.1
        obtain ⟨ea5, eb5, ec5, ed5, hE5⟩ := hU5.2.2.2
        have hD5 := hdv5.1
        show jj G kS_mixLines (d + 5) Q rc rs 135 [some (.ref re), some (.int (nI (i))), some (.int (nI (t))), some (.int (nI (x)))] [] M5
        refine jn_iinc (pc := 135) (x + 1) kS_mixLines_d135 rfl (nI_1 _) ?_
        refine jj_goto (pc := 138) (tgt := 2) kS_mixLines_d138 (by decide) ?_
        show jj G kS_mixLines (d + 5) Q rc rs 2 [some (.ref re), some (.int (nI (i))), some (.int (nI (t))), some (.int (nI (x + 1)))] [] M5
        have v5 : ∀ q, 10 ≤ q → q ≠ 552 → q ≠ (rp s ls ps i x) → q ≠ (rp s ls ps t x) → V5 q = V0 q := fun q h1 h2 h3 h4 => by rw [ot5 q (by omega) h4, ot4 q (by omega) h3, w3 q h1, w2 q h1 h2]
        refine ih (x + 1) (by omega) (by omega) M5 V5 hS5 (fun p h1 h2 => ?_) (fun q h1 h2 h3 => by rw [v5 q h1 h2 (h3 x hfx (by omega)).1 (h3 x hfx (by omega)).2]; exact o9 q h1 h2 (fun p h4 h5 => h3 p h4 (by omega))) (f9.trans hf5)
        by_cases e : p = x
        · rw [e]
          refine ⟨?_, ?_⟩
          · rw [at5, x552, x547, at1, vt, vi, vq 548 (by omega) (by omega), vq 549 (by omega) (by omega)]
          · rw [ot5 _ (by omega) nit, at4, w547, at3, vt, vi, vq 550 (by omega) (by omega), vq 551 (by omega) (by omega)]
        · have bp := hsp.b hs hi16 (show p < 16 by omega)
          have bq := hsp.b hs ht16 (show p < 16 by omega)
          rw [v5 (rp s ls ps t p) (by omega) (by omega) (hsp.ne hs ht16 (by omega) hi16 (by omega) (by omega)) (hsp.ne hs ht16 (by omega) ht16 (by omega) (by omega)), v5 (rp s ls ps i p) (by omega) (by omega) (hsp.ne hs hi16 (by omega) hi16 (by omega) (by omega)) (hsp.ne hs hi16 (by omega) ht16 (by omega) (by omega))]
          exact e9 p h1 (by omega)
      refine jj_aload_n (pc := 10) kS_mixLines_d10 rfl ?_
      refine jj_iload_n (pc := 11) kS_mixLines_d11 rfl ?_
      refine jj_iload_n (pc := 12) kS_mixLines_d12 rfl ?_
      refine jj_callV (pc := 13) (b := re) (As := [.int (nI (t)), .int (nI (x))]) kS_mixLines_d13 (kvS_S_at hG) (kG_cl hG rfl) rfl hre9 rfl rfl rfl (Nat.le_of_ble_eq_true rfl) (Nat.le_of_ble_eq_true rfl) (jj_bare0 rfl) ?_
      refine r_at hG hR9 hs ht16 (by omega) ?_
      show jj G kS_mixLines (d + 5) Q rc rs 16 [some (.ref re), some (.int (nI (i))), some (.int (nI (t))), some (.int (nI (x)))] [.ref (wa (rp s ls ps t x))] M9
      obtain ⟨Tn102, tn102, hTn102, _, _, hZn102⟩ := hc0 (rp s ls ps t x) (by omega)
      have eZn102 := hZn102.cnt
      subst eZn102
      have bZn102 := hc0.lc (p := (rp s ls ps t x)) (by omega)
      have bYn102 := hI.2.2 (rp s ls ps t x) (by omega)
      refine jj_getf (pc := 16) kS_mixLines_d16 (kfS_W_count hG) hTn102 rfl ?_
      refine jn_if_gt (pc := 19) (tgt := 34) kS_mixLines_d19 (by decide) (by omega) (fun c1 => ?_) (fun c1 => ?_)
      · skip
        exact main
      · skip
        refine jj_aload_n (pc := 22) kS_mixLines_d22 rfl ?_
        refine jj_iload_n (pc := 23) kS_mixLines_d23 rfl ?_
        refine jj_iload_n (pc := 24) kS_mixLines_d24 rfl ?_
        refine jj_callV (pc := 25) (b := re) (As := [.int (nI (i)), .int (nI (x))]) kS_mixLines_d25 (kvS_S_at hG) (kG_cl hG rfl) rfl hre9 rfl rfl rfl (Nat.le_of_ble_eq_true rfl) (Nat.le_of_ble_eq_true rfl) (jj_bare0 rfl) ?_
        refine r_at hG hR9 hs hi16 (by omega) ?_
        show jj G kS_mixLines (d + 5) Q rc rs 28 [some (.ref re), some (.int (nI (i))), some (.int (nI (t))), some (.int (nI (x)))] [.ref (wa (rp s ls ps i x))] M9
        obtain ⟨Tn103, tn103, hTn103, _, _, hZn103⟩ := hc0 (rp s ls ps i x) (by omega)
        have eZn103 := hZn103.cnt
        subst eZn103
        have bZn103 := hc0.lc (p := (rp s ls ps i x)) (by omega)
        have bYn103 := hI.2.2 (rp s ls ps i x) (by omega)
        refine jj_getf (pc := 28) kS_mixLines_d28 (kfS_W_count hG) hTn103 rfl ?_
        refine jn_if_le (pc := 31) (tgt := 135) kS_mixLines_d31 (by decide) (by omega) (fun c2 => ?_) (fun c2 => ?_)
        · skip
          refine jn_iinc (pc := 135) (x + 1) kS_mixLines_d135 rfl (nI_1 _) ?_
          refine jj_goto (pc := 138) (tgt := 2) kS_mixLines_d138 (by decide) ?_
          show jj G kS_mixLines (d + 5) Q rc rs 2 [some (.ref re), some (.int (nI (i))), some (.int (nI (t))), some (.int (nI (x + 1)))] [] M9
          have z1 : V (rp s ls ps t x) = 0 := by rw [← vt]; exact lc_nil (by omega)
          have z2 : V (rp s ls ps i x) = 0 := by rw [← vi]; exact lc_nil (by omega)
          refine ih (x + 1) (by omega) (by omega) M9 V0 (by rw [← hV0]; exact hS9) (fun p h1 h2 => ?_) (fun q h1 h2 h3 => o9 q h1 h2 (fun p h4 h5 => h3 p h4 (by omega))) f9
          by_cases e : p = x
          · rw [e, vt, vi, z1, z2]
            simp
          · exact e9 p h1 (by omega)
        · skip
          exact main
  exact loop (pl - t) t (by omega) (Nat.le_refl _) M V hS (fun p h1 h2 => by omega) (fun _ _ _ _ => rfl) (fun _ _ _ _ _ _ => rfl)
end S2
