/-! ===== Matrix: scale (printed by wip/gen/rM4.py) ===== -/
section M4
variable {G : jg} {d : Nat} {Q : jq} {rc rs : Nat} {M : mheap} {wa la cap : Nat → Nat} {N eu dv hi lo dk : Nat} {V : Nat → Int}
theorem m_scale {mx ar b r c : Nat} (hG : kG G) (hK : KJI wa la cap N hi lo) (hS : KS M wa la cap N eu dv hi lo dk V) (hM : MXT M wa mx ar b r c) (hb : b + 256 < N) (hb7 : 13 ≤ b) (hr : r ≤ 16) (hcc : c ≤ 16) (hroom : ∀ p, (p = b + 256 ∨ ∃ i j, i < r ∧ j < c ∧ p = b + (16 * i + j)) → lc (V p) + lc (V 11) ≤ 252 ∧ (V p * V 11).natAbs < BB ^ cap p) (k : ∀ (M' : mheap) (V' : Nat → Int), KS M' wa la cap N eu dv hi lo dk V' → MXT M' wa mx ar b r c → V' (b + 256) = V (b + 256) * V 11 → (∀ i' j', i' < r → j' < c → V' (b + (16 * i' + j')) = V (b + (16 * i' + j')) * V 11) → (∀ p, 8 ≤ p → p ≠ b + 256 → (∀ i' j', i' < r → j' < c → p ≠ b + (16 * i' + j')) → V' p = V p) → EF M M' wa la N eu dv hi lo → Q (.returned none) M' rc rs) : jj G kM_scale (d + 3) Q rc rs 0 (jj_ent [.ref mx, .ref dk] 4) [] M := by
  have hm := hM.1
  obtain ⟨hI, hN, hcap, hdi⟩ := id hK
  obtain ⟨hc0, ⟨r_a, px_a, pf_a, py_a, po_a, ps_a, od_a, hU0⟩, hdk0⟩ := id hS
  have hf0 : EF M M wa la N eu dv hi lo := fun _ _ _ _ _ _ => rfl
  obtain ⟨V0, hV0⟩ : ∃ V0, V = V0 := ⟨_, rfl⟩
  rw [hV0] at hc0
  have hn0 := hU0.1
  have b_r0 := hn0.2.1
  have b_x0 := hn0.2.2.1
  have b_f0 := hn0.2.2.2.1
  have hdv0 := hU0.2.1
  obtain ⟨ea0, eb0, ec0, ed0, hE0⟩ := hU0.2.2.2
  have hD0 := hdv0.1
  show jj G kM_scale (d + 3) Q rc rs 0 [some (.ref mx), some (.ref dk), none, none] [] M
  obtain ⟨T11_0, t11_0, hT11_0, _, _⟩ := hc0 11 (by omega)
  refine jj_aload_n (pc := 0) kM_scale_d0 rfl ?_
  refine jj_getf (pc := 1) kM_scale_d1 (kfM_K_leftFactor hG) hdk0 rfl ?_
  refine jj_callV (pc := 4) (b := (wa 11)) (As := []) kM_scale_d4 (kvM_W_isOne hG) (kG_cl hG rfl) rfl hT11_0 rfl rfl rfl (Nat.le_of_ble_eq_true rfl) (Nat.le_of_ble_eq_true rfl) (jj_bare0 rfl) ?_
  refine w_isOne hG hI hc0 (by omega) (fun c1 => ?_) (fun c1 => ?_)
  · skip
    show jj G kM_scale (d + 3) Q rc rs 7 [some (.ref mx), some (.ref dk), none, none] [.int (nI (1))] M
    refine jn_if_eq (pc := 7) (tgt := 11) kM_scale_d7 (by decide) (by omega) (fun c => by exfalso; omega) (fun _ => ?_)
    rw [← hV0] at c1
    exact jj_vret (pc := 10) kM_scale_d10 rfl (k M V hS hM (by rw [c1, Int.mul_one]) (fun i' j' _ _ => by rw [c1, Int.mul_one]) (fun _ _ _ _ => rfl) hf0)
  · skip
    show jj G kM_scale (d + 3) Q rc rs 7 [some (.ref mx), some (.ref dk), none, none] [.int (nI (0))] M
    refine jn_if_eq (pc := 7) (tgt := 11) kM_scale_d7 (by decide) (by omega) (fun _ => ?_) (fun c => by exfalso; omega)
    obtain ⟨T7_0, t7_0, hT7_0, _, _⟩ := hc0 7 (by omega)
    refine jj_aload_n (pc := 11) kM_scale_d11 rfl ?_
    refine jj_getf (pc := 12) kM_scale_d12 (kfM_K_left hG) hdk0 rfl ?_
    refine jj_aload_n (pc := 15) kM_scale_d15 rfl ?_
    refine jj_getf (pc := 16) kM_scale_d16 (kfM_common hG) hm rfl ?_
    refine jj_aload_n (pc := 19) kM_scale_d19 rfl ?_
    refine jj_getf (pc := 20) kM_scale_d20 (kfM_K_leftFactor hG) hdk0 rfl ?_
    obtain ⟨q1, q2⟩ := hroom _ (Or.inl rfl)
    rw [hV0] at q1 q2
    refine jj_callV (pc := 23) (b := (wa 7)) (As := [.ref (wa (b + 256)), .ref (wa 11)]) kM_scale_d23 (kvM_W_product hG) (kG_cl hG rfl) rfl hT7_0 rfl rfl rfl (Nat.le_of_ble_eq_true rfl) (Nat.le_of_ble_eq_true rfl) (jj_bare0 rfl) ?_
    refine w_product hG hI hc0 (by omega : 7 < N) hb (by omega : 11 < N) (by omega) (by omega) (by rw [hcap 7 (by omega)]; exact q1) (fun M1 hcx1 hw1 => ?_)
    obtain ⟨V1, hV1⟩ : ∃ W, vup V0 7 (V0 (b + 256) * V0 11) = W := ⟨_, rfl⟩
    have hc1 : CW M1 wa la cap N V1 := by rw [← hV1]; exact hcx1
    have at1 : V1 7 = V0 (b + 256) * V0 11 := by rw [← hV1, vup_at]
    have ot1 : ∀ p, p ≠ 7 → V1 p = V0 p := fun p hp => by rw [← hV1, vup_ne _ _ hp]
    have hU1 := hU0.wt hc0 hdi (by omega) hw1
    have hf1 := hf0.trans (hw1.ef (by omega))
    have q1_mx := (hw1.ef (eu := eu) (dv := dv) (hi := hi) (lo := lo) (by omega)).obj hc0 hU0 hm (by decide) (by decide) (by decide)
    have q1_dk := (hw1.ef (eu := eu) (dv := dv) (hi := hi) (lo := lo) (by omega)).obj hc0 hU0 hdk0 (by decide) (by decide) (by decide)
    have hn1 := hU1.1
    have b_r1 := hn1.2.1
    have b_x1 := hn1.2.2.1
    have b_f1 := hn1.2.2.2.1
    have hdv1 := hU1.2.1
    obtain ⟨ea1, eb1, ec1, ed1, hE1⟩ := hU1.2.2.2
    have hD1 := hdv1.1
    show jj G kM_scale (d + 3) Q rc rs 26 [some (.ref mx), some (.ref dk), none, none] [] M1
    obtain ⟨Tb256_1, tb256_1, hTb256_1, _, _⟩ := hc1 (b + 256) (by omega)
    refine jj_aload_n (pc := 26) kM_scale_d26 rfl ?_
    refine jj_getf (pc := 27) kM_scale_d27 (kfM_common hG) q1_mx rfl ?_
    refine jj_aload_n (pc := 30) kM_scale_d30 rfl ?_
    refine jj_getf (pc := 31) kM_scale_d31 (kfM_K_left hG) q1_dk rfl ?_
    refine jj_callV (pc := 34) (b := (wa (b + 256))) (As := [.ref (wa 7)]) kM_scale_d34 (kvM_W_copy hG) (kG_cl hG rfl) rfl hTb256_1 rfl rfl rfl (Nat.le_of_ble_eq_true rfl) (Nat.le_of_ble_eq_true rfl) (jj_bare0 rfl) ?_
    refine w_copy hG hI hc1 hb (by omega : 7 < N) (by rw [at1]; exact q2) (fun M2 hcx2 hw2 => ?_)
    obtain ⟨V2, hV2⟩ : ∃ W, vup V1 (b + 256) (V1 7) = W := ⟨_, rfl⟩
    have hc2 : CW M2 wa la cap N V2 := by rw [← hV2]; exact hcx2
    have at2 : V2 (b + 256) = V1 7 := by rw [← hV2, vup_at]
    have ot2 : ∀ p, p ≠ (b + 256) → V2 p = V1 p := fun p hp => by rw [← hV2, vup_ne _ _ hp]
    have hU2 := hU1.wt hc1 hdi hb hw2
    have hf2 := hf1.trans (hw2.ef hb)
    have q2_mx := (hw2.ef (eu := eu) (dv := dv) (hi := hi) (lo := lo) hb).obj hc1 hU1 q1_mx (by decide) (by decide) (by decide)
    have q2_dk := (hw2.ef (eu := eu) (dv := dv) (hi := hi) (lo := lo) hb).obj hc1 hU1 q1_dk (by decide) (by decide) (by decide)
    have hn2 := hU2.1
    have b_r2 := hn2.2.1
    have b_x2 := hn2.2.2.1
    have b_f2 := hn2.2.2.2.1
    have hdv2 := hU2.2.1
    obtain ⟨ea2, eb2, ec2, ed2, hE2⟩ := hU2.2.2.2
    have hD2 := hdv2.1
    show jj G kM_scale (d + 3) Q rc rs 37 [some (.ref mx), some (.ref dk), none, none] [] M2
    have hM2 : MXT M2 wa mx ar b r c := hM.ef hS hf2
    have v1a : V2 (b + 256) = V (b + 256) * V 11 := by rw [at2, at1, hV0]
    have vo2 : ∀ p, 8 ≤ p → p ≠ b + 256 → V2 p = V p := fun p p1 p2 => by rw [ot2 p p2, ot1 p (by omega), hV0]
    have hS2 : KS M2 wa la cap N eu dv hi lo dk V2 := ⟨hc2, ⟨r_a, px_a, pf_a, py_a, po_a, ps_a, od_a, hU2⟩, q2_dk⟩
    refine jn_iconst (pc := 37) 0 kM_scale_d37 (by decide) ?_
    refine jj_istore_n (pc := 38) kM_scale_d38 (Nat.le_of_ble_eq_true rfl) ?_
    show jj G kM_scale (d + 3) Q rc rs 39 [some (.ref mx), some (.ref dk), some (.int (nI (0))), none] [] M2
    show jj G kM_scale (d + 3) Q rc rs 39 [some (.ref mx), some (.ref dk), some (.int (nI (0))), none] [] M2
    have outer : ∀ mu i, r = i + mu → ∀ (oj : Option Value) (M9 : mheap) (V9 : Nat → Int), KS M9 wa la cap N eu dv hi lo dk V9 → MXT M9 wa mx ar b r c → V9 (b + 256) = V (b + 256) * V 11 → (∀ i' j', thru c i 0 i' j' → V9 (b + (16 * i' + j')) = V (b + (16 * i' + j')) * V 11) → (∀ p, 8 ≤ p → p ≠ b + 256 → (∀ i' j', thru c i 0 i' j' → p ≠ b + (16 * i' + j')) → V9 p = V p) → EF M M9 wa la N eu dv hi lo → jj G kM_scale (d + 3) Q rc rs 39 [some (.ref mx), some (.ref dk), some (.int (nI (i))), (oj)] [] M9 := by
      intro mu
      induction mu with
      | zero =>
        intro i hk oj M9 V9 hS9 hM9 v1 v0 vo f9
        have e9 : r = i := by omega
        subst e9
        have h9m := hM9.1
        refine jj_iload_n (pc := 39) kM_scale_d39 rfl ?_
        refine jj_aload_n (pc := 40) kM_scale_d40 rfl ?_
        refine jj_getf (pc := 41) kM_scale_d41 (kfM_rows hG) h9m rfl ?_
        refine jn_icmp_ge (pc := 44) (tgt := 99) kM_scale_d44 (by decide) (by omega) (by omega) (fun _ => ?_) (fun c => by exfalso; omega)
        exact jj_vret (pc := 99) kM_scale_d99 rfl (k M9 V9 hS9 hM9 v1 (fun i j hi hj => v0 i j ⟨hj, Or.inl hi⟩) (fun p h1 h2 h3 => vo p h1 h2 (fun i' j' h => by obtain ⟨g1, g2⟩ := h; exact h3 i' j' (by omega) g1)) f9)
      | succ mu ih =>
        intro i hk oj M9 V9 hS9 hM9 v1 v0 vo f9
        have h9m := hM9.1
        refine jj_iload_n (pc := 39) kM_scale_d39 rfl ?_
        refine jj_aload_n (pc := 40) kM_scale_d40 rfl ?_
        refine jj_getf (pc := 41) kM_scale_d41 (kfM_rows hG) h9m rfl ?_
        refine jn_icmp_ge (pc := 44) (tgt := 99) kM_scale_d44 (by decide) (by omega) (by omega) (fun c => by exfalso; omega) (fun _ => ?_)
        refine jn_iconst (pc := 47) 0 kM_scale_d47 (by decide) ?_
        refine jj_istore_n (pc := 48) kM_scale_d48 (Nat.le_of_ble_eq_true rfl) ?_
        show jj G kM_scale (d + 3) Q rc rs 49 [some (.ref mx), some (.ref dk), some (.int (nI (i))), some (.int (nI (0)))] [] M9
        show jj G kM_scale (d + 3) Q rc rs 49 [some (.ref mx), some (.ref dk), some (.int (nI (i))), some (.int (nI (0)))] [] M9
        have inner : ∀ mu2 j, c = j + mu2 → ∀ (M9 : mheap) (V9 : Nat → Int), KS M9 wa la cap N eu dv hi lo dk V9 → MXT M9 wa mx ar b r c → V9 (b + 256) = V (b + 256) * V 11 → (∀ i' j', thru c i j i' j' → V9 (b + (16 * i' + j')) = V (b + (16 * i' + j')) * V 11) → (∀ p, 8 ≤ p → p ≠ b + 256 → (∀ i' j', thru c i j i' j' → p ≠ b + (16 * i' + j')) → V9 p = V p) → EF M M9 wa la N eu dv hi lo → jj G kM_scale (d + 3) Q rc rs 49 [some (.ref mx), some (.ref dk), some (.int (nI (i))), some (.int (nI (j)))] [] M9 := by
          intro mu2
          induction mu2 with
          | zero =>
            intro j hk2 M9 V9 hS9 hM9 v1 v0 vo f9
            have e9 : c = j := by omega
            subst e9
            have h9m := hM9.1
            refine jj_iload_n (pc := 49) kM_scale_d49 rfl ?_
            refine jj_aload_n (pc := 50) kM_scale_d50 rfl ?_
            refine jj_getf (pc := 51) kM_scale_d51 (kfM_columns hG) h9m rfl ?_
            refine jn_icmp_ge (pc := 54) (tgt := 93) kM_scale_d54 (by decide) (by omega) (by omega) (fun _ => ?_) (fun c => by exfalso; omega)
            refine jn_iinc (pc := 93) (i + 1) kM_scale_d93 rfl (nI_1 _) ?_
            refine jj_goto (pc := 96) (tgt := 39) kM_scale_d96 (by decide) ?_
            show jj G kM_scale (d + 3) Q rc rs 39 [some (.ref mx), some (.ref dk), some (.int (nI (i + 1))), some (.int (nI (c)))] [] M9
            refine ih (i + 1) (by omega) _ M9 V9 hS9 hM9 v1 (fun i' j' h => v0 i' j' ?_) (fun p h1 h2 h3 => vo p h1 h2 (fun i' j' h => h3 i' j' ?_)) f9
            · obtain ⟨g1, g2⟩ := h
              exact ⟨g1, by omega⟩
            · obtain ⟨g1, g2⟩ := h
              exact ⟨g1, by omega⟩
          | succ mu2 ih2 =>
            intro j hk2 M9 V9 hS9 hM9 v1 v0 vo f9
            have h9m := hM9.1
            have hp : b + (16 * i + j) < N := by omega
            have hold9 : V9 (b + (16 * i + j)) = V (b + (16 * i + j)) := vo _ (by omega) (by omega) (fun i' j' h e => by obtain ⟨g1, g2⟩ := h; omega)
            refine jj_iload_n (pc := 49) kM_scale_d49 rfl ?_
            refine jj_aload_n (pc := 50) kM_scale_d50 rfl ?_
            refine jj_getf (pc := 51) kM_scale_d51 (kfM_columns hG) h9m rfl ?_
            refine jn_icmp_ge (pc := 54) (tgt := 93) kM_scale_d54 (by decide) (by omega) (by omega) (fun c => by exfalso; omega) (fun _ => ?_)
            obtain ⟨hc0, ⟨r_0, px_0, pf_0, py_0, po_0, ps_0, od_0, hU0⟩, hdk0⟩ := id hS9
            have hf0 : EF M9 M9 wa la N eu dv hi lo := fun _ _ _ _ _ _ => rfl
            obtain ⟨V0, hV0⟩ : ∃ V0, V9 = V0 := ⟨_, rfl⟩
            rw [hV0] at hc0
            have hn0 := hU0.1
            have b_r0 := hn0.2.1
            have b_x0 := hn0.2.2.1
            have b_f0 := hn0.2.2.2.1
            have hdv0 := hU0.2.1
            obtain ⟨ea0, eb0, ec0, ed0, hE0⟩ := hU0.2.2.2
            have hD0 := hdv0.1
            rw [hV0] at hold9
            have v11a : V0 11 = V 11 := by rw [← hV0]; exact vo 11 (by omega) (by omega) (fun i' j' h => by omega)
            obtain ⟨q1, q2⟩ := hroom (b + (16 * i + j)) (Or.inr ⟨i, j, by omega, by omega, rfl⟩)
            rw [← hold9, ← v11a] at q1 q2
            obtain ⟨T7_0, t7_0, hT7_0, _, _⟩ := hc0 7 (by omega)
            refine jj_aload_n (pc := 57) kM_scale_d57 rfl ?_
            refine jj_getf (pc := 58) kM_scale_d58 (kfM_K_left hG) hdk0 rfl ?_
            refine jj_aload_n (pc := 61) kM_scale_d61 rfl ?_
            refine jj_iload_n (pc := 62) kM_scale_d62 rfl ?_
            refine jj_iload_n (pc := 63) kM_scale_d63 rfl ?_
            refine jj_callV (pc := 64) (b := mx) (As := [.int (nI (i)), .int (nI (j))]) kM_scale_d64 (kvM_M_at hG) (kG_cl hG rfl) rfl h9m rfl rfl rfl (Nat.le_of_ble_eq_true rfl) (Nat.le_of_ble_eq_true rfl) (jj_bare0 rfl) ?_
            refine m_at hG hM9 (by omega) (by omega) ?_
            show jj G kM_scale (d + 3) Q rc rs 67 [some (.ref mx), some (.ref dk), some (.int (nI (i))), some (.int (nI (j)))] [.ref (wa (b + (16 * i + j))), .ref (wa 7)] M9
            refine jj_aload_n (pc := 67) kM_scale_d67 rfl ?_
            refine jj_getf (pc := 68) kM_scale_d68 (kfM_K_leftFactor hG) hdk0 rfl ?_
            refine jj_callV (pc := 71) (b := (wa 7)) (As := [.ref (wa (b + (16 * i + j))), .ref (wa 11)]) kM_scale_d71 (kvM_W_product hG) (kG_cl hG rfl) rfl hT7_0 rfl rfl rfl (Nat.le_of_ble_eq_true rfl) (Nat.le_of_ble_eq_true rfl) (jj_bare0 rfl) ?_
            refine w_product hG hI hc0 (by omega : 7 < N) hp (by omega : 11 < N) (by omega) (by omega) (by rw [hcap 7 (by omega)]; exact q1) (fun M1 hcx1 hw1 => ?_)
            obtain ⟨V1, hV1⟩ : ∃ W, vup V0 7 (V0 (b + (16 * i + j)) * V0 11) = W := ⟨_, rfl⟩
            have hc1 : CW M1 wa la cap N V1 := by rw [← hV1]; exact hcx1
            have at1 : V1 7 = V0 (b + (16 * i + j)) * V0 11 := by rw [← hV1, vup_at]
            have ot1 : ∀ p, p ≠ 7 → V1 p = V0 p := fun p hp => by rw [← hV1, vup_ne _ _ hp]
            have hU1 := hU0.wt hc0 hdi (by omega) hw1
            have hf1 := hf0.trans (hw1.ef (by omega))
            have q1_mx := (hw1.ef (eu := eu) (dv := dv) (hi := hi) (lo := lo) (by omega)).obj hc0 hU0 h9m (by decide) (by decide) (by decide)
            have q1_dk := (hw1.ef (eu := eu) (dv := dv) (hi := hi) (lo := lo) (by omega)).obj hc0 hU0 hdk0 (by decide) (by decide) (by decide)
            have hn1 := hU1.1
            have b_r1 := hn1.2.1
            have b_x1 := hn1.2.2.1
            have b_f1 := hn1.2.2.2.1
            have hdv1 := hU1.2.1
            obtain ⟨ea1, eb1, ec1, ed1, hE1⟩ := hU1.2.2.2
            have hD1 := hdv1.1
            show jj G kM_scale (d + 3) Q rc rs 74 [some (.ref mx), some (.ref dk), some (.int (nI (i))), some (.int (nI (j)))] [] M1
            have hMa : MXT M1 wa mx ar b r c := hM9.ef hS9 hf1
            refine jj_aload_n (pc := 74) kM_scale_d74 rfl ?_
            refine jj_iload_n (pc := 75) kM_scale_d75 rfl ?_
            refine jj_iload_n (pc := 76) kM_scale_d76 rfl ?_
            refine jj_callV (pc := 77) (b := mx) (As := [.int (nI (i)), .int (nI (j))]) kM_scale_d77 (kvM_M_at hG) (kG_cl hG rfl) rfl q1_mx rfl rfl rfl (Nat.le_of_ble_eq_true rfl) (Nat.le_of_ble_eq_true rfl) (jj_bare0 rfl) ?_
            refine m_at hG hMa (by omega) (by omega) ?_
            show jj G kM_scale (d + 3) Q rc rs 80 [some (.ref mx), some (.ref dk), some (.int (nI (i))), some (.int (nI (j)))] [.ref (wa (b + (16 * i + j)))] M1
            obtain ⟨Tb16ij_1, tb16ij_1, hTb16ij_1, _, _⟩ := hc1 (b + (16 * i + j)) (by omega)
            refine jj_aload_n (pc := 80) kM_scale_d80 rfl ?_
            refine jj_getf (pc := 81) kM_scale_d81 (kfM_K_left hG) q1_dk rfl ?_
            refine jj_callV (pc := 84) (b := (wa (b + (16 * i + j)))) (As := [.ref (wa 7)]) kM_scale_d84 (kvM_W_copy hG) (kG_cl hG rfl) rfl hTb16ij_1 rfl rfl rfl (Nat.le_of_ble_eq_true rfl) (Nat.le_of_ble_eq_true rfl) (jj_bare0 rfl) ?_
            refine w_copy hG hI hc1 hp (by omega : 7 < N) (by rw [at1]; exact q2) (fun M2 hcx2 hw2 => ?_)
            obtain ⟨V2, hV2⟩ : ∃ W, vup V1 (b + (16 * i + j)) (V1 7) = W := ⟨_, rfl⟩
            have hc2 : CW M2 wa la cap N V2 := by rw [← hV2]; exact hcx2
            have at2 : V2 (b + (16 * i + j)) = V1 7 := by rw [← hV2, vup_at]
            have ot2 : ∀ p, p ≠ (b + (16 * i + j)) → V2 p = V1 p := fun p hp => by rw [← hV2, vup_ne _ _ hp]
            have hU2 := hU1.wt hc1 hdi hp hw2
            have hf2 := hf1.trans (hw2.ef hp)
            have q2_mx := (hw2.ef (eu := eu) (dv := dv) (hi := hi) (lo := lo) hp).obj hc1 hU1 q1_mx (by decide) (by decide) (by decide)
            have q2_dk := (hw2.ef (eu := eu) (dv := dv) (hi := hi) (lo := lo) hp).obj hc1 hU1 q1_dk (by decide) (by decide) (by decide)
            have hn2 := hU2.1
            have b_r2 := hn2.2.1
            have b_x2 := hn2.2.2.1
            have b_f2 := hn2.2.2.2.1
            have hdv2 := hU2.2.1
            obtain ⟨ea2, eb2, ec2, ed2, hE2⟩ := hU2.2.2.2
            have hD2 := hdv2.1
            show jj G kM_scale (d + 3) Q rc rs 87 [some (.ref mx), some (.ref dk), some (.int (nI (i))), some (.int (nI (j)))] [] M2
            have hat : V2 (b + (16 * i + j)) = V (b + (16 * i + j)) * V 11 := by rw [at2, at1, hold9, v11a]
            have hot : ∀ p, 8 ≤ p → p ≠ (b + (16 * i + j)) → V2 p = V9 p := fun p p1 p2 => by rw [ot2 p p2, ot1 p (by omega), hV0]
            refine jn_iinc (pc := 87) (j + 1) kM_scale_d87 rfl (nI_1 _) ?_
            refine jj_goto (pc := 90) (tgt := 49) kM_scale_d90 (by decide) ?_
            show jj G kM_scale (d + 3) Q rc rs 49 [some (.ref mx), some (.ref dk), some (.int (nI (i))), some (.int (nI (j + 1)))] [] M2
            refine ih2 (j + 1) (by omega) M2 V2 ⟨hc2, ⟨r_0, px_0, pf_0, py_0, po_0, ps_0, od_0, hU2⟩, q2_dk⟩ (hM9.ef hS9 hf2) ((hot _ (by omega) (by omega)).trans v1) (fun i' j' h => ?_) (fun p h1 h2 h3 => ?_) (f9.trans hf2)
            · obtain ⟨g1, g2⟩ := h
              by_cases e : i' = i ∧ j' = j
              · obtain ⟨e1, e2⟩ := e
                subst e1 e2
                exact hat
              · rw [hot _ (by omega) (by omega)]
                exact v0 i' j' ⟨g1, by omega⟩
            · rw [hot p h1 (h3 i j ⟨by omega, Or.inr ⟨rfl, by omega⟩⟩)]
              exact vo p h1 h2 (fun i' j' h => h3 i' j' (by obtain ⟨g1, g2⟩ := h; exact ⟨g1, by omega⟩))
        exact inner c 0 (by omega) M9 V9 hS9 hM9 v1 v0 vo f9
    refine outer r 0 (by omega) none M2 V2 hS2 hM2 v1a (fun i' j' h => ?_) (fun p h1 h2 h3 => vo2 p h1 h2) hf2
    obtain ⟨_, g⟩ := h
    omega
end M4
