/-! ===== Matrix: scale, divide (printed by wip/gen/rM3.py) ===== -/
theorem CW.wide {M : mheap} {wa la cap : Nat → Nat} {N p : Nat} {V : Nat → Int} (h : CW M wa la cap N V) (hp : p < N) : (V p).natAbs < BB ^ cap p := by
  obtain ⟨D, c, _, _, h3, h4⟩ := h p hp
  exact Nat.lt_of_lt_of_le h4.lt (Nat.pow_le_pow_right (by decide) (by rw [← h3]; exact h4.1))
section M3
variable {G : jg} {d : Nat} {Q : jq} {rc rs : Nat} {M : mheap} {wa la cap : Nat → Nat} {N eu dv hi lo dk : Nat} {V : Nat → Int}
theorem m_divide {mx ar b r c : Nat} (hG : kG G) (hK : KJI wa la cap N hi lo) (hS : KS M wa la cap N eu dv hi lo dk V) (hM : MXT M wa mx ar b r c) (hb : b + 256 < N) (hb7 : 13 ≤ b) (hr : r ≤ 16) (hcc : c ≤ 16) (hcp : ∀ p, b ≤ p → p ≤ b + 256 → cap p ≤ 252) (k : ∀ (M' : mheap) (V' : Nat → Int), KS M' wa la cap N eu dv hi lo dk V' → MXT M' wa mx ar b r c → V' (b + 256) = (V (b + 256)).tdiv (V 10) → (∀ i' j', i' < r → j' < c → V' (b + (16 * i' + j')) = (V (b + (16 * i' + j'))).tdiv (V 10)) → (∀ p, 7 ≤ p → p ≠ b + 256 → (∀ i' j', i' < r → j' < c → p ≠ b + (16 * i' + j')) → V' p = V p) → EF M M' wa la N eu dv hi lo → Q (.returned none) M' rc rs) : jj G kM_divide (d + 4) Q rc rs 0 (jj_ent [.ref mx, .ref dk] 4) [] M := by
  have hm := hM.1
  have hl9 : ∀ (M9 : mheap) (V9 : Nat → Int) (p : Nat), CW M9 wa la cap N V9 → b ≤ p → p ≤ b + 256 → lc (V9 p) ≤ 252 := fun M9 V9 p h h1 h2 => Nat.le_trans (lc_le (h.wide (by omega))) (hcp p h1 h2)
  have hw9 : ∀ (M9 : mheap) (V9 : Nat → Int) (p : Nat) (g : Int), CW M9 wa la cap N V9 → p < N → ((V9 p).tdiv g).natAbs < BB ^ cap p := fun M9 V9 p g h h1 => by
    rw [Int.natAbs_tdiv]
    exact Nat.lt_of_le_of_lt (Nat.div_le_self _ _) (h.wide h1)
  obtain ⟨hI, hN, hcap, hdi⟩ := id hK
  obtain ⟨hc0, ⟨r_a, px_a, pf_a, py_a, po_a, ps_a, od_a, hU0⟩, hdk0⟩ := id hS
  have hf0 : EF M M wa la N eu dv hi lo := fun _ _ _ _ _ _ => rfl
  obtain ⟨V0, hV0⟩ : ∃ V0, V = V0 := ⟨_, rfl⟩
  rw [hV0] at hc0
  have hn0 := hU0.1
  have b_r0 := hn0.2.1
  have b_x0 := hn0.2.2.1
  have b_f0 := hn0.2.2.2.1
  have hdv0 := hU0.2.1
  obtain ⟨ea0, eb0, ec0, ed0, hE0⟩ := hU0.2.2.2
  have hD0 := hdv0.1
  have hb9 : b + 256 < N := hb
  show jj G kM_divide (d + 4) Q rc rs 0 [some (.ref mx), some (.ref dk), none, none] [] M
  refine jj_aload_n (pc := 0) kM_divide_d0 rfl ?_
  refine jj_getf (pc := 1) kM_divide_d1 (kfM_K_divider hG) hdk0 rfl ?_
  refine jj_aload_n (pc := 4) kM_divide_d4 rfl ?_
  refine jj_getf (pc := 5) kM_divide_d5 (kfM_common hG) hm rfl ?_
  refine jj_aload_n (pc := 8) kM_divide_d8 rfl ?_
  refine jj_getf (pc := 9) kM_divide_d9 (kfM_K_divisor hG) hdk0 rfl ?_
  refine jj_callV (pc := 12) (b := dv) (As := [.ref (wa (b + 256)), .ref (wa 10)]) kM_divide_d12 (kvM_D_divide hG) (kG_cl hG rfl) rfl hD0 rfl rfl rfl (Nat.le_of_ble_eq_true rfl) (Nat.le_of_ble_eq_true rfl) (jj_bare0 rfl) ?_
  refine d_divide hG hI hc0 hdv0 hdi (by omega) (by omega) hb (by omega) hn0.nqr (by omega) (by omega) (by omega) (by omega) (hl9 _ _ _ hc0 (by omega) (by omega)) (by rw [hcap 0 (by omega)]; exact (hl9 _ _ _ hc0 (by omega) (by omega))) (by rw [hcap r_a (by omega)]; exact (hl9 _ _ _ hc0 (by omega) (by omega))) (fun M1 hcx1 hdx1 hw1 => ?_)
  obtain ⟨V1, hV1⟩ : ∃ W, vup (vup V0 0 ((V0 (b + 256)).tdiv (V0 10))) r_a ((V0 (b + 256)).tmod (V0 10)) = W := ⟨_, rfl⟩
  have hc1 : CW M1 wa la cap N V1 := by rw [← hV1]; exact hcx1
  have at1 : V1 0 = (V0 (b + 256)).tdiv (V0 10) := by rw [← hV1, vup_ne _ _ hn0.nqr, vup_at]
  have rt1 : V1 r_a = (V0 (b + 256)).tmod (V0 10) := by rw [← hV1, vup_at]
  have ot1 : ∀ p, p ≠ 0 → p ≠ r_a → V1 p = V0 p := fun p h1 h2 => by rw [← hV1, vup_ne _ _ h2, vup_ne _ _ h1]
  have hU1 := hU0.div hc0 hdx1 hw1
  have hf1 := hf0.trans (hw1.ef (eu := eu) (dv := dv))
  have q1_mx := (hw1.ef (eu := eu) (dv := dv)).obj hc0 hU0 hm (by decide) (by decide) (by decide)
  have q1_dk := (hw1.ef (eu := eu) (dv := dv)).obj hc0 hU0 hdk0 (by decide) (by decide) (by decide)
  have hn1 := hU1.1
  have b_r1 := hn1.2.1
  have b_x1 := hn1.2.2.1
  have b_f1 := hn1.2.2.2.1
  have hdv1 := hU1.2.1
  obtain ⟨ea1, eb1, ec1, ed1, hE1⟩ := hU1.2.2.2
  have hD1 := hdv1.1
  show jj G kM_divide (d + 4) Q rc rs 15 [some (.ref mx), some (.ref dk), none, none] [] M1
  obtain ⟨Tb256_1, tb256_1, hTb256_1, _, _⟩ := hc1 (b + 256) (by omega)
  refine jj_aload_n (pc := 15) kM_divide_d15 rfl ?_
  refine jj_getf (pc := 16) kM_divide_d16 (kfM_common hG) q1_mx rfl ?_
  refine jj_aload_n (pc := 19) kM_divide_d19 rfl ?_
  refine jj_getf (pc := 20) kM_divide_d20 (kfM_K_divider hG) q1_dk rfl ?_
  refine jj_getf (pc := 23) kM_divide_d23 (kfM_D_quotient hG) hD1 rfl ?_
  refine jj_callV (pc := 26) (b := (wa (b + 256))) (As := [.ref (wa 0)]) kM_divide_d26 (kvM_W_copy hG) (kG_cl hG rfl) rfl hTb256_1 rfl rfl rfl (Nat.le_of_ble_eq_true rfl) (Nat.le_of_ble_eq_true rfl) (jj_bare0 rfl) ?_
  refine w_copy hG hI hc1 hb (by omega : 0 < N) (by rw [at1]; exact hw9 _ _ _ _ hc0 hb) (fun M2 hcx2 hw2 => ?_)
  obtain ⟨V2, hV2⟩ : ∃ W, vup V1 (b + 256) (V1 0) = W := ⟨_, rfl⟩
  have hc2 : CW M2 wa la cap N V2 := by rw [← hV2]; exact hcx2
  have at2 : V2 (b + 256) = V1 0 := by rw [← hV2, vup_at]
  have ot2 : ∀ p, p ≠ (b + 256) → V2 p = V1 p := fun p hp => by rw [← hV2, vup_ne _ _ hp]
  have hU2 := hU1.wt hc1 hdi hb hw2
  have hf2 := hf1.trans (hw2.ef hb)
  have q2_mx := (hw2.ef (eu := eu) (dv := dv) (hi := hi) (lo := lo) hb).obj hc1 hU1 q1_mx (by decide) (by decide) (by decide)
  have q2_dk := (hw2.ef (eu := eu) (dv := dv) (hi := hi) (lo := lo) hb).obj hc1 hU1 q1_dk (by decide) (by decide) (by decide)
  have hn2 := hU2.1
  have b_r2 := hn2.2.1
  have b_x2 := hn2.2.2.1
  have b_f2 := hn2.2.2.2.1
  have hdv2 := hU2.2.1
  obtain ⟨ea2, eb2, ec2, ed2, hE2⟩ := hU2.2.2.2
  have hD2 := hdv2.1
  show jj G kM_divide (d + 4) Q rc rs 29 [some (.ref mx), some (.ref dk), none, none] [] M2
  have hM2 : MXT M2 wa mx ar b r c := hM.ef hS hf2
  have v1a : V2 (b + 256) = (V (b + 256)).tdiv (V 10) := by rw [at2, at1, hV0]
  have vo2 : ∀ p, 7 ≤ p → p ≠ b + 256 → V2 p = V p := fun p p1 p2 => by rw [ot2 p p2, ot1 p (by omega) (by omega), hV0]
  have v10 : V2 10 = V 10 := vo2 10 (by omega) (by omega)
  have hS2 : KS M2 wa la cap N eu dv hi lo dk V2 := ⟨hc2, ⟨r_a, px_a, pf_a, py_a, po_a, ps_a, od_a, hU2⟩, q2_dk⟩
  refine jn_iconst (pc := 29) 0 kM_divide_d29 (by decide) ?_
  refine jj_istore_n (pc := 30) kM_divide_d30 (Nat.le_of_ble_eq_true rfl) ?_
  show jj G kM_divide (d + 4) Q rc rs 31 [some (.ref mx), some (.ref dk), some (.int (nI (0))), none] [] M2
  show jj G kM_divide (d + 4) Q rc rs 31 [some (.ref mx), some (.ref dk), some (.int (nI (0))), none] [] M2
  have outer : ∀ mu i, r = i + mu → ∀ (oj : Option Value) (M9 : mheap) (V9 : Nat → Int), KS M9 wa la cap N eu dv hi lo dk V9 → MXT M9 wa mx ar b r c → V9 (b + 256) = (V (b + 256)).tdiv (V 10) → (∀ i' j', thru c i 0 i' j' → V9 (b + (16 * i' + j')) = (V (b + (16 * i' + j'))).tdiv (V 10)) → (∀ p, 7 ≤ p → p ≠ b + 256 → (∀ i' j', thru c i 0 i' j' → p ≠ b + (16 * i' + j')) → V9 p = V p) → EF M M9 wa la N eu dv hi lo → jj G kM_divide (d + 4) Q rc rs 31 [some (.ref mx), some (.ref dk), some (.int (nI (i))), (oj)] [] M9 := by
    intro mu
    induction mu with
    | zero =>
      intro i hk oj M9 V9 hS9 hM9 v1 v0 vo f9
      have e9 : r = i := by omega
      subst e9
      have h9m := hM9.1
      refine jj_iload_n (pc := 31) kM_divide_d31 rfl ?_
      refine jj_aload_n (pc := 32) kM_divide_d32 rfl ?_
      refine jj_getf (pc := 33) kM_divide_d33 (kfM_rows hG) h9m rfl ?_
      refine jn_icmp_ge (pc := 36) (tgt := 94) kM_divide_d36 (by decide) (by omega) (by omega) (fun _ => ?_) (fun c => by exfalso; omega)
      exact jj_vret (pc := 94) kM_divide_d94 rfl (k M9 V9 hS9 hM9 v1 (fun i j hi hj => v0 i j ⟨hj, Or.inl hi⟩) (fun p h1 h2 h3 => vo p h1 h2 (fun i' j' h => by obtain ⟨g1, g2⟩ := h; exact h3 i' j' (by omega) g1)) f9)
    | succ mu ih =>
      intro i hk oj M9 V9 hS9 hM9 v1 v0 vo f9
      have h9m := hM9.1
      refine jj_iload_n (pc := 31) kM_divide_d31 rfl ?_
      refine jj_aload_n (pc := 32) kM_divide_d32 rfl ?_
      refine jj_getf (pc := 33) kM_divide_d33 (kfM_rows hG) h9m rfl ?_
      refine jn_icmp_ge (pc := 36) (tgt := 94) kM_divide_d36 (by decide) (by omega) (by omega) (fun c => by exfalso; omega) (fun _ => ?_)
      refine jn_iconst (pc := 39) 0 kM_divide_d39 (by decide) ?_
      refine jj_istore_n (pc := 40) kM_divide_d40 (Nat.le_of_ble_eq_true rfl) ?_
      show jj G kM_divide (d + 4) Q rc rs 41 [some (.ref mx), some (.ref dk), some (.int (nI (i))), some (.int (nI (0)))] [] M9
      show jj G kM_divide (d + 4) Q rc rs 41 [some (.ref mx), some (.ref dk), some (.int (nI (i))), some (.int (nI (0)))] [] M9
      have inner : ∀ mu2 j, c = j + mu2 → ∀ (M9 : mheap) (V9 : Nat → Int), KS M9 wa la cap N eu dv hi lo dk V9 → MXT M9 wa mx ar b r c → V9 (b + 256) = (V (b + 256)).tdiv (V 10) → (∀ i' j', thru c i j i' j' → V9 (b + (16 * i' + j')) = (V (b + (16 * i' + j'))).tdiv (V 10)) → (∀ p, 7 ≤ p → p ≠ b + 256 → (∀ i' j', thru c i j i' j' → p ≠ b + (16 * i' + j')) → V9 p = V p) → EF M M9 wa la N eu dv hi lo → jj G kM_divide (d + 4) Q rc rs 41 [some (.ref mx), some (.ref dk), some (.int (nI (i))), some (.int (nI (j)))] [] M9 := by
        intro mu2
        induction mu2 with
        | zero =>
          intro j hk2 M9 V9 hS9 hM9 v1 v0 vo f9
          have e9 : c = j := by omega
          subst e9
          have h9m := hM9.1
          refine jj_iload_n (pc := 41) kM_divide_d41 rfl ?_
          refine jj_aload_n (pc := 42) kM_divide_d42 rfl ?_
          refine jj_getf (pc := 43) kM_divide_d43 (kfM_columns hG) h9m rfl ?_
          refine jn_icmp_ge (pc := 46) (tgt := 88) kM_divide_d46 (by decide) (by omega) (by omega) (fun _ => ?_) (fun c => by exfalso; omega)
          refine jn_iinc (pc := 88) (i + 1) kM_divide_d88 rfl (nI_1 _) ?_
          refine jj_goto (pc := 91) (tgt := 31) kM_divide_d91 (by decide) ?_
          show jj G kM_divide (d + 4) Q rc rs 31 [some (.ref mx), some (.ref dk), some (.int (nI (i + 1))), some (.int (nI (c)))] [] M9
          refine ih (i + 1) (by omega) _ M9 V9 hS9 hM9 v1 (fun i' j' h => v0 i' j' ?_) (fun p h1 h2 h3 => vo p h1 h2 (fun i' j' h => h3 i' j' ?_)) f9
          · obtain ⟨g1, g2⟩ := h
            exact ⟨g1, by omega⟩
          · obtain ⟨g1, g2⟩ := h
            exact ⟨g1, by omega⟩
        | succ mu2 ih2 =>
          intro j hk2 M9 V9 hS9 hM9 v1 v0 vo f9
          have h9m := hM9.1
          have hp : b + (16 * i + j) < N := by omega
          have hold9 : V9 (b + (16 * i + j)) = V (b + (16 * i + j)) := vo _ (by omega) (by omega) (fun i' j' h e => by obtain ⟨g1, g2⟩ := h; omega)
          refine jj_iload_n (pc := 41) kM_divide_d41 rfl ?_
          refine jj_aload_n (pc := 42) kM_divide_d42 rfl ?_
          refine jj_getf (pc := 43) kM_divide_d43 (kfM_columns hG) h9m rfl ?_
          refine jn_icmp_ge (pc := 46) (tgt := 88) kM_divide_d46 (by decide) (by omega) (by omega) (fun c => by exfalso; omega) (fun _ => ?_)
          obtain ⟨hc0, ⟨r_0, px_0, pf_0, py_0, po_0, ps_0, od_0, hU0⟩, hdk0⟩ := id hS9
          have hf0 : EF M9 M9 wa la N eu dv hi lo := fun _ _ _ _ _ _ => rfl
          obtain ⟨V0, hV0⟩ : ∃ V0, V9 = V0 := ⟨_, rfl⟩
          rw [hV0] at hc0
          have hn0 := hU0.1
          have b_r0 := hn0.2.1
          have b_x0 := hn0.2.2.1
          have b_f0 := hn0.2.2.2.1
          have hdv0 := hU0.2.1
          obtain ⟨ea0, eb0, ec0, ed0, hE0⟩ := hU0.2.2.2
          have hD0 := hdv0.1
          rw [hV0] at hold9
          have v10a : V0 10 = V 10 := by rw [← hV0]; exact vo 10 (by omega) (by omega) (fun i' j' h => by omega)
          refine jj_aload_n (pc := 49) kM_divide_d49 rfl ?_
          refine jj_getf (pc := 50) kM_divide_d50 (kfM_K_divider hG) hdk0 rfl ?_
          refine jj_aload_n (pc := 53) kM_divide_d53 rfl ?_
          refine jj_iload_n (pc := 54) kM_divide_d54 rfl ?_
          refine jj_iload_n (pc := 55) kM_divide_d55 rfl ?_
          refine jj_callV (pc := 56) (b := mx) (As := [.int (nI (i)), .int (nI (j))]) kM_divide_d56 (kvM_M_at hG) (kG_cl hG rfl) rfl h9m rfl rfl rfl (Nat.le_of_ble_eq_true rfl) (Nat.le_of_ble_eq_true rfl) (jj_bare0 rfl) ?_
          refine m_at hG hM9 (by omega) (by omega) ?_
          show jj G kM_divide (d + 4) Q rc rs 59 [some (.ref mx), some (.ref dk), some (.int (nI (i))), some (.int (nI (j)))] [.ref (wa (b + (16 * i + j))), .ref dv] M9
          refine jj_aload_n (pc := 59) kM_divide_d59 rfl ?_
          refine jj_getf (pc := 60) kM_divide_d60 (kfM_K_divisor hG) hdk0 rfl ?_
          refine jj_callV (pc := 63) (b := dv) (As := [.ref (wa (b + (16 * i + j))), .ref (wa 10)]) kM_divide_d63 (kvM_D_divide hG) (kG_cl hG rfl) rfl hD0 rfl rfl rfl (Nat.le_of_ble_eq_true rfl) (Nat.le_of_ble_eq_true rfl) (jj_bare0 rfl) ?_
          refine d_divide hG hI hc0 hdv0 hdi (by omega) (by omega) hp (by omega) hn0.nqr (by omega) (by omega) (by omega) (by omega) (hl9 _ _ _ hc0 (by omega) (by omega)) (by rw [hcap 0 (by omega)]; exact (hl9 _ _ _ hc0 (by omega) (by omega))) (by rw [hcap r_0 (by omega)]; exact (hl9 _ _ _ hc0 (by omega) (by omega))) (fun M1 hcx1 hdx1 hw1 => ?_)
          obtain ⟨V1, hV1⟩ : ∃ W, vup (vup V0 0 ((V0 (b + (16 * i + j))).tdiv (V0 10))) r_0 ((V0 (b + (16 * i + j))).tmod (V0 10)) = W := ⟨_, rfl⟩
          have hc1 : CW M1 wa la cap N V1 := by rw [← hV1]; exact hcx1
          have at1 : V1 0 = (V0 (b + (16 * i + j))).tdiv (V0 10) := by rw [← hV1, vup_ne _ _ hn0.nqr, vup_at]
          have rt1 : V1 r_0 = (V0 (b + (16 * i + j))).tmod (V0 10) := by rw [← hV1, vup_at]
          have ot1 : ∀ p, p ≠ 0 → p ≠ r_0 → V1 p = V0 p := fun p h1 h2 => by rw [← hV1, vup_ne _ _ h2, vup_ne _ _ h1]
          have hU1 := hU0.div hc0 hdx1 hw1
          have hf1 := hf0.trans (hw1.ef (eu := eu) (dv := dv))
          have q1_mx := (hw1.ef (eu := eu) (dv := dv)).obj hc0 hU0 h9m (by decide) (by decide) (by decide)
          have q1_dk := (hw1.ef (eu := eu) (dv := dv)).obj hc0 hU0 hdk0 (by decide) (by decide) (by decide)
          have hn1 := hU1.1
          have b_r1 := hn1.2.1
          have b_x1 := hn1.2.2.1
          have b_f1 := hn1.2.2.2.1
          have hdv1 := hU1.2.1
          obtain ⟨ea1, eb1, ec1, ed1, hE1⟩ := hU1.2.2.2
          have hD1 := hdv1.1
          show jj G kM_divide (d + 4) Q rc rs 66 [some (.ref mx), some (.ref dk), some (.int (nI (i))), some (.int (nI (j)))] [] M1
          have hMa : MXT M1 wa mx ar b r c := hM9.ef hS9 hf1
          refine jj_aload_n (pc := 66) kM_divide_d66 rfl ?_
          refine jj_iload_n (pc := 67) kM_divide_d67 rfl ?_
          refine jj_iload_n (pc := 68) kM_divide_d68 rfl ?_
          refine jj_callV (pc := 69) (b := mx) (As := [.int (nI (i)), .int (nI (j))]) kM_divide_d69 (kvM_M_at hG) (kG_cl hG rfl) rfl q1_mx rfl rfl rfl (Nat.le_of_ble_eq_true rfl) (Nat.le_of_ble_eq_true rfl) (jj_bare0 rfl) ?_
          refine m_at hG hMa (by omega) (by omega) ?_
          show jj G kM_divide (d + 4) Q rc rs 72 [some (.ref mx), some (.ref dk), some (.int (nI (i))), some (.int (nI (j)))] [.ref (wa (b + (16 * i + j)))] M1
          obtain ⟨Tb16ij_1, tb16ij_1, hTb16ij_1, _, _⟩ := hc1 (b + (16 * i + j)) (by omega)
          refine jj_aload_n (pc := 72) kM_divide_d72 rfl ?_
          refine jj_getf (pc := 73) kM_divide_d73 (kfM_K_divider hG) q1_dk rfl ?_
          refine jj_getf (pc := 76) kM_divide_d76 (kfM_D_quotient hG) hD1 rfl ?_
          refine jj_callV (pc := 79) (b := (wa (b + (16 * i + j)))) (As := [.ref (wa 0)]) kM_divide_d79 (kvM_W_copy hG) (kG_cl hG rfl) rfl hTb16ij_1 rfl rfl rfl (Nat.le_of_ble_eq_true rfl) (Nat.le_of_ble_eq_true rfl) (jj_bare0 rfl) ?_
          refine w_copy hG hI hc1 hp (by omega : 0 < N) (by rw [at1]; exact hw9 _ _ _ _ hc0 hp) (fun M2 hcx2 hw2 => ?_)
          obtain ⟨V2, hV2⟩ : ∃ W, vup V1 (b + (16 * i + j)) (V1 0) = W := ⟨_, rfl⟩
          have hc2 : CW M2 wa la cap N V2 := by rw [← hV2]; exact hcx2
          have at2 : V2 (b + (16 * i + j)) = V1 0 := by rw [← hV2, vup_at]
          have ot2 : ∀ p, p ≠ (b + (16 * i + j)) → V2 p = V1 p := fun p hp => by rw [← hV2, vup_ne _ _ hp]
          have hU2 := hU1.wt hc1 hdi hp hw2
          have hf2 := hf1.trans (hw2.ef hp)
          have q2_mx := (hw2.ef (eu := eu) (dv := dv) (hi := hi) (lo := lo) hp).obj hc1 hU1 q1_mx (by decide) (by decide) (by decide)
          have q2_dk := (hw2.ef (eu := eu) (dv := dv) (hi := hi) (lo := lo) hp).obj hc1 hU1 q1_dk (by decide) (by decide) (by decide)
          have hn2 := hU2.1
          have b_r2 := hn2.2.1
          have b_x2 := hn2.2.2.1
          have b_f2 := hn2.2.2.2.1
          have hdv2 := hU2.2.1
          obtain ⟨ea2, eb2, ec2, ed2, hE2⟩ := hU2.2.2.2
          have hD2 := hdv2.1
          show jj G kM_divide (d + 4) Q rc rs 82 [some (.ref mx), some (.ref dk), some (.int (nI (i))), some (.int (nI (j)))] [] M2
          have hat : V2 (b + (16 * i + j)) = (V (b + (16 * i + j))).tdiv (V 10) := by rw [at2, at1, hold9, v10a]
          have hot : ∀ p, 7 ≤ p → p ≠ (b + (16 * i + j)) → V2 p = V9 p := fun p p1 p2 => by rw [ot2 p p2, ot1 p (by omega) (by omega), hV0]
          refine jn_iinc (pc := 82) (j + 1) kM_divide_d82 rfl (nI_1 _) ?_
          refine jj_goto (pc := 85) (tgt := 41) kM_divide_d85 (by decide) ?_
          show jj G kM_divide (d + 4) Q rc rs 41 [some (.ref mx), some (.ref dk), some (.int (nI (i))), some (.int (nI (j + 1)))] [] M2
          refine ih2 (j + 1) (by omega) M2 V2 ⟨hc2, ⟨r_0, px_0, pf_0, py_0, po_0, ps_0, od_0, hU2⟩, q2_dk⟩ (hM9.ef hS9 hf2) ((hot _ (by omega) (by omega)).trans v1) (fun i' j' h => ?_) (fun p h1 h2 h3 => ?_) (f9.trans hf2)
          · obtain ⟨g1, g2⟩ := h
            by_cases e : i' = i ∧ j' = j
            · obtain ⟨e1, e2⟩ := e
              subst e1 e2
              exact hat
            · rw [hot _ (by omega) (by omega)]
              exact v0 i' j' ⟨g1, by omega⟩
          · rw [hot p h1 (h3 i j ⟨by omega, Or.inr ⟨rfl, by omega⟩⟩)]
            exact vo p h1 h2 (fun i' j' h => h3 i' j' (by obtain ⟨g1, g2⟩ := h; exact ⟨g1, by omega⟩))
      exact inner c 0 (by omega) M9 V9 hS9 hM9 v1 v0 vo f9
  refine outer r 0 (by omega) none M2 V2 hS2 hM2 v1a (fun i' j' h => ?_) (fun p h1 h2 h3 => vo2 p h1 h2) hf2
  obtain ⟨_, g⟩ := h
  omega
end M3
