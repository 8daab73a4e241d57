/-! ===== Elimination: append (printed by wip/gen/rE9.py) ===== -/
section E9
variable {G : jg} {d : Nat} {Q : jq} {rc rs : Nat} {M : mheap} {wa la cap : Nat → Nat} {N eu dv hi lo dk el ra pa ia ga rk sw m w : Nat} {P B : List Int32} {g : Nat → Nat} {V : Nat → Int}
theorem e_app1 {mx ar b r c i : Nat} (hG : kG G) (hK : KJI wa la cap N hi lo) (hS : KS M wa la cap N eu dv hi lo dk V) (hJ : LJ wa la cap N eu dv hi lo dk el ra pa ia ga) (hL : ELT M wa el ra pa ia ga dk rk sw m w P B g) (hM : MXT M wa mx ar b r c) (hb : b + 256 < N) (hb7 : 547 ≤ b) (hw : w ≤ 16) (hi16 : i < 16) (hl11 : lc (V 11) ≤ 125) (hrc : 1 ≤ rc) (hrs : 6 ≤ rs) (k : ∀ (M' : mheap) (V' : Nat → Int), KS M' wa la cap N eu dv hi lo dk V' → EF M M' wa la N eu dv hi lo → (∀ q, 8 ≤ q → (∀ j', j' < w → q ≠ g (32 * i + j')) → V' q = V q) → (∀ j, j < w → V' (g (32 * i + j)) = V (g (32 * i + j)) * V 11 ∧ blen (V' (g (32 * i + j))) ≤ 2000) → jj G kE_append (d + 9) Q rc rs 129 [some (.ref el), some (.ref mx), some (.int (nI (i))), some (.int (nI (w)))] [] M') (kt : ∀ (M' : mheap) (V' : Nat → Int), KS M' wa la cap N eu dv hi lo dk V' → EF M M' wa la N eu dv hi lo → (∀ q, 8 ≤ q → (∀ j', j' < w → q ≠ g (32 * i + j')) → V' q = V q) → (∃ j, j < w ∧ 2000 < blen (V (g (32 * i + j)) * V 11)) → ∀ x, M' x = none → Q (.threw x) (jj_up M' x (.inl 6, [])) (rc - 1) (rs - 6)) : jj G kE_append (d + 9) Q rc rs 79 [some (.ref el), some (.ref mx), some (.int (nI (i))), some (.int (nI (0)))] [] M := by
  obtain ⟨hI, hN, hcap, hdi⟩ := id hK
  obtain ⟨h547, c17, c33, c34, c64, f1, f2, f3, f4, f5, n1, n2, n3, n4, n5⟩ := id hJ
  have hGP := hL.2.2.2.2.2
  have loop : ∀ mu j, w = j + mu → ∀ (M9 : mheap) (V9 : Nat → Int), KS M9 wa la cap N eu dv hi lo dk V9 → EF M M9 wa la N eu dv hi lo → (∀ q, 8 ≤ q → (∀ j', j' < j → q ≠ g (32 * i + j')) → V9 q = V q) → (∀ j', j' < j → V9 (g (32 * i + j')) = V (g (32 * i + j')) * V 11 ∧ blen (V9 (g (32 * i + j'))) ≤ 2000) → jj G kE_append (d + 9) Q rc rs 79 [some (.ref el), some (.ref mx), some (.int (nI (i))), some (.int (nI (j)))] [] M9 := by
    intro mu
    induction mu with
    | zero =>
      intro j hk M9 V9 hS9 f9 o9 e9
      have ej : w = j := by omega
      subst ej
      have hl9 := (hL.ef hJ f9).1
      refine jj_iload_n (pc := 79) kE_append_d79 rfl ?_
      refine jj_aload_n (pc := 80) kE_append_d80 rfl ?_
      refine jj_getf (pc := 81) kE_append_d81 (kfE_width hG) hl9 rfl ?_
      refine jn_icmp_ge (pc := 84) (tgt := 129) kE_append_d84 (by decide) (by omega) (by omega) (fun _ => ?_) (fun c => by exfalso; omega)
      show jj G kE_append (d + 9) Q rc rs 129 [some (.ref el), some (.ref mx), some (.int (nI (i))), some (.int (nI (w)))] [] M9
      exact k M9 V9 hS9 f9 o9 e9
    | succ mu ih =>
      intro j hk M9 V9 hS9 f9 o9 e9
      have hL9 := hL.ef hJ f9
      have hl9 := hL9.1
      have hm9 := (hM.ef hS f9).1
      have g1 := hGP.1 (32 * i + j) (by omega)
      obtain ⟨hc0, ⟨r_b, px_b, pf_b, py_b, po_b, ps_b, od_b, hU0⟩, hdk0⟩ := id hS9
      have hf0 : EF M9 M9 wa la N eu dv hi lo := fun _ _ _ _ _ _ => rfl
      obtain ⟨V0, hV0⟩ : ∃ V0, V9 = V0 := ⟨_, rfl⟩
      rw [hV0] at hc0
      have hn0 := hU0.1
      have b_r0 := hn0.2.1
      have b_x0 := hn0.2.2.1
      have b_f0 := hn0.2.2.2.1
      have hdv0 := hU0.2.1
      obtain ⟨ea0, eb0, ec0, ed0, hE0⟩ := hU0.2.2.2
      have hD0 := hdv0.1
      rw [hV0] at o9 e9
      have v1 : V0 (g (32 * i + j)) = V (g (32 * i + j)) := o9 _ (by omega) (fun j' h => hGP.ne (by omega) (by omega) (by omega) (by omega) (by omega))
      have v11 : V0 11 = V 11 := o9 _ (by omega) (fun j' h => by have := hGP.1 (32 * i + j') (by omega); omega)
      have l1 : lc (V0 (g (32 * i + j))) ≤ 64 := by have := hc0.lc (p := (g (32 * i + j))) (by omega); rw [c64 _ g1.1 g1.2] at this; exact this
      have l2 : lc (V0 11) ≤ 125 := by rw [v11]; exact hl11
      show jj G kE_append (d + 9) Q rc rs 79 [some (.ref el), some (.ref mx), some (.int (nI (i))), some (.int (nI (j)))] [] M9
      refine jj_iload_n (pc := 79) kE_append_d79 rfl ?_
      refine jj_aload_n (pc := 80) kE_append_d80 rfl ?_
      refine jj_getf (pc := 81) kE_append_d81 (kfE_width hG) hl9 rfl ?_
      refine jn_icmp_ge (pc := 84) (tgt := 129) kE_append_d84 (by decide) (by omega) (by omega) (fun c => by exfalso; omega) (fun _ => ?_)
      refine jj_aload_n (pc := 87) kE_append_d87 rfl ?_
      refine jj_getf (pc := 88) kE_append_d88 (kfE_desk hG) hl9 rfl ?_
      refine jj_getf (pc := 91) kE_append_d91 (kfE_K_left hG) hdk0 rfl ?_
      refine jj_aload_n (pc := 94) kE_append_d94 rfl ?_
      refine jj_iload_n (pc := 95) kE_append_d95 rfl ?_
      refine jj_iload_n (pc := 96) kE_append_d96 rfl ?_
      refine jj_callV (pc := 97) (b := el) (As := [.int (nI (i)), .int (nI (j))]) kE_append_d97 (kvE_E_at hG) (kG_cl hG rfl) rfl hl9 rfl rfl rfl (Nat.le_of_ble_eq_true rfl) (Nat.le_of_ble_eq_true rfl) (jj_bare0 rfl) ?_
      refine e_at hG hL9 (by omega) (by omega) ?_
      show jj G kE_append (d + 9) Q rc rs 100 [some (.ref el), some (.ref mx), some (.int (nI (i))), some (.int (nI (j)))] [.ref (wa (g (32 * i + j))), .ref (wa 7)] M9
      obtain ⟨T7_0, t7_0, hT7_0, _, _⟩ := hc0 7 (by omega)
      refine jj_aload_n (pc := 100) kE_append_d100 rfl ?_
      refine jj_getf (pc := 101) kE_append_d101 (kfE_desk hG) hl9 rfl ?_
      refine jj_getf (pc := 104) kE_append_d104 (kfE_K_leftFactor hG) hdk0 rfl ?_
      refine jj_callV (pc := 107) (b := (wa 7)) (As := [.ref (wa (g (32 * i + j))), .ref (wa 11)]) kE_append_d107 (kvE_W_product hG) (kG_cl hG rfl) rfl hT7_0 rfl rfl rfl (Nat.le_of_ble_eq_true rfl) (Nat.le_of_ble_eq_true rfl) (jj_bare0 rfl) ?_
      refine w_product hG hI hc0 (by omega : 7 < N) (by omega) (by omega) (by omega) (by omega) (by rw [hcap 7 (by omega)]; omega) (fun M1 hcx1 hw1  => ?_) 
      obtain ⟨V1, hV1⟩ : ∃ W, vup V0 7 (V0 (g (32 * i + j)) * V0 11) = W := ⟨_, rfl⟩
      have hc1 : CW M1 wa la cap N V1 := by rw [← hV1]; exact hcx1
      have at1 : V1 7 = V0 (g (32 * i + j)) * V0 11 := by rw [← hV1, vup_at]
      have ot1 : ∀ p, p ≠ 7 → V1 p = V0 p := fun p hp => by rw [← hV1, vup_ne _ _ hp]
      have hU1 := hU0.wt hc0 hdi (by omega) hw1
      have hf1 := hf0.trans (hw1.ef (by omega))
      have q1_el := (hw1.ef (eu := eu) (dv := dv) (hi := hi) (lo := lo) (by omega)).obj hc0 hU0 hl9 (by decide) (by decide) (by decide)
      have q1_mx := (hw1.ef (eu := eu) (dv := dv) (hi := hi) (lo := lo) (by omega)).obj hc0 hU0 hm9 (by decide) (by decide) (by decide)
      have q1_dk := (hw1.ef (eu := eu) (dv := dv) (hi := hi) (lo := lo) (by omega)).obj hc0 hU0 hdk0 (by decide) (by decide) (by decide)
      have hn1 := hU1.1
      have b_r1 := hn1.2.1
      have b_x1 := hn1.2.2.1
      have b_f1 := hn1.2.2.2.1
      have hdv1 := hU1.2.1
      obtain ⟨ea1, eb1, ec1, ed1, hE1⟩ := hU1.2.2.2
      have hD1 := hdv1.1
      show jj G kE_append (d + 9) Q rc rs 110 [some (.ref el), some (.ref mx), some (.int (nI (i))), some (.int (nI (j)))] [] M1
      rw [v1, v11] at at1
      have hL8 := hL9.ef hJ hf1
      have hS1a : KS M1 wa la cap N eu dv hi lo dk V1 := ⟨hc1, ⟨r_b, px_b, pf_b, py_b, po_b, ps_b, od_b, hU1⟩, q1_dk⟩
      refine jj_aload_n (pc := 110) kE_append_d110 rfl ?_
      refine jj_iload_n (pc := 111) kE_append_d111 rfl ?_
      refine jj_iload_n (pc := 112) kE_append_d112 rfl ?_
      refine jj_aload_n (pc := 113) kE_append_d113 rfl ?_
      refine jj_getf (pc := 114) kE_append_d114 (kfE_desk hG) q1_el rfl ?_
      refine jj_getf (pc := 117) kE_append_d117 (kfE_K_left hG) q1_dk rfl ?_
      refine jj_callV (pc := 120) (b := el) (As := [.int (nI (i)), .int (nI (j)), .ref (wa 7)]) kE_append_d120 (kvE_E_put hG) (kG_cl hG rfl) rfl q1_el rfl rfl rfl (Nat.le_of_ble_eq_true rfl) (Nat.le_of_ble_eq_true rfl) (jj_bare0 rfl) ?_
      refine e_put hG hK hS1a hJ hL8 (by omega) (by omega) (by omega : 7 < N) hrc hrs (fun M2 hcx2 hw2 hb2 => ?_) (fun h9 x hx => kt M1 V1 hS1a (f9.trans hf1) (fun q a b => by rw [ot1 q (by omega)]; exact o9 q a (fun j' h => b j' (by omega))) ⟨j, by omega, by rw [← at1]; exact h9⟩ x hx)
      obtain ⟨V2, hV2⟩ : ∃ W, vup V1 (g (32 * i + j)) (V1 7) = W := ⟨_, rfl⟩
      have hc2 : CW M2 wa la cap N V2 := by rw [← hV2]; exact hcx2
      have at2 : V2 (g (32 * i + j)) = V1 7 := by rw [← hV2, vup_at]
      have ot2 : ∀ p, p ≠ (g (32 * i + j)) → V2 p = V1 p := fun p hp => by rw [← hV2, vup_ne _ _ hp]
      have hU2 := hU1.wt hc1 hdi (by omega) hw2
      have hf2 := hf1.trans (hw2.ef (by omega))
      have q2_el := (hw2.ef (eu := eu) (dv := dv) (hi := hi) (lo := lo) (by omega)).obj hc1 hU1 q1_el (by decide) (by decide) (by decide)
      have q2_mx := (hw2.ef (eu := eu) (dv := dv) (hi := hi) (lo := lo) (by omega)).obj hc1 hU1 q1_mx (by decide) (by decide) (by decide)
      have q2_dk := (hw2.ef (eu := eu) (dv := dv) (hi := hi) (lo := lo) (by omega)).obj hc1 hU1 q1_dk (by decide) (by decide) (by decide)
      have hn2 := hU2.1
      have b_r2 := hn2.2.1
      have b_x2 := hn2.2.2.1
      have b_f2 := hn2.2.2.2.1
      have hdv2 := hU2.2.1
      obtain ⟨ea2, eb2, ec2, ed2, hE2⟩ := hU2.2.2.2
      have hD2 := hdv2.1
      show jj G kE_append (d + 9) Q rc rs 123 [some (.ref el), some (.ref mx), some (.int (nI (i))), some (.int (nI (j)))] [] M2
      refine jn_iinc (pc := 123) (j + 1) kE_append_d123 rfl (nI_1 _) ?_
      refine jj_goto (pc := 126) (tgt := 79) kE_append_d126 (by decide) ?_
      show jj G kE_append (d + 9) Q rc rs 79 [some (.ref el), some (.ref mx), some (.int (nI (i))), some (.int (nI (j + 1)))] [] M2
      refine ih (j + 1) (by omega) M2 V2 ⟨hc2, ⟨r_b, px_b, pf_b, py_b, po_b, ps_b, od_b, hU2⟩, q2_dk⟩ (f9.trans hf2) (fun q a b => ?_) (fun j' h => ?_)
      · rw [ot2 q (b j (by omega)), ot1 q (by omega)]
        exact o9 q a (fun j' h => b j' (by omega))
      · by_cases e : j' = j
        · rw [e, at2, at1]
          rw [at1] at hb2
          exact ⟨rfl, hb2⟩
        · have := hGP.1 (32 * i + j') (by omega)
          rw [ot2 _ (hGP.ne (by omega) (by omega) (by omega) (by omega) (by omega)), ot1 _ (by omega)]
          exact e9 j' (by omega)
  exact loop w 0 (by omega) M V hS (fun _ _ _ _ _ _ => rfl) (fun _ _ _ => rfl) (fun j' h => by omega)
theorem e_app2 {mx ar b r c i : Nat} (hG : kG G) (hK : KJI wa la cap N hi lo) (hS : KS M wa la cap N eu dv hi lo dk V) (hJ : LJ wa la cap N eu dv hi lo dk el ra pa ia ga) (hL : ELT M wa el ra pa ia ga dk rk sw m w P B g) (hM : MXT M wa mx ar b r c) (hb : b + 256 < N) (hb7 : 547 ≤ b) (hw : w ≤ 16) (hcc : c ≤ 16) (hi16 : i < 16) (hl12 : lc (V 12) ≤ 125) (hlc : ∀ j, j < c → lc (V (b + (16 * i + j))) ≤ 125) (hdvd : ∀ j, j < c → V 10 ∣ V (b + (16 * i + j))) (hrc : 1 ≤ rc) (hrs : 6 ≤ rs) (k : ∀ (M' : mheap) (V' : Nat → Int), KS M' wa la cap N eu dv hi lo dk V' → EF M M' wa la N eu dv hi lo → (∀ q, 8 ≤ q → (∀ j', j' < c → q ≠ g (32 * i + (w + j'))) → V' q = V q) → (∀ j, j < c → V' (g (32 * i + (w + j))) * V 10 = V (b + (16 * i + j)) * V 12 ∧ blen (V' (g (32 * i + (w + j)))) ≤ 2000) → jj G kE_append (d + 9) Q rc rs 213 [some (.ref el), some (.ref mx), some (.int (nI (i))), some (.int (nI (c)))] [] M') (kt : ∀ (M' : mheap) (V' : Nat → Int), KS M' wa la cap N eu dv hi lo dk V' → EF M M' wa la N eu dv hi lo → (∀ q, 8 ≤ q → (∀ j', j' < c → q ≠ g (32 * i + (w + j'))) → V' q = V q) → (∃ j x, j < c ∧ x * V 10 = V (b + (16 * i + j)) * V 12 ∧ 2000 < blen x) → ∀ x, M' x = none → Q (.threw x) (jj_up M' x (.inl 6, [])) (rc - 1) (rs - 6)) : jj G kE_append (d + 9) Q rc rs 131 [some (.ref el), some (.ref mx), some (.int (nI (i))), some (.int (nI (0)))] [] M := by
  obtain ⟨hI, hN, hcap, hdi⟩ := id hK
  obtain ⟨h547, c17, c33, c34, c64, f1, f2, f3, f4, f5, n1, n2, n3, n4, n5⟩ := id hJ
  have hGP := hL.2.2.2.2.2
  have loop : ∀ mu j, c = j + mu → ∀ (M9 : mheap) (V9 : Nat → Int), KS M9 wa la cap N eu dv hi lo dk V9 → EF M M9 wa la N eu dv hi lo → (∀ q, 8 ≤ q → (∀ j', j' < j → q ≠ g (32 * i + (w + j'))) → V9 q = V q) → (∀ j', j' < j → V9 (g (32 * i + (w + j'))) * V 10 = V (b + (16 * i + j')) * V 12 ∧ blen (V9 (g (32 * i + (w + j')))) ≤ 2000) → jj G kE_append (d + 9) Q rc rs 131 [some (.ref el), some (.ref mx), some (.int (nI (i))), some (.int (nI (j)))] [] M9 := by
    intro mu
    induction mu with
    | zero =>
      intro j hk M9 V9 hS9 f9 o9 e9
      have ej : c = j := by omega
      subst ej
      have hm9 := (hM.ef hS f9).1
      refine jj_iload_n (pc := 131) kE_append_d131 rfl ?_
      refine jj_aload_n (pc := 132) kE_append_d132 rfl ?_
      refine jj_getf (pc := 133) kE_append_d133 (kfE_M_columns hG) hm9 rfl ?_
      refine jn_icmp_ge (pc := 136) (tgt := 213) kE_append_d136 (by decide) (by omega) (by omega) (fun _ => ?_) (fun c => by exfalso; omega)
      show jj G kE_append (d + 9) Q rc rs 213 [some (.ref el), some (.ref mx), some (.int (nI (i))), some (.int (nI (c)))] [] M9
      exact k M9 V9 hS9 f9 o9 e9
    | succ mu ih =>
      intro j hk M9 V9 hS9 f9 o9 e9
      have hL9 := hL.ef hJ f9
      have hl9 := hL9.1
      have hM9 := hM.ef hS f9
      have hm9 := hM9.1
      have g1 := hGP.1 (32 * i + (w + j)) (by omega)
      obtain ⟨hc0, ⟨r_b, px_b, pf_b, py_b, po_b, ps_b, od_b, hU0⟩, hdk0⟩ := id hS9
      have hf0 : EF M9 M9 wa la N eu dv hi lo := fun _ _ _ _ _ _ => rfl
      obtain ⟨V0, hV0⟩ : ∃ V0, V9 = V0 := ⟨_, rfl⟩
      rw [hV0] at hc0
      have hn0 := hU0.1
      have b_r0 := hn0.2.1
      have b_x0 := hn0.2.2.1
      have b_f0 := hn0.2.2.2.1
      have hdv0 := hU0.2.1
      obtain ⟨ea0, eb0, ec0, ed0, hE0⟩ := hU0.2.2.2
      have hD0 := hdv0.1
      rw [hV0] at o9 e9
      have far : ∀ q, 8 ≤ q → (q < 35 ∨ 547 ≤ q) → V0 q = V q := fun q a b => o9 q a (fun j' h => by have := hGP.1 (32 * i + (w + j')) (by omega); omega)
      have v1 : V0 (b + (16 * i + j)) = V (b + (16 * i + j)) := far _ (by omega) (by omega)
      have v10 : V0 10 = V 10 := far _ (by omega) (by omega)
      have v12 : V0 12 = V 12 := far _ (by omega) (by omega)
      have l1 : lc (V0 (b + (16 * i + j))) ≤ 125 := by rw [v1]; exact hlc j (by omega)
      have l2 : lc (V0 12) ≤ 125 := by rw [v12]; exact hl12
      show jj G kE_append (d + 9) Q rc rs 131 [some (.ref el), some (.ref mx), some (.int (nI (i))), some (.int (nI (j)))] [] M9
      refine jj_iload_n (pc := 131) kE_append_d131 rfl ?_
      refine jj_aload_n (pc := 132) kE_append_d132 rfl ?_
      refine jj_getf (pc := 133) kE_append_d133 (kfE_M_columns hG) hm9 rfl ?_
      refine jn_icmp_ge (pc := 136) (tgt := 213) kE_append_d136 (by decide) (by omega) (by omega) (fun c => by exfalso; omega) (fun _ => ?_)
      refine jj_aload_n (pc := 139) kE_append_d139 rfl ?_
      refine jj_getf (pc := 140) kE_append_d140 (kfE_desk hG) hl9 rfl ?_
      refine jj_getf (pc := 143) kE_append_d143 (kfE_K_divider hG) hdk0 rfl ?_
      refine jj_aload_n (pc := 146) kE_append_d146 rfl ?_
      refine jj_iload_n (pc := 147) kE_append_d147 rfl ?_
      refine jj_iload_n (pc := 148) kE_append_d148 rfl ?_
      refine jj_callV (pc := 149) (b := mx) (As := [.int (nI (i)), .int (nI (j))]) kE_append_d149 (kvE_M_at hG) (kG_cl hG rfl) rfl hm9 rfl rfl rfl (Nat.le_of_ble_eq_true rfl) (Nat.le_of_ble_eq_true rfl) (jj_bare0 rfl) ?_
      refine m_at hG hM9 (by omega) (by omega) ?_
      show jj G kE_append (d + 9) Q rc rs 152 [some (.ref el), some (.ref mx), some (.int (nI (i))), some (.int (nI (j)))] [.ref (wa (b + (16 * i + j))), .ref dv] M9
      refine jj_aload_n (pc := 152) kE_append_d152 rfl ?_
      refine jj_getf (pc := 153) kE_append_d153 (kfE_desk hG) hl9 rfl ?_
      refine jj_getf (pc := 156) kE_append_d156 (kfE_K_divisor hG) hdk0 rfl ?_
      refine jj_callV (pc := 159) (b := dv) (As := [.ref (wa (b + (16 * i + j))), .ref (wa 10)]) kE_append_d159 (kvE_D_divide hG) (kG_cl hG rfl) rfl hD0 rfl rfl rfl (Nat.le_of_ble_eq_true rfl) (Nat.le_of_ble_eq_true rfl) (jj_bare0 rfl) ?_
      refine d_divide hG hI hc0 hdv0 hdi (by omega) (by omega) (by omega) (by omega) hn0.nqr (by omega) (by omega) (by omega) (by omega) (by omega) (by rw [hcap 0 (by omega)]; exact (by omega)) (by rw [hcap r_b (by omega)]; exact (by omega)) (fun M1 hcx1 hdx1 hw1 => ?_)
      obtain ⟨V1, hV1⟩ : ∃ W, vup (vup V0 0 ((V0 (b + (16 * i + j))).tdiv (V0 10))) r_b ((V0 (b + (16 * i + j))).tmod (V0 10)) = W := ⟨_, rfl⟩
      have hc1 : CW M1 wa la cap N V1 := by rw [← hV1]; exact hcx1
      have at1 : V1 0 = (V0 (b + (16 * i + j))).tdiv (V0 10) := by rw [← hV1, vup_ne _ _ hn0.nqr, vup_at]
      have rt1 : V1 r_b = (V0 (b + (16 * i + j))).tmod (V0 10) := by rw [← hV1, vup_at]
      have ot1 : ∀ p, p ≠ 0 → p ≠ r_b → V1 p = V0 p := fun p h1 h2 => by rw [← hV1, vup_ne _ _ h2, vup_ne _ _ h1]
      have hU1 := hU0.div hc0 hdx1 hw1
      have hf1 := hf0.trans (hw1.ef (eu := eu) (dv := dv))
      have q1_el := (hw1.ef (eu := eu) (dv := dv)).obj hc0 hU0 hl9 (by decide) (by decide) (by decide)
      have q1_mx := (hw1.ef (eu := eu) (dv := dv)).obj hc0 hU0 hm9 (by decide) (by decide) (by decide)
      have q1_dk := (hw1.ef (eu := eu) (dv := dv)).obj hc0 hU0 hdk0 (by decide) (by decide) (by decide)
      have hn1 := hU1.1
      have b_r1 := hn1.2.1
      have b_x1 := hn1.2.2.1
      have b_f1 := hn1.2.2.2.1
      have hdv1 := hU1.2.1
      obtain ⟨ea1, eb1, ec1, ed1, hE1⟩ := hU1.2.2.2
      have hD1 := hdv1.1
      show jj G kE_append (d + 9) Q rc rs 162 [some (.ref el), some (.ref mx), some (.int (nI (i))), some (.int (nI (j)))] [] M1
      have w12 : V1 12 = V0 12 := ot1 12 (by omega) (by omega)
      have l3 : lc (V1 0) ≤ 125 := by rw [at1]; exact Nat.le_trans (lc_mono (by rw [Int.natAbs_tdiv]; exact Nat.div_le_self _ _)) l1
      have hq : V1 0 * V 10 = V (b + (16 * i + j)) := by rw [at1, v10, v1]; exact tdiv_back (hdvd j (by omega))
      obtain ⟨T7_1, t7_1, hT7_1, _, _⟩ := hc1 7 (by omega)
      refine jj_aload_n (pc := 162) kE_append_d162 rfl ?_
      refine jj_getf (pc := 163) kE_append_d163 (kfE_desk hG) q1_el rfl ?_
      refine jj_getf (pc := 166) kE_append_d166 (kfE_K_left hG) q1_dk rfl ?_
      refine jj_aload_n (pc := 169) kE_append_d169 rfl ?_
      refine jj_getf (pc := 170) kE_append_d170 (kfE_desk hG) q1_el rfl ?_
      refine jj_getf (pc := 173) kE_append_d173 (kfE_K_divider hG) q1_dk rfl ?_
      refine jj_getf (pc := 176) kE_append_d176 (kfE_D_quotient hG) hD1 rfl ?_
      refine jj_aload_n (pc := 179) kE_append_d179 rfl ?_
      refine jj_getf (pc := 180) kE_append_d180 (kfE_desk hG) q1_el rfl ?_
      refine jj_getf (pc := 183) kE_append_d183 (kfE_K_rightFactor hG) q1_dk rfl ?_
      refine jj_callV (pc := 186) (b := (wa 7)) (As := [.ref (wa 0), .ref (wa 12)]) kE_append_d186 (kvE_W_product hG) (kG_cl hG rfl) rfl hT7_1 rfl rfl rfl (Nat.le_of_ble_eq_true rfl) (Nat.le_of_ble_eq_true rfl) (jj_bare0 rfl) ?_
      refine w_product hG hI hc1 (by omega : 7 < N) (by omega : 0 < N) (by omega) (by omega) (by omega) (by rw [hcap 7 (by omega), w12]; omega) (fun M2 hcx2 hw2  => ?_) 
      obtain ⟨V2, hV2⟩ : ∃ W, vup V1 7 (V1 0 * V1 12) = W := ⟨_, rfl⟩
      have hc2 : CW M2 wa la cap N V2 := by rw [← hV2]; exact hcx2
      have at2 : V2 7 = V1 0 * V1 12 := by rw [← hV2, vup_at]
      have ot2 : ∀ p, p ≠ 7 → V2 p = V1 p := fun p hp => by rw [← hV2, vup_ne _ _ hp]
      have hU2 := hU1.wt hc1 hdi (by omega) hw2
      have hf2 := hf1.trans (hw2.ef (by omega))
      have q2_el := (hw2.ef (eu := eu) (dv := dv) (hi := hi) (lo := lo) (by omega)).obj hc1 hU1 q1_el (by decide) (by decide) (by decide)
      have q2_mx := (hw2.ef (eu := eu) (dv := dv) (hi := hi) (lo := lo) (by omega)).obj hc1 hU1 q1_mx (by decide) (by decide) (by decide)
      have q2_dk := (hw2.ef (eu := eu) (dv := dv) (hi := hi) (lo := lo) (by omega)).obj hc1 hU1 q1_dk (by decide) (by decide) (by decide)
      have hn2 := hU2.1
      have b_r2 := hn2.2.1
      have b_x2 := hn2.2.2.1
      have b_f2 := hn2.2.2.2.1
      have hdv2 := hU2.2.1
      obtain ⟨ea2, eb2, ec2, ed2, hE2⟩ := hU2.2.2.2
      have hD2 := hdv2.1
      show jj G kE_append (d + 9) Q rc rs 189 [some (.ref el), some (.ref mx), some (.int (nI (i))), some (.int (nI (j)))] [] M2
      rw [w12, v12] at at2
      have hL8 := hL9.ef hJ hf2
      have hS2a : KS M2 wa la cap N eu dv hi lo dk V2 := ⟨hc2, ⟨r_b, px_b, pf_b, py_b, po_b, ps_b, od_b, hU2⟩, q2_dk⟩
      have hr : V2 7 * V 10 = V (b + (16 * i + j)) * V 12 := by rw [at2, ← hq, Int.mul_right_comm]
      refine jj_aload_n (pc := 189) kE_append_d189 rfl ?_
      refine jj_iload_n (pc := 190) kE_append_d190 rfl ?_
      refine jj_aload_n (pc := 191) kE_append_d191 rfl ?_
      refine jj_getf (pc := 192) kE_append_d192 (kfE_width hG) q2_el rfl ?_
      refine jj_iload_n (pc := 195) kE_append_d195 rfl ?_
      refine jn_iadd (pc := 196) (w + j) kE_append_d196 (by omega) ?_
      refine jj_aload_n (pc := 197) kE_append_d197 rfl ?_
      refine jj_getf (pc := 198) kE_append_d198 (kfE_desk hG) q2_el rfl ?_
      refine jj_getf (pc := 201) kE_append_d201 (kfE_K_left hG) q2_dk rfl ?_
      refine jj_callV (pc := 204) (b := el) (As := [.int (nI (i)), .int (nI (w + j)), .ref (wa 7)]) kE_append_d204 (kvE_E_put hG) (kG_cl hG rfl) rfl q2_el rfl rfl rfl (Nat.le_of_ble_eq_true rfl) (Nat.le_of_ble_eq_true rfl) (jj_bare0 rfl) ?_
      refine e_put hG hK hS2a hJ hL8 (by omega) (by omega) (by omega : 7 < N) hrc hrs (fun M3 hcx3 hw3 hb2 => ?_) (fun h9 x hx => kt M2 V2 hS2a (f9.trans hf2) (fun q a b => by rw [ot2 q (by omega), ot1 q (by omega) (by omega)]; exact o9 q a (fun j' h => b j' (by omega))) ⟨j, V2 7, by omega, hr, h9⟩ x hx)
      obtain ⟨V3, hV3⟩ : ∃ W, vup V2 (g (32 * i + (w + j))) (V2 7) = W := ⟨_, rfl⟩
      have hc3 : CW M3 wa la cap N V3 := by rw [← hV3]; exact hcx3
      have at3 : V3 (g (32 * i + (w + j))) = V2 7 := by rw [← hV3, vup_at]
      have ot3 : ∀ p, p ≠ (g (32 * i + (w + j))) → V3 p = V2 p := fun p hp => by rw [← hV3, vup_ne _ _ hp]
      have hU3 := hU2.wt hc2 hdi (by omega) hw3
      have hf3 := hf2.trans (hw3.ef (by omega))
      have q3_el := (hw3.ef (eu := eu) (dv := dv) (hi := hi) (lo := lo) (by omega)).obj hc2 hU2 q2_el (by decide) (by decide) (by decide)
      have q3_mx := (hw3.ef (eu := eu) (dv := dv) (hi := hi) (lo := lo) (by omega)).obj hc2 hU2 q2_mx (by decide) (by decide) (by decide)
      have q3_dk := (hw3.ef (eu := eu) (dv := dv) (hi := hi) (lo := lo) (by omega)).obj hc2 hU2 q2_dk (by decide) (by decide) (by decide)
      have hn3 := hU3.1
      have b_r3 := hn3.2.1
      have b_x3 := hn3.2.2.1
      have b_f3 := hn3.2.2.2.1
      have hdv3 := hU3.2.1
      obtain ⟨ea3, eb3, ec3, ed3, hE3⟩ := hU3.2.2.2
      have hD3 := hdv3.1
      show jj G kE_append (d + 9) Q rc rs 207 [some (.ref el), some (.ref mx), some (.int (nI (i))), some (.int (nI (j)))] [] M3
      refine jn_iinc (pc := 207) (j + 1) kE_append_d207 rfl (nI_1 _) ?_
      refine jj_goto (pc := 210) (tgt := 131) kE_append_d210 (by decide) ?_
      show jj G kE_append (d + 9) Q rc rs 131 [some (.ref el), some (.ref mx), some (.int (nI (i))), some (.int (nI (j + 1)))] [] M3
      refine ih (j + 1) (by omega) M3 V3 ⟨hc3, ⟨r_b, px_b, pf_b, py_b, po_b, ps_b, od_b, hU3⟩, q3_dk⟩ (f9.trans hf3) (fun q a b => ?_) (fun j' h => ?_)
      · rw [ot3 q (b j (by omega)), ot2 q (by omega), ot1 q (by omega) (by omega)]
        exact o9 q a (fun j' h => b j' (by omega))
      · by_cases e : j' = j
        · rw [e, at3]
          exact ⟨hr, hb2⟩
        · have := hGP.1 (32 * i + (w + j')) (by omega)
          rw [ot3 _ (hGP.ne (by omega) (by omega) (by omega) (by omega) (by omega)), ot2 _ (by omega), ot1 _ (by omega) (by omega)]
          exact e9 j' (by omega)
  exact loop c 0 (by omega) M V hS (fun _ _ _ _ _ _ => rfl) (fun _ _ _ => rfl) (fun j' h => by omega)
end E9
