/-! ===== Elimination: append, the whole of it (printed by wip/gen/rE10.py) ===== -/
/-- what both factors of row i share -/
def sgc (a b : Int) : Int := (Nat.gcd a.natAbs b.natAbs : Nat)
/-- row i of both matrices stands in the grid, made whole by the least common multiple of their factors -/
def ROWA (V V' : Nat → Int) (b c w : Nat) (g : Nat → Nat) (i : Nat) : Prop := ∃ gg fo : Int, CDV V b c i (i + 1) 0 gg ∧ fo * gg = V (b + 256) ∧ (∀ j, j < w → V' (g (32 * i + j)) = V (g (32 * i + j)) * fo.tdiv (sgc (V (17 + i)) fo) ∧ blen (V' (g (32 * i + j))) ≤ 2000) ∧ ∀ j, j < c → V' (g (32 * i + (w + j))) * gg = V (b + (16 * i + j)) * (V (17 + i)).tdiv (sgc (V (17 + i)) fo) ∧ blen (V' (g (32 * i + (w + j)))) ≤ 2000
def TOOA (V : Nat → Int) (b m c w : Nat) (g : Nat → Nat) : Prop := ∃ (i : Nat) (gg fo : Int), i < m ∧ CDV V b c i (i + 1) 0 gg ∧ fo * gg = V (b + 256) ∧ ((∃ j, j < w ∧ 2000 < blen (V (g (32 * i + j)) * fo.tdiv (sgc (V (17 + i)) fo))) ∨ ∃ (j : Nat) (x : Int), j < c ∧ x * gg = V (b + (16 * i + j)) * (V (17 + i)).tdiv (sgc (V (17 + i)) fo) ∧ 2000 < blen x)
theorem ROWA.congr {V V1 V2 : Nat → Int} {b c w i : Nat} {g : Nat → Nat} (h : ROWA V V1 b c w g i) (e : ∀ x, x < w + c → V2 (g (32 * i + x)) = V1 (g (32 * i + x))) : ROWA V V2 b c w g i := by
  obtain ⟨gg, fo, h1, h2, h3, h4⟩ := h
  exact ⟨gg, fo, h1, h2, fun j hj => by rw [e _ (by omega)]; exact h3 j hj, fun j hj => by rw [e _ (by omega)]; exact h4 j hj⟩
theorem CDV.congr {V V' : Nat → Int} {b c i0 i1 : Nat} {gg : Int} (h : CDV V b c i0 i1 0 gg) (hi : i1 ≤ 16) (hc : c ≤ 16) (e : ∀ p, b ≤ p → p ≤ b + 256 → V' p = V p) : CDV V' b c i0 i1 0 gg := by
  obtain ⟨a1, a2, a3, a4⟩ := h
  refine ⟨a1, by rw [e _ (by omega) (by omega)]; exact a2, fun i' j' x1 x2 => ?_, fun h x1 x2 => a4 h (by rw [← e _ (by omega) (by omega)]; exact x1) (fun i' j' y1 y2 => ?_)⟩
  · have := a3 i' j' x1 x2
    unfold thru at x2
    rw [e _ (by omega) (by omega)]
    exact this
  · have := x2 i' j' y1 y2
    unfold thru at y2
    rw [e _ (by omega) (by omega)] at this
    exact this
theorem lc_tdiv (z g : Int) : lc (z.tdiv g) ≤ lc z := lc_mono (by rw [Int.natAbs_tdiv]; exact Nat.div_le_self _ _)
section E10
variable {G : jg} {d : Nat} {Q : jq} {rc rs : Nat} {M : mheap} {wa la cap : Nat → Nat} {N eu dv hi lo dk el ra pa ia ga rk sw m w : Nat} {P B : List Int32} {g : Nat → Nat} {V : Nat → Int}
theorem e_append {mx ar b c : Nat} (hG : kG G) (hK : KJI wa la cap N hi lo) (hS : KS M wa la cap N eu dv hi lo dk V) (hJ : LJ wa la cap N eu dv hi lo dk el ra pa ia ga) (hL : ELT M wa el ra pa ia ga dk rk sw m w P B g) (hM : MXT M wa mx ar b m c) (hb : b + 256 < N) (hb7 : 547 ≤ b) (hcp : ∀ p, b ≤ p → p ≤ b + 256 → cap p ≤ 252) (hm : m ≤ 16) (hw : w ≤ 16) (hcc : c ≤ 16) (hpos : 0 < V (b + 256)) (hcl : lc (V (b + 256)) ≤ 125) (hlc : ∀ i j, i < m → j < c → lc (V (b + (16 * i + j))) ≤ 125) (hrc : 1 ≤ rc) (hrs : 6 ≤ rs) (k : ∀ (M' : mheap) (V' : Nat → Int), KS M' wa la cap N eu dv hi lo dk V' → ELT M' wa el ra pa ia ga dk rk sw m (w + c) P B g → (∀ q, 13 ≤ q → q < 33 ∨ 547 ≤ q → V' q = V q) → EFX (fun x => x = el) M M' wa la N eu dv hi lo → (∀ i, i < m → ROWA V V' b c w g i) → Q (.returned none) M' rc rs) (kt : ∀ (M' : mheap) (V' : Nat → Int), KS M' wa la cap N eu dv hi lo dk V' → ELT M' wa el ra pa ia ga dk rk sw m w P B g → (∀ q, 13 ≤ q → q < 33 ∨ 547 ≤ q → V' q = V q) → EFX (fun x => x = el) M M' wa la N eu dv hi lo → TOOA V b m c w g → ∀ x, M' x = none → Q (.threw x) (jj_up M' x (.inl 6, [])) (rc - 1) (rs - 6)) : jj G kE_append (d + 9) Q rc rs 0 (jj_ent [.ref el, .ref mx] 4) [] M := by
  obtain ⟨hI, hN, hcap, hdi⟩ := id hK
  obtain ⟨h547, c17, c33, c34, c64, f1, f2, f3, f4, f5, n1, n2, n3, n4, n5⟩ := id hJ
  have hGP := hL.2.2.2.2.2
  show jj G kE_append (d + 9) Q rc rs 0 [some (.ref el), some (.ref mx), none, none] [] M
  refine jn_iconst (pc := 0) 0 kE_append_d0 (by decide) ?_
  refine jj_istore_n (pc := 1) kE_append_d1 (Nat.le_of_ble_eq_true rfl) ?_
  show jj G kE_append (d + 9) Q rc rs 2 [some (.ref el), some (.ref mx), some (.int (nI (0))), none] [] M
  show jj G kE_append (d + 9) Q rc rs 2 [some (.ref el), some (.ref mx), some (.int (nI (0))), none] [] M
  have outer : ∀ mu i, m = i + mu → ∀ (oj : Option Value) (M9 : mheap) (V9 : Nat → Int), KS M9 wa la cap N eu dv hi lo dk V9 → EF M M9 wa la N eu dv hi lo → (∀ q, 13 ≤ q → q < 33 ∨ 547 ≤ q → V9 q = V q) → (∀ i', i' < i → ROWA V V9 b c w g i') → (∀ i' j', i ≤ i' → i' < 16 → j' < 32 → V9 (g (32 * i' + j')) = V (g (32 * i' + j'))) → jj G kE_append (d + 9) Q rc rs 2 [some (.ref el), some (.ref mx), some (.int (nI (i))), (oj)] [] M9 := by
    intro mu
    induction mu with
    | zero =>
      intro i hk oj M9 V9 hS9 f9 o9 hR hO
      have ei : m = i := by omega
      subst ei
      have hL9 := hL.ef hJ f9
      have hl9 := hL9.1
      have hm9 := (hM.ef hS f9).1
      refine jj_iload_n (pc := 2) kE_append_d2 rfl ?_
      refine jj_aload_n (pc := 3) kE_append_d3 rfl ?_
      refine jj_getf (pc := 4) kE_append_d4 (kfE_rows hG) hl9 rfl ?_
      refine jn_icmp_ge (pc := 7) (tgt := 219) kE_append_d7 (by decide) (by omega) (by omega) (fun _ => ?_) (fun c => by exfalso; omega)
      refine jj_aload_n (pc := 219) kE_append_d219 rfl ?_
      refine jj_dup (pc := 220) kE_append_d220 rfl ?_
      refine jj_getf (pc := 221) kE_append_d221 (kfE_width hG) hl9 rfl ?_
      refine jj_aload_n (pc := 224) kE_append_d224 rfl ?_
      refine jj_getf (pc := 225) kE_append_d225 (kfE_M_columns hG) hm9 rfl ?_
      refine jn_iadd (pc := 228) (w + c) kE_append_d228 (by omega) ?_
      refine jj_putf (pc := 229) kE_append_d229 (kpE_width hG) hl9 (by rfl) rfl ?_
      refine jn_gen (fun M101 hM102 => ?_)
      have h103 : M101 mx = some (.inl nM, [.int (nI (m)), .int (nI (c)), .ref (wa (b + 256)), .ref ar]) := by rw [hM102, jj_up_ne _ _ (fun e => by have q1 := hm9; rw [e, hl9] at q1; cases q1)]; exact hm9
      have h104 : M101 el = some (.inl nE, [.ref ra, .ref pa, .ref ia, .ref (wa 33), .int (nI (rk)), .int (nI (sw)), .int (nI (m)), .int (nI (w + c)), .ref ga, .ref (wa 34), .ref dk]) := by rw [hM102]; exact jj_up_at _ _ _
      have hu : ∀ x, x ≠ el → M101 x = M9 x := fun x hx => by rw [hM102, jj_up_ne _ _ hx]
      exact jj_vret (pc := 232) kE_append_d232 rfl (k M101 V9 (hS9.up f1 n2 hu) (hL9.upo hu h104) o9 (EFX.trans f9.efx (EFX.up hu rfl)) hR)
    | succ mu ih =>
      intro i hk oj M9 V9 hS9 f9 o9 hR hO
      have hM9 := hM.ef hS f9
      have hm9 := hM9.1
      have hL9 := hL.ef hJ f9
      have hl9 := hL9.1
      obtain ⟨hc0, ⟨r_b, px_b, pf_b, py_b, po_b, ps_b, od_b, hU0⟩, hdk0⟩ := id hS9
      have hf0 : EF M9 M9 wa la N eu dv hi lo := fun _ _ _ _ _ _ => rfl
      obtain ⟨V0, hV0⟩ : ∃ V0, V9 = V0 := ⟨_, rfl⟩
      rw [hV0] at hc0
      have hn0 := hU0.1
      have b_r0 := hn0.2.1
      have b_x0 := hn0.2.2.1
      have b_f0 := hn0.2.2.2.1
      have hdv0 := hU0.2.1
      obtain ⟨ea0, eb0, ec0, ed0, hE0⟩ := hU0.2.2.2
      have hD0 := hdv0.1
      have eV : ∀ p, 13 ≤ p → p < 33 ∨ 547 ≤ p → V0 p = V p := fun p a b => by rw [← hV0]; exact o9 _ a b
      have eC : V0 (b + 256) = V (b + 256) := eV _ (by omega) (by omega)
      show jj G kE_append (d + 9) Q rc rs 2 [some (.ref el), some (.ref mx), some (.int (nI (i))), (oj)] [] M9
      refine jj_iload_n (pc := 2) kE_append_d2 rfl ?_
      refine jj_aload_n (pc := 3) kE_append_d3 rfl ?_
      refine jj_getf (pc := 4) kE_append_d4 (kfE_rows hG) hl9 rfl ?_
      refine jn_icmp_ge (pc := 7) (tgt := 219) kE_append_d7 (by decide) (by omega) (by omega) (fun c => by exfalso; omega) (fun _ => ?_)
      refine jj_aload_n (pc := 10) kE_append_d10 rfl ?_
      refine jj_getf (pc := 11) kE_append_d11 (kfE_desk hG) hl9 rfl ?_
      refine jj_aload_n (pc := 14) kE_append_d14 rfl ?_
      refine jj_iload_n (pc := 15) kE_append_d15 rfl ?_
      refine jj_iload_n (pc := 16) kE_append_d16 rfl ?_
      refine jn_iconst (pc := 17) 1 kE_append_d17 (by decide) ?_
      refine jn_iadd (pc := 18) (i + 1) kE_append_d18 (by omega) ?_
      refine jj_callV (pc := 19) (b := dk) (As := [.ref mx, .int (nI (i)), .int (nI (i + 1))]) kE_append_d19 (kvE_K_commonDivisor hG) (kG_cl hG rfl) rfl hdk0 rfl rfl rfl (Nat.le_of_ble_eq_true rfl) (Nat.le_of_ble_eq_true rfl) (jj_bare0 rfl) ?_
      refine k_common hG hK (hV0 ▸ hS9) hM9 hb (by omega) hcp hcc (by omega) (by omega) (by rw [eC]; exact hpos) (fun M1 V1 hS1 hcd1 ot1 hw1 => ?_) 
      obtain ⟨hc1, ⟨r_1, px_1, pf_1, py_1, po_1, ps_1, od_1, hU1⟩, _⟩ := id hS1
      have hf1 := hf0.trans hw1
      have q1_mx := hw1.obj hc0 hU0 hm9 (by decide) (by decide) (by decide)
      have q1_el := hw1.obj hc0 hU0 hl9 (by decide) (by decide) (by decide)
      have q1_dk := hw1.obj hc0 hU0 hdk0 (by decide) (by decide) (by decide)
      have hn1 := hU1.1
      have b_r1 := hn1.2.1
      have b_x1 := hn1.2.2.1
      have b_f1 := hn1.2.2.2.1
      have hdv1 := hU1.2.1
      obtain ⟨ea1, eb1, ec1, ed1, hE1⟩ := hU1.2.2.2
      have hD1 := hdv1.1
      show jj G kE_append (d + 9) Q rc rs 22 [some (.ref el), some (.ref mx), some (.int (nI (i))), (oj)] [] M1
      have eC1 : V1 (b + 256) = V (b + 256) := by rw [ot1 _ (by omega) (by omega), eC]
      have hD : CDV V b c i (i + 1) 0 (V1 10) := hcd1.congr (by omega) hcc (fun p _ _ => (eV p (by omega) (by omega)).symm)
      refine jj_aload_n (pc := 22) kE_append_d22 rfl ?_
      refine jj_getf (pc := 23) kE_append_d23 (kfE_desk hG) q1_el rfl ?_
      refine jj_getf (pc := 26) kE_append_d26 (kfE_K_divider hG) q1_dk rfl ?_
      refine jj_aload_n (pc := 29) kE_append_d29 rfl ?_
      refine jj_getf (pc := 30) kE_append_d30 (kfE_M_common hG) q1_mx rfl ?_
      refine jj_aload_n (pc := 33) kE_append_d33 rfl ?_
      refine jj_getf (pc := 34) kE_append_d34 (kfE_desk hG) q1_el rfl ?_
      refine jj_getf (pc := 37) kE_append_d37 (kfE_K_divisor hG) q1_dk rfl ?_
      refine jj_callV (pc := 40) (b := dv) (As := [.ref (wa (b + 256)), .ref (wa 10)]) kE_append_d40 (kvE_D_divide hG) (kG_cl hG rfl) rfl hD1 rfl rfl rfl (Nat.le_of_ble_eq_true rfl) (Nat.le_of_ble_eq_true rfl) (jj_bare0 rfl) ?_
      refine d_divide hG hI hc1 hdv1 hdi (by omega) (by omega) hb (by omega) hn1.nqr (by omega) (by omega) (by omega) (by omega) (by rw [eC1]; omega) (by rw [hcap 0 (by omega)]; exact (by rw [eC1]; omega)) (by rw [hcap r_1 (by omega)]; exact (by rw [eC1]; omega)) (fun M2 hcx2 hdx2 hw2 => ?_)
      obtain ⟨V2, hV2⟩ : ∃ W, vup (vup V1 0 ((V1 (b + 256)).tdiv (V1 10))) r_1 ((V1 (b + 256)).tmod (V1 10)) = W := ⟨_, rfl⟩
      have hc2 : CW M2 wa la cap N V2 := by rw [← hV2]; exact hcx2
      have at2 : V2 0 = (V1 (b + 256)).tdiv (V1 10) := by rw [← hV2, vup_ne _ _ hn1.nqr, vup_at]
      have rt2 : V2 r_1 = (V1 (b + 256)).tmod (V1 10) := by rw [← hV2, vup_at]
      have ot2 : ∀ p, p ≠ 0 → p ≠ r_1 → V2 p = V1 p := fun p h1 h2 => by rw [← hV2, vup_ne _ _ h2, vup_ne _ _ h1]
      have hU2 := hU1.div hc1 hdx2 hw2
      have hf2 := hf1.trans (hw2.ef (eu := eu) (dv := dv))
      have q2_mx := (hw2.ef (eu := eu) (dv := dv)).obj hc1 hU1 q1_mx (by decide) (by decide) (by decide)
      have q2_el := (hw2.ef (eu := eu) (dv := dv)).obj hc1 hU1 q1_el (by decide) (by decide) (by decide)
      have q2_dk := (hw2.ef (eu := eu) (dv := dv)).obj hc1 hU1 q1_dk (by decide) (by decide) (by decide)
      have hn2 := hU2.1
      have b_r2 := hn2.2.1
      have b_x2 := hn2.2.2.1
      have b_f2 := hn2.2.2.2.1
      have hdv2 := hU2.2.1
      obtain ⟨ea2, eb2, ec2, ed2, hE2⟩ := hU2.2.2.2
      have hD2 := hdv2.1
      show jj G kE_append (d + 9) Q rc rs 43 [some (.ref el), some (.ref mx), some (.int (nI (i))), (oj)] [] M2
      rw [eC1] at at2
      obtain ⟨T34_2, t34_2, hT34_2, _, _⟩ := hc2 34 (by omega)
      refine jj_aload_n (pc := 43) kE_append_d43 rfl ?_
      refine jj_getf (pc := 44) kE_append_d44 (kfE_otherFactor hG) q2_el rfl ?_
      refine jj_aload_n (pc := 47) kE_append_d47 rfl ?_
      refine jj_getf (pc := 48) kE_append_d48 (kfE_desk hG) q2_el rfl ?_
      refine jj_getf (pc := 51) kE_append_d51 (kfE_K_divider hG) q2_dk rfl ?_
      refine jj_getf (pc := 54) kE_append_d54 (kfE_D_quotient hG) hD2 rfl ?_
      refine jj_callV (pc := 57) (b := (wa 34)) (As := [.ref (wa 0)]) kE_append_d57 (kvE_W_copy hG) (kG_cl hG rfl) rfl hT34_2 rfl rfl rfl (Nat.le_of_ble_eq_true rfl) (Nat.le_of_ble_eq_true rfl) (jj_bare0 rfl) ?_
      refine w_copy hG hI hc2 (by omega : 34 < N) (by omega : 0 < N) (by rw [at2, c34]; exact lc_room (Nat.le_trans (lc_tdiv _ _) hcl)) (fun M3 hcx3 hw3  => ?_) 
      obtain ⟨V3, hV3⟩ : ∃ W, vup V2 34 (V2 0) = W := ⟨_, rfl⟩
      have hc3 : CW M3 wa la cap N V3 := by rw [← hV3]; exact hcx3
      have at3 : V3 34 = V2 0 := by rw [← hV3, vup_at]
      have ot3 : ∀ p, p ≠ 34 → V3 p = V2 p := fun p hp => by rw [← hV3, vup_ne _ _ hp]
      have hU3 := hU2.wt hc2 hdi (by omega) hw3
      have hf3 := hf2.trans (hw3.ef (by omega))
      have q3_mx := (hw3.ef (eu := eu) (dv := dv) (hi := hi) (lo := lo) (by omega)).obj hc2 hU2 q2_mx (by decide) (by decide) (by decide)
      have q3_el := (hw3.ef (eu := eu) (dv := dv) (hi := hi) (lo := lo) (by omega)).obj hc2 hU2 q2_el (by decide) (by decide) (by decide)
      have q3_dk := (hw3.ef (eu := eu) (dv := dv) (hi := hi) (lo := lo) (by omega)).obj hc2 hU2 q2_dk (by decide) (by decide) (by decide)
      have hn3 := hU3.1
      have b_r3 := hn3.2.1
      have b_x3 := hn3.2.2.1
      have b_f3 := hn3.2.2.2.1
      have hdv3 := hU3.2.1
      obtain ⟨ea3, eb3, ec3, ed3, hE3⟩ := hU3.2.2.2
      have hD3 := hdv3.1
      show jj G kE_append (d + 9) Q rc rs 60 [some (.ref el), some (.ref mx), some (.int (nI (i))), (oj)] [] M3
      have hfo : V3 34 * V1 10 = V (b + 256) := by rw [at3, at2]; exact tdiv_back hD.2.1
      have l34 : lc (V3 34) ≤ 125 := by rw [at3, at2]; exact Nat.le_trans (lc_tdiv _ _) hcl
      have e17 : V3 (17 + i) = V (17 + i) := by rw [ot3 _ (by omega), ot2 _ (by omega) (by omega), ot1 _ (by omega) (by omega)]; exact eV _ (by omega) (by omega)
      have l17 : lc (V3 (17 + i)) ≤ 125 := by have := hc3.lc (p := 17 + i) (by omega); rw [c17 _ (by omega) (by omega)] at this; exact this
      have hS3a : KS M3 wa la cap N eu dv hi lo dk V3 := ⟨hc3, ⟨r_1, px_1, pf_1, py_1, po_1, ps_1, od_1, hU3⟩, q3_dk⟩
      refine jj_aload_n (pc := 60) kE_append_d60 rfl ?_
      refine jj_getf (pc := 61) kE_append_d61 (kfE_desk hG) q3_el rfl ?_
      refine jj_aload_n (pc := 64) kE_append_d64 rfl ?_
      refine jj_getf (pc := 65) kE_append_d65 (kfE_rowFactors hG) q3_el rfl ?_
      refine jj_iload_n (pc := 68) kE_append_d68 rfl ?_
      refine jj_aald (pc := 69) (i := i) kE_append_d69 (kG_t hG rfl) (hL9.ef hJ hf3).2.1 rfl (by rw [List.length_map, List.length_range]; decide) (by rw [List.getElem?_map, List.getElem?_range (by omega)]; rfl) ?_
      show jj G kE_append (d + 9) Q rc rs 70 [some (.ref el), some (.ref mx), some (.int (nI (i))), (oj)] [.ref (wa (17 + i)), .ref dk] M3
      refine jj_aload_n (pc := 70) kE_append_d70 rfl ?_
      refine jj_getf (pc := 71) kE_append_d71 (kfE_otherFactor hG) q3_el rfl ?_
      refine jj_callV (pc := 74) (b := dk) (As := [.ref (wa (17 + i)), .ref (wa 34)]) kE_append_d74 (kvE_K_meet hG) (kG_cl hG rfl) rfl q3_dk rfl rfl rfl (Nat.le_of_ble_eq_true rfl) (Nat.le_of_ble_eq_true rfl) (jj_bare0 rfl) ?_
      refine k_meet hG hK hS3a (u := 17 + i) (v := 34) (g := sgc (V3 (17 + i)) (V3 34)) (by omega) (by omega) (by omega) (by omega) (by omega) (by omega) rfl (fun M4 V4 hS4 v11 v12 ot4 hw4 => ?_) 
      obtain ⟨hc4, ⟨r_4, px_4, pf_4, py_4, po_4, ps_4, od_4, hU4⟩, _⟩ := id hS4
      have hf4 := hf3.trans hw4
      have q4_mx := hw4.obj hc3 hU3 q3_mx (by decide) (by decide) (by decide)
      have q4_el := hw4.obj hc3 hU3 q3_el (by decide) (by decide) (by decide)
      have q4_dk := hw4.obj hc3 hU3 q3_dk (by decide) (by decide) (by decide)
      have hn4 := hU4.1
      have b_r4 := hn4.2.1
      have b_x4 := hn4.2.2.1
      have b_f4 := hn4.2.2.2.1
      have hdv4 := hU4.2.1
      obtain ⟨ea4, eb4, ec4, ed4, hE4⟩ := hU4.2.2.2
      have hD4 := hdv4.1
      show jj G kE_append (d + 9) Q rc rs 77 [some (.ref el), some (.ref mx), some (.int (nI (i))), (oj)] [] M4
      rw [e17] at v11 v12
      have l11 : lc (V4 11) ≤ 125 := by rw [v11]; exact Nat.le_trans (lc_tdiv _ _) l34
      have l12 : lc (V4 12) ≤ 125 := by rw [v12, ← e17]; exact Nat.le_trans (lc_tdiv _ _) l17
      have w4 : ∀ q, 13 ≤ q → q ≠ 34 → V4 q = V9 q := fun q a b => by rw [ot4 q (by omega) (by omega) (by omega), ot3 q b, ot2 q (by omega) (by omega), ot1 q (by omega) (by omega), hV0]
      have w10 : V4 10 = V1 10 := by rw [ot4 10 (by omega) (by omega) (by omega), ot3 10 (by omega), ot2 10 (by omega) (by omega)]
      have hL4 := hL9.ef hJ hf4
      have hM4 := hM9.ef hS9 hf4
      have f04 := f9.trans hf4
      have wg : ∀ i' j', i' < 16 → j' < 32 → V4 (g (32 * i' + j')) = V9 (g (32 * i' + j')) := fun i' j' a b => by
        have := hGP.1 (32 * i' + j') (by omega)
        exact w4 _ (by omega) (by omega)
      refine jn_iconst (pc := 77) 0 kE_append_d77 (by decide) ?_
      refine jj_istore_n (pc := 78) kE_append_d78 (Nat.le_of_ble_eq_true rfl) ?_
      show jj G kE_append (d + 9) Q rc rs 79 [some (.ref el), some (.ref mx), some (.int (nI (i))), some (.int (nI (0)))] [] M4
      show jj G kE_append (d + 9) Q rc rs 79 [some (.ref el), some (.ref mx), some (.int (nI (i))), some (.int (nI (0)))] [] M4
      refine e_app1 hG hK hS4 hJ hL4 hM4 hb hb7 hw (by omega) l11 hrc hrs (fun M5 V5 hS5 f5a o5 e5 => ?_) (fun M5 V5 hS5 f5a o5 h5 y hy => ?_)
      rotate_left
      · refine kt M5 V5 hS5 (hL4.ef hJ f5a) (fun q a b => ?_) (f04.trans f5a).efx ⟨i, V1 10, V3 34, by omega, hD, hfo, Or.inl ?_⟩ y hy
        · rw [o5 q (by omega) (fun j' h => by have := hGP.1 (32 * i + j') (by omega); omega), w4 q a (by omega)]
          exact o9 q a b
        · obtain ⟨j, a, b⟩ := h5
          rw [v11, wg i j (by omega) (by omega), hO i j (Nat.le_refl _) (by omega) (by omega)] at b
          exact ⟨j, a, b⟩
      have hL5 := hL4.ef hJ f5a
      have hl9 := hL5.1
      have hM5 := hM4.ef hS4 f5a
      have hm9 := hM5.1
      have w5 : ∀ q, 8 ≤ q → q < 35 ∨ 547 ≤ q → V5 q = V4 q := fun q a b => o5 q a (fun j' h => by have := hGP.1 (32 * i + j') (by omega); omega)
      show jj G kE_append (d + 9) Q rc rs 129 [some (.ref el), some (.ref mx), some (.int (nI (i))), some (.int (nI (w)))] [] M5
      refine jn_iconst (pc := 129) 0 kE_append_d129 (by decide) ?_
      refine jj_istore_n (pc := 130) kE_append_d130 (Nat.le_of_ble_eq_true rfl) ?_
      show jj G kE_append (d + 9) Q rc rs 131 [some (.ref el), some (.ref mx), some (.int (nI (i))), some (.int (nI (0)))] [] M5
      show jj G kE_append (d + 9) Q rc rs 131 [some (.ref el), some (.ref mx), some (.int (nI (i))), some (.int (nI (0)))] [] M5
      have w5m : ∀ p, b ≤ p → p ≤ b + 256 → V5 p = V p := fun p _ _ => by rw [w5 p (by omega) (by omega), w4 p (by omega) (by omega)]; exact o9 p (by omega) (by omega)
      have w510 : V5 10 = V1 10 := by rw [w5 10 (by omega) (by omega), w10]
      have w512 : V5 12 = V4 12 := w5 12 (by omega) (by omega)
      refine e_app2 hG hK hS5 hJ hL5 hM5 hb hb7 hw hcc (by omega) (by rw [w512]; exact l12) (fun j hj => by rw [w5m _ (by omega) (by omega)]; exact hlc i j (by omega) hj) (fun j hj => by rw [w510, w5m _ (by omega) (by omega)]; exact hD.2.2.1 i j (Nat.le_refl _) ⟨hj, Or.inl (by omega)⟩) hrc hrs (fun M6 V6 hS6 f6a o6 e6 => ?_) (fun M6 V6 hS6 f6a o6 h6 y hy => ?_)
      rotate_left
      · refine kt M6 V6 hS6 (hL5.ef hJ f6a) (fun q a b => ?_) ((f04.trans f5a).trans f6a).efx ⟨i, V1 10, V3 34, by omega, hD, hfo, Or.inr ?_⟩ y hy
        · rw [o6 q (by omega) (fun j' h => by have := hGP.1 (32 * i + (w + j')) (by omega); omega), w5 q (by omega) (by omega), w4 q a (by omega)]
          exact o9 q a b
        · obtain ⟨j, y, a, b, c9⟩ := h6
          rw [w510, w512, v12, w5m _ (by omega) (by omega)] at b
          exact ⟨j, y, a, b, c9⟩
      have hl9 := (hL5.ef hJ f6a).1
      have hm9 := (hM5.ef hS5 f6a).1
      show jj G kE_append (d + 9) Q rc rs 213 [some (.ref el), some (.ref mx), some (.int (nI (i))), some (.int (nI (c)))] [] M6
      refine jn_iinc (pc := 213) (i + 1) kE_append_d213 rfl (nI_1 _) ?_
      refine jj_goto (pc := 216) (tgt := 2) kE_append_d216 (by decide) ?_
      show jj G kE_append (d + 9) Q rc rs 2 [some (.ref el), some (.ref mx), some (.int (nI (i + 1))), some (.int (nI (c)))] [] M6
      have w6 : ∀ q, 8 ≤ q → q < 35 ∨ 547 ≤ q → V6 q = V5 q := fun q a b => o6 q a (fun j' h => by have := hGP.1 (32 * i + (w + j')) (by omega); omega)
      have oth : ∀ i' j', i' < 16 → j' < 32 → i' ≠ i → V6 (g (32 * i' + j')) = V9 (g (32 * i' + j')) := fun i' j' a b e => by
        have := hGP.1 (32 * i' + j') (by omega)
        rw [o6 _ (by omega) (fun j2 h => hGP.ne (by omega) (by omega) (by omega) (by omega) (by omega)), o5 _ (by omega) (fun j2 h => hGP.ne (by omega) (by omega) (by omega) (by omega) (by omega))]
        exact wg i' j' a b
      refine ih (i + 1) (by omega) _ M6 V6 hS6 ((f04.trans f5a).trans f6a) (fun q a b => by rw [w6 q (by omega) (by omega), w5 q (by omega) (by omega), w4 q a (by omega)]; exact o9 q a b) (fun i' h => ?_) (fun i' j' a b e => by rw [oth i' j' b e (by omega)]; exact hO i' j' (by omega) b e)
      by_cases e : i' = i
      · subst e
        refine ⟨V1 10, V3 34, hD, hfo, fun j hj => ?_, fun j hj => ?_⟩
        · have := hGP.1 (32 * i' + j) (by omega)
          rw [o6 _ (by omega) (fun j2 h => hGP.ne (by omega) (by omega) (by omega) (by omega) (by omega))]
          have q := e5 j hj
          rw [wg i' j (by omega) (by omega), hO i' j (Nat.le_refl _) (by omega) (by omega), v11] at q
          exact q
        · have q := e6 j hj
          rw [w510, w512, v12, w5m _ (by omega) (by omega)] at q
          exact q
      · exact (hR i' (by omega)).congr (fun y hy => oth i' y (by omega) (by omega) e)
  exact outer m 0 (by omega) _ M V hS (fun _ _ _ _ _ _ => rfl) (fun _ _ _ => rfl) (fun i' h => by omega) (fun _ _ _ _ _ => rfl)
end E10
