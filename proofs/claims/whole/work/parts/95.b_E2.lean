/-! ===== Elimination: load (printed by wip/gen/rE2.py) ===== -/
/-- the column to which column j goes -/
def bcol (bk c j : Nat) : Nat := if bk = 1 then c - 1 - j else j
theorem bcol_lt {bk c j : Nat} (h : j < c) : bcol bk c j < c := by
  unfold bcol
  split <;> omega
theorem bcol_inj {bk c j j' : Nat} (h : j < c) (h' : j' < c) (e : bcol bk c j = bcol bk c j') : j = j' := by
  unfold bcol at e
  split at e <;> omega
/-- the cells of row i up to column j, each divided by gg -/
def RCE (V V' : Nat → Int) (b c bk : Nat) (g : Nat → Nat) (i j : Nat) (gg : Int) : Prop := ∀ j', j' < j → j' < c → V' (g (32 * i + bcol bk c j')) * gg = V (b + (16 * i + j')) ∧ blen (V' (g (32 * i + bcol bk c j'))) ≤ 2000
/-- row i stands in the grid, made whole by its factor -/
def ROWD (V V' : Nat → Int) (b c bk : Nat) (g : Nat → Nat) (i : Nat) : Prop := ∃ gg : Int, CDV V b c i (i + 1) 0 gg ∧ V' (17 + i) * gg = V (b + 256) ∧ RCE V V' b c bk g i c gg
theorem RCE.congr {V V1 V2 : Nat → Int} {b c bk i j : Nat} {g : Nat → Nat} {gg : Int} (h : RCE V V1 b c bk g i j gg) (e : ∀ x, x < c → V2 (g (32 * i + x)) = V1 (g (32 * i + x))) : RCE V V2 b c bk g i j gg := fun j' h1 h2 => by
  rw [e _ (bcol_lt h2)]
  exact h j' h1 h2
theorem ROWD.congr {V V1 V2 : Nat → Int} {b c bk i : Nat} {g : Nat → Nat} (h : ROWD V V1 b c bk g i) (e0 : V2 (17 + i) = V1 (17 + i)) (e : ∀ x, x < c → V2 (g (32 * i + x)) = V1 (g (32 * i + x))) : ROWD V V2 b c bk g i := by
  obtain ⟨gg, h1, h2, h3⟩ := h
  exact ⟨gg, h1, by rw [e0]; exact h2, h3.congr e⟩
/-- some cell, made whole, is too long -/
def TOOW (V : Nat → Int) (b r c : Nat) : Prop := ∃ (i j : Nat) (gg x : Int), i < r ∧ j < c ∧ CDV V b c i (i + 1) 0 gg ∧ x * gg = V (b + (16 * i + j)) ∧ 2000 < blen x
theorem tdiv_back {a b : Int} (h : b ∣ a) : a.tdiv b * b = a := by
  obtain ⟨c, hc⟩ := h
  by_cases e : b = 0
  · rw [hc, e]; simp
  · rw [hc, Int.mul_tdiv_cancel_left _ e, Int.mul_comm]
section E2
variable {G : jg} {d : Nat} {Q : jq} {rc rs : Nat} {M : mheap} {wa la cap : Nat → Nat} {N eu dv hi lo dk el ra pa ia ga rk sw m w : Nat} {P B : List Int32} {g : Nat → Nat} {V : Nat → Int}
theorem e_load {mx ar b r c bk : Nat} (hG : kG G) (hK : KJI wa la cap N hi lo) (hS : KS M wa la cap N eu dv hi lo dk V) (hJ : LJ wa la cap N eu dv hi lo dk el ra pa ia ga) (hL : ELT M wa el ra pa ia ga dk rk sw m w P B g) (hM : MXT M wa mx ar b r c) (hb : b + 256 < N) (hb7 : 547 ≤ b) (hcp : ∀ p, b ≤ p → p ≤ b + 256 → cap p ≤ 252) (hr : r ≤ 16) (hcc : c ≤ 16) (hpos : 0 < V (b + 256)) (hcl : lc (V (b + 256)) ≤ 125) (hbk : bk ≤ 1) (hrc : 1 ≤ rc) (hrs : 6 ≤ rs) (k : ∀ (M' : mheap) (V' : Nat → Int), KS M' wa la cap N eu dv hi lo dk V' → ELT M' wa el ra pa ia ga dk rk sw r c P B g → (∀ p, 13 ≤ p → p < 17 ∨ 547 ≤ p → V' p = V p) → EFX (fun x => x = el) M M' wa la N eu dv hi lo → (∀ i, i < r → ROWD V V' b c bk g i) → Q (.returned none) M' rc rs) (kt : ∀ (M' : mheap) (V' : Nat → Int), KS M' wa la cap N eu dv hi lo dk V' → ELT M' wa el ra pa ia ga dk rk sw r c P B g → (∀ p, 13 ≤ p → p < 17 ∨ 547 ≤ p → V' p = V p) → EFX (fun x => x = el) M M' wa la N eu dv hi lo → TOOW V b r c → ∀ x, M' x = none → Q (.threw x) (jj_up M' x (.inl 6, [])) (rc - 1) (rs - 6)) : jj G kE_load (d + 9) Q rc rs 0 (jj_ent [.ref el, .ref mx, .int (nI bk)] 5) [] M := by
  obtain ⟨hI, hN, hcap, hdi⟩ := id hK
  obtain ⟨h547, c17, c33, c34, c64, f1, f2, f3, f4, f5, n1, n2, n3, n4, n5⟩ := id hJ
  have hGP := hL.2.2.2.2.2
  show jj G kE_load (d + 9) Q rc rs 0 [some (.ref el), some (.ref mx), some (.int (nI (bk))), none, none] [] M
  refine jj_aload_n (pc := 0) kE_load_d0 rfl ?_
  refine jj_aload_n (pc := 1) kE_load_d1 rfl ?_
  refine jj_getf (pc := 2) kE_load_d2 (kfE_M_rows hG) hM.1 rfl ?_
  refine jj_putf (pc := 5) kE_load_d5 (kpE_rows hG) hL.1 (by rfl) rfl ?_
  refine jn_gen (fun M101 hM102 => ?_)
  have h103 : M101 mx = some (.inl nM, [.int (nI (r)), .int (nI (c)), .ref (wa (b + 256)), .ref ar]) := by rw [hM102, jj_up_ne _ _ (fun e => by have q1 := hM.1; rw [e, hL.1] at q1; cases q1)]; exact hM.1
  have h104 : M101 el = some (.inl nE, [.ref ra, .ref pa, .ref ia, .ref (wa 33), .int (nI (rk)), .int (nI (sw)), .int (nI (r)), .int (nI (w)), .ref ga, .ref (wa 34), .ref dk]) := by rw [hM102]; exact jj_up_at _ _ _
  refine jj_aload_n (pc := 8) kE_load_d8 rfl ?_
  refine jj_aload_n (pc := 9) kE_load_d9 rfl ?_
  refine jj_getf (pc := 10) kE_load_d10 (kfE_M_columns hG) h103 rfl ?_
  refine jj_putf (pc := 13) kE_load_d13 (kpE_width hG) h104 (by rfl) rfl ?_
  refine jn_gen (fun M105 hM106 => ?_)
  have h107 : M105 mx = some (.inl nM, [.int (nI (r)), .int (nI (c)), .ref (wa (b + 256)), .ref ar]) := by rw [hM106, jj_up_ne _ _ (fun e => by have q1 := h103; rw [e, h104] at q1; cases q1)]; exact h103
  have h108 : M105 el = some (.inl nE, [.ref ra, .ref pa, .ref ia, .ref (wa 33), .int (nI (rk)), .int (nI (sw)), .int (nI (r)), .int (nI (c)), .ref ga, .ref (wa 34), .ref dk]) := by rw [hM106]; exact jj_up_at _ _ _
  have hu0 : ∀ x, x ≠ el → M105 x = M x := fun x hx => by rw [hM106, jj_up_ne _ _ hx, hM102, jj_up_ne _ _ hx]
  have hSa := hS.up f1 n2 hu0
  have hL1 : ELT M105 wa el ra pa ia ga dk rk sw r c P B g := by
    obtain ⟨h1, h2, ⟨h3, l3⟩, ⟨h4, l4⟩, h5, h6⟩ := hL
    exact ⟨h108, (hu0 _ (fun e => by rw [e, h1] at h2; cases h2)).trans h2, ⟨(hu0 _ (fun e => by rw [e, h1] at h3; cases h3)).trans h3, l3⟩, ⟨(hu0 _ (fun e => by rw [e, h1] at h4; cases h4)).trans h4, l4⟩, (hu0 _ (fun e => by rw [e, h1] at h5; cases h5)).trans h5, h6⟩
  have hM1 : MXT M105 wa mx ar b r c := ⟨h107, (hu0 _ (fun e => by have := hM.2; rw [e, hL.1] at this; cases this)).trans hM.2⟩
  have hF1 : EFX (fun x => x = el) M M105 wa la N eu dv hi lo := EFX.up hu0 rfl
  obtain ⟨Ma, hMa⟩ : ∃ Ma, M105 = Ma := ⟨_, rfl⟩
  rw [hMa] at hSa hL1 hM1 hF1
  rw [hMa]
  refine jn_iconst (pc := 16) 0 kE_load_d16 (by decide) ?_
  refine jj_istore_n (pc := 17) kE_load_d17 (Nat.le_of_ble_eq_true rfl) ?_
  show jj G kE_load (d + 9) Q rc rs 18 [some (.ref el), some (.ref mx), some (.int (nI (bk))), some (.int (nI (0))), none] [] Ma
  show jj G kE_load (d + 9) Q rc rs 18 [some (.ref el), some (.ref mx), some (.int (nI (bk))), some (.int (nI (0))), none] [] Ma
  have outer : ∀ mu i, r = i + mu → ∀ (oj : Option Value) (M9 : mheap) (V9 : Nat → Int), KS M9 wa la cap N eu dv hi lo dk V9 → EF Ma M9 wa la N eu dv hi lo → (∀ p, 13 ≤ p → p < 17 ∨ 547 ≤ p → V9 p = V p) → (∀ i', i' < i → ROWD V V9 b c bk g i') → jj G kE_load (d + 9) Q rc rs 18 [some (.ref el), some (.ref mx), some (.int (nI (bk))), some (.int (nI (i))), (oj)] [] M9 := by
    intro mu
    induction mu with
    | zero =>
      intro i hk oj M9 V9 hS9 f9 o9 hR
      have e9 : r = i := by omega
      subst e9
      have hl9 := (hL1.ef hJ f9).1
      refine jj_iload_n (pc := 18) kE_load_d18 rfl ?_
      refine jj_aload_n (pc := 19) kE_load_d19 rfl ?_
      refine jj_getf (pc := 20) kE_load_d20 (kfE_rows hG) hl9 rfl ?_
      refine jn_icmp_ge (pc := 23) (tgt := 159) kE_load_d23 (by decide) (by omega) (by omega) (fun _ => ?_) (fun c => by exfalso; omega)
      exact jj_vret (pc := 159) kE_load_d159 rfl (k M9 V9 hS9 (hL1.ef hJ f9) o9 (hF1.trans f9.efx) hR)
    | succ mu ih =>
      intro i hk oj M9 V9 hS9 f9 o9 hR
      have hM9 := hM1.ef hSa f9
      have hm9 := hM9.1
      have hL9 := hL1.ef hJ f9
      have hl9 := hL9.1
      obtain ⟨hc0, ⟨r_b, px_b, pf_b, py_b, po_b, ps_b, od_b, hU0⟩, hdk0⟩ := id hS9
      have hf0 : EF M9 M9 wa la N eu dv hi lo := fun _ _ _ _ _ _ => rfl
      obtain ⟨V0, hV0⟩ : ∃ V0, V9 = V0 := ⟨_, rfl⟩
      rw [hV0] at hc0
      have hn0 := hU0.1
      have b_r0 := hn0.2.1
      have b_x0 := hn0.2.2.1
      have b_f0 := hn0.2.2.2.1
      have hdv0 := hU0.2.1
      obtain ⟨ea0, eb0, ec0, ed0, hE0⟩ := hU0.2.2.2
      have hD0 := hdv0.1
      have eC : V0 (b + 256) = V (b + 256) := by rw [← hV0]; exact o9 _ (by omega) (by omega)
      have eV : ∀ p, b ≤ p → p ≤ b + 256 → V0 p = V p := fun p _ _ => by rw [← hV0]; exact o9 _ (by omega) (by omega)
      show jj G kE_load (d + 9) Q rc rs 18 [some (.ref el), some (.ref mx), some (.int (nI (bk))), some (.int (nI (i))), (oj)] [] M9
      refine jj_iload_n (pc := 18) kE_load_d18 rfl ?_
      refine jj_aload_n (pc := 19) kE_load_d19 rfl ?_
      refine jj_getf (pc := 20) kE_load_d20 (kfE_rows hG) hl9 rfl ?_
      refine jn_icmp_ge (pc := 23) (tgt := 159) kE_load_d23 (by decide) (by omega) (by omega) (fun c => by exfalso; omega) (fun _ => ?_)
      refine jj_aload_n (pc := 26) kE_load_d26 rfl ?_
      refine jj_getf (pc := 27) kE_load_d27 (kfE_desk hG) hl9 rfl ?_
      refine jj_aload_n (pc := 30) kE_load_d30 rfl ?_
      refine jj_iload_n (pc := 31) kE_load_d31 rfl ?_
      refine jj_iload_n (pc := 32) kE_load_d32 rfl ?_
      refine jn_iconst (pc := 33) 1 kE_load_d33 (by decide) ?_
      refine jn_iadd (pc := 34) (i + 1) kE_load_d34 (by omega) ?_
      refine jj_callV (pc := 35) (b := dk) (As := [.ref mx, .int (nI (i)), .int (nI (i + 1))]) kE_load_d35 (kvE_K_commonDivisor hG) (kG_cl hG rfl) rfl hdk0 rfl rfl rfl (Nat.le_of_ble_eq_true rfl) (Nat.le_of_ble_eq_true rfl) (jj_bare0 rfl) ?_
      refine k_common hG hK (hV0 ▸ hS9) hM9 hb (by omega) hcp hcc (by omega) (by omega) (by rw [eC]; exact hpos) (fun M1 V1 hS1 hcd1 ot1 hw1 => ?_) 
      obtain ⟨hc1, ⟨r_1, px_1, pf_1, py_1, po_1, ps_1, od_1, hU1⟩, _⟩ := id hS1
      have hf1 := hf0.trans hw1
      have q1_mx := hw1.obj hc0 hU0 hm9 (by decide) (by decide) (by decide)
      have q1_el := hw1.obj hc0 hU0 hl9 (by decide) (by decide) (by decide)
      have q1_dk := hw1.obj hc0 hU0 hdk0 (by decide) (by decide) (by decide)
      have hn1 := hU1.1
      have b_r1 := hn1.2.1
      have b_x1 := hn1.2.2.1
      have b_f1 := hn1.2.2.2.1
      have hdv1 := hU1.2.1
      obtain ⟨ea1, eb1, ec1, ed1, hE1⟩ := hU1.2.2.2
      have hD1 := hdv1.1
      show jj G kE_load (d + 9) Q rc rs 38 [some (.ref el), some (.ref mx), some (.int (nI (bk))), some (.int (nI (i))), (oj)] [] M1
      have eC1 : V1 (b + 256) = V (b + 256) := by rw [ot1 _ (by omega) (by omega), eC]
      have hD : CDV V b c i (i + 1) 0 (V1 10) := by
        obtain ⟨a1, a2, a3, a4⟩ := hcd1
        refine ⟨a1, by rw [← eC]; exact a2, fun i' j' x1 x2 => ?_, fun h x1 x2 => a4 h (by rw [eC]; exact x1) (fun i' j' y1 y2 => ?_)⟩
        · have := a3 i' j' x1 x2
          unfold thru at x2
          rw [eV _ (by omega) (by omega)] at this
          exact this
        · have := x2 i' j' y1 y2
          unfold thru at y2
          rw [eV _ (by omega) (by omega)]
          exact this
      refine jj_aload_n (pc := 38) kE_load_d38 rfl ?_
      refine jj_getf (pc := 39) kE_load_d39 (kfE_desk hG) q1_el rfl ?_
      refine jj_getf (pc := 42) kE_load_d42 (kfE_K_divider hG) q1_dk rfl ?_
      refine jj_aload_n (pc := 45) kE_load_d45 rfl ?_
      refine jj_getf (pc := 46) kE_load_d46 (kfE_M_common hG) q1_mx rfl ?_
      refine jj_aload_n (pc := 49) kE_load_d49 rfl ?_
      refine jj_getf (pc := 50) kE_load_d50 (kfE_desk hG) q1_el rfl ?_
      refine jj_getf (pc := 53) kE_load_d53 (kfE_K_divisor hG) q1_dk rfl ?_
      refine jj_callV (pc := 56) (b := dv) (As := [.ref (wa (b + 256)), .ref (wa 10)]) kE_load_d56 (kvE_D_divide hG) (kG_cl hG rfl) rfl hD1 rfl rfl rfl (Nat.le_of_ble_eq_true rfl) (Nat.le_of_ble_eq_true rfl) (jj_bare0 rfl) ?_
      refine d_divide hG hI hc1 hdv1 hdi (by omega) (by omega) hb (by omega) hn1.nqr (by omega) (by omega) (by omega) (by omega) (by rw [eC1]; omega) (by rw [hcap 0 (by omega)]; exact (by rw [eC1]; omega)) (by rw [hcap r_1 (by omega)]; exact (by rw [eC1]; omega)) (fun M2 hcx2 hdx2 hw2 => ?_)
      obtain ⟨V2, hV2⟩ : ∃ W, vup (vup V1 0 ((V1 (b + 256)).tdiv (V1 10))) r_1 ((V1 (b + 256)).tmod (V1 10)) = W := ⟨_, rfl⟩
      have hc2 : CW M2 wa la cap N V2 := by rw [← hV2]; exact hcx2
      have at2 : V2 0 = (V1 (b + 256)).tdiv (V1 10) := by rw [← hV2, vup_ne _ _ hn1.nqr, vup_at]
      have rt2 : V2 r_1 = (V1 (b + 256)).tmod (V1 10) := by rw [← hV2, vup_at]
      have ot2 : ∀ p, p ≠ 0 → p ≠ r_1 → V2 p = V1 p := fun p h1 h2 => by rw [← hV2, vup_ne _ _ h2, vup_ne _ _ h1]
      have hU2 := hU1.div hc1 hdx2 hw2
      have hf2 := hf1.trans (hw2.ef (eu := eu) (dv := dv))
      have q2_mx := (hw2.ef (eu := eu) (dv := dv)).obj hc1 hU1 q1_mx (by decide) (by decide) (by decide)
      have q2_el := (hw2.ef (eu := eu) (dv := dv)).obj hc1 hU1 q1_el (by decide) (by decide) (by decide)
      have q2_dk := (hw2.ef (eu := eu) (dv := dv)).obj hc1 hU1 q1_dk (by decide) (by decide) (by decide)
      have hn2 := hU2.1
      have b_r2 := hn2.2.1
      have b_x2 := hn2.2.2.1
      have b_f2 := hn2.2.2.2.1
      have hdv2 := hU2.2.1
      obtain ⟨ea2, eb2, ec2, ed2, hE2⟩ := hU2.2.2.2
      have hD2 := hdv2.1
      show jj G kE_load (d + 9) Q rc rs 59 [some (.ref el), some (.ref mx), some (.int (nI (bk))), some (.int (nI (i))), (oj)] [] M2
      rw [eC1] at at2
      refine jj_aload_n (pc := 59) kE_load_d59 rfl ?_
      refine jj_getf (pc := 60) kE_load_d60 (kfE_rowFactors hG) q2_el rfl ?_
      refine jj_iload_n (pc := 63) kE_load_d63 rfl ?_
      refine jj_aald (pc := 64) (i := i) kE_load_d64 (kG_t hG rfl) (hL9.ef hJ hf2).2.1 rfl (by rw [List.length_map, List.length_range]; decide) (by rw [List.getElem?_map, List.getElem?_range (by omega)]; rfl) ?_
      show jj G kE_load (d + 9) Q rc rs 65 [some (.ref el), some (.ref mx), some (.int (nI (bk))), some (.int (nI (i))), (oj)] [.ref (wa (17 + i))] M2
      obtain ⟨T17i_2, t17i_2, hT17i_2, _, _⟩ := hc2 (17 + i) (by omega)
      refine jj_aload_n (pc := 65) kE_load_d65 rfl ?_
      refine jj_getf (pc := 66) kE_load_d66 (kfE_desk hG) q2_el rfl ?_
      refine jj_getf (pc := 69) kE_load_d69 (kfE_K_divider hG) q2_dk rfl ?_
      refine jj_getf (pc := 72) kE_load_d72 (kfE_D_quotient hG) hD2 rfl ?_
      refine jj_callV (pc := 75) (b := (wa (17 + i))) (As := [.ref (wa 0)]) kE_load_d75 (kvE_W_copy hG) (kG_cl hG rfl) rfl hT17i_2 rfl rfl rfl (Nat.le_of_ble_eq_true rfl) (Nat.le_of_ble_eq_true rfl) (jj_bare0 rfl) ?_
      refine w_copy hG hI hc2 (by omega : 17 + i < N) (by omega : 0 < N) (by rw [at2, c17 _ (by omega) (by omega), Int.natAbs_tdiv]; exact Nat.lt_of_le_of_lt (Nat.div_le_self _ _) (Nat.lt_of_lt_of_le (lc_lt _) (Nat.pow_le_pow_right (by decide) hcl))) (fun M3 hcx3 hw3  => ?_) 
      obtain ⟨V3, hV3⟩ : ∃ W, vup V2 (17 + i) (V2 0) = W := ⟨_, rfl⟩
      have hc3 : CW M3 wa la cap N V3 := by rw [← hV3]; exact hcx3
      have at3 : V3 (17 + i) = V2 0 := by rw [← hV3, vup_at]
      have ot3 : ∀ p, p ≠ (17 + i) → V3 p = V2 p := fun p hp => by rw [← hV3, vup_ne _ _ hp]
      have hU3 := hU2.wt hc2 hdi (by omega) hw3
      have hf3 := hf2.trans (hw3.ef (by omega))
      have q3_mx := (hw3.ef (eu := eu) (dv := dv) (hi := hi) (lo := lo) (by omega)).obj hc2 hU2 q2_mx (by decide) (by decide) (by decide)
      have q3_el := (hw3.ef (eu := eu) (dv := dv) (hi := hi) (lo := lo) (by omega)).obj hc2 hU2 q2_el (by decide) (by decide) (by decide)
      have q3_dk := (hw3.ef (eu := eu) (dv := dv) (hi := hi) (lo := lo) (by omega)).obj hc2 hU2 q2_dk (by decide) (by decide) (by decide)
      have hn3 := hU3.1
      have b_r3 := hn3.2.1
      have b_x3 := hn3.2.2.1
      have b_f3 := hn3.2.2.2.1
      have hdv3 := hU3.2.1
      obtain ⟨ea3, eb3, ec3, ed3, hE3⟩ := hU3.2.2.2
      have hD3 := hdv3.1
      show jj G kE_load (d + 9) Q rc rs 78 [some (.ref el), some (.ref mx), some (.int (nI (bk))), some (.int (nI (i))), (oj)] [] M3
      have v10 : V3 10 = V1 10 := by rw [ot3 _ (by omega), ot2 _ (by omega) (by omega)]
      have vO : ∀ p, 13 ≤ p → p ≠ 17 + i → V3 p = V0 p := fun p p1 p2 => by rw [ot3 _ p2, ot2 _ (by omega) (by omega), ot1 _ (by omega) (by omega)]
      have hD3 : CDV V b c i (i + 1) 0 (V3 10) := by rw [v10]; exact hD
      have hF3 : V3 (17 + i) * V3 10 = V (b + 256) := by rw [at3, at2, v10]; exact tdiv_back hD.2.1
      have hR3 : ∀ i', i' < i → ROWD V V3 b c bk g i' := fun i' hi' => (hR i' hi').congr (by rw [vO _ (by omega) (by omega), hV0]) (fun y hy => by have := hGP.1 (32 * i' + y) (by omega); rw [vO _ (by omega) (by omega), hV0])
      have ef3 : EF Ma M3 wa la N eu dv hi lo := f9.trans hf3
      have o3 : ∀ p, 13 ≤ p → p < 17 ∨ 547 ≤ p → V3 p = V p := fun p p1 p2 => by rw [vO p p1 (by omega), ← hV0]; exact o9 p p1 p2
      have hS3 : KS M3 wa la cap N eu dv hi lo dk V3 := ⟨hc3, ⟨r_1, px_1, pf_1, py_1, po_1, ps_1, od_1, hU3⟩, q3_dk⟩
      refine jn_iconst (pc := 78) 0 kE_load_d78 (by decide) ?_
      refine jj_istore (pc := 79) kE_load_d79 (Nat.le_of_ble_eq_true rfl) ?_
      show jj G kE_load (d + 9) Q rc rs 81 [some (.ref el), some (.ref mx), some (.int (nI (bk))), some (.int (nI (i))), some (.int (nI (0)))] [] M3
      show jj G kE_load (d + 9) Q rc rs 81 [some (.ref el), some (.ref mx), some (.int (nI (bk))), some (.int (nI (i))), some (.int (nI (0)))] [] M3
      have inner : ∀ mu2 j, c = j + mu2 → ∀ (M9 : mheap) (V9 : Nat → Int), KS M9 wa la cap N eu dv hi lo dk V9 → EF Ma M9 wa la N eu dv hi lo → (∀ p, 13 ≤ p → p < 17 ∨ 547 ≤ p → V9 p = V p) → (∀ i', i' < i → ROWD V V9 b c bk g i') → CDV V b c i (i + 1) 0 (V9 10) → V9 (17 + i) * V9 10 = V (b + 256) → RCE V V9 b c bk g i j (V9 10) → jj G kE_load (d + 9) Q rc rs 81 [some (.ref el), some (.ref mx), some (.int (nI (bk))), some (.int (nI (i))), some (.int (nI (j)))] [] M9 := by
        intro mu2
        induction mu2 with
        | zero =>
          intro j hk2 M9 V9 hS9 f9 o9 hR hD hF hC
          have e9 : c = j := by omega
          subst e9
          have hl9 := (hL1.ef hJ f9).1
          refine jj_iload (pc := 81) kE_load_d81 rfl ?_
          refine jj_aload_n (pc := 83) kE_load_d83 rfl ?_
          refine jj_getf (pc := 84) kE_load_d84 (kfE_width hG) hl9 rfl ?_
          refine jn_icmp_ge (pc := 87) (tgt := 153) kE_load_d87 (by decide) (by omega) (by omega) (fun _ => ?_) (fun c => by exfalso; omega)
          refine jn_iinc (pc := 153) (i + 1) kE_load_d153 rfl (nI_1 _) ?_
          refine jj_goto (pc := 156) (tgt := 18) kE_load_d156 (by decide) ?_
          show jj G kE_load (d + 9) Q rc rs 18 [some (.ref el), some (.ref mx), some (.int (nI (bk))), some (.int (nI (i + 1))), some (.int (nI (c)))] [] M9
          refine ih (i + 1) (by omega) _ M9 V9 hS9 f9 o9 (fun i' hi' => ?_)
          by_cases e : i' = i
          · rw [e]; exact ⟨_, hD, hF, hC⟩
          · exact hR i' (by omega)
        | succ mu2 ih2 =>
          intro j hk2 M9 V9 hS9 f9 o9 hR hD hF hC
          have hM9 := hM1.ef hSa f9
          have hm9 := hM9.1
          have hL9 := hL1.ef hJ f9
          have hl9 := hL9.1
          have hp : (b + (16 * i + j)) < N := by omega
          have hbc := bcol_lt (bk := bk) (show j < c by omega)
          have hgc := hGP.1 (32 * i + bcol bk c j) (by omega)
          obtain ⟨hc0, ⟨r_d, px_d, pf_d, py_d, po_d, ps_d, od_d, hU0⟩, hdk0⟩ := id hS9
          have hf0 : EF M9 M9 wa la N eu dv hi lo := fun _ _ _ _ _ _ => rfl
          obtain ⟨V0, hV0⟩ : ∃ V0, V9 = V0 := ⟨_, rfl⟩
          rw [hV0] at hc0
          have hn0 := hU0.1
          have b_r0 := hn0.2.1
          have b_x0 := hn0.2.2.1
          have b_f0 := hn0.2.2.2.1
          have hdv0 := hU0.2.1
          obtain ⟨ea0, eb0, ec0, ed0, hE0⟩ := hU0.2.2.2
          have hD0 := hdv0.1
          rw [hV0] at hD hF hC
          have eV : V0 (b + (16 * i + j)) = V (b + (16 * i + j)) := by rw [← hV0]; exact o9 _ (by omega) (by omega)
          have hdv : V0 10 ∣ V (b + (16 * i + j)) := hD.2.2.1 i j (by omega) ⟨by omega, Or.inl (by omega)⟩
          show jj G kE_load (d + 9) Q rc rs 81 [some (.ref el), some (.ref mx), some (.int (nI (bk))), some (.int (nI (i))), some (.int (nI (j)))] [] M9
          refine jj_iload (pc := 81) kE_load_d81 rfl ?_
          refine jj_aload_n (pc := 83) kE_load_d83 rfl ?_
          refine jj_getf (pc := 84) kE_load_d84 (kfE_width hG) hl9 rfl ?_
          refine jn_icmp_ge (pc := 87) (tgt := 153) kE_load_d87 (by decide) (by omega) (by omega) (fun c => by exfalso; omega) (fun _ => ?_)
          refine jj_aload_n (pc := 90) kE_load_d90 rfl ?_
          refine jj_getf (pc := 91) kE_load_d91 (kfE_desk hG) hl9 rfl ?_
          refine jj_getf (pc := 94) kE_load_d94 (kfE_K_divider hG) hdk0 rfl ?_
          refine jj_aload_n (pc := 97) kE_load_d97 rfl ?_
          refine jj_iload_n (pc := 98) kE_load_d98 rfl ?_
          refine jj_iload (pc := 99) kE_load_d99 rfl ?_
          refine jj_callV (pc := 101) (b := mx) (As := [.int (nI (i)), .int (nI (j))]) kE_load_d101 (kvE_M_at hG) (kG_cl hG rfl) rfl hm9 rfl rfl rfl (Nat.le_of_ble_eq_true rfl) (Nat.le_of_ble_eq_true rfl) (jj_bare0 rfl) ?_
          refine m_at hG hM9 (by omega) (by omega) ?_
          show jj G kE_load (d + 9) Q rc rs 104 [some (.ref el), some (.ref mx), some (.int (nI (bk))), some (.int (nI (i))), some (.int (nI (j)))] [.ref (wa (b + (16 * i + j))), .ref dv] M9
          refine jj_aload_n (pc := 104) kE_load_d104 rfl ?_
          refine jj_getf (pc := 105) kE_load_d105 (kfE_desk hG) hl9 rfl ?_
          refine jj_getf (pc := 108) kE_load_d108 (kfE_K_divisor hG) hdk0 rfl ?_
          refine jj_callV (pc := 111) (b := dv) (As := [.ref (wa (b + (16 * i + j))), .ref (wa 10)]) kE_load_d111 (kvE_D_divide hG) (kG_cl hG rfl) rfl hD0 rfl rfl rfl (Nat.le_of_ble_eq_true rfl) (Nat.le_of_ble_eq_true rfl) (jj_bare0 rfl) ?_
          refine d_divide hG hI hc0 hdv0 hdi (by omega) (by omega) hp (by omega) hn0.nqr (by omega) (by omega) (by omega) (by omega) (Nat.le_trans (hc0.lc hp) (hcp _ (by omega) (by omega))) (by rw [hcap 0 (by omega)]; exact (Nat.le_trans (hc0.lc hp) (hcp _ (by omega) (by omega)))) (by rw [hcap r_d (by omega)]; exact (Nat.le_trans (hc0.lc hp) (hcp _ (by omega) (by omega)))) (fun M1 hcx1 hdx1 hw1 => ?_)
          obtain ⟨V1, hV1⟩ : ∃ W, vup (vup V0 0 ((V0 (b + (16 * i + j))).tdiv (V0 10))) r_d ((V0 (b + (16 * i + j))).tmod (V0 10)) = W := ⟨_, rfl⟩
          have hc1 : CW M1 wa la cap N V1 := by rw [← hV1]; exact hcx1
          have at1 : V1 0 = (V0 (b + (16 * i + j))).tdiv (V0 10) := by rw [← hV1, vup_ne _ _ hn0.nqr, vup_at]
          have rt1 : V1 r_d = (V0 (b + (16 * i + j))).tmod (V0 10) := by rw [← hV1, vup_at]
          have ot1 : ∀ p, p ≠ 0 → p ≠ r_d → V1 p = V0 p := fun p h1 h2 => by rw [← hV1, vup_ne _ _ h2, vup_ne _ _ h1]
          have hU1 := hU0.div hc0 hdx1 hw1
          have hf1 := hf0.trans (hw1.ef (eu := eu) (dv := dv))
          have q1_mx := (hw1.ef (eu := eu) (dv := dv)).obj hc0 hU0 hm9 (by decide) (by decide) (by decide)
          have q1_el := (hw1.ef (eu := eu) (dv := dv)).obj hc0 hU0 hl9 (by decide) (by decide) (by decide)
          have q1_dk := (hw1.ef (eu := eu) (dv := dv)).obj hc0 hU0 hdk0 (by decide) (by decide) (by decide)
          have hn1 := hU1.1
          have b_r1 := hn1.2.1
          have b_x1 := hn1.2.2.1
          have b_f1 := hn1.2.2.2.1
          have hdv1 := hU1.2.1
          obtain ⟨ea1, eb1, ec1, ed1, hE1⟩ := hU1.2.2.2
          have hD1 := hdv1.1
          show jj G kE_load (d + 9) Q rc rs 114 [some (.ref el), some (.ref mx), some (.int (nI (bk))), some (.int (nI (i))), some (.int (nI (j)))] [] M1
          have hq : V1 0 * V0 10 = V (b + (16 * i + j)) := by rw [at1, eV]; exact tdiv_back hdv
          have hL8 := hL9.ef hJ hf1
          have o1 : ∀ p, 7 ≤ p → V1 p = V0 p := fun p p1 => ot1 p (by omega) (by omega)
          have hS1a : KS M1 wa la cap N eu dv hi lo dk V1 := ⟨hc1, ⟨r_d, px_d, pf_d, py_d, po_d, ps_d, od_d, hU1⟩, q1_dk⟩
          refine jj_aload_n (pc := 114) kE_load_d114 rfl ?_
          refine jj_iload_n (pc := 115) kE_load_d115 rfl ?_
          refine jj_iload_n (pc := 116) kE_load_d116 rfl ?_
          refine jn_if_eq (pc := 117) (tgt := 132) kE_load_d117 (by decide) (by omega) (fun cb => ?_) (fun cb => ?_)
          · skip
            refine jj_iload (pc := 132) kE_load_d132 rfl ?_
            refine jn_top (.int (nI (bcol bk c j))) (congrArg Value.int (congrArg nI (by unfold bcol; rw [if_neg (by omega)]))) ?_
            refine jj_aload_n (pc := 134) kE_load_d134 rfl ?_
            refine jj_getf (pc := 135) kE_load_d135 (kfE_desk hG) q1_el rfl ?_
            refine jj_getf (pc := 138) kE_load_d138 (kfE_K_divider hG) q1_dk rfl ?_
            refine jj_getf (pc := 141) kE_load_d141 (kfE_D_quotient hG) hD1 rfl ?_
            refine jj_callV (pc := 144) (b := el) (As := [.int (nI (i)), .int (nI (bcol bk c j)), .ref (wa 0)]) kE_load_d144 (kvE_E_put hG) (kG_cl hG rfl) rfl q1_el rfl rfl rfl (Nat.le_of_ble_eq_true rfl) (Nat.le_of_ble_eq_true rfl) (jj_bare0 rfl) ?_
            refine e_put hG hK hS1a hJ hL8 (by omega) (by omega) (by omega : 0 < N) hrc hrs (fun M2 hcx2 hw2 hb2 => ?_) (fun h9 x hx => kt M1 V1 hS1a (hL1.ef hJ (f9.trans hf1)) (fun p p1 p2 => by rw [o1 p (by omega), ← hV0]; exact o9 p p1 p2) (hF1.trans (f9.trans hf1).efx) ⟨i, j, V0 10, V1 0, by omega, by omega, hD, hq, h9⟩ x hx)
            obtain ⟨V2, hV2⟩ : ∃ W, vup V1 (g (32 * i + bcol bk c j)) (V1 0) = W := ⟨_, rfl⟩
            have hc2 : CW M2 wa la cap N V2 := by rw [← hV2]; exact hcx2
            have at2 : V2 (g (32 * i + bcol bk c j)) = V1 0 := by rw [← hV2, vup_at]
            have ot2 : ∀ p, p ≠ (g (32 * i + bcol bk c j)) → V2 p = V1 p := fun p hp => by rw [← hV2, vup_ne _ _ hp]
            have hU2 := hU1.wt hc1 hdi (by omega) hw2
            have hf2 := hf1.trans (hw2.ef (by omega))
            have q2_mx := (hw2.ef (eu := eu) (dv := dv) (hi := hi) (lo := lo) (by omega)).obj hc1 hU1 q1_mx (by decide) (by decide) (by decide)
            have q2_el := (hw2.ef (eu := eu) (dv := dv) (hi := hi) (lo := lo) (by omega)).obj hc1 hU1 q1_el (by decide) (by decide) (by decide)
            have q2_dk := (hw2.ef (eu := eu) (dv := dv) (hi := hi) (lo := lo) (by omega)).obj hc1 hU1 q1_dk (by decide) (by decide) (by decide)
            have hn2 := hU2.1
            have b_r2 := hn2.2.1
            have b_x2 := hn2.2.2.1
            have b_f2 := hn2.2.2.2.1
            have hdv2 := hU2.2.1
            obtain ⟨ea2, eb2, ec2, ed2, hE2⟩ := hU2.2.2.2
            have hD2 := hdv2.1
            show jj G kE_load (d + 9) Q rc rs 147 [some (.ref el), some (.ref mx), some (.int (nI (bk))), some (.int (nI (i))), some (.int (nI (j)))] [] M2
            refine jn_iinc (pc := 147) (j + 1) kE_load_d147 rfl (nI_1 _) ?_
            refine jj_goto (pc := 150) (tgt := 81) kE_load_d150 (by decide) ?_
            show jj G kE_load (d + 9) Q rc rs 81 [some (.ref el), some (.ref mx), some (.int (nI (bk))), some (.int (nI (i))), some (.int (nI (j + 1)))] [] M2
            have v2 : ∀ p, 7 ≤ p → p ≠ g (32 * i + bcol bk c j) → V2 p = V0 p := fun p p1 p2 => by rw [ot2 p p2, o1 p p1]
            have v10 : V2 10 = V0 10 := v2 10 (by omega) (by omega)
            refine ih2 (j + 1) (by omega) M2 V2 ⟨hc2, ⟨r_d, px_d, pf_d, py_d, po_d, ps_d, od_d, hU2⟩, q2_dk⟩ (f9.trans hf2) (fun p p1 p2 => by rw [v2 p (by omega) (by omega), ← hV0]; exact o9 p p1 p2) (fun i' hi' => (hR i' hi').congr ?_ (fun y hy => ?_)) (by rw [v10]; exact hD) (by rw [v10, v2 _ (by omega) (by omega)]; exact hF) (fun j' h1 h2 => ?_)
            · rw [v2 _ (by omega) (by omega), hV0]
            · have := hGP.1 (32 * i' + y) (by omega)
              rw [v2 _ (by omega) (hGP.ne (by omega) (by omega) (by omega) (by omega) (by omega)), hV0]
            · rw [v10]
              by_cases e : j' = j
              · rw [e, at2]
                exact ⟨hq, hb2⟩
              · have hb3 := bcol_lt (bk := bk) h2
                have := hGP.1 (32 * i + bcol bk c j') (by omega)
                rw [v2 _ (by omega) (hGP.ne (by omega) (by omega) (by omega) (by omega) (fun h => e (bcol_inj h2 (by omega) h.2)))]
                exact hC j' (by omega) h2
          · skip
            refine jj_aload_n (pc := 120) kE_load_d120 rfl ?_
            refine jj_getf (pc := 121) kE_load_d121 (kfE_width hG) q1_el rfl ?_
            refine jn_iconst (pc := 124) 1 kE_load_d124 (by decide) ?_
            refine jn_isub (pc := 125) (c - 1) kE_load_d125 (by omega) ?_
            refine jj_iload (pc := 126) kE_load_d126 rfl ?_
            refine jn_isub (pc := 128) (c - 1 - j) kE_load_d128 (by omega) ?_
            refine jj_goto (pc := 129) (tgt := 134) kE_load_d129 (by decide) ?_
            refine jn_top (.int (nI (bcol bk c j))) (congrArg Value.int (congrArg nI (by unfold bcol; rw [if_pos (by omega)]))) ?_
            refine jj_aload_n (pc := 134) kE_load_d134 rfl ?_
            refine jj_getf (pc := 135) kE_load_d135 (kfE_desk hG) q1_el rfl ?_
            refine jj_getf (pc := 138) kE_load_d138 (kfE_K_divider hG) q1_dk rfl ?_
            refine jj_getf (pc := 141) kE_load_d141 (kfE_D_quotient hG) hD1 rfl ?_
            refine jj_callV (pc := 144) (b := el) (As := [.int (nI (i)), .int (nI (bcol bk c j)), .ref (wa 0)]) kE_load_d144 (kvE_E_put hG) (kG_cl hG rfl) rfl q1_el rfl rfl rfl (Nat.le_of_ble_eq_true rfl) (Nat.le_of_ble_eq_true rfl) (jj_bare0 rfl) ?_
            refine e_put hG hK hS1a hJ hL8 (by omega) (by omega) (by omega : 0 < N) hrc hrs (fun M2 hcx2 hw2 hb2 => ?_) (fun h9 x hx => kt M1 V1 hS1a (hL1.ef hJ (f9.trans hf1)) (fun p p1 p2 => by rw [o1 p (by omega), ← hV0]; exact o9 p p1 p2) (hF1.trans (f9.trans hf1).efx) ⟨i, j, V0 10, V1 0, by omega, by omega, hD, hq, h9⟩ x hx)
            obtain ⟨V2, hV2⟩ : ∃ W, vup V1 (g (32 * i + bcol bk c j)) (V1 0) = W := ⟨_, rfl⟩
            have hc2 : CW M2 wa la cap N V2 := by rw [← hV2]; exact hcx2
            have at2 : V2 (g (32 * i + bcol bk c j)) = V1 0 := by rw [← hV2, vup_at]
            have ot2 : ∀ p, p ≠ (g (32 * i + bcol bk c j)) → V2 p = V1 p := fun p hp => by rw [← hV2, vup_ne _ _ hp]
            have hU2 := hU1.wt hc1 hdi (by omega) hw2
            have hf2 := hf1.trans (hw2.ef (by omega))
            have q2_mx := (hw2.ef (eu := eu) (dv := dv) (hi := hi) (lo := lo) (by omega)).obj hc1 hU1 q1_mx (by decide) (by decide) (by decide)
            have q2_el := (hw2.ef (eu := eu) (dv := dv) (hi := hi) (lo := lo) (by omega)).obj hc1 hU1 q1_el (by decide) (by decide) (by decide)
            have q2_dk := (hw2.ef (eu := eu) (dv := dv) (hi := hi) (lo := lo) (by omega)).obj hc1 hU1 q1_dk (by decide) (by decide) (by decide)
            have hn2 := hU2.1
            have b_r2 := hn2.2.1
            have b_x2 := hn2.2.2.1
            have b_f2 := hn2.2.2.2.1
            have hdv2 := hU2.2.1
            obtain ⟨ea2, eb2, ec2, ed2, hE2⟩ := hU2.2.2.2
            have hD2 := hdv2.1
            show jj G kE_load (d + 9) Q rc rs 147 [some (.ref el), some (.ref mx), some (.int (nI (bk))), some (.int (nI (i))), some (.int (nI (j)))] [] M2
            refine jn_iinc (pc := 147) (j + 1) kE_load_d147 rfl (nI_1 _) ?_
            refine jj_goto (pc := 150) (tgt := 81) kE_load_d150 (by decide) ?_
            show jj G kE_load (d + 9) Q rc rs 81 [some (.ref el), some (.ref mx), some (.int (nI (bk))), some (.int (nI (i))), some (.int (nI (j + 1)))] [] M2
            have v2 : ∀ p, 7 ≤ p → p ≠ g (32 * i + bcol bk c j) → V2 p = V0 p := fun p p1 p2 => by rw [ot2 p p2, o1 p p1]
            have v10 : V2 10 = V0 10 := v2 10 (by omega) (by omega)
            refine ih2 (j + 1) (by omega) M2 V2 ⟨hc2, ⟨r_d, px_d, pf_d, py_d, po_d, ps_d, od_d, hU2⟩, q2_dk⟩ (f9.trans hf2) (fun p p1 p2 => by rw [v2 p (by omega) (by omega), ← hV0]; exact o9 p p1 p2) (fun i' hi' => (hR i' hi').congr ?_ (fun y hy => ?_)) (by rw [v10]; exact hD) (by rw [v10, v2 _ (by omega) (by omega)]; exact hF) (fun j' h1 h2 => ?_)
            · rw [v2 _ (by omega) (by omega), hV0]
            · have := hGP.1 (32 * i' + y) (by omega)
              rw [v2 _ (by omega) (hGP.ne (by omega) (by omega) (by omega) (by omega) (by omega)), hV0]
            · rw [v10]
              by_cases e : j' = j
              · rw [e, at2]
                exact ⟨hq, hb2⟩
              · have hb3 := bcol_lt (bk := bk) h2
                have := hGP.1 (32 * i + bcol bk c j') (by omega)
                rw [v2 _ (by omega) (hGP.ne (by omega) (by omega) (by omega) (by omega) (fun h => e (bcol_inj h2 (by omega) h.2)))]
                exact hC j' (by omega) h2
      exact inner c 0 (by omega) M3 V3 hS3 ef3 o3 hR3 hD3 hF3 (fun j' h _ => by omega)
  exact outer r 0 (by omega) _ Ma V hSa (fun _ _ _ _ _ _ => rfl) (fun _ _ _ => rfl) (fun i' h => by omega)
end E2
