/-! ===== Elimination: substitute (printed by wip/gen/rE8.py) ===== -/
theorem bb_mul {a b : Int} (ha : lc a ≤ 63) (hb : lc b ≤ 63) : (a * b).natAbs < BB ^ 126 := by
  refine lc_room (Nat.le_trans (lc_mul a b) ?_)
  omega
theorem sum_room {z : Int} {n t : Nat} (ht : BB ^ 126 = t) (hn : n ≤ 40) (h : z.natAbs ≤ n * t) : lc z ≤ 127 := by
  refine lc_le ?_
  have e : BB ^ 127 = t * BB := by rw [← ht]; exact Nat.pow_succ BB 126
  have t0 : 0 < t := by rw [← ht]; exact Nat.pow_pos (by decide)
  have h1 : n * t ≤ 40 * t := Nat.mul_le_mul_right _ hn
  have h2 : t * 41 ≤ t * BB := Nat.mul_le_mul_left _ (by decide)
  omega
section E8
variable {G : jg} {d : Nat} {Q : jq} {rc rs : Nat} {M : mheap} {wa la cap : Nat → Nat} {N eu dv hi lo dk el ra pa ia ga rk sw m w : Nat} {P B : List Int32} {g : Nat → Nat} {V : Nat → Int}
theorem e_sum {M9 : mheap} {V9 : Nat → Int} {f c i : Nat} (hG : kG G) (hK : KJI wa la cap N hi lo) (hS9 : KS M9 wa la cap N eu dv hi lo dk V9) (hJ : LJ wa la cap N eu dv hi lo dk el ra pa ia ga) (hL9 : ELT M9 wa el ra pa ia ga dk rk sw m w P B g) {p : Nat → Nat} {T : imat} (hw : w ≤ 32) (hrm : rk ≤ 16) (hpw : ∀ i, i < rk → p i < w) (hPV : PIV P B p rk w) (hc : c < w) (hnp : ∀ k, k < rk → p k ≠ c) (hlZ : ∀ i k, i < rk → k < rk → lc (V (g (32 * i + (p k)))) ≤ 63) (hlC : ∀ i, i < rk → lc (V (g (32 * i + c))) ≤ 63) (hlL : lc (V 33) ≤ 63) (hlT : ∀ i, i < rk → lc (T i c) ≤ 63) (hnz : ∀ i, i < rk → V (g (32 * i + (p i))) ≠ 0) (hrec : ∀ i, i < rk → T i c * V (g (32 * i + (p i))) = V 33 * V (g (32 * i + c)) - isum (fun k => V (g (32 * i + p (i + 1 + k))) * T (i + 1 + k) c) (rk - (i + 1))) (hi1 : i + 1 < rk) (h9 : V9 9 = V 33 * V (g (32 * i + c))) (hv : ∀ k, k < rk → V9 (g (32 * i + (p k))) = V (g (32 * i + (p k)))) (ht : ∀ k, i < k → k < rk → V9 (g (32 * k + c)) = T k c) (k : ∀ (M' : mheap) (V' : Nat → Int), KS M' wa la cap N eu dv hi lo dk V' → EF M9 M' wa la N eu dv hi lo → (∀ q, 13 ≤ q → V' q = V9 q) → V' 9 = V 33 * V (g (32 * i + c)) - isum (fun k => V (g (32 * i + p (i + 1 + k))) * T (i + 1 + k) c) (rk - (i + 1)) → lc (V' 9) ≤ 127 → jj G kE_substitute (d + 5) Q rc rs 124 [some (.ref el), some (.int (nI (f))), some (.int (nI (c))), some (.int (nI (i))), some (.int (nI (rk)))] [] M') : jj G kE_substitute (d + 5) Q rc rs 55 [some (.ref el), some (.int (nI (f))), some (.int (nI (c))), some (.int (nI (i))), some (.int (nI (i + 1)))] [] M9 := by
  obtain ⟨hI, hN, hcap, hdi⟩ := id hK
  have h547 := hJ.1
  have hGP := hL9.2.2.2.2.2
  have lpa := hL9.2.2.1.2
  obtain ⟨t, et⟩ : ∃ t, BB ^ 126 = t := ⟨_, rfl⟩
  have loop : ∀ mu n, rk = n + mu → i < n → ∀ (M8 : mheap) (V8 : Nat → Int), KS M8 wa la cap N eu dv hi lo dk V8 → EF M9 M8 wa la N eu dv hi lo → (∀ q, 13 ≤ q → V8 q = V9 q) → V8 9 = V 33 * V (g (32 * i + c)) - isum (fun k => V (g (32 * i + p (i + 1 + k))) * T (i + 1 + k) c) (n - (i + 1)) → (V8 9).natAbs ≤ (n - i) * t → jj G kE_substitute (d + 5) Q rc rs 55 [some (.ref el), some (.int (nI (f))), some (.int (nI (c))), some (.int (nI (i))), some (.int (nI (n)))] [] M8 := by
    intro mu
    induction mu with
    | zero =>
      intro n hk hin M8 V8 hS8 f8 o8 e8 b8
      have en : rk = n := by omega
      subst en
      have hl8 := (hL9.ef hJ f8).1
      refine jj_iload (pc := 55) kE_substitute_d55 rfl ?_
      refine jj_aload_n (pc := 57) kE_substitute_d57 rfl ?_
      refine jj_getf (pc := 58) kE_substitute_d58 (kfE_rank hG) hl8 rfl ?_
      refine jn_icmp_ge (pc := 61) (tgt := 124) kE_substitute_d61 (by decide) (by omega) (by omega) (fun _ => ?_) (fun c => by exfalso; omega)
      show jj G kE_substitute (d + 5) Q rc rs 124 [some (.ref el), some (.int (nI (f))), some (.int (nI (c))), some (.int (nI (i))), some (.int (nI (rk)))] [] M8
      exact k M8 V8 hS8 f8 o8 e8 (sum_room et (by omega) b8)
    | succ mu ih =>
      intro n hk hin M8 V8 hS8 f8 o8 e8 b8
      have hL8 := hL9.ef hJ f8
      have hl8 := hL8.1
      obtain ⟨hpa, _⟩ := hL8.2.2.1
      have pw := hpw n (by omega)
      have g1 := hGP.1 (32 * i + p n) (by omega)
      have g2 := hGP.1 (32 * n + c) (by omega)
      obtain ⟨hc0, ⟨r_b, px_b, pf_b, py_b, po_b, ps_b, od_b, hU0⟩, hdk0⟩ := id hS8
      have hf0 : EF M8 M8 wa la N eu dv hi lo := fun _ _ _ _ _ _ => rfl
      obtain ⟨V0, hV0⟩ : ∃ V0, V8 = V0 := ⟨_, rfl⟩
      rw [hV0] at hc0
      have hn0 := hU0.1
      have b_r0 := hn0.2.1
      have b_x0 := hn0.2.2.1
      have b_f0 := hn0.2.2.2.1
      have hdv0 := hU0.2.1
      obtain ⟨ea0, eb0, ec0, ed0, hE0⟩ := hU0.2.2.2
      have hD0 := hdv0.1
      have v1 : V0 (g (32 * i + (p n))) = V (g (32 * i + (p n))) := by rw [← hV0, o8 _ (by omega)]; exact hv n (by omega)
      have v2 : V0 (g (32 * n + c)) = T n c := by rw [← hV0, o8 _ (by omega)]; exact ht n hin (by omega)
      have l1 : lc (V0 (g (32 * i + (p n)))) ≤ 63 := by rw [v1]; exact hlZ i n (by omega) (by omega)
      have l2 : lc (V0 (g (32 * n + c))) ≤ 63 := by rw [v2]; exact hlT n (by omega)
      have bb := bb_mul l1 l2
      have m1 := lc_mul (V0 (g (32 * i + (p n)))) (V0 (g (32 * n + c)))
      have lb : lc (V0 9) ≤ 127 := by rw [← hV0]; exact sum_room et (by omega) b8
      rw [hV0] at e8 b8 o8
      show jj G kE_substitute (d + 5) Q rc rs 55 [some (.ref el), some (.int (nI (f))), some (.int (nI (c))), some (.int (nI (i))), some (.int (nI (n)))] [] M8
      refine jj_iload (pc := 55) kE_substitute_d55 rfl ?_
      refine jj_aload_n (pc := 57) kE_substitute_d57 rfl ?_
      refine jj_getf (pc := 58) kE_substitute_d58 (kfE_rank hG) hl8 rfl ?_
      refine jn_icmp_ge (pc := 61) (tgt := 124) kE_substitute_d61 (by decide) (by omega) (by omega) (fun c => by exfalso; omega) (fun _ => ?_)
      refine jj_aload_n (pc := 64) kE_substitute_d64 rfl ?_
      refine jj_getf (pc := 65) kE_substitute_d65 (kfE_desk hG) hl8 rfl ?_
      refine jj_getf (pc := 68) kE_substitute_d68 (kfE_K_left hG) hdk0 rfl ?_
      refine jj_aload_n (pc := 71) kE_substitute_d71 rfl ?_
      refine jj_iload_n (pc := 72) kE_substitute_d72 rfl ?_
      refine jj_aload_n (pc := 73) kE_substitute_d73 rfl ?_
      refine jj_getf (pc := 74) kE_substitute_d74 (kfE_pivotColumns hG) hl8 rfl ?_
      refine jj_iload (pc := 77) kE_substitute_d77 rfl ?_
      refine jn_iald (pc := 79) (v := (nI (p n))) kE_substitute_d79 (kG_t hG rfl) hpa (by omega) (by omega) (hPV.1 n (by omega)) ?_
      refine jj_callV (pc := 80) (b := el) (As := [.int (nI (i)), .int (nI (p n))]) kE_substitute_d80 (kvE_E_at hG) (kG_cl hG rfl) rfl hl8 rfl rfl rfl (Nat.le_of_ble_eq_true rfl) (Nat.le_of_ble_eq_true rfl) (jj_bare0 rfl) ?_
      refine e_at hG hL8 (by omega) (by omega) ?_
      show jj G kE_substitute (d + 5) Q rc rs 83 [some (.ref el), some (.int (nI (f))), some (.int (nI (c))), some (.int (nI (i))), some (.int (nI (n)))] [.ref (wa (g (32 * i + (p n)))), .ref (wa 7)] M8
      refine jj_aload_n (pc := 83) kE_substitute_d83 rfl ?_
      refine jj_iload (pc := 84) kE_substitute_d84 rfl ?_
      refine jj_iload_n (pc := 86) kE_substitute_d86 rfl ?_
      refine jj_callV (pc := 87) (b := el) (As := [.int (nI (n)), .int (nI (c))]) kE_substitute_d87 (kvE_E_at hG) (kG_cl hG rfl) rfl hl8 rfl rfl rfl (Nat.le_of_ble_eq_true rfl) (Nat.le_of_ble_eq_true rfl) (jj_bare0 rfl) ?_
      refine e_at hG hL8 (by omega) (by omega) ?_
      show jj G kE_substitute (d + 5) Q rc rs 90 [some (.ref el), some (.int (nI (f))), some (.int (nI (c))), some (.int (nI (i))), some (.int (nI (n)))] [.ref (wa (g (32 * n + c))), .ref (wa (g (32 * i + (p n)))), .ref (wa 7)] M8
      obtain ⟨T7_0, t7_0, hT7_0, _, _⟩ := hc0 7 (by omega)
      refine jj_callV (pc := 90) (b := (wa 7)) (As := [.ref (wa (g (32 * i + (p n)))), .ref (wa (g (32 * n + c)))]) kE_substitute_d90 (kvE_W_product hG) (kG_cl hG rfl) rfl hT7_0 rfl rfl rfl (Nat.le_of_ble_eq_true rfl) (Nat.le_of_ble_eq_true rfl) (jj_bare0 rfl) ?_
      refine w_product hG hI hc0 (by omega : 7 < N) (by omega) (by omega) (by omega) (by omega) (by rw [hcap 7 (by omega)]; omega) (fun M1 hcx1 hw1  => ?_) 
      obtain ⟨V1, hV1⟩ : ∃ W, vup V0 7 (V0 (g (32 * i + (p n))) * V0 (g (32 * n + c))) = W := ⟨_, rfl⟩
      have hc1 : CW M1 wa la cap N V1 := by rw [← hV1]; exact hcx1
      have at1 : V1 7 = V0 (g (32 * i + (p n))) * V0 (g (32 * n + c)) := by rw [← hV1, vup_at]
      have ot1 : ∀ p, p ≠ 7 → V1 p = V0 p := fun p hp => by rw [← hV1, vup_ne _ _ hp]
      have hU1 := hU0.wt hc0 hdi (by omega) hw1
      have hf1 := hf0.trans (hw1.ef (by omega))
      have q1_el := (hw1.ef (eu := eu) (dv := dv) (hi := hi) (lo := lo) (by omega)).obj hc0 hU0 hl8 (by decide) (by decide) (by decide)
      have q1_dk := (hw1.ef (eu := eu) (dv := dv) (hi := hi) (lo := lo) (by omega)).obj hc0 hU0 hdk0 (by decide) (by decide) (by decide)
      have hn1 := hU1.1
      have b_r1 := hn1.2.1
      have b_x1 := hn1.2.2.1
      have b_f1 := hn1.2.2.2.1
      have hdv1 := hU1.2.1
      obtain ⟨ea1, eb1, ec1, ed1, hE1⟩ := hU1.2.2.2
      have hD1 := hdv1.1
      show jj G kE_substitute (d + 5) Q rc rs 93 [some (.ref el), some (.int (nI (f))), some (.int (nI (c))), some (.int (nI (i))), some (.int (nI (n)))] [] M1
      obtain ⟨T9_1, t9_1, hT9_1, _, _⟩ := hc1 9 (by omega)
      refine jj_aload_n (pc := 93) kE_substitute_d93 rfl ?_
      refine jj_getf (pc := 94) kE_substitute_d94 (kfE_desk hG) q1_el rfl ?_
      refine jj_getf (pc := 97) kE_substitute_d97 (kfE_K_sum hG) q1_dk rfl ?_
      refine jj_aload_n (pc := 100) kE_substitute_d100 rfl ?_
      refine jj_getf (pc := 101) kE_substitute_d101 (kfE_desk hG) q1_el rfl ?_
      refine jj_getf (pc := 104) kE_substitute_d104 (kfE_K_sum hG) q1_dk rfl ?_
      refine jj_aload_n (pc := 107) kE_substitute_d107 rfl ?_
      refine jj_getf (pc := 108) kE_substitute_d108 (kfE_desk hG) q1_el rfl ?_
      refine jj_getf (pc := 111) kE_substitute_d111 (kfE_K_left hG) q1_dk rfl ?_
      refine jn_iconst (pc := 114) 1 kE_substitute_d114 (by decide) ?_
      refine jn_top (.int (sg (-1))) (congrArg Value.int (by decide)) ?_
      have l7 : lc (V1 7) ≤ 126 := by rw [at1]; omega
      have e9 : V1 9 = V0 9 := ot1 9 (by omega)
      refine jj_callV (pc := 115) (b := (wa 9)) (As := [.ref (wa 9), .ref (wa 7), .int (sg (-1))]) kE_substitute_d115 (kvE_W_sum hG) (kG_cl hG rfl) rfl hT9_1 rfl rfl rfl (Nat.le_of_ble_eq_true rfl) (Nat.le_of_ble_eq_true rfl) (jj_bare0 rfl) ?_
      refine w_sum hG hI hc1 (u := 9) (v := 7) (ls := -1) (by omega : 9 < N) (by omega) (by omega) (by rw [hcap 9 (by omega), e9]; omega) (by rw [hcap 9 (by omega)]; omega) (by rw [if_pos (by decide)]) (fun M2 hcx2 hw2  => ?_) 
      obtain ⟨V2, hV2⟩ : ∃ W, vup V1 9 (V1 9 - V1 7) = W := ⟨_, rfl⟩
      have hc2 : CW M2 wa la cap N V2 := by rw [← hV2]; exact hcx2
      have at2 : V2 9 = V1 9 - V1 7 := by rw [← hV2, vup_at]
      have ot2 : ∀ p, p ≠ 9 → V2 p = V1 p := fun p hp => by rw [← hV2, vup_ne _ _ hp]
      have hU2 := hU1.wt hc1 hdi (by omega) hw2
      have hf2 := hf1.trans (hw2.ef (by omega))
      have q2_el := (hw2.ef (eu := eu) (dv := dv) (hi := hi) (lo := lo) (by omega)).obj hc1 hU1 q1_el (by decide) (by decide) (by decide)
      have q2_dk := (hw2.ef (eu := eu) (dv := dv) (hi := hi) (lo := lo) (by omega)).obj hc1 hU1 q1_dk (by decide) (by decide) (by decide)
      have hn2 := hU2.1
      have b_r2 := hn2.2.1
      have b_x2 := hn2.2.2.1
      have b_f2 := hn2.2.2.2.1
      have hdv2 := hU2.2.1
      obtain ⟨ea2, eb2, ec2, ed2, hE2⟩ := hU2.2.2.2
      have hD2 := hdv2.1
      show jj G kE_substitute (d + 5) Q rc rs 118 [some (.ref el), some (.int (nI (f))), some (.int (nI (c))), some (.int (nI (i))), some (.int (nI (n)))] [] M2
      refine jn_iinc (pc := 118) (n + 1) kE_substitute_d118 rfl (nI_1 _) ?_
      refine jj_goto (pc := 121) (tgt := 55) kE_substitute_d121 (by decide) ?_
      show jj G kE_substitute (d + 5) Q rc rs 55 [some (.ref el), some (.int (nI (f))), some (.int (nI (c))), some (.int (nI (i))), some (.int (nI (n + 1)))] [] M2
      rw [e9, at1] at at2
      refine ih (n + 1) (by omega) (by omega) M2 V2 ⟨hc2, ⟨r_b, px_b, pf_b, py_b, po_b, ps_b, od_b, hU2⟩, q2_dk⟩ (f8.trans hf2) (fun q hq => by rw [ot2 q (by omega), ot1 q (by omega)]; exact o8 q hq) ?_ ?_
      · rw [at2, e8, v1, v2, show n + 1 - (i + 1) = (n - (i + 1)) + 1 by omega]
        show _ = _ - (isum _ _ + _)
        dsimp only
        rw [show i + 1 + (n - (i + 1)) = n by omega]
        omega
      · rw [at2, show n + 1 - i = (n - i) + 1 by omega, Nat.succ_mul (n - i)]
        rw [et] at bb
        omega
  refine loop (rk - (i + 1)) (i + 1) (by omega) (by omega) M9 V9 hS9 (fun _ _ _ _ _ _ => rfl) (fun _ _ => rfl) ?_ ?_
  · rw [h9, Nat.sub_self]
    show _ = _ - 0
    omega
  · rw [h9, show i + 1 - i = 1 by omega, Nat.one_mul, ← et]
    exact Nat.le_of_lt (bb_mul hlL (hlC i (by omega)))
theorem e_column {f c n : Nat} (hG : kG G) (hK : KJI wa la cap N hi lo) (hJ : LJ wa la cap N eu dv hi lo dk el ra pa ia ga) {p : Nat → Nat} {T : imat} (hw : w ≤ 32) (hrm : rk ≤ 16) (hpw : ∀ i, i < rk → p i < w) (hPV : PIV P B p rk w) (hc : c < w) (hnp : ∀ k, k < rk → p k ≠ c) (hlZ : ∀ i k, i < rk → k < rk → lc (V (g (32 * i + (p k)))) ≤ 63) (hlC : ∀ i, i < rk → lc (V (g (32 * i + c))) ≤ 63) (hlL : lc (V 33) ≤ 63) (hlT : ∀ i, i < rk → lc (T i c) ≤ 63) (hnz : ∀ i, i < rk → V (g (32 * i + (p i))) ≠ 0) (hrec : ∀ i, i < rk → T i c * V (g (32 * i + (p i))) = V 33 * V (g (32 * i + c)) - isum (fun k => V (g (32 * i + p (i + 1 + k))) * T (i + 1 + k) c) (rk - (i + 1))) (hn : n < rk) (M9 : mheap) (V9 : Nat → Int) (o4 : Option Value) (hS9 : KS M9 wa la cap N eu dv hi lo dk V9) (hL9 : ELT M9 wa el ra pa ia ga dk rk sw m w P B g) (hv9 : ∀ q, 13 ≤ q → (∀ k, k < rk → q ≠ (g (32 * k + c))) → V9 q = V q) (hd9 : (∀ k, k < rk → (n ≤ k → V9 (g (32 * k + c)) = T k c) ∧ (k < n → V9 (g (32 * k + c)) = V (g (32 * k + c))))) (k : ∀ (M' : mheap) (V' : Nat → Int) (o3 o4 : Option Value), KS M' wa la cap N eu dv hi lo dk V' → EF M9 M' wa la N eu dv hi lo → (∀ q, 13 ≤ q → (∀ k, k < rk → q ≠ (g (32 * k + c))) → V' q = V q) → (∀ k, k < rk → V' (g (32 * k + c)) = T k c) → jj G kE_substitute (d + 5) Q rc rs 177 [some (.ref el), some (.int (nI (f))), some (.int (nI (c))), (o3), (o4)] [] M') : jj G kE_substitute (d + 5) Q rc rs 17 [some (.ref el), some (.int (nI (f))), some (.int (nI (c))), some (.int (zI (((n : Nat) : Int) - 1))), (o4)] [] M9 := by
  revert M9 V9 o4
  obtain ⟨hI, hN, hcap, hdi⟩ := id hK
  obtain ⟨h547, c17, c33, c34, c64, f1, f2, f3, f4, f5, n1, n2, n3, n4, n5⟩ := id hJ
  induction n with
  | zero =>
    intro M9 V9 o4 hS9 hL9 hv9 hd9 k
    refine jj_iload_n (pc := 17) kE_substitute_d17 rfl ?_
    refine jz_if_lt (pc := 18) (tgt := 177) (a := -1) kE_substitute_d18 (by decide) rfl (by omega) (by omega) (fun _ => ?_) (fun c => by exfalso; omega)
    show jj G kE_substitute (d + 5) Q rc rs 177 [some (.ref el), some (.int (nI (f))), some (.int (nI (c))), some (.int (zI (-1))), (o4)] [] M9
    exact k M9 V9 _ _ hS9 (fun _ _ _ _ _ _ => rfl) hv9 (fun q hq => (hd9 q hq).1 (by omega))
  | succ i ih =>
    intro M9 V9 o4 hS9 hL9 hv9 hd9 k
    have ez : zI (((i + 1 : Nat) : Int) - 1) = zI ((i : Nat) : Int) := by congr 1; omega
    rw [ez]
    have hGP := hL9.2.2.2.2.2
    have hl9 := hL9.1
    obtain ⟨hia, lia⟩ := hL9.2.2.2.1
    have g1 := hGP.1 (32 * i + c) (by omega)
    have g2 := hGP.1 (32 * i + p i) (by have := hpw i (by omega); omega)
    have pw := hpw i (by omega)
    have vf : ∀ k, k < rk → V9 (g (32 * i + (p k))) = V (g (32 * i + (p k))) := fun q hq => by
      have a := hpw q hq
      have b := hGP.1 (32 * i + p q) (by omega)
      exact hv9 _ (by omega) (fun y hy => hGP.ne (by omega) (by omega) (by omega) (by omega) (fun h => hnp q hq h.2))
    have v33 : V9 33 = V 33 := hv9 33 (by omega) (fun y hy => by have := hGP.1 (32 * y + c) (by omega); omega)
    have vic : V9 (g (32 * i + c)) = V (g (32 * i + c)) := (hd9 i (by omega)).2 (by omega)
    have l1 : lc (V9 33) ≤ 63 := by rw [v33]; exact hlL
    have l2 : lc (V9 (g (32 * i + c))) ≤ 63 := by rw [vic]; exact hlC i (by omega)
    obtain ⟨hc0, ⟨r_b, px_b, pf_b, py_b, po_b, ps_b, od_b, hU0⟩, hdk0⟩ := id hS9
    have hf0 : EF M9 M9 wa la N eu dv hi lo := fun _ _ _ _ _ _ => rfl
    obtain ⟨V0, hV0⟩ : ∃ V0, V9 = V0 := ⟨_, rfl⟩
    rw [hV0] at hc0
    have hn0 := hU0.1
    have b_r0 := hn0.2.1
    have b_x0 := hn0.2.2.1
    have b_f0 := hn0.2.2.2.1
    have hdv0 := hU0.2.1
    obtain ⟨ea0, eb0, ec0, ed0, hE0⟩ := hU0.2.2.2
    have hD0 := hdv0.1
    rw [hV0] at v33 vic l1 l2
    show jj G kE_substitute (d + 5) Q rc rs 17 [some (.ref el), some (.int (nI (f))), some (.int (nI (c))), some (.int (zI (((i : Nat) : Int)))), (o4)] [] M9
    refine jj_iload_n (pc := 17) kE_substitute_d17 rfl ?_
    refine jz_if_lt (pc := 18) (tgt := 177) (a := ((i : Nat) : Int)) kE_substitute_d18 (by decide) rfl (by omega) (by omega) (fun c => by exfalso; omega) (fun _ => ?_)
    refine jj_aload_n (pc := 21) kE_substitute_d21 rfl ?_
    refine jj_getf (pc := 22) kE_substitute_d22 (kfE_isPivot hG) hl9 rfl ?_
    refine jj_iload_n (pc := 25) kE_substitute_d25 rfl ?_
    refine jn_zald (pc := 26) (v := (nI (0))) kE_substitute_d26 (kG_t hG rfl) hia (by omega) (by omega) (hPV.2.2 c hc hnp) ?_
    refine jn_if_ne (pc := 27) (tgt := 177) kE_substitute_d27 (by decide) (by omega) (fun c => by exfalso; omega) (fun _ => ?_)
    rw [zI_nat]
    show jj G kE_substitute (d + 5) Q rc rs 30 [some (.ref el), some (.int (nI (f))), some (.int (nI (c))), some (.int (nI (i))), (o4)] [] M9
    refine jj_aload_n (pc := 30) kE_substitute_d30 rfl ?_
    refine jj_getf (pc := 31) kE_substitute_d31 (kfE_desk hG) hl9 rfl ?_
    refine jj_getf (pc := 34) kE_substitute_d34 (kfE_K_sum hG) hdk0 rfl ?_
    refine jj_aload_n (pc := 37) kE_substitute_d37 rfl ?_
    refine jj_getf (pc := 38) kE_substitute_d38 (kfE_last hG) hl9 rfl ?_
    refine jj_aload_n (pc := 41) kE_substitute_d41 rfl ?_
    refine jj_iload_n (pc := 42) kE_substitute_d42 rfl ?_
    refine jj_iload_n (pc := 43) kE_substitute_d43 rfl ?_
    refine jj_callV (pc := 44) (b := el) (As := [.int (nI (i)), .int (nI (c))]) kE_substitute_d44 (kvE_E_at hG) (kG_cl hG rfl) rfl hl9 rfl rfl rfl (Nat.le_of_ble_eq_true rfl) (Nat.le_of_ble_eq_true rfl) (jj_bare0 rfl) ?_
    refine e_at hG hL9 (by omega) (by omega) ?_
    show jj G kE_substitute (d + 5) Q rc rs 47 [some (.ref el), some (.int (nI (f))), some (.int (nI (c))), some (.int (nI (i))), (o4)] [.ref (wa (g (32 * i + c))), .ref (wa 33), .ref (wa 9)] M9
    obtain ⟨T9_0, t9_0, hT9_0, _, _⟩ := hc0 9 (by omega)
    refine jj_callV (pc := 47) (b := (wa 9)) (As := [.ref (wa 33), .ref (wa (g (32 * i + c)))]) kE_substitute_d47 (kvE_W_product hG) (kG_cl hG rfl) rfl hT9_0 rfl rfl rfl (Nat.le_of_ble_eq_true rfl) (Nat.le_of_ble_eq_true rfl) (jj_bare0 rfl) ?_
    refine w_product hG hI hc0 (by omega : 9 < N) (by omega) (by omega) (by omega) (by omega) (by rw [hcap 9 (by omega)]; omega) (fun M1 hcx1 hw1  => ?_) 
    obtain ⟨V1, hV1⟩ : ∃ W, vup V0 9 (V0 33 * V0 (g (32 * i + c))) = W := ⟨_, rfl⟩
    have hc1 : CW M1 wa la cap N V1 := by rw [← hV1]; exact hcx1
    have at1 : V1 9 = V0 33 * V0 (g (32 * i + c)) := by rw [← hV1, vup_at]
    have ot1 : ∀ p, p ≠ 9 → V1 p = V0 p := fun p hp => by rw [← hV1, vup_ne _ _ hp]
    have hU1 := hU0.wt hc0 hdi (by omega) hw1
    have hf1 := hf0.trans (hw1.ef (by omega))
    have q1_el := (hw1.ef (eu := eu) (dv := dv) (hi := hi) (lo := lo) (by omega)).obj hc0 hU0 hl9 (by decide) (by decide) (by decide)
    have q1_dk := (hw1.ef (eu := eu) (dv := dv) (hi := hi) (lo := lo) (by omega)).obj hc0 hU0 hdk0 (by decide) (by decide) (by decide)
    have hn1 := hU1.1
    have b_r1 := hn1.2.1
    have b_x1 := hn1.2.2.1
    have b_f1 := hn1.2.2.2.1
    have hdv1 := hU1.2.1
    obtain ⟨ea1, eb1, ec1, ed1, hE1⟩ := hU1.2.2.2
    have hD1 := hdv1.1
    show jj G kE_substitute (d + 5) Q rc rs 50 [some (.ref el), some (.int (nI (f))), some (.int (nI (c))), some (.int (nI (i))), (o4)] [] M1
    refine jj_iload_n (pc := 50) kE_substitute_d50 rfl ?_
    refine jn_iconst (pc := 51) 1 kE_substitute_d51 (by decide) ?_
    refine jn_iadd (pc := 52) (i + 1) kE_substitute_d52 (by omega) ?_
    refine jj_istore (pc := 53) kE_substitute_d53 (Nat.le_of_ble_eq_true rfl) ?_
    show jj G kE_substitute (d + 5) Q rc rs 55 [some (.ref el), some (.int (nI (f))), some (.int (nI (c))), some (.int (nI (i))), some (.int (nI (i + 1)))] [] M1
    show jj G kE_substitute (d + 5) Q rc rs 55 [some (.ref el), some (.int (nI (f))), some (.int (nI (c))), some (.int (nI (i))), some (.int (nI (i + 1)))] [] M1
    have hS1a : KS M1 wa la cap N eu dv hi lo dk V1 := ⟨hc1, ⟨r_b, px_b, pf_b, py_b, po_b, ps_b, od_b, hU1⟩, q1_dk⟩
    have hL1a := hL9.ef hJ hf1
    have w1 : ∀ q, 13 ≤ q → V1 q = V9 q := fun q hq => by rw [ot1 q (by omega), hV0]
    refine e_sum hG hK hS1a hJ hL1a hw hrm hpw hPV hc hnp hlZ hlC hlL hlT hnz hrec (by omega) (by rw [at1, v33, vic]) (fun q hq => ?_) (fun q a b => ?_) (fun M2 V2 hS2 hx2 o2 s2 l9 => ?_)
    · have a := hpw q hq
      have b := hGP.1 (32 * i + p q) (by omega)
      rw [w1 _ (by omega)]; exact vf q hq
    · have b := hGP.1 (32 * q + c) (by omega)
      rw [w1 _ (by omega)]; exact (hd9 q (by omega)).1 (by omega)
    have f02 := hf1.trans hx2
    have hL2 := hL9.ef hJ f02
    have hl2 := hL2.1
    have hpa := hL2.2.2.1.1
    have lpa := hL2.2.2.1.2
    obtain ⟨hc0, ⟨r_d, px_d, pf_d, py_d, po_d, ps_d, od_d, hU0⟩, hdk0⟩ := id hS2
    have hf0 : EF M2 M2 wa la N eu dv hi lo := fun _ _ _ _ _ _ => rfl
    obtain ⟨V0, hV0⟩ : ∃ V0, V2 = V0 := ⟨_, rfl⟩
    rw [hV0] at hc0
    have hn0 := hU0.1
    have b_r0 := hn0.2.1
    have b_x0 := hn0.2.2.1
    have b_f0 := hn0.2.2.2.1
    have hdv0 := hU0.2.1
    obtain ⟨ea0, eb0, ec0, ed0, hE0⟩ := hU0.2.2.2
    have hD0 := hdv0.1
    have w2 : ∀ q, 13 ≤ q → V0 q = V9 q := fun q hq => by rw [← hV0, o2 q hq]; exact w1 q hq
    have vp : V0 (g (32 * i + (p i))) = V (g (32 * i + (p i))) := by rw [w2 _ (by omega)]; exact vf i (by omega)
    rw [hV0] at s2 l9
    show jj G kE_substitute (d + 5) Q rc rs 124 [some (.ref el), some (.int (nI (f))), some (.int (nI (c))), some (.int (nI (i))), some (.int (nI (rk)))] [] M2
    refine jj_aload_n (pc := 124) kE_substitute_d124 rfl ?_
    refine jj_getf (pc := 125) kE_substitute_d125 (kfE_desk hG) hl2 rfl ?_
    refine jj_getf (pc := 128) kE_substitute_d128 (kfE_K_divider hG) hdk0 rfl ?_
    refine jj_aload_n (pc := 131) kE_substitute_d131 rfl ?_
    refine jj_getf (pc := 132) kE_substitute_d132 (kfE_desk hG) hl2 rfl ?_
    refine jj_getf (pc := 135) kE_substitute_d135 (kfE_K_sum hG) hdk0 rfl ?_
    refine jj_aload_n (pc := 138) kE_substitute_d138 rfl ?_
    refine jj_iload_n (pc := 139) kE_substitute_d139 rfl ?_
    refine jj_aload_n (pc := 140) kE_substitute_d140 rfl ?_
    refine jj_getf (pc := 141) kE_substitute_d141 (kfE_pivotColumns hG) hl2 rfl ?_
    refine jj_iload_n (pc := 144) kE_substitute_d144 rfl ?_
    refine jn_iald (pc := 145) (v := (nI (p i))) kE_substitute_d145 (kG_t hG rfl) hpa (by omega) (by omega) (hPV.1 i (by omega)) ?_
    refine jj_callV (pc := 146) (b := el) (As := [.int (nI (i)), .int (nI (p i))]) kE_substitute_d146 (kvE_E_at hG) (kG_cl hG rfl) rfl hl2 rfl rfl rfl (Nat.le_of_ble_eq_true rfl) (Nat.le_of_ble_eq_true rfl) (jj_bare0 rfl) ?_
    refine e_at hG hL2 (by omega) (by omega) ?_
    show jj G kE_substitute (d + 5) Q rc rs 149 [some (.ref el), some (.int (nI (f))), some (.int (nI (c))), some (.int (nI (i))), some (.int (nI (rk)))] [.ref (wa (g (32 * i + (p i)))), .ref (wa 9), .ref dv] M2
    refine jj_callV (pc := 149) (b := dv) (As := [.ref (wa 9), .ref (wa (g (32 * i + (p i))))]) kE_substitute_d149 (kvE_D_divide hG) (kG_cl hG rfl) rfl hD0 rfl rfl rfl (Nat.le_of_ble_eq_true rfl) (Nat.le_of_ble_eq_true rfl) (jj_bare0 rfl) ?_
    refine d_divide hG hI hc0 hdv0 hdi (by omega) (by omega) (by omega) (by omega) hn0.nqr (by omega) (by omega) (by omega) (by omega) (by omega) (by rw [hcap 0 (by omega)]; exact (by omega)) (by rw [hcap r_d (by omega)]; exact (by omega)) (fun M1 hcx1 hdx1 hw1 => ?_)
    obtain ⟨V1, hV1⟩ : ∃ W, vup (vup V0 0 ((V0 9).tdiv (V0 (g (32 * i + (p i)))))) r_d ((V0 9).tmod (V0 (g (32 * i + (p i))))) = W := ⟨_, rfl⟩
    have hc1 : CW M1 wa la cap N V1 := by rw [← hV1]; exact hcx1
    have at1 : V1 0 = (V0 9).tdiv (V0 (g (32 * i + (p i)))) := by rw [← hV1, vup_ne _ _ hn0.nqr, vup_at]
    have rt1 : V1 r_d = (V0 9).tmod (V0 (g (32 * i + (p i)))) := by rw [← hV1, vup_at]
    have ot1 : ∀ p, p ≠ 0 → p ≠ r_d → V1 p = V0 p := fun p h1 h2 => by rw [← hV1, vup_ne _ _ h2, vup_ne _ _ h1]
    have hU1 := hU0.div hc0 hdx1 hw1
    have hf1 := hf0.trans (hw1.ef (eu := eu) (dv := dv))
    have q1_el := (hw1.ef (eu := eu) (dv := dv)).obj hc0 hU0 hl2 (by decide) (by decide) (by decide)
    have q1_dk := (hw1.ef (eu := eu) (dv := dv)).obj hc0 hU0 hdk0 (by decide) (by decide) (by decide)
    have hn1 := hU1.1
    have b_r1 := hn1.2.1
    have b_x1 := hn1.2.2.1
    have b_f1 := hn1.2.2.2.1
    have hdv1 := hU1.2.1
    obtain ⟨ea1, eb1, ec1, ed1, hE1⟩ := hU1.2.2.2
    have hD1 := hdv1.1
    show jj G kE_substitute (d + 5) Q rc rs 152 [some (.ref el), some (.int (nI (f))), some (.int (nI (c))), some (.int (nI (i))), some (.int (nI (rk)))] [] M1
    have q0 : V1 0 = T i c := by rw [at1, s2, vp]; exact tdiv_is (hrec i (by omega)) (hnz i (by omega))
    have hL3 := hL2.ef hJ hf1
    refine jj_aload_n (pc := 152) kE_substitute_d152 rfl ?_
    refine jj_iload_n (pc := 153) kE_substitute_d153 rfl ?_
    refine jj_iload_n (pc := 154) kE_substitute_d154 rfl ?_
    refine jj_callV (pc := 155) (b := el) (As := [.int (nI (i)), .int (nI (c))]) kE_substitute_d155 (kvE_E_at hG) (kG_cl hG rfl) rfl q1_el rfl rfl rfl (Nat.le_of_ble_eq_true rfl) (Nat.le_of_ble_eq_true rfl) (jj_bare0 rfl) ?_
    refine e_at hG hL3 (by omega) (by omega) ?_
    show jj G kE_substitute (d + 5) Q rc rs 158 [some (.ref el), some (.int (nI (f))), some (.int (nI (c))), some (.int (nI (i))), some (.int (nI (rk)))] [.ref (wa (g (32 * i + c)))] M1
    obtain ⟨Tg32ic_1, tg32ic_1, hTg32ic_1, _, _⟩ := hc1 (g (32 * i + c)) (by omega)
    refine jj_aload_n (pc := 158) kE_substitute_d158 rfl ?_
    refine jj_getf (pc := 159) kE_substitute_d159 (kfE_desk hG) q1_el rfl ?_
    refine jj_getf (pc := 162) kE_substitute_d162 (kfE_K_divider hG) q1_dk rfl ?_
    refine jj_getf (pc := 165) kE_substitute_d165 (kfE_D_quotient hG) hD1 rfl ?_
    refine jj_callV (pc := 168) (b := (wa (g (32 * i + c)))) (As := [.ref (wa 0)]) kE_substitute_d168 (kvE_W_copy hG) (kG_cl hG rfl) rfl hTg32ic_1 rfl rfl rfl (Nat.le_of_ble_eq_true rfl) (Nat.le_of_ble_eq_true rfl) (jj_bare0 rfl) ?_
    refine w_copy hG hI hc1 (by omega) (by omega : 0 < N) (by rw [q0, c64 _ g1.1 g1.2]; exact lc_room (Nat.le_trans (hlT i (by omega)) (by omega))) (fun M2 hcx2 hw2  => ?_) 
    obtain ⟨V2, hV2⟩ : ∃ W, vup V1 (g (32 * i + c)) (V1 0) = W := ⟨_, rfl⟩
    have hc2 : CW M2 wa la cap N V2 := by rw [← hV2]; exact hcx2
    have at2 : V2 (g (32 * i + c)) = V1 0 := by rw [← hV2, vup_at]
    have ot2 : ∀ p, p ≠ (g (32 * i + c)) → V2 p = V1 p := fun p hp => by rw [← hV2, vup_ne _ _ hp]
    have hU2 := hU1.wt hc1 hdi (by omega) hw2
    have hf2 := hf1.trans (hw2.ef (by omega))
    have q2_el := (hw2.ef (eu := eu) (dv := dv) (hi := hi) (lo := lo) (by omega)).obj hc1 hU1 q1_el (by decide) (by decide) (by decide)
    have q2_dk := (hw2.ef (eu := eu) (dv := dv) (hi := hi) (lo := lo) (by omega)).obj hc1 hU1 q1_dk (by decide) (by decide) (by decide)
    have hn2 := hU2.1
    have b_r2 := hn2.2.1
    have b_x2 := hn2.2.2.1
    have b_f2 := hn2.2.2.2.1
    have hdv2 := hU2.2.1
    obtain ⟨ea2, eb2, ec2, ed2, hE2⟩ := hU2.2.2.2
    have hD2 := hdv2.1
    show jj G kE_substitute (d + 5) Q rc rs 171 [some (.ref el), some (.int (nI (f))), some (.int (nI (c))), some (.int (nI (i))), some (.int (nI (rk)))] [] M2
    refine jz_iinc (pc := 171) (((i : Nat) : Int) - 1) kE_substitute_d171 rfl ((zI_nat _).symm) (by omega) ?_
    refine jj_goto (pc := 174) (tgt := 17) kE_substitute_d174 (by decide) ?_
    show jj G kE_substitute (d + 5) Q rc rs 17 [some (.ref el), some (.int (nI (f))), some (.int (nI (c))), some (.int (zI (((i : Nat) : Int) - 1))), some (.int (nI (rk)))] [] M2
    have w3 : ∀ q, 13 ≤ q → q ≠ (g (32 * i + c)) → V2 q = V9 q := fun q hq h => by rw [ot2 q h, ot1 q (by omega) (by omega)]; exact w2 q hq
    refine ih (by omega) M2 V2 _ ⟨hc2, ⟨r_d, px_d, pf_d, py_d, po_d, ps_d, od_d, hU2⟩, q2_dk⟩ (hL2.ef hJ hf2) (fun q a b => by rw [w3 q a (b i (by omega))]; exact hv9 q a b) (fun q hq => ⟨fun hle => ?_, fun hlt => ?_⟩) (fun M' V' o3 o4 a b => k M' V' o3 o4 a ((f02.trans hf2).trans b))
    · by_cases e : q = i
      · rw [e, at2, q0]
      · have b := hGP.1 (32 * q + c) (by omega)
        rw [w3 _ (by omega) (hGP.ne (by omega) (by omega) (by omega) (by omega) (by omega))]
        exact (hd9 q hq).1 (by omega)
    · have b := hGP.1 (32 * q + c) (by omega)
      rw [w3 _ (by omega) (hGP.ne (by omega) (by omega) (by omega) (by omega) (by omega))]
      exact (hd9 q hq).2 (by omega)
theorem e_substitute {f : Nat} (hG : kG G) (hK : KJI wa la cap N hi lo) (hS : KS M wa la cap N eu dv hi lo dk V) (hJ : LJ wa la cap N eu dv hi lo dk el ra pa ia ga) (hL : ELT M wa el ra pa ia ga dk rk sw m w P B g) {p : Nat → Nat} {T : imat} (hw : w ≤ 32) (hrm : rk ≤ 16) (hpw : ∀ i, i < rk → p i < w) (hPV : PIV P B p rk w) (hfw : f ≤ w) (hlZ : ∀ i j, i < rk → j < w → lc (V (g (32 * i + j))) ≤ 63) (hlL : lc (V 33) ≤ 63) (hlT : ∀ i j, i < rk → j < w → lc (T i j) ≤ 63) (hnz : ∀ i, i < rk → V (g (32 * i + (p i))) ≠ 0) (hrec : ∀ i j, i < rk → j < w → T i j * V (g (32 * i + (p i))) = V 33 * V (g (32 * i + j)) - isum (fun k => V (g (32 * i + p (i + 1 + k))) * T (i + 1 + k) j) (rk - (i + 1))) (hlast : ∀ i j, rk = i + 1 → j < w → T i j = V (g (32 * i + j))) (k : ∀ (M' : mheap) (V' : Nat → Int), KS M' wa la cap N eu dv hi lo dk V' → EF M M' wa la N eu dv hi lo → (∀ q, 13 ≤ q → q < 35 ∨ 547 ≤ q → V' q = V q) → (∀ i c, i < rk → f ≤ c → c < w → (∀ k, k < rk → p k ≠ c) → V' (g (32 * i + c)) = T i c) → Q (.returned none) M' rc rs) : jj G kE_substitute (d + 5) Q rc rs 0 (jj_ent [.ref el, .int (nI f)] 5) [] M := by
  have hGP := hL.2.2.2.2.2
  have hl0 := hL.1
  show jj G kE_substitute (d + 5) Q rc rs 0 [some (.ref el), some (.int (nI (f))), none, none, none] [] M
  refine jj_iload_n (pc := 0) kE_substitute_d0 rfl ?_
  refine jj_istore_n (pc := 1) kE_substitute_d1 (Nat.le_of_ble_eq_true rfl) ?_
  show jj G kE_substitute (d + 5) Q rc rs 2 [some (.ref el), some (.int (nI (f))), some (.int (nI (f))), none, none] [] M
  show jj G kE_substitute (d + 5) Q rc rs 2 [some (.ref el), some (.int (nI (f))), some (.int (nI (f))), none, none] [] M
  have loop : ∀ mu c, w = c + mu → f ≤ c → ∀ (o3 o4 : Option Value) (M9 : mheap) (V9 : Nat → Int), KS M9 wa la cap N eu dv hi lo dk V9 → EF M M9 wa la N eu dv hi lo → (∀ q, 13 ≤ q → (∀ i c', i < rk → f ≤ c' → c' < c → (∀ k, k < rk → p k ≠ c') → q ≠ g (32 * i + c')) → V9 q = V q) → (∀ i c', i < rk → f ≤ c' → c' < c → (∀ k, k < rk → p k ≠ c') → V9 (g (32 * i + c')) = T i c') → jj G kE_substitute (d + 5) Q rc rs 2 [some (.ref el), some (.int (nI (f))), some (.int (nI (c))), (o3), (o4)] [] M9 := by
    intro mu
    induction mu with
    | zero =>
      intro c hk hfc o3 o4 M9 V9 hS9 f9 o9 e9
      have ec : w = c := by omega
      subst ec
      have hl9 := (hL.ef hJ f9).1
      refine jj_iload_n (pc := 2) kE_substitute_d2 rfl ?_
      refine jj_aload_n (pc := 3) kE_substitute_d3 rfl ?_
      refine jj_getf (pc := 4) kE_substitute_d4 (kfE_width hG) hl9 rfl ?_
      refine jn_icmp_ge (pc := 7) (tgt := 183) kE_substitute_d7 (by decide) (by omega) (by omega) (fun _ => ?_) (fun c => by exfalso; omega)
      exact jj_vret (pc := 183) kE_substitute_d183 rfl (k M9 V9 hS9 f9 (fun q a b => o9 q a (fun i c' x1 x2 x3 _ => by have := hGP.1 (32 * i + c') (by omega); omega)) e9)
    | succ mu ih =>
      intro c hk hfc o3 o4 M9 V9 hS9 f9 o9 e9
      have hL9 := hL.ef hJ f9
      have hl9 := hL9.1
      obtain ⟨hia, lia⟩ := hL9.2.2.2.1
      refine jj_iload_n (pc := 2) kE_substitute_d2 rfl ?_
      refine jj_aload_n (pc := 3) kE_substitute_d3 rfl ?_
      refine jj_getf (pc := 4) kE_substitute_d4 (kfE_width hG) hl9 rfl ?_
      refine jn_icmp_ge (pc := 7) (tgt := 183) kE_substitute_d7 (by decide) (by omega) (by omega) (fun c => by exfalso; omega) (fun _ => ?_)
      refine jj_aload_n (pc := 10) kE_substitute_d10 rfl ?_
      refine jj_getf (pc := 11) kE_substitute_d11 (kfE_rank hG) hl9 rfl ?_
      refine jn_iconst (pc := 14) 2 kE_substitute_d14 (by decide) ?_
      refine jz_isub (pc := 15) (((rk : Nat) : Int) - 2) kE_substitute_d15 ((zI_nat _).symm) ((zI_nat _).symm) (by omega) ?_
      refine jj_istore_n (pc := 16) kE_substitute_d16 (Nat.le_of_ble_eq_true rfl) ?_
      show jj G kE_substitute (d + 5) Q rc rs 17 [some (.ref el), some (.int (nI (f))), some (.int (nI (c))), some (.int (zI (((rk : Nat) : Int) - 2))), (o4)] [] M9
      show jj G kE_substitute (d + 5) Q rc rs 17 [some (.ref el), some (.int (nI (f))), some (.int (nI (c))), some (.int (zI (((rk : Nat) : Int) - 2))), (o4)] [] M9
      have next : ∀ (o3 o4 : Option Value) (M8 : mheap) (V8 : Nat → Int), KS M8 wa la cap N eu dv hi lo dk V8 → EF M M8 wa la N eu dv hi lo → (∀ q, 13 ≤ q → ((∀ k, k < rk → p k ≠ c) → ∀ k, k < rk → q ≠ (g (32 * k + c))) → V8 q = V9 q) → ((∀ k, k < rk → p k ≠ c) → ∀ k, k < rk → V8 (g (32 * k + c)) = T k c) → jj G kE_substitute (d + 5) Q rc rs 177 [some (.ref el), some (.int (nI (f))), some (.int (nI (c))), (o3), (o4)] [] M8 := by
        intro o3 o4 M8 V8 hS8 f8 o8 e8
        refine jn_iinc (pc := 177) (c + 1) kE_substitute_d177 rfl (nI_1 _) ?_
        refine jj_goto (pc := 180) (tgt := 2) kE_substitute_d180 (by decide) ?_
        show jj G kE_substitute (d + 5) Q rc rs 2 [some (.ref el), some (.int (nI (f))), some (.int (nI (c + 1))), (o3), (o4)] [] M8
        refine ih (c + 1) (by omega) (by omega) _ _ M8 V8 hS8 f8 (fun q a b => ?_) (fun i c' x1 x2 x3 x4 => ?_)
        · rw [o8 q a (fun h r hr => b r c hr hfc (by omega) h)]
          exact o9 q a (fun i c' x1 x2 x3 x4 => b i c' x1 x2 (by omega) x4)
        · by_cases e : c' = c
          · rw [e] at x4 ⊢
            exact e8 x4 i x1
          · have := hGP.1 (32 * i + c') (by omega)
            rw [o8 _ (by omega) (fun h r hr => hGP.ne (by omega) (by omega) (by omega) (by omega) (by omega))]
            exact e9 i c' x1 x2 (by omega) x4
      by_cases hnp : ∀ k, k < rk → p k ≠ c
      · by_cases h0 : rk = 0
        · subst h0
          refine jj_iload_n (pc := 17) kE_substitute_d17 rfl ?_
          refine jz_if_lt (pc := 18) (tgt := 177) (a := -2) kE_substitute_d18 (by decide) rfl (by omega) (by omega) (fun _ => ?_) (fun c => by exfalso; omega)
          show jj G kE_substitute (d + 5) Q rc rs 177 [some (.ref el), some (.int (nI (f))), some (.int (nI (c))), some (.int (zI (-2))), (o4)] [] M9
          exact next _ _ M9 V9 hS9 f9 (fun _ _ _ => rfl) (fun _ q hq => by omega)
        · obtain ⟨n, hn⟩ : ∃ n, rk = n + 1 := ⟨rk - 1, by omega⟩
          have ez : zI ((rk : Int) - 2) = zI ((n : Int) - 1) := by congr 1; omega
          rw [ez]
          have vk : ∀ i j, i < rk → j < w → (j = c ∨ ∃ k, k < rk ∧ p k = j) → V9 (g (32 * i + j)) = V (g (32 * i + j)) := fun i j a b h => by
            have := hGP.1 (32 * i + j) (by omega)
            refine o9 _ (by omega) (fun i' c' x1 x2 x3 x4 => hGP.ne (by omega) (by omega) (by omega) (by omega) (fun e => ?_))
            rcases h with h | ⟨q, h1, h2⟩
            · omega
            · exact x4 q h1 (by omega)
          have vp : ∀ i k, i < rk → k < rk → V9 (g (32 * i + (p k))) = V (g (32 * i + (p k))) := fun i q a b => vk i _ a (hpw q b) (Or.inr ⟨q, b, rfl⟩)
          have vc : ∀ i, i < rk → V9 (g (32 * i + c)) = V (g (32 * i + c)) := fun i a => vk i c a (by omega) (Or.inl rfl)
          have v33 : V9 33 = V 33 := o9 33 (by omega) (fun i c' x1 x2 x3 _ => by have := hGP.1 (32 * i + c') (by omega); omega)
          refine e_column (V := V9) (T := T) (n := n) hG hK hJ hw hrm hpw hPV (by omega) hnp (fun i q a b => by rw [vp i q a b]; exact hlZ i _ a (hpw q b)) (fun i a => by rw [vc i a]; exact hlZ i c a (by omega)) (by rw [v33]; exact hlL) (fun i a => hlT i c a (by omega)) (fun i a => by rw [vp i i a a]; exact hnz i a) (fun i a => ?_) (by omega) M9 V9 _ hS9 hL9 (fun _ _ _ => rfl) (fun q hq => ⟨fun h => ?_, fun _ => rfl⟩) (fun M8 V8 o3 o4 hS8 f8 o8 e8 => next o3 o4 M8 V8 hS8 (f9.trans f8) (fun q a b => o8 q a (b hnp)) (fun _ => e8))
          · rw [vp i i a a, v33, vc i a, hrec i c a (by omega)]
            congr 1
            refine isum_congr (fun q hq => ?_)
            rw [vp i (i + 1 + q) a (by omega)]
          · rw [vc q hq, hlast q c (by omega) (by omega)]
      · have hpv : ∃ q, q < rk ∧ p q = c := by
          refine Classical.byContradiction (fun h => hnp (fun q hq e => h ⟨q, hq, e⟩))
        obtain ⟨q, hq, eq⟩ := hpv
        have hB1 : B.getD c 0 = nI 1 := by rw [← eq]; exact hPV.2.1 q hq
        refine jj_iload_n (pc := 17) kE_substitute_d17 rfl ?_
        refine jz_if_lt (pc := 18) (tgt := 177) (a := ((rk : Nat) : Int) - 2) kE_substitute_d18 (by decide) rfl (by omega) (by omega) (fun cz => ?_) (fun cz => ?_)
        · skip
          show jj G kE_substitute (d + 5) Q rc rs 177 [some (.ref el), some (.int (nI (f))), some (.int (nI (c))), some (.int (zI (((rk : Nat) : Int) - 2))), (o4)] [] M9
          exact next _ _ M9 V9 hS9 f9 (fun _ _ _ => rfl) (fun h => absurd h hnp)
        · skip
          refine jj_aload_n (pc := 21) kE_substitute_d21 rfl ?_
          refine jj_getf (pc := 22) kE_substitute_d22 (kfE_isPivot hG) hl9 rfl ?_
          refine jj_iload_n (pc := 25) kE_substitute_d25 rfl ?_
          refine jn_zald (pc := 26) (v := (nI (1))) kE_substitute_d26 (kG_t hG rfl) hia (by omega) (by omega) (hB1) ?_
          refine jn_if_ne (pc := 27) (tgt := 177) kE_substitute_d27 (by decide) (by omega) (fun _ => ?_) (fun c => by exfalso; omega)
          show jj G kE_substitute (d + 5) Q rc rs 177 [some (.ref el), some (.int (nI (f))), some (.int (nI (c))), some (.int (zI (((rk : Nat) : Int) - 2))), (o4)] [] M9
          exact next _ _ M9 V9 hS9 f9 (fun _ _ _ => rfl) (fun h => absurd h hnp)
  exact loop (w - f) f (by omega) (Nat.le_refl _) _ _ M V hS (fun _ _ _ _ _ _ => rfl) (fun _ _ _ => rfl) (fun i c' _ _ _ _ => by omega)
end E8
