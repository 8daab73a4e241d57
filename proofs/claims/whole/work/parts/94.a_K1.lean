/-! ===== Desk: cross, meet (printed by wip/gen/rK1.py) ===== -/
/-- what never changes of the desk -/
def KJI (wa la cap : Nat → Nat) (N hi lo : Nat) : Prop := CI wa la cap N ∧ 13 ≤ N ∧ (∀ p, p < 13 → cap p = 252) ∧ DJI la N hi lo
/-- the desk: Euclid, the divider and its own numbers at the places 7 to 12 -/
def KS (M : mheap) (wa la cap : Nat → Nat) (N eu dv hi lo dk : Nat) (V : Nat → Int) : Prop := CW M wa la cap N V ∧ (∃ r px pf py po ps od : Nat, US M wa eu dv hi lo 0 r px pf py po ps od) ∧ M dk = some (.inl nK, [.ref dv, .ref eu, .ref (wa 7), .ref (wa 8), .ref (wa 9), .ref (wa 10), .ref (wa 11), .ref (wa 12)])
theorem E7.nqr {q r px pf py po ps : Nat} (h : E7 q r px pf py po ps) : q ≠ r := h.2.2.2.2.2.2.2.1
theorem E7.nqx {q r px pf py po ps : Nat} (h : E7 q r px pf py po ps) : q ≠ px := h.2.2.2.2.2.2.2.2.1
theorem E7.nrx {q r px pf py po ps : Nat} (h : E7 q r px pf py po ps) : r ≠ px := h.2.2.2.2.2.2.2.2.2.2.2.2.2.1
theorem E7.nqf {q r px pf py po ps : Nat} (h : E7 q r px pf py po ps) : q ≠ pf := h.2.2.2.2.2.2.2.2.2.1
theorem E7.nrf {q r px pf py po ps : Nat} (h : E7 q r px pf py po ps) : r ≠ pf := h.2.2.2.2.2.2.2.2.2.2.2.2.2.2.1
theorem far2 {b b2 x y : Nat} (h : b + 256 < b2 ∨ b2 + 256 < b) (hx : x ≤ 256) (hy : y ≤ 256) : b2 + x ≠ b + y := by omega
theorem cell255 {i j : Nat} (hi : i < 16) (hj : j < 16) : 16 * i + j ≤ 255 := by omega
section KSS
variable {M M' : mheap} {wa la cap : Nat → Nat} {N eu dv hi lo dk t : Nat} {V V' : Nat → Int}
theorem EF.obj {n x : Nat} {fs : List Value} (h : EF M M' wa la N eu dv hi lo) (hc : CW M wa la cap N V) {r px pf py po ps od : Nat} (hU : US M wa eu dv hi lo 0 r px pf py po ps od) (hx : M x = some (.inl n, fs)) (hn : n ≠ nW) (hn1 : n ≠ nU) (hn2 : n ≠ nD) : M' x = some (.inl n, fs) := by
  obtain ⟨_, ⟨d1, ⟨H, d2, _⟩, L, d3, _⟩, _, a, b, c, d9, e1⟩ := hU
  rw [h x (fun p hp => ?_) (fun e => by rw [e, d2] at hx; cases hx) (fun e => by rw [e, d3] at hx; cases hx) (fun e => by rw [e, e1] at hx; exact hn1 (by cases hx; rfl)) (fun e => by rw [e, d1] at hx; exact hn2 (by cases hx; rfl))]
  · exact hx
  · obtain ⟨D, c, a1, a2, _⟩ := hc p hp
    exact ⟨fun e => by rw [e, a1] at hx; exact hn (by cases hx; rfl), fun e => by rw [e, a2] at hx; cases hx⟩
theorem US.wt {q r px pf py po ps od : Nat} (hU : US M wa eu dv hi lo q r px pf py po ps od) (hc : CW M wa la cap N V) (hd : DJI la N hi lo) (ht : t < N) (hw : WT M M' wa la t) : US M' wa eu dv hi lo q r px pf py po ps od := by
  obtain ⟨h1, h2, h3, a, b, c, d9, h4⟩ := hU
  obtain ⟨D, n, a1, a2, _⟩ := hc t ht
  exact ⟨h1, h2.wt hc hd ht hw, h3, a, b, c, d9, (hw eu (fun e => by rw [e, a1] at h4; cases h4) (fun e => by rw [e, a2] at h4; cases h4)).trans h4⟩
theorem KS.wt (h : KS M wa la cap N eu dv hi lo dk V) (hK : KJI wa la cap N hi lo) (ht : t < N) (hw : WT M M' wa la t) (hc : CW M' wa la cap N V') : KS M' wa la cap N eu dv hi lo dk V' := by
  obtain ⟨h1, ⟨r, px, pf, py, po, ps, od, h2⟩, h3⟩ := h
  exact ⟨hc, ⟨r, px, pf, py, po, ps, od, h2.wt h1 hK.2.2.2 ht hw⟩, (hw.ef ht).obj h1 h2 h3 (by decide) (by decide) (by decide)⟩
/-- one place of the divider's and Euclid's is given up, another taken -/
theorem US.div {q r px pf py po ps od : Nat} (hU : US M wa eu dv hi lo q r px pf py po ps od) (hc : CW M wa la cap N V) (hv : DV M' wa dv hi lo q r) (hf : CF M M' wa la N hi lo) : US M' wa eu dv hi lo q r px pf py po ps od := by
  obtain ⟨h1, h2, h3, a, b, c, d9, h4⟩ := hU
  exact ⟨h1, hv, h3, a, b, c, d9, hf.obj hc h4 (by decide) ⟨_, h2.2.1.choose_spec.1⟩ ⟨_, h2.2.2.choose_spec.1⟩⟩
theorem CF.ef (hf : CF M M' wa la N hi lo) : EF M M' wa la N eu dv hi lo := fun x a b c _ _ => hf x a b c
end KSS
section K1
variable {G : jg} {d : Nat} {Q : jq} {rc rs : Nat} {M : mheap} {wa la cap : Nat → Nat} {N eu dv hi lo dk : Nat} {V : Nat → Int}
theorem k_cross {a x b y : Nat} {ls z : Int} (hG : kG G) (hK : KJI wa la cap N hi lo) (hS : KS M wa la cap N eu dv hi lo dk V) (ha : a < N) (hx : x < N) (hb : b < N) (hy : y < N) (na : a ≠ 7) (nx : x ≠ 7) (nb : b ≠ 7) (ny : y ≠ 7) (nb8 : b ≠ 8) (ny8 : y ≠ 8) (r1 : lc (V a) + lc (V x) ≤ 252) (r2 : lc (V b) + lc (V y) ≤ 252) (r3 : lc (V a * V x) ≤ 251) (r4 : lc (V b * V y) ≤ 251) (hz : z = if ls < 0 then V a * V x - V b * V y else V a * V x + V b * V y) (k : ∀ M', KS M' wa la cap N eu dv hi lo dk (vup (vup (vup V 7 (V a * V x)) 8 (V b * V y)) 9 z) → EF M M' wa la N eu dv hi lo → Q (.returned none) M' rc rs) : jj G kK_cross (d + 4) Q rc rs 0 (jj_ent [.ref dk, .ref (wa a), .ref (wa x), .ref (wa b), .ref (wa y), .int (sg ls)] 6) [] M := by
  obtain ⟨hI, hN, hcap, hdi⟩ := id hK
  obtain ⟨hc, _, hd0⟩ := id hS
  obtain ⟨A7, c7, hA7, _, _⟩ := hc 7 (by omega)
  show jj G kK_cross (d + 4) Q rc rs 0 [some (.ref dk), some (.ref (wa a)), some (.ref (wa x)), some (.ref (wa b)), some (.ref (wa y)), some (.int (sg ls))] [] M
  refine jj_aload_n (pc := 0) kK_cross_d0 rfl ?_
  refine jj_getf (pc := 1) kK_cross_d1 (kfK_left hG) hd0 rfl ?_
  refine jj_aload_n (pc := 4) kK_cross_d4 rfl ?_
  refine jj_aload_n (pc := 5) kK_cross_d5 rfl ?_
  refine jj_callV (pc := 6) (b := (wa 7)) (As := [.ref (wa a), .ref (wa x)]) kK_cross_d6 (kvK_W_product hG) (kG_cl hG rfl) rfl hA7 rfl rfl rfl (Nat.le_of_ble_eq_true rfl) (Nat.le_of_ble_eq_true rfl) (jj_bare0 rfl) ?_
  refine w_product hG hI hc (t := 7) (u := a) (v := x) (by omega) ha hx (Ne.symm na) (Ne.symm nx) (by rw [hcap 7 (by omega)]; exact r1) (fun M1 hc1 hw1 => ?_)
  show jj G kK_cross (d + 4) Q rc rs 9 [some (.ref dk), some (.ref (wa a)), some (.ref (wa x)), some (.ref (wa b)), some (.ref (wa y)), some (.int (sg ls))] [] M1
  have hS1 := hS.wt hK (by omega) hw1 hc1
  obtain ⟨_, _, hd1⟩ := id hS1
  obtain ⟨A8, c8, hA8, _, _⟩ := hc1 8 (by omega)
  refine jj_aload_n (pc := 9) kK_cross_d9 rfl ?_
  refine jj_getf (pc := 10) kK_cross_d10 (kfK_right hG) hd1 rfl ?_
  refine jj_aload_n (pc := 13) kK_cross_d13 rfl ?_
  refine jj_aload (pc := 14) kK_cross_d14 rfl ?_
  refine jj_callV (pc := 16) (b := (wa 8)) (As := [.ref (wa b), .ref (wa y)]) kK_cross_d16 (kvK_W_product hG) (kG_cl hG rfl) rfl hA8 rfl rfl rfl (Nat.le_of_ble_eq_true rfl) (Nat.le_of_ble_eq_true rfl) (jj_bare0 rfl) ?_
  refine w_product hG hI hc1 (t := 8) (u := b) (v := y) (by omega) hb hy (Ne.symm nb8) (Ne.symm ny8) (by rw [hcap 8 (by omega), vup_ne _ _ nb, vup_ne _ _ ny]; exact r2) (fun M2 hc2 hw2 => ?_)
  show jj G kK_cross (d + 4) Q rc rs 19 [some (.ref dk), some (.ref (wa a)), some (.ref (wa x)), some (.ref (wa b)), some (.ref (wa y)), some (.int (sg ls))] [] M2
  rw [vup_ne _ _ nb, vup_ne _ _ ny] at hc2
  have hS2 := hS1.wt hK (by omega) hw2 hc2
  obtain ⟨_, _, hd2⟩ := id hS2
  obtain ⟨A9, c9, hA9, _, _⟩ := hc2 9 (by omega)
  have v7 : vup (vup V 7 (V a * V x)) 8 (V b * V y) 7 = V a * V x := by rw [vup_ne _ _ (by omega), vup_at]
  have v8 : vup (vup V 7 (V a * V x)) 8 (V b * V y) 8 = V b * V y := by rw [vup_at]
  refine jj_aload_n (pc := 19) kK_cross_d19 rfl ?_
  refine jj_getf (pc := 20) kK_cross_d20 (kfK_sum hG) hd2 rfl ?_
  refine jj_aload_n (pc := 23) kK_cross_d23 rfl ?_
  refine jj_getf (pc := 24) kK_cross_d24 (kfK_left hG) hd2 rfl ?_
  refine jj_aload_n (pc := 27) kK_cross_d27 rfl ?_
  refine jj_getf (pc := 28) kK_cross_d28 (kfK_right hG) hd2 rfl ?_
  refine jj_iload (pc := 31) kK_cross_d31 rfl ?_
  refine jj_callV (pc := 33) (b := (wa 9)) (As := [.ref (wa 7), .ref (wa 8), .int (sg ls)]) kK_cross_d33 (kvK_W_sum hG) (kG_cl hG rfl) rfl hA9 rfl rfl rfl (Nat.le_of_ble_eq_true rfl) (Nat.le_of_ble_eq_true rfl) (jj_bare0 rfl) ?_
  refine w_sum hG hI hc2 (t := 9) (u := 7) (v := 8) (ls := ls) (z := z) (by omega) (by omega) (by omega) (by rw [v7, hcap 9 (by omega)]; omega) (by rw [v8, hcap 9 (by omega)]; omega) (by rw [v7, v8]; exact hz) (fun M3 hc3 hw3 => ?_)
  show jj G kK_cross (d + 4) Q rc rs 36 [some (.ref dk), some (.ref (wa a)), some (.ref (wa x)), some (.ref (wa b)), some (.ref (wa y)), some (.int (sg ls))] [] M3
  exact jj_vret (pc := 36) kK_cross_d36 rfl (k M3 (hS2.wt hK (by omega) hw3 hc3) (((hw1.ef (by omega)).trans (hw2.ef (by omega))).trans (hw3.ef (by omega))))
theorem k_meet {u v : Nat} {g : Int} (hG : kG G) (hK : KJI wa la cap N hi lo) (hS : KS M wa la cap N eu dv hi lo dk V) (hu : u < N) (hv : v < N) (hu7 : 13 ≤ u) (hv7 : 13 ≤ v) (hlu : lc (V u) ≤ 252) (hlv : lc (V v) ≤ 252) (hg : g = (Nat.gcd (V u).natAbs (V v).natAbs : Nat)) (k : ∀ (M' : mheap) (V' : Nat → Int), KS M' wa la cap N eu dv hi lo dk V' → V' 11 = (V v).tdiv g → V' 12 = (V u).tdiv g → (∀ p, 7 ≤ p → p ≠ 11 → p ≠ 12 → V' p = V p) → EF M M' wa la N eu dv hi lo → Q (.returned none) M' rc rs) : jj G kK_meet (d + 6) Q rc rs 0 (jj_ent [.ref dk, .ref (wa u), .ref (wa v)] 3) [] M := by
  obtain ⟨hI, hN, hcap, hdi⟩ := id hK
  obtain ⟨hc, ⟨r, px, pf, py, po, ps, od, hU⟩, hd0⟩ := id hS
  obtain ⟨a, b, c, d9, hE⟩ := hU.2.2.2
  show jj G kK_meet (d + 6) Q rc rs 0 [some (.ref dk), some (.ref (wa u)), some (.ref (wa v))] [] M
  refine jj_aload_n (pc := 0) kK_meet_d0 rfl ?_
  refine jj_getf (pc := 1) kK_meet_d1 (kfK_euclid hG) hd0 rfl ?_
  refine jj_aload_n (pc := 4) kK_meet_d4 rfl ?_
  refine jj_aload_n (pc := 5) kK_meet_d5 rfl ?_
  refine jn_iconst (pc := 6) 0 kK_meet_d6 (by decide) ?_
  refine jj_callV (pc := 7) (b := eu) (As := [.ref (wa u), .ref (wa v), .int (nI (0))]) kK_meet_d7 (kvK_U_run hG) (kG_cl hG rfl) rfl hE rfl rfl rfl (Nat.le_of_ble_eq_true rfl) (Nat.le_of_ble_eq_true rfl) (jj_bare0 rfl) ?_
  refine u_run hG hI hc (by omega) (fun p hp => hcap p (by omega)) hdi hU (by omega) hu (by omega) hv (by omega) hlu hlv (fun h => absurd h (by omega)) (fun M1 V1 r1 px1 pf1 py1 po1 ps1 od1 hc1 hold1 hU1 hg1 _ hf1 => ?_)
  show jj G kK_meet (d + 6) Q rc rs 10 [some (.ref dk), some (.ref (wa u)), some (.ref (wa v))] [] M1
  rw [← hg] at hg1
  have hd1 := hf1.obj hc hU hd0 (by decide) (by decide) (by decide)
  obtain ⟨⟨b_q, b_r, b_px, b_pf, b_py, b_po, b_ps, n1, n2, n3, n4, n5, n6, n7, n8, n9, n10, n11, n12⟩, hdv1, ho1, a1, b1, c1, d1, hE1⟩ := id hU1
  have vu1 : V1 u = V u := hold1 u (by omega)
  have vv1 : V1 v = V v := hold1 v (by omega)
  have hD1 := hdv1.1
  refine jj_aload_n (pc := 10) kK_meet_d10 rfl ?_
  refine jj_getf (pc := 11) kK_meet_d11 (kfK_divider hG) hd1 rfl ?_
  refine jj_aload_n (pc := 14) kK_meet_d14 rfl ?_
  refine jj_aload_n (pc := 15) kK_meet_d15 rfl ?_
  refine jj_getf (pc := 16) kK_meet_d16 (kfK_euclid hG) hd1 rfl ?_
  refine jj_getf (pc := 19) kK_meet_d19 (kfK_U_x hG) hE1 rfl ?_
  refine jj_callV (pc := 22) (b := dv) (As := [.ref (wa v), .ref (wa px1)]) kK_meet_d22 (kvK_D_divide hG) (kG_cl hG rfl) rfl hD1 rfl rfl rfl (Nat.le_of_ble_eq_true rfl) (Nat.le_of_ble_eq_true rfl) (jj_bare0 rfl) ?_
  refine d_divide hG hI hc1 hdv1 hdi (by omega) (by omega) hv (by omega) n1 (by omega) n2 (by omega) n7 (by rw [vv1]; exact hlv) (by rw [hcap 0 (by omega), vv1]; exact hlv) (by rw [hcap r1 (by omega), vv1]; exact hlv) (fun M2 hc2 hdv2 hf2 => ?_)
  show jj G kK_meet (d + 6) Q rc rs 25 [some (.ref dk), some (.ref (wa u)), some (.ref (wa v))] [] M2
  rw [vv1, hg1] at hc2
  have hU2 := hU1.div hc1 hdv2 hf2
  have hE2 := hf2.obj hc1 hE1 (by decide) ⟨_, hdv1.2.1.choose_spec.1⟩ ⟨_, hdv1.2.2.choose_spec.1⟩
  have hd2 := hf2.obj hc1 hd1 (by decide) ⟨_, hdv1.2.1.choose_spec.1⟩ ⟨_, hdv1.2.2.choose_spec.1⟩
  have hD2 := hdv2.1
  obtain ⟨T2, t2, hT2, _, _⟩ := hc2 11 (by omega)
  have v0 : vup (vup V1 0 ((V v).tdiv g)) r1 ((V v).tmod g) 0 = (V v).tdiv g := by rw [vup_ne _ _ n1, vup_at]
  have lq : ∀ z : Int, lc z ≤ 252 → (z.tdiv g).natAbs < BB ^ 252 := fun z hz => by
    rw [Int.natAbs_tdiv]
    exact Nat.lt_of_le_of_lt (Nat.div_le_self _ _) (Nat.lt_of_lt_of_le (lc_lt z) (Nat.pow_le_pow_right (by decide) hz))
  refine jj_aload_n (pc := 25) kK_meet_d25 rfl ?_
  refine jj_getf (pc := 26) kK_meet_d26 (kfK_leftFactor hG) hd2 rfl ?_
  refine jj_aload_n (pc := 29) kK_meet_d29 rfl ?_
  refine jj_getf (pc := 30) kK_meet_d30 (kfK_divider hG) hd2 rfl ?_
  refine jj_getf (pc := 33) kK_meet_d33 (kfK_D_quotient hG) hD2 rfl ?_
  refine jj_callV (pc := 36) (b := (wa 11)) (As := [.ref (wa 0)]) kK_meet_d36 (kvK_W_copy hG) (kG_cl hG rfl) rfl hT2 rfl rfl rfl (Nat.le_of_ble_eq_true rfl) (Nat.le_of_ble_eq_true rfl) (jj_bare0 rfl) ?_
  refine w_copy hG hI hc2 (t := 11) (u := 0) (by omega) (by omega) (by rw [v0, hcap 11 (by omega)]; exact lq _ hlv) (fun M3 hc3 hw3 => ?_)
  show jj G kK_meet (d + 6) Q rc rs 39 [some (.ref dk), some (.ref (wa u)), some (.ref (wa v))] [] M3
  rw [v0] at hc3
  have hU3 := hU2.wt hc2 hdi (by omega) hw3
  have hE3 := hU3.2.2.2
  have hdv3 := hU3.2.1
  have hD3 := hdv3.1
  have hE3 := (hw3.cf (by omega : 11 < N) (hi := hi) (lo := lo)).obj hc2 hE2 (by decide) ⟨_, hdv2.2.1.choose_spec.1⟩ ⟨_, hdv2.2.2.choose_spec.1⟩
  have hd3 := (hw3.cf (by omega : 11 < N) (hi := hi) (lo := lo)).obj hc2 hd2 (by decide) ⟨_, hdv2.2.1.choose_spec.1⟩ ⟨_, hdv2.2.2.choose_spec.1⟩
  obtain ⟨V3, hV3⟩ : ∃ V3, vup (vup (vup V1 0 ((V v).tdiv g)) r1 ((V v).tmod g)) 11 ((V v).tdiv g) = V3 := ⟨_, rfl⟩
  rw [hV3] at hc3
  have vu3 : V3 u = V u := by rw [← hV3, vup_ne _ _ (by omega), vup_ne _ _ (by omega), vup_ne _ _ (by omega)]; exact vu1
  have vg3 : V3 px1 = g := by rw [← hV3, vup_ne _ _ (by omega), vup_ne _ _ (Ne.symm n7), vup_ne _ _ (Ne.symm n2)]; exact hg1
  have v11 : V3 11 = (V v).tdiv g := by rw [← hV3, vup_at]
  refine jj_aload_n (pc := 39) kK_meet_d39 rfl ?_
  refine jj_getf (pc := 40) kK_meet_d40 (kfK_divider hG) hd3 rfl ?_
  refine jj_aload_n (pc := 43) kK_meet_d43 rfl ?_
  refine jj_aload_n (pc := 44) kK_meet_d44 rfl ?_
  refine jj_getf (pc := 45) kK_meet_d45 (kfK_euclid hG) hd3 rfl ?_
  refine jj_getf (pc := 48) kK_meet_d48 (kfK_U_x hG) hE3 rfl ?_
  refine jj_callV (pc := 51) (b := dv) (As := [.ref (wa u), .ref (wa px1)]) kK_meet_d51 (kvK_D_divide hG) (kG_cl hG rfl) rfl hD3 rfl rfl rfl (Nat.le_of_ble_eq_true rfl) (Nat.le_of_ble_eq_true rfl) (jj_bare0 rfl) ?_
  refine d_divide hG hI hc3 hdv3 hdi (by omega) (by omega) hu (by omega) n1 (by omega) n2 (by omega) n7 (by rw [vu3]; exact hlu) (by rw [hcap 0 (by omega), vu3]; exact hlu) (by rw [hcap r1 (by omega), vu3]; exact hlu) (fun M4 hc4 hdv4 hf4 => ?_)
  show jj G kK_meet (d + 6) Q rc rs 54 [some (.ref dk), some (.ref (wa u)), some (.ref (wa v))] [] M4
  rw [vu3, vg3] at hc4
  have hU4 := hU3.div hc3 hdv4 hf4
  have hd4 := hf4.obj hc3 hd3 (by decide) ⟨_, hdv3.2.1.choose_spec.1⟩ ⟨_, hdv3.2.2.choose_spec.1⟩
  have hD4 := hdv4.1
  obtain ⟨T4, t4, hT4, _, _⟩ := hc4 12 (by omega)
  have v04 : vup (vup V3 0 ((V u).tdiv g)) r1 ((V u).tmod g) 0 = (V u).tdiv g := by rw [vup_ne _ _ n1, vup_at]
  refine jj_aload_n (pc := 54) kK_meet_d54 rfl ?_
  refine jj_getf (pc := 55) kK_meet_d55 (kfK_rightFactor hG) hd4 rfl ?_
  refine jj_aload_n (pc := 58) kK_meet_d58 rfl ?_
  refine jj_getf (pc := 59) kK_meet_d59 (kfK_divider hG) hd4 rfl ?_
  refine jj_getf (pc := 62) kK_meet_d62 (kfK_D_quotient hG) hD4 rfl ?_
  refine jj_callV (pc := 65) (b := (wa 12)) (As := [.ref (wa 0)]) kK_meet_d65 (kvK_W_copy hG) (kG_cl hG rfl) rfl hT4 rfl rfl rfl (Nat.le_of_ble_eq_true rfl) (Nat.le_of_ble_eq_true rfl) (jj_bare0 rfl) ?_
  refine w_copy hG hI hc4 (t := 12) (u := 0) (by omega) (by omega) (by rw [v04, hcap 12 (by omega)]; exact lq _ hlu) (fun M5 hc5 hw5 => ?_)
  show jj G kK_meet (d + 6) Q rc rs 68 [some (.ref dk), some (.ref (wa u)), some (.ref (wa v))] [] M5
  rw [v04] at hc5
  exact jj_vret (pc := 68) kK_meet_d68 rfl (k M5 _ ⟨hc5, ⟨r1, px1, pf1, py1, po1, ps1, od1, hU4.wt hc4 hdi (by omega) hw5⟩, (hw5.ef (by omega)).obj hc4 hU4 hd4 (by decide) (by decide) (by decide)⟩ (by rw [vup_ne _ _ (by omega), vup_ne _ _ (by omega), vup_ne _ _ (by omega)]; exact v11) (by rw [vup_at]) (fun p p1 p2 p3 => by rw [vup_ne _ _ p3, vup_ne _ _ (by omega), vup_ne _ _ (by omega), ← hV3, vup_ne _ _ p2, vup_ne _ _ (by omega), vup_ne _ _ (by omega)]; exact hold1 p p1) ((((hf1.trans hf2.ef).trans (hw3.ef (by omega))).trans hf4.ef).trans (hw5.ef (by omega))))
end K1
