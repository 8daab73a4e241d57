/-! ===== Fraction: reduce (printed by wip/gen/rF1.py) ===== -/
/-- x and y are a and b in least terms -/
def least (a b x y : Int) : Prop := 0 < y ∧ x * b = a * y ∧ Nat.gcd x.natAbs y.natAbs = 1
theorem least_div {a b g : Int} (hb : 0 < b) (hg : g = (Nat.gcd a.natAbs b.natAbs : Nat)) : least a b (a.tdiv g) (b.tdiv g) := by
  have hgp : 0 < Nat.gcd a.natAbs b.natAbs := Nat.gcd_pos_of_pos_right _ (by omega)
  have d1 : g ∣ a := by rw [hg]; exact Int.ofNat_dvd_left.mpr (Nat.gcd_dvd_left ..)
  have d2 : g ∣ b := by rw [hg]; exact Int.ofNat_dvd_left.mpr (Nat.gcd_dvd_right ..)
  obtain ⟨x, hx⟩ := d1
  obtain ⟨y, hy⟩ := d2
  have hg0 : g ≠ 0 := by omega
  have e1 : a.tdiv g = x := by rw [hx, Int.mul_tdiv_cancel_left _ hg0]
  have e2 : b.tdiv g = y := by rw [hy, Int.mul_tdiv_cancel_left _ hg0]
  rw [e1, e2]
  have hgp' : 0 < g := by omega
  refine ⟨?_, ?_, ?_⟩
  · rcases (show 0 < y ∨ y ≤ 0 by omega) with c | c
    · exact c
    · exfalso
      have := Int.mul_nonneg (show 0 ≤ g by omega) (show 0 ≤ -y by omega)
      rw [Int.mul_neg] at this
      omega
  · rw [hx, hy, Int.mul_left_comm, Int.mul_assoc]
  · have h1 : a.natAbs = g.natAbs * x.natAbs := by rw [hx, Int.natAbs_mul]
    have h2 : b.natAbs = g.natAbs * y.natAbs := by rw [hy, Int.natAbs_mul]
    have h3 : g.natAbs = Nat.gcd a.natAbs b.natAbs := by rw [hg]; rfl
    rw [h1, h2, Nat.gcd_mul_left] at h3
    have h4 : 0 < g.natAbs := by omega
    have h5 : g.natAbs * Nat.gcd x.natAbs y.natAbs = g.natAbs * 1 := by omega
    exact Nat.eq_of_mul_eq_mul_left h4 h5
theorem least_neg {a b x y : Int} (h : least (-a) (-b) x y) : least a b x y := by
  refine ⟨h.1, ?_, h.2.2⟩
  have := h.2.1
  rw [Int.mul_neg, Int.neg_mul] at this
  omega
section F1
variable {G : jg} {d : Nat} {Q : jq} {rc rs : Nat} {M : mheap} {wa la cap : Nat → Nat} {N eu dv hi lo dk : Nat} {V : Nat → Int}
theorem f_reduce24 {fr a b : Nat} (hG : kG G) (hK : KJI wa la cap N hi lo) (hS : KS M wa la cap N eu dv hi lo dk V) (hF : M fr = some (.inl nF, [.ref (wa a), .ref (wa b), .ref dk])) (ha : a < N) (hb : b < N) (ha7 : 13 ≤ a) (hb7 : 13 ≤ b) (hab : a ≠ b) (hca : cap a = 252) (hcb : cap b = 252) (hla : lc (V a) ≤ 252) (hlb : lc (V b) ≤ 252) (hpos : 0 < V b) (k : ∀ (M' : mheap) (V' : Nat → Int), KS M' wa la cap N eu dv hi lo dk V' → least (V a) (V b) (V' a) (V' b) → (∀ p, 7 ≤ p → p ≠ a → p ≠ b → V' p = V p) → EF M M' wa la N eu dv hi lo → Q (.returned none) M' rc rs) : jj G kF_reduce (d + 6) Q rc rs 24 [some (.ref fr)] [] M := by
  obtain ⟨hI, hN, hcap, hdi⟩ := id hK
  obtain ⟨hc0, ⟨r, px, pf, py, po, ps, od, hU0⟩, hdk0⟩ := id hS
  have hf0 : EF M M wa la N eu dv hi lo := fun _ _ _ _ _ _ => rfl
  obtain ⟨V0, hV0⟩ : ∃ V0, V = V0 := ⟨_, rfl⟩
  rw [hV0] at hc0
  have hn0 := hU0.1
  have b_r0 := hn0.2.1
  have b_x0 := hn0.2.2.1
  have b_f0 := hn0.2.2.2.1
  have hdv0 := hU0.2.1
  obtain ⟨ea0, eb0, ec0, ed0, hE0⟩ := hU0.2.2.2
  have hD0 := hdv0.1
  rw [hV0] at hla hlb hpos k
  show jj G kF_reduce (d + 6) Q rc rs 24 [some (.ref fr)] [] M
  obtain ⟨Tb_0, tb_0, hTb_0, _, _⟩ := hc0 b (by omega)
  refine jj_aload_n (pc := 24) kF_reduce_d24 rfl ?_
  refine jj_getf (pc := 25) kF_reduce_d25 (kfF_lower hG) hF rfl ?_
  refine jj_callV (pc := 28) (b := (wa b)) (As := []) kF_reduce_d28 (kvF_W_isOne hG) (kG_cl hG rfl) rfl hTb_0 rfl rfl rfl (Nat.le_of_ble_eq_true rfl) (Nat.le_of_ble_eq_true rfl) (jj_bare0 rfl) ?_
  refine w_isOne hG hI hc0 hb (fun c1 => ?_) (fun c1 => ?_)
  · skip
    show jj G kF_reduce (d + 6) Q rc rs 31 [some (.ref fr)] [.int (nI (1))] M
    refine jn_if_eq (pc := 31) (tgt := 35) kF_reduce_d31 (by decide) (by omega) (fun c => by exfalso; omega) (fun _ => ?_)
    exact jj_vret (pc := 34) kF_reduce_d34 rfl (k M V0 ⟨hc0, ⟨r, px, pf, py, po, ps, od, hU0⟩, hdk0⟩ ⟨by omega, by rw [c1, Int.mul_one], by rw [c1]; exact Nat.gcd_one_right _⟩ (fun _ _ _ _ => rfl) hf0)
  · skip
    show jj G kF_reduce (d + 6) Q rc rs 31 [some (.ref fr)] [.int (nI (0))] M
    refine jn_if_eq (pc := 31) (tgt := 35) kF_reduce_d31 (by decide) (by omega) (fun _ => ?_) (fun c => by exfalso; omega)
    refine jj_aload_n (pc := 35) kF_reduce_d35 rfl ?_
    refine jj_getf (pc := 36) kF_reduce_d36 (kfF_desk hG) hF rfl ?_
    refine jj_getf (pc := 39) kF_reduce_d39 (kfF_K_euclid hG) hdk0 rfl ?_
    refine jj_aload_n (pc := 42) kF_reduce_d42 rfl ?_
    refine jj_getf (pc := 43) kF_reduce_d43 (kfF_upper hG) hF rfl ?_
    refine jj_aload_n (pc := 46) kF_reduce_d46 rfl ?_
    refine jj_getf (pc := 47) kF_reduce_d47 (kfF_lower hG) hF rfl ?_
    refine jn_iconst (pc := 50) 0 kF_reduce_d50 (by decide) ?_
    refine jj_callV (pc := 51) (b := eu) (As := [.ref (wa a), .ref (wa b), .int (nI (0))]) kF_reduce_d51 (kvF_U_run hG) (kG_cl hG rfl) rfl hE0 rfl rfl rfl (Nat.le_of_ble_eq_true rfl) (Nat.le_of_ble_eq_true rfl) (jj_bare0 rfl) ?_
    refine u_run hG hI hc0 (by omega) (fun p hp => hcap p (by omega)) hdi hU0 (by omega) ha (by omega) hb (by omega) hla hlb (fun h => absurd h (by omega)) (fun M1 V1 r_1 px_1 pf_1 py_1 po_1 ps_1 od_1 hc1 ot1 hU1 gx1 gf1 hw1 => ?_)
    have hf1 := hf0.trans hw1
    have q1_fr := hw1.obj hc0 hU0 hF (by decide) (by decide) (by decide)
    have q1_dk := hw1.obj hc0 hU0 hdk0 (by decide) (by decide) (by decide)
    have hn1 := hU1.1
    have b_r1 := hn1.2.1
    have b_x1 := hn1.2.2.1
    have b_f1 := hn1.2.2.2.1
    have hdv1 := hU1.2.1
    obtain ⟨ea1, eb1, ec1, ed1, hE1⟩ := hU1.2.2.2
    have hD1 := hdv1.1
    show jj G kF_reduce (d + 6) Q rc rs 54 [some (.ref fr)] [] M1
    have va1 : V1 a = V0 a := ot1 a (by omega)
    have vb1 : V1 b = V0 b := ot1 b (by omega)
    obtain ⟨g, hg⟩ : ∃ g : Int, g = (Nat.gcd (V0 a).natAbs (V0 b).natAbs : Nat) := ⟨_, rfl⟩
    rw [← hg] at gx1
    have lq : ∀ z : Int, lc z ≤ 252 → (z.tdiv g).natAbs < BB ^ 252 := fun z hz => by
      rw [Int.natAbs_tdiv]
      exact Nat.lt_of_le_of_lt (Nat.div_le_self _ _) (Nat.lt_of_lt_of_le (lc_lt z) (Nat.pow_le_pow_right (by decide) hz))
    refine jj_aload_n (pc := 54) kF_reduce_d54 rfl ?_
    refine jj_getf (pc := 55) kF_reduce_d55 (kfF_desk hG) q1_fr rfl ?_
    refine jj_getf (pc := 58) kF_reduce_d58 (kfF_K_divider hG) q1_dk rfl ?_
    refine jj_aload_n (pc := 61) kF_reduce_d61 rfl ?_
    refine jj_getf (pc := 62) kF_reduce_d62 (kfF_upper hG) q1_fr rfl ?_
    refine jj_aload_n (pc := 65) kF_reduce_d65 rfl ?_
    refine jj_getf (pc := 66) kF_reduce_d66 (kfF_desk hG) q1_fr rfl ?_
    refine jj_getf (pc := 69) kF_reduce_d69 (kfF_K_euclid hG) q1_dk rfl ?_
    refine jj_getf (pc := 72) kF_reduce_d72 (kfF_U_x hG) hE1 rfl ?_
    refine jj_callV (pc := 75) (b := dv) (As := [.ref (wa a), .ref (wa px_1)]) kF_reduce_d75 (kvF_D_divide hG) (kG_cl hG rfl) rfl hD1 rfl rfl rfl (Nat.le_of_ble_eq_true rfl) (Nat.le_of_ble_eq_true rfl) (jj_bare0 rfl) ?_
    refine d_divide hG hI hc1 hdv1 hdi (by omega) (by omega) ha (by omega) hn1.nqr (by omega) hn1.nqx (by omega) hn1.nrx (by rw [va1]; exact hla) (by rw [hcap 0 (by omega)]; exact (by rw [va1]; exact hla)) (by rw [hcap r_1 (by omega)]; exact (by rw [va1]; exact hla)) (fun M2 hcx2 hdx2 hw2 => ?_)
    obtain ⟨V2, hV2⟩ : ∃ W, vup (vup V1 0 ((V1 a).tdiv (V1 px_1))) r_1 ((V1 a).tmod (V1 px_1)) = W := ⟨_, rfl⟩
    have hc2 : CW M2 wa la cap N V2 := by rw [← hV2]; exact hcx2
    have at2 : V2 0 = (V1 a).tdiv (V1 px_1) := by rw [← hV2, vup_ne _ _ hn1.nqr, vup_at]
    have rt2 : V2 r_1 = (V1 a).tmod (V1 px_1) := by rw [← hV2, vup_at]
    have ot2 : ∀ p, p ≠ 0 → p ≠ r_1 → V2 p = V1 p := fun p h1 h2 => by rw [← hV2, vup_ne _ _ h2, vup_ne _ _ h1]
    have hU2 := hU1.div hc1 hdx2 hw2
    have hf2 := hf1.trans (hw2.ef (eu := eu) (dv := dv))
    have q2_fr := (hw2.ef (eu := eu) (dv := dv)).obj hc1 hU1 q1_fr (by decide) (by decide) (by decide)
    have q2_dk := (hw2.ef (eu := eu) (dv := dv)).obj hc1 hU1 q1_dk (by decide) (by decide) (by decide)
    have hn2 := hU2.1
    have b_r2 := hn2.2.1
    have b_x2 := hn2.2.2.1
    have b_f2 := hn2.2.2.2.1
    have hdv2 := hU2.2.1
    obtain ⟨ea2, eb2, ec2, ed2, hE2⟩ := hU2.2.2.2
    have hD2 := hdv2.1
    show jj G kF_reduce (d + 6) Q rc rs 78 [some (.ref fr)] [] M2
    rw [va1, gx1] at at2
    obtain ⟨Ta_2, ta_2, hTa_2, _, _⟩ := hc2 a (by omega)
    refine jj_aload_n (pc := 78) kF_reduce_d78 rfl ?_
    refine jj_getf (pc := 79) kF_reduce_d79 (kfF_upper hG) q2_fr rfl ?_
    refine jj_aload_n (pc := 82) kF_reduce_d82 rfl ?_
    refine jj_getf (pc := 83) kF_reduce_d83 (kfF_desk hG) q2_fr rfl ?_
    refine jj_getf (pc := 86) kF_reduce_d86 (kfF_K_divider hG) q2_dk rfl ?_
    refine jj_getf (pc := 89) kF_reduce_d89 (kfF_D_quotient hG) hD2 rfl ?_
    refine jj_callV (pc := 92) (b := (wa a)) (As := [.ref (wa 0)]) kF_reduce_d92 (kvF_W_copy hG) (kG_cl hG rfl) rfl hTa_2 rfl rfl rfl (Nat.le_of_ble_eq_true rfl) (Nat.le_of_ble_eq_true rfl) (jj_bare0 rfl) ?_
    refine w_copy hG hI hc2 ha (by omega : 0 < N) (by rw [at2, hca]; exact lq _ hla) (fun M3 hcx3 hw3 => ?_)
    obtain ⟨V3, hV3⟩ : ∃ W, vup V2 a (V2 0) = W := ⟨_, rfl⟩
    have hc3 : CW M3 wa la cap N V3 := by rw [← hV3]; exact hcx3
    have at3 : V3 a = V2 0 := by rw [← hV3, vup_at]
    have ot3 : ∀ p, p ≠ a → V3 p = V2 p := fun p hp => by rw [← hV3, vup_ne _ _ hp]
    have hU3 := hU2.wt hc2 hdi ha hw3
    have hf3 := hf2.trans (hw3.ef ha)
    have q3_fr := (hw3.ef (eu := eu) (dv := dv) (hi := hi) (lo := lo) ha).obj hc2 hU2 q2_fr (by decide) (by decide) (by decide)
    have q3_dk := (hw3.ef (eu := eu) (dv := dv) (hi := hi) (lo := lo) ha).obj hc2 hU2 q2_dk (by decide) (by decide) (by decide)
    have hn3 := hU3.1
    have b_r3 := hn3.2.1
    have b_x3 := hn3.2.2.1
    have b_f3 := hn3.2.2.2.1
    have hdv3 := hU3.2.1
    obtain ⟨ea3, eb3, ec3, ed3, hE3⟩ := hU3.2.2.2
    have hD3 := hdv3.1
    show jj G kF_reduce (d + 6) Q rc rs 95 [some (.ref fr)] [] M3
    have vb3 : V3 b = V0 b := by rw [ot3 b (Ne.symm hab), ot2 b (by omega) (by omega)]; exact vb1
    have vx3 : V3 px_1 = g := by rw [ot3 _ (by omega), ot2 _ (Ne.symm hn1.nqx) (Ne.symm hn1.nrx)]; exact gx1
    refine jj_aload_n (pc := 95) kF_reduce_d95 rfl ?_
    refine jj_getf (pc := 96) kF_reduce_d96 (kfF_desk hG) q3_fr rfl ?_
    refine jj_getf (pc := 99) kF_reduce_d99 (kfF_K_divider hG) q3_dk rfl ?_
    refine jj_aload_n (pc := 102) kF_reduce_d102 rfl ?_
    refine jj_getf (pc := 103) kF_reduce_d103 (kfF_lower hG) q3_fr rfl ?_
    refine jj_aload_n (pc := 106) kF_reduce_d106 rfl ?_
    refine jj_getf (pc := 107) kF_reduce_d107 (kfF_desk hG) q3_fr rfl ?_
    refine jj_getf (pc := 110) kF_reduce_d110 (kfF_K_euclid hG) q3_dk rfl ?_
    refine jj_getf (pc := 113) kF_reduce_d113 (kfF_U_x hG) hE3 rfl ?_
    refine jj_callV (pc := 116) (b := dv) (As := [.ref (wa b), .ref (wa px_1)]) kF_reduce_d116 (kvF_D_divide hG) (kG_cl hG rfl) rfl hD3 rfl rfl rfl (Nat.le_of_ble_eq_true rfl) (Nat.le_of_ble_eq_true rfl) (jj_bare0 rfl) ?_
    refine d_divide hG hI hc3 hdv3 hdi (by omega) (by omega) hb (by omega) hn3.nqr (by omega) hn1.nqx (by omega) hn1.nrx (by rw [vb3]; exact hlb) (by rw [hcap 0 (by omega)]; exact (by rw [vb3]; exact hlb)) (by rw [hcap r_1 (by omega)]; exact (by rw [vb3]; exact hlb)) (fun M4 hcx4 hdx4 hw4 => ?_)
    obtain ⟨V4, hV4⟩ : ∃ W, vup (vup V3 0 ((V3 b).tdiv (V3 px_1))) r_1 ((V3 b).tmod (V3 px_1)) = W := ⟨_, rfl⟩
    have hc4 : CW M4 wa la cap N V4 := by rw [← hV4]; exact hcx4
    have at4 : V4 0 = (V3 b).tdiv (V3 px_1) := by rw [← hV4, vup_ne _ _ hn3.nqr, vup_at]
    have rt4 : V4 r_1 = (V3 b).tmod (V3 px_1) := by rw [← hV4, vup_at]
    have ot4 : ∀ p, p ≠ 0 → p ≠ r_1 → V4 p = V3 p := fun p h1 h2 => by rw [← hV4, vup_ne _ _ h2, vup_ne _ _ h1]
    have hU4 := hU3.div hc3 hdx4 hw4
    have hf4 := hf3.trans (hw4.ef (eu := eu) (dv := dv))
    have q4_fr := (hw4.ef (eu := eu) (dv := dv)).obj hc3 hU3 q3_fr (by decide) (by decide) (by decide)
    have q4_dk := (hw4.ef (eu := eu) (dv := dv)).obj hc3 hU3 q3_dk (by decide) (by decide) (by decide)
    have hn4 := hU4.1
    have b_r4 := hn4.2.1
    have b_x4 := hn4.2.2.1
    have b_f4 := hn4.2.2.2.1
    have hdv4 := hU4.2.1
    obtain ⟨ea4, eb4, ec4, ed4, hE4⟩ := hU4.2.2.2
    have hD4 := hdv4.1
    show jj G kF_reduce (d + 6) Q rc rs 119 [some (.ref fr)] [] M4
    rw [vb3, vx3] at at4
    obtain ⟨Tb_4, tb_4, hTb_4, _, _⟩ := hc4 b (by omega)
    refine jj_aload_n (pc := 119) kF_reduce_d119 rfl ?_
    refine jj_getf (pc := 120) kF_reduce_d120 (kfF_lower hG) q4_fr rfl ?_
    refine jj_aload_n (pc := 123) kF_reduce_d123 rfl ?_
    refine jj_getf (pc := 124) kF_reduce_d124 (kfF_desk hG) q4_fr rfl ?_
    refine jj_getf (pc := 127) kF_reduce_d127 (kfF_K_divider hG) q4_dk rfl ?_
    refine jj_getf (pc := 130) kF_reduce_d130 (kfF_D_quotient hG) hD4 rfl ?_
    refine jj_callV (pc := 133) (b := (wa b)) (As := [.ref (wa 0)]) kF_reduce_d133 (kvF_W_copy hG) (kG_cl hG rfl) rfl hTb_4 rfl rfl rfl (Nat.le_of_ble_eq_true rfl) (Nat.le_of_ble_eq_true rfl) (jj_bare0 rfl) ?_
    refine w_copy hG hI hc4 hb (by omega : 0 < N) (by rw [at4, hcb]; exact lq _ hlb) (fun M5 hcx5 hw5 => ?_)
    obtain ⟨V5, hV5⟩ : ∃ W, vup V4 b (V4 0) = W := ⟨_, rfl⟩
    have hc5 : CW M5 wa la cap N V5 := by rw [← hV5]; exact hcx5
    have at5 : V5 b = V4 0 := by rw [← hV5, vup_at]
    have ot5 : ∀ p, p ≠ b → V5 p = V4 p := fun p hp => by rw [← hV5, vup_ne _ _ hp]
    have hU5 := hU4.wt hc4 hdi hb hw5
    have hf5 := hf4.trans (hw5.ef hb)
    have q5_fr := (hw5.ef (eu := eu) (dv := dv) (hi := hi) (lo := lo) hb).obj hc4 hU4 q4_fr (by decide) (by decide) (by decide)
    have q5_dk := (hw5.ef (eu := eu) (dv := dv) (hi := hi) (lo := lo) hb).obj hc4 hU4 q4_dk (by decide) (by decide) (by decide)
    have hn5 := hU5.1
    have b_r5 := hn5.2.1
    have b_x5 := hn5.2.2.1
    have b_f5 := hn5.2.2.2.1
    have hdv5 := hU5.2.1
    obtain ⟨ea5, eb5, ec5, ed5, hE5⟩ := hU5.2.2.2
    have hD5 := hdv5.1
    show jj G kF_reduce (d + 6) Q rc rs 136 [some (.ref fr)] [] M5
    exact jj_vret (pc := 136) kF_reduce_d136 rfl (k M5 V5 ⟨hc5, ⟨r_1, px_1, pf_1, py_1, po_1, ps_1, od_1, hU5⟩, q5_dk⟩ (by rw [at5, at4, ot5 a hab, ot4 a (by omega) (by omega), at3, at2]; exact least_div hpos hg) (fun p p1 p2 p3 => by rw [ot5 p p3, ot4 p (by omega) (by omega), ot3 p p2, ot2 p (by omega) (by omega), ot1 p p1]) hf5)
theorem f_reduce {fr a b : Nat} (hG : kG G) (hK : KJI wa la cap N hi lo) (hS : KS M wa la cap N eu dv hi lo dk V) (hF : M fr = some (.inl nF, [.ref (wa a), .ref (wa b), .ref dk])) (ha : a < N) (hb : b < N) (ha7 : 13 ≤ a) (hb7 : 13 ≤ b) (hab : a ≠ b) (hca : cap a = 252) (hcb : cap b = 252) (hla : lc (V a) ≤ 252) (hlb : lc (V b) ≤ 252) (hb0 : V b ≠ 0) (k : ∀ (M' : mheap) (V' : Nat → Int), KS M' wa la cap N eu dv hi lo dk V' → least (V a) (V b) (V' a) (V' b) → (∀ p, 7 ≤ p → p ≠ a → p ≠ b → V' p = V p) → EF M M' wa la N eu dv hi lo → Q (.returned none) M' rc rs) : jj G kF_reduce (d + 6) Q rc rs 0 (jj_ent [.ref fr] 1) [] M := by
  obtain ⟨hI, hN, hcap, hdi⟩ := id hK
  obtain ⟨hc0, ⟨r, px, pf, py, po, ps, od, hU0⟩, hdk0⟩ := id hS
  have hf0 : EF M M wa la N eu dv hi lo := fun _ _ _ _ _ _ => rfl
  obtain ⟨V0, hV0⟩ : ∃ V0, V = V0 := ⟨_, rfl⟩
  rw [hV0] at hc0
  have hn0 := hU0.1
  have b_r0 := hn0.2.1
  have b_x0 := hn0.2.2.1
  have b_f0 := hn0.2.2.2.1
  have hdv0 := hU0.2.1
  obtain ⟨ea0, eb0, ec0, ed0, hE0⟩ := hU0.2.2.2
  have hD0 := hdv0.1
  rw [hV0] at hla hlb hb0 k
  show jj G kF_reduce (d + 6) Q rc rs 0 [some (.ref fr)] [] M
  obtain ⟨Tb_0, tb_0, hTb_0, _, _⟩ := hc0 b (by omega)
  refine jj_aload_n (pc := 0) kF_reduce_d0 rfl ?_
  refine jj_getf (pc := 1) kF_reduce_d1 (kfF_lower hG) hF rfl ?_
  refine jj_getf (pc := 4) kF_reduce_d4 (kfF_W_below hG) hTb_0 rfl ?_
  refine jj_if_eq (pc := 7) (tgt := 24) kF_reduce_d7 (by decide) (fun c0 => ?_) (fun c0 => ?_)
  · skip
    exact f_reduce24 hG hK (hV0 ▸ hS) hF ha hb ha7 hb7 hab hca hcb hla hlb (by have := sg_eq0.mp c0; omega) k
  · skip
    have hneg : V0 b < 0 := by
      rcases (show V0 b < 0 ∨ 0 ≤ V0 b by omega) with e | e
      · exact e
      · exact absurd (sg_eq0.mpr e) c0
    refine jj_aload_n (pc := 10) kF_reduce_d10 rfl ?_
    refine jj_getf (pc := 11) kF_reduce_d11 (kfF_lower hG) hF rfl ?_
    refine jj_callV (pc := 14) (b := (wa b)) (As := []) kF_reduce_d14 (kvF_W_negate hG) (kG_cl hG rfl) rfl hTb_0 rfl rfl rfl (Nat.le_of_ble_eq_true rfl) (Nat.le_of_ble_eq_true rfl) (jj_bare0 rfl) ?_
    refine w_negate hG hI hc0 hb (fun M1 hcx1 hw1 => ?_)
    obtain ⟨V1, hV1⟩ : ∃ W, vup V0 b (-V0 b) = W := ⟨_, rfl⟩
    have hc1 : CW M1 wa la cap N V1 := by rw [← hV1]; exact hcx1
    have at1 : V1 b = -V0 b := by rw [← hV1, vup_at]
    have ot1 : ∀ p, p ≠ b → V1 p = V0 p := fun p hp => by rw [← hV1, vup_ne _ _ hp]
    have hU1 := hU0.wt hc0 hdi hb hw1
    have hf1 := hf0.trans (hw1.ef hb)
    have q1_fr := (hw1.ef (eu := eu) (dv := dv) (hi := hi) (lo := lo) hb).obj hc0 hU0 hF (by decide) (by decide) (by decide)
    have q1_dk := (hw1.ef (eu := eu) (dv := dv) (hi := hi) (lo := lo) hb).obj hc0 hU0 hdk0 (by decide) (by decide) (by decide)
    have hn1 := hU1.1
    have b_r1 := hn1.2.1
    have b_x1 := hn1.2.2.1
    have b_f1 := hn1.2.2.2.1
    have hdv1 := hU1.2.1
    obtain ⟨ea1, eb1, ec1, ed1, hE1⟩ := hU1.2.2.2
    have hD1 := hdv1.1
    show jj G kF_reduce (d + 6) Q rc rs 17 [some (.ref fr)] [] M1
    obtain ⟨Ta_1, ta_1, hTa_1, _, _⟩ := hc1 a (by omega)
    refine jj_aload_n (pc := 17) kF_reduce_d17 rfl ?_
    refine jj_getf (pc := 18) kF_reduce_d18 (kfF_upper hG) q1_fr rfl ?_
    have va1 : V1 a = V0 a := ot1 a hab
    refine jj_callV (pc := 21) (b := (wa a)) (As := []) kF_reduce_d21 (kvF_W_negate hG) (kG_cl hG rfl) rfl hTa_1 rfl rfl rfl (Nat.le_of_ble_eq_true rfl) (Nat.le_of_ble_eq_true rfl) (jj_bare0 rfl) ?_
    refine w_negate hG hI hc1 ha (fun M2 hcx2 hw2 => ?_)
    obtain ⟨V2, hV2⟩ : ∃ W, vup V1 a (-V1 a) = W := ⟨_, rfl⟩
    have hc2 : CW M2 wa la cap N V2 := by rw [← hV2]; exact hcx2
    have at2 : V2 a = -V1 a := by rw [← hV2, vup_at]
    have ot2 : ∀ p, p ≠ a → V2 p = V1 p := fun p hp => by rw [← hV2, vup_ne _ _ hp]
    have hU2 := hU1.wt hc1 hdi ha hw2
    have hf2 := hf1.trans (hw2.ef ha)
    have q2_fr := (hw2.ef (eu := eu) (dv := dv) (hi := hi) (lo := lo) ha).obj hc1 hU1 q1_fr (by decide) (by decide) (by decide)
    have q2_dk := (hw2.ef (eu := eu) (dv := dv) (hi := hi) (lo := lo) ha).obj hc1 hU1 q1_dk (by decide) (by decide) (by decide)
    have hn2 := hU2.1
    have b_r2 := hn2.2.1
    have b_x2 := hn2.2.2.1
    have b_f2 := hn2.2.2.2.1
    have hdv2 := hU2.2.1
    obtain ⟨ea2, eb2, ec2, ed2, hE2⟩ := hU2.2.2.2
    have hD2 := hdv2.1
    show jj G kF_reduce (d + 6) Q rc rs 24 [some (.ref fr)] [] M2
    have vb2 : V2 b = -V0 b := by rw [ot2 b (Ne.symm hab), at1]
    have va2 : V2 a = -V0 a := by rw [at2, va1]
    have lneg : ∀ z : Int, lc (-z) ≤ lc z := fun z => lc_mono (by omega)
    refine f_reduce24 hG hK ⟨hc2, ⟨r, px, pf, py, po, ps, od, hU2⟩, q2_dk⟩ q2_fr ha hb ha7 hb7 hab hca hcb (by rw [va2]; exact Nat.le_trans (lneg _) hla) (by rw [vb2]; exact Nat.le_trans (lneg _) hlb) (by omega) (fun M' V' hS' hL hO hF' => k M' V' hS' ?_ (fun p p1 p2 p3 => by rw [hO p p1 p2 p3, ot2 p p2, ot1 p p3]) (hf2.trans hF'))
    rw [va2, vb2] at hL
    exact least_neg hL
end F1
