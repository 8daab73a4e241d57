/-! ===== Fraction: divideBy (printed by wip/gen/rF2.py) ===== -/
theorem least_by {a b u g x y : Int} (h : Nat.gcd a.natAbs b.natAbs = 1) (hb : 0 < b) (hu : 0 < u) (hg : g = (Nat.gcd a.natAbs u.natAbs : Nat)) (hx : x = a.tdiv g) (hy : y = b * u.tdiv g) : least a (b * u) x y := by
  obtain ⟨h1, h2, h3⟩ := least_div (a := a) (b := u) hu hg
  have hgp : 0 < Nat.gcd a.natAbs u.natAbs := Nat.gcd_pos_of_pos_right _ (by omega)
  have d1 : g ∣ a := by rw [hg]; exact Int.ofNat_dvd_left.mpr (Nat.gcd_dvd_left ..)
  refine ⟨?_, ?_, ?_⟩
  · rw [hy]; exact Int.mul_pos hb h1
  · rw [hx, hy, Int.mul_left_comm, h2, Int.mul_left_comm]
  · rw [hx, hy, Int.natAbs_mul]
    refine Nat.Coprime.mul_right ?_ h3
    have h4 : (a.tdiv g).natAbs ∣ a.natAbs := by
      obtain ⟨q, hq⟩ := d1
      rw [hq, Int.mul_tdiv_cancel_left _ (by omega), Int.natAbs_mul]
      exact ⟨_, Nat.mul_comm _ _⟩
    exact Nat.Coprime.coprime_dvd_left h4 h
theorem lc_bits {z : Int} (h : blen z ≤ 4000) : lc z ≤ 125 := by
  unfold lc
  omega
section F2
variable {G : jg} {d : Nat} {Q : jq} {rc rs : Nat} {M : mheap} {wa la cap : Nat → Nat} {N eu dv hi lo dk : Nat} {V : Nat → Int}
theorem f_divideBy {fr a b u : Nat} (hG : kG G) (hK : KJI wa la cap N hi lo) (hS : KS M wa la cap N eu dv hi lo dk V) (hF : M fr = some (.inl nF, [.ref (wa a), .ref (wa b), .ref dk])) (ha : a < N) (hb : b < N) (ha7 : 13 ≤ a) (hb7 : 13 ≤ b) (hab : a ≠ b) (hca : cap a = 252) (hcb : cap b = 252) (hu : u < N) (hu7 : 13 ≤ u) (hua : u ≠ a) (hub : u ≠ b) (hrc : 1 ≤ rc) (hrs : 6 ≤ rs) (hla : lc (V a) ≤ 252) (hlb : blen (V b) ≤ 4000) (hlu : lc (V u) ≤ 125) (hpos : 0 < V b) (hupos : 0 < V u) (hgcd : Nat.gcd (V a).natAbs (V b).natAbs = 1) (k : ∀ (M' : mheap) (V' : Nat → Int), KS M' wa la cap N eu dv hi lo dk V' → least (V a) (V b * V u) (V' a) (V' b) → (∀ p, 7 ≤ p → p ≠ 7 → p ≠ a → p ≠ b → V' p = V p) → EF M M' wa la N eu dv hi lo → blen (V' b) ≤ 4000 → Q (.returned none) M' rc rs) (kt : ∀ (M' : mheap) (V' : Nat → Int), KS M' wa la cap N eu dv hi lo dk V' → least (V a) (V b * V u) (V' a) (V' b) → (∀ p, 7 ≤ p → p ≠ 7 → p ≠ a → p ≠ b → V' p = V p) → EF M M' wa la N eu dv hi lo → 4000 < blen (V' b) → ∀ x, M' x = none → Q (.threw x) (jj_up M' x (.inl 6, [])) (rc - 1) (rs - 6)) : jj G kF_divideBy (d + 8) Q rc rs 0 (jj_ent [.ref fr, .ref (wa u)] 2) [] M := by
  obtain ⟨hI, hN, hcap, hdi⟩ := id hK
  obtain ⟨hc0, ⟨r, px, pf, py, po, ps, od, hU0⟩, hdk0⟩ := id hS
  have hf0 : EF M M wa la N eu dv hi lo := fun _ _ _ _ _ _ => rfl
  obtain ⟨V0, hV0⟩ : ∃ V0, V = V0 := ⟨_, rfl⟩
  rw [hV0] at hc0
  have hn0 := hU0.1
  have b_r0 := hn0.2.1
  have b_x0 := hn0.2.2.1
  have b_f0 := hn0.2.2.2.1
  have hdv0 := hU0.2.1
  obtain ⟨ea0, eb0, ec0, ed0, hE0⟩ := hU0.2.2.2
  have hD0 := hdv0.1
  rw [hV0] at hla hlb hlu hpos hupos hgcd k kt
  show jj G kF_divideBy (d + 8) Q rc rs 0 [some (.ref fr), some (.ref (wa u))] [] M
  refine jj_aload_n (pc := 0) kF_divideBy_d0 rfl ?_
  refine jj_getf (pc := 1) kF_divideBy_d1 (kfF_desk hG) hF rfl ?_
  refine jj_getf (pc := 4) kF_divideBy_d4 (kfF_K_euclid hG) hdk0 rfl ?_
  refine jj_aload_n (pc := 7) kF_divideBy_d7 rfl ?_
  refine jj_getf (pc := 8) kF_divideBy_d8 (kfF_upper hG) hF rfl ?_
  refine jj_aload_n (pc := 11) kF_divideBy_d11 rfl ?_
  refine jn_iconst (pc := 12) 0 kF_divideBy_d12 (by decide) ?_
  refine jj_callV (pc := 13) (b := eu) (As := [.ref (wa a), .ref (wa u), .int (nI (0))]) kF_divideBy_d13 (kvF_U_run hG) (kG_cl hG rfl) rfl hE0 rfl rfl rfl (Nat.le_of_ble_eq_true rfl) (Nat.le_of_ble_eq_true rfl) (jj_bare0 rfl) ?_
  refine u_run hG hI hc0 (by omega) (fun p hp => hcap p (by omega)) hdi hU0 (by omega) ha (by omega) hu (by omega) hla (by omega) (fun h => absurd h (by omega)) (fun M1 V1 r_1 px_1 pf_1 py_1 po_1 ps_1 od_1 hc1 ot1 hU1 gx1 gf1 hw1 => ?_)
  have hf1 := hf0.trans hw1
  have q1_fr := hw1.obj hc0 hU0 hF (by decide) (by decide) (by decide)
  have q1_dk := hw1.obj hc0 hU0 hdk0 (by decide) (by decide) (by decide)
  have hn1 := hU1.1
  have b_r1 := hn1.2.1
  have b_x1 := hn1.2.2.1
  have b_f1 := hn1.2.2.2.1
  have hdv1 := hU1.2.1
  obtain ⟨ea1, eb1, ec1, ed1, hE1⟩ := hU1.2.2.2
  have hD1 := hdv1.1
  show jj G kF_divideBy (d + 8) Q rc rs 16 [some (.ref fr), some (.ref (wa u))] [] M1
  have va1 : V1 a = V0 a := ot1 a (by omega)
  have vu1 : V1 u = V0 u := ot1 u (by omega)
  have vb1 : V1 b = V0 b := ot1 b (by omega)
  obtain ⟨g, hg⟩ : ∃ g : Int, g = (Nat.gcd (V0 a).natAbs (V0 u).natAbs : Nat) := ⟨_, rfl⟩
  rw [← hg] at gx1
  have lq : ∀ z : Int, lc (z.tdiv g) ≤ lc z := fun z => lc_mono (by rw [Int.natAbs_tdiv]; exact Nat.div_le_self _ _)
  have lw : ∀ (z : Int) (n : Nat), lc z ≤ n → z.natAbs < BB ^ n := fun z n hz => Nat.lt_of_lt_of_le (lc_lt z) (Nat.pow_le_pow_right (by decide) hz)
  have hlb5 := lc_bits hlb
  refine jj_aload_n (pc := 16) kF_divideBy_d16 rfl ?_
  refine jj_getf (pc := 17) kF_divideBy_d17 (kfF_desk hG) q1_fr rfl ?_
  refine jj_getf (pc := 20) kF_divideBy_d20 (kfF_K_divider hG) q1_dk rfl ?_
  refine jj_aload_n (pc := 23) kF_divideBy_d23 rfl ?_
  refine jj_getf (pc := 24) kF_divideBy_d24 (kfF_upper hG) q1_fr rfl ?_
  refine jj_aload_n (pc := 27) kF_divideBy_d27 rfl ?_
  refine jj_getf (pc := 28) kF_divideBy_d28 (kfF_desk hG) q1_fr rfl ?_
  refine jj_getf (pc := 31) kF_divideBy_d31 (kfF_K_euclid hG) q1_dk rfl ?_
  refine jj_getf (pc := 34) kF_divideBy_d34 (kfF_U_x hG) hE1 rfl ?_
  refine jj_callV (pc := 37) (b := dv) (As := [.ref (wa a), .ref (wa px_1)]) kF_divideBy_d37 (kvF_D_divide hG) (kG_cl hG rfl) rfl hD1 rfl rfl rfl (Nat.le_of_ble_eq_true rfl) (Nat.le_of_ble_eq_true rfl) (jj_bare0 rfl) ?_
  refine d_divide hG hI hc1 hdv1 hdi (by omega) (by omega) ha (by omega) hn1.nqr (by omega) hn1.nqx (by omega) hn1.nrx (by rw [va1]; exact hla) (by rw [hcap 0 (by omega)]; exact (by rw [va1]; exact hla)) (by rw [hcap r_1 (by omega)]; exact (by rw [va1]; exact hla)) (fun M2 hcx2 hdx2 hw2 => ?_)
  obtain ⟨V2, hV2⟩ : ∃ W, vup (vup V1 0 ((V1 a).tdiv (V1 px_1))) r_1 ((V1 a).tmod (V1 px_1)) = W := ⟨_, rfl⟩
  have hc2 : CW M2 wa la cap N V2 := by rw [← hV2]; exact hcx2
  have at2 : V2 0 = (V1 a).tdiv (V1 px_1) := by rw [← hV2, vup_ne _ _ hn1.nqr, vup_at]
  have rt2 : V2 r_1 = (V1 a).tmod (V1 px_1) := by rw [← hV2, vup_at]
  have ot2 : ∀ p, p ≠ 0 → p ≠ r_1 → V2 p = V1 p := fun p h1 h2 => by rw [← hV2, vup_ne _ _ h2, vup_ne _ _ h1]
  have hU2 := hU1.div hc1 hdx2 hw2
  have hf2 := hf1.trans (hw2.ef (eu := eu) (dv := dv))
  have q2_fr := (hw2.ef (eu := eu) (dv := dv)).obj hc1 hU1 q1_fr (by decide) (by decide) (by decide)
  have q2_dk := (hw2.ef (eu := eu) (dv := dv)).obj hc1 hU1 q1_dk (by decide) (by decide) (by decide)
  have hn2 := hU2.1
  have b_r2 := hn2.2.1
  have b_x2 := hn2.2.2.1
  have b_f2 := hn2.2.2.2.1
  have hdv2 := hU2.2.1
  obtain ⟨ea2, eb2, ec2, ed2, hE2⟩ := hU2.2.2.2
  have hD2 := hdv2.1
  show jj G kF_divideBy (d + 8) Q rc rs 40 [some (.ref fr), some (.ref (wa u))] [] M2
  rw [va1, gx1] at at2
  obtain ⟨Ta_2, ta_2, hTa_2, _, _⟩ := hc2 a (by omega)
  refine jj_aload_n (pc := 40) kF_divideBy_d40 rfl ?_
  refine jj_getf (pc := 41) kF_divideBy_d41 (kfF_upper hG) q2_fr rfl ?_
  refine jj_aload_n (pc := 44) kF_divideBy_d44 rfl ?_
  refine jj_getf (pc := 45) kF_divideBy_d45 (kfF_desk hG) q2_fr rfl ?_
  refine jj_getf (pc := 48) kF_divideBy_d48 (kfF_K_divider hG) q2_dk rfl ?_
  refine jj_getf (pc := 51) kF_divideBy_d51 (kfF_D_quotient hG) hD2 rfl ?_
  refine jj_callV (pc := 54) (b := (wa a)) (As := [.ref (wa 0)]) kF_divideBy_d54 (kvF_W_copy hG) (kG_cl hG rfl) rfl hTa_2 rfl rfl rfl (Nat.le_of_ble_eq_true rfl) (Nat.le_of_ble_eq_true rfl) (jj_bare0 rfl) ?_
  refine w_copy hG hI hc2 ha (by omega : 0 < N) (by rw [at2, hca]; exact lw _ _ (Nat.le_trans (lq _) hla)) (fun M3 hcx3 hw3  => ?_) 
  obtain ⟨V3, hV3⟩ : ∃ W, vup V2 a (V2 0) = W := ⟨_, rfl⟩
  have hc3 : CW M3 wa la cap N V3 := by rw [← hV3]; exact hcx3
  have at3 : V3 a = V2 0 := by rw [← hV3, vup_at]
  have ot3 : ∀ p, p ≠ a → V3 p = V2 p := fun p hp => by rw [← hV3, vup_ne _ _ hp]
  have hU3 := hU2.wt hc2 hdi ha hw3
  have hf3 := hf2.trans (hw3.ef ha)
  have q3_fr := (hw3.ef (eu := eu) (dv := dv) (hi := hi) (lo := lo) ha).obj hc2 hU2 q2_fr (by decide) (by decide) (by decide)
  have q3_dk := (hw3.ef (eu := eu) (dv := dv) (hi := hi) (lo := lo) ha).obj hc2 hU2 q2_dk (by decide) (by decide) (by decide)
  have hn3 := hU3.1
  have b_r3 := hn3.2.1
  have b_x3 := hn3.2.2.1
  have b_f3 := hn3.2.2.2.1
  have hdv3 := hU3.2.1
  obtain ⟨ea3, eb3, ec3, ed3, hE3⟩ := hU3.2.2.2
  have hD3 := hdv3.1
  show jj G kF_divideBy (d + 8) Q rc rs 57 [some (.ref fr), some (.ref (wa u))] [] M3
  have vu3 : V3 u = V0 u := by rw [ot3 u hua, ot2 u (by omega) (by omega)]; exact vu1
  have vx3 : V3 px_1 = g := by rw [ot3 _ (by omega), ot2 _ (Ne.symm hn1.nqx) (Ne.symm hn1.nrx)]; exact gx1
  refine jj_aload_n (pc := 57) kF_divideBy_d57 rfl ?_
  refine jj_getf (pc := 58) kF_divideBy_d58 (kfF_desk hG) q3_fr rfl ?_
  refine jj_getf (pc := 61) kF_divideBy_d61 (kfF_K_divider hG) q3_dk rfl ?_
  refine jj_aload_n (pc := 64) kF_divideBy_d64 rfl ?_
  refine jj_aload_n (pc := 65) kF_divideBy_d65 rfl ?_
  refine jj_getf (pc := 66) kF_divideBy_d66 (kfF_desk hG) q3_fr rfl ?_
  refine jj_getf (pc := 69) kF_divideBy_d69 (kfF_K_euclid hG) q3_dk rfl ?_
  refine jj_getf (pc := 72) kF_divideBy_d72 (kfF_U_x hG) hE3 rfl ?_
  refine jj_callV (pc := 75) (b := dv) (As := [.ref (wa u), .ref (wa px_1)]) kF_divideBy_d75 (kvF_D_divide hG) (kG_cl hG rfl) rfl hD3 rfl rfl rfl (Nat.le_of_ble_eq_true rfl) (Nat.le_of_ble_eq_true rfl) (jj_bare0 rfl) ?_
  refine d_divide hG hI hc3 hdv3 hdi (by omega) (by omega) hu (by omega) hn3.nqr (by omega) hn1.nqx (by omega) hn1.nrx (by rw [vu3]; omega) (by rw [hcap 0 (by omega)]; exact (by rw [vu3]; omega)) (by rw [hcap r_1 (by omega)]; exact (by rw [vu3]; omega)) (fun M4 hcx4 hdx4 hw4 => ?_)
  obtain ⟨V4, hV4⟩ : ∃ W, vup (vup V3 0 ((V3 u).tdiv (V3 px_1))) r_1 ((V3 u).tmod (V3 px_1)) = W := ⟨_, rfl⟩
  have hc4 : CW M4 wa la cap N V4 := by rw [← hV4]; exact hcx4
  have at4 : V4 0 = (V3 u).tdiv (V3 px_1) := by rw [← hV4, vup_ne _ _ hn3.nqr, vup_at]
  have rt4 : V4 r_1 = (V3 u).tmod (V3 px_1) := by rw [← hV4, vup_at]
  have ot4 : ∀ p, p ≠ 0 → p ≠ r_1 → V4 p = V3 p := fun p h1 h2 => by rw [← hV4, vup_ne _ _ h2, vup_ne _ _ h1]
  have hU4 := hU3.div hc3 hdx4 hw4
  have hf4 := hf3.trans (hw4.ef (eu := eu) (dv := dv))
  have q4_fr := (hw4.ef (eu := eu) (dv := dv)).obj hc3 hU3 q3_fr (by decide) (by decide) (by decide)
  have q4_dk := (hw4.ef (eu := eu) (dv := dv)).obj hc3 hU3 q3_dk (by decide) (by decide) (by decide)
  have hn4 := hU4.1
  have b_r4 := hn4.2.1
  have b_x4 := hn4.2.2.1
  have b_f4 := hn4.2.2.2.1
  have hdv4 := hU4.2.1
  obtain ⟨ea4, eb4, ec4, ed4, hE4⟩ := hU4.2.2.2
  have hD4 := hdv4.1
  show jj G kF_divideBy (d + 8) Q rc rs 78 [some (.ref fr), some (.ref (wa u))] [] M4
  rw [vu3, vx3] at at4
  obtain ⟨T7_4, t7_4, hT7_4, _, _⟩ := hc4 7 (by omega)
  refine jj_aload_n (pc := 78) kF_divideBy_d78 rfl ?_
  refine jj_getf (pc := 79) kF_divideBy_d79 (kfF_desk hG) q4_fr rfl ?_
  refine jj_getf (pc := 82) kF_divideBy_d82 (kfF_K_left hG) q4_dk rfl ?_
  refine jj_aload_n (pc := 85) kF_divideBy_d85 rfl ?_
  refine jj_getf (pc := 86) kF_divideBy_d86 (kfF_lower hG) q4_fr rfl ?_
  refine jj_aload_n (pc := 89) kF_divideBy_d89 rfl ?_
  refine jj_getf (pc := 90) kF_divideBy_d90 (kfF_desk hG) q4_fr rfl ?_
  refine jj_getf (pc := 93) kF_divideBy_d93 (kfF_K_divider hG) q4_dk rfl ?_
  refine jj_getf (pc := 96) kF_divideBy_d96 (kfF_D_quotient hG) hD4 rfl ?_
  have vb4 : V4 b = V0 b := by rw [ot4 b (by omega) (by omega), ot3 b (Ne.symm hab), ot2 b (by omega) (by omega)]; exact vb1
  have lq4 := lq (V0 u)
  refine jj_callV (pc := 99) (b := (wa 7)) (As := [.ref (wa b), .ref (wa 0)]) kF_divideBy_d99 (kvF_W_product hG) (kG_cl hG rfl) rfl hT7_4 rfl rfl rfl (Nat.le_of_ble_eq_true rfl) (Nat.le_of_ble_eq_true rfl) (jj_bare0 rfl) ?_
  refine w_product hG hI hc4 (by omega : 7 < N) hb (by omega : 0 < N) (by omega) (by omega) (by rw [hcap 7 (by omega), vb4, at4]; omega) (fun M5 hcx5 hw5  => ?_) 
  obtain ⟨V5, hV5⟩ : ∃ W, vup V4 7 (V4 b * V4 0) = W := ⟨_, rfl⟩
  have hc5 : CW M5 wa la cap N V5 := by rw [← hV5]; exact hcx5
  have at5 : V5 7 = V4 b * V4 0 := by rw [← hV5, vup_at]
  have ot5 : ∀ p, p ≠ 7 → V5 p = V4 p := fun p hp => by rw [← hV5, vup_ne _ _ hp]
  have hU5 := hU4.wt hc4 hdi (by omega) hw5
  have hf5 := hf4.trans (hw5.ef (by omega))
  have q5_fr := (hw5.ef (eu := eu) (dv := dv) (hi := hi) (lo := lo) (by omega)).obj hc4 hU4 q4_fr (by decide) (by decide) (by decide)
  have q5_dk := (hw5.ef (eu := eu) (dv := dv) (hi := hi) (lo := lo) (by omega)).obj hc4 hU4 q4_dk (by decide) (by decide) (by decide)
  have hn5 := hU5.1
  have b_r5 := hn5.2.1
  have b_x5 := hn5.2.2.1
  have b_f5 := hn5.2.2.2.1
  have hdv5 := hU5.2.1
  obtain ⟨ea5, eb5, ec5, ed5, hE5⟩ := hU5.2.2.2
  have hD5 := hdv5.1
  show jj G kF_divideBy (d + 8) Q rc rs 102 [some (.ref fr), some (.ref (wa u))] [] M5
  rw [vb4, at4] at at5
  have l7 : (V5 7).natAbs < BB ^ 252 := by
    have := hc5.wide (p := 7) (by omega)
    rw [hcap 7 (by omega)] at this
    exact this
  obtain ⟨Tb_5, tb_5, hTb_5, _, _⟩ := hc5 b (by omega)
  refine jj_aload_n (pc := 102) kF_divideBy_d102 rfl ?_
  refine jj_getf (pc := 103) kF_divideBy_d103 (kfF_lower hG) q5_fr rfl ?_
  refine jj_aload_n (pc := 106) kF_divideBy_d106 rfl ?_
  refine jj_getf (pc := 107) kF_divideBy_d107 (kfF_desk hG) q5_fr rfl ?_
  refine jj_getf (pc := 110) kF_divideBy_d110 (kfF_K_left hG) q5_dk rfl ?_
  refine jj_callV (pc := 113) (b := (wa b)) (As := [.ref (wa 7)]) kF_divideBy_d113 (kvF_W_copy hG) (kG_cl hG rfl) rfl hTb_5 rfl rfl rfl (Nat.le_of_ble_eq_true rfl) (Nat.le_of_ble_eq_true rfl) (jj_bare0 rfl) ?_
  refine w_copy hG hI hc5 hb (by omega : 7 < N) (by rw [hcb]; exact l7) (fun M6 hcx6 hw6  => ?_) 
  obtain ⟨V6, hV6⟩ : ∃ W, vup V5 b (V5 7) = W := ⟨_, rfl⟩
  have hc6 : CW M6 wa la cap N V6 := by rw [← hV6]; exact hcx6
  have at6 : V6 b = V5 7 := by rw [← hV6, vup_at]
  have ot6 : ∀ p, p ≠ b → V6 p = V5 p := fun p hp => by rw [← hV6, vup_ne _ _ hp]
  have hU6 := hU5.wt hc5 hdi hb hw6
  have hf6 := hf5.trans (hw6.ef hb)
  have q6_fr := (hw6.ef (eu := eu) (dv := dv) (hi := hi) (lo := lo) hb).obj hc5 hU5 q5_fr (by decide) (by decide) (by decide)
  have q6_dk := (hw6.ef (eu := eu) (dv := dv) (hi := hi) (lo := lo) hb).obj hc5 hU5 q5_dk (by decide) (by decide) (by decide)
  have hn6 := hU6.1
  have b_r6 := hn6.2.1
  have b_x6 := hn6.2.2.1
  have b_f6 := hn6.2.2.2.1
  have hdv6 := hU6.2.1
  obtain ⟨ea6, eb6, ec6, ed6, hE6⟩ := hU6.2.2.2
  have hD6 := hdv6.1
  show jj G kF_divideBy (d + 8) Q rc rs 116 [some (.ref fr), some (.ref (wa u))] [] M6
  have hL6 : least (V0 a) (V0 b * V0 u) (V6 a) (V6 b) := least_by hgcd hpos hupos hg (by rw [ot6 a hab, ot5 a (by omega), ot4 a (by omega) (by omega), at3, at2]) (by rw [at6, at5])
  have hO6 : ∀ p, 7 ≤ p → p ≠ 7 → p ≠ a → p ≠ b → V6 p = V0 p := fun p p1 p2 p3 p4 => by rw [ot6 p p4, ot5 p p2, ot4 p (by omega) (by omega), ot3 p p3, ot2 p (by omega) (by omega), ot1 p p1]
  have hB6 : blen (V6 b) < 2 ^ 31 := by
    have h1 := hc6.lc hb
    have h2 := hI.2.2 b hb
    have h3 : (blen (V6 b) + 31) / 32 ≤ cap b := h1
    omega
  obtain ⟨Tb_6, tb_6, hTb_6, _, _⟩ := hc6 b (by omega)
  refine jj_aload_n (pc := 116) kF_divideBy_d116 rfl ?_
  refine jj_getf (pc := 117) kF_divideBy_d117 (kfF_lower hG) q6_fr rfl ?_
  refine jj_callV (pc := 120) (b := (wa b)) (As := []) kF_divideBy_d120 (kvF_W_bits hG) (kG_cl hG rfl) rfl hTb_6 rfl rfl rfl (Nat.le_of_ble_eq_true rfl) (Nat.le_of_ble_eq_true rfl) (jj_bare0 rfl) ?_
  refine w_bits hG hI hc6 hb ?_
  show jj G kF_divideBy (d + 8) Q rc rs 123 [some (.ref fr), some (.ref (wa u))] [.int (nI (blen (V6 b)))] M6
  refine jn_sipush (pc := 123) 4000 kF_divideBy_d123 (by decide) ?_
  refine jn_icmp_le (pc := 126) (tgt := 139) kF_divideBy_d126 (by decide) (by omega) (by omega) (fun c9 => ?_) (fun c9 => ?_)
  · skip
    exact jj_vret (pc := 139) kF_divideBy_d139 rfl (k M6 V6 ⟨hc6, ⟨r_1, px_1, pf_1, py_1, po_1, ps_1, od_1, hU6⟩, q6_dk⟩ hL6 hO6 hf6 (by omega))
  · skip
    exact jj_throw (pc := 129) (ll := 2) kF_divideBy_d129 kF_divideBy_d132 (Or.inl ⟨kF_divideBy_d133, rfl⟩) kF_divideBy_d135 kF_divideBy_d138 (ktF_a_length_beyond_its_bound hG) rfl (Nat.le_of_ble_eq_true rfl) (jj_bare0 rfl) hrc hrs (fun x hx => kt M6 V6 ⟨hc6, ⟨r_1, px_1, pf_1, py_1, po_1, ps_1, od_1, hU6⟩, q6_dk⟩ hL6 hO6 hf6 (by omega) x hx)
end F2
