/-! ===== Desk: commonDivisor (printed by wip/gen/rK2.py) ===== -/
/-- g is what COMMON and the cells of the rows from i0 on share, as far as two loops have been through -/
def CDV (V : Nat → Int) (b c i0 i j : Nat) (g : Int) : Prop := 0 < g ∧ g ∣ V (b + 256) ∧ (∀ i' j', i0 ≤ i' → thru c i j i' j' → g ∣ V (b + (16 * i' + j'))) ∧ ∀ h : Int, h ∣ V (b + 256) → (∀ i' j', i0 ≤ i' → thru c i j i' j' → h ∣ V (b + (16 * i' + j'))) → h ∣ g
theorem CDV.one {V : Nat → Int} {b c i0 i j : Nat} (h : CDV V b c i0 i j 1) {i2 j2 : Nat} (hm : ∀ i' j', thru c i j i' j' → thru c i2 j2 i' j') : CDV V b c i0 i2 j2 1 := ⟨by decide, ⟨_, (Int.one_mul _).symm⟩, fun _ _ _ _ => ⟨_, (Int.one_mul _).symm⟩, fun x h1 h2 => h.2.2.2 x h1 (fun i' j' a b => h2 i' j' a (hm i' j' b))⟩
theorem CDV.same {V : Nat → Int} {b c i0 i j : Nat} {g : Int} (h : CDV V b c i0 i j g) {i2 j2 : Nat} (hm : ∀ i' j', thru c i j i' j' ↔ thru c i2 j2 i' j') : CDV V b c i0 i2 j2 g := ⟨h.1, h.2.1, fun i' j' a b => h.2.2.1 i' j' a ((hm _ _).2 b), fun x h1 h2 => h.2.2.2 x h1 (fun i' j' a b => h2 i' j' a ((hm i' j').1 b))⟩
theorem thru_next {c i j i' j' : Nat} (hj : j < c) : thru c i (j + 1) i' j' ↔ thru c i j i' j' ∨ (i' = i ∧ j' = j) := by
  unfold thru
  omega
theorem thru_row {c i i' j' : Nat} : thru c i c i' j' ↔ thru c (i + 1) 0 i' j' := by
  unfold thru
  omega
/-- one cell more -/
theorem CDV.next {V : Nat → Int} {b c i0 i j : Nat} {g g' : Int} (h : CDV V b c i0 i j g) (hi : i0 ≤ i) (hj : j < c) (hg : g' = (Nat.gcd (V (b + (16 * i + j))).natAbs g.natAbs : Nat)) : CDV V b c i0 i (j + 1) g' := by
  have h1 : g' ∣ V (b + (16 * i + j)) := by
    rw [hg]; exact Int.ofNat_dvd_left.mpr (Nat.gcd_dvd_left _ _)
  have h2 : g' ∣ g := by
    rw [hg]; exact Int.ofNat_dvd_left.mpr (Nat.gcd_dvd_right _ _)
  have h0 : 0 < g := h.1
  refine ⟨?_, Int.dvd_trans h2 h.2.1, fun i' j' a e => ?_, fun x x1 x2 => ?_⟩
  · rw [hg]
    exact Int.natCast_pos.2 (Nat.gcd_pos_of_pos_right _ (by omega))
  · rcases (thru_next hj).1 e with e | e
    · exact Int.dvd_trans h2 (h.2.2.1 i' j' a e)
    · rw [e.1, e.2]; exact h1
  · have x3 := h.2.2.2 x x1 (fun i' j' a e => x2 i' j' a ((thru_next hj).2 (Or.inl e)))
    have x4 := x2 i j hi ((thru_next hj).2 (Or.inr ⟨rfl, rfl⟩))
    rw [hg]
    exact Int.ofNat_dvd_right.mpr (Nat.dvd_gcd (Int.natAbs_dvd_natAbs.2 x4) (Int.natAbs_dvd_natAbs.2 x3))
/-- a cell of 0 -/
theorem CDV.zero {V : Nat → Int} {b c i0 i j : Nat} {g : Int} (h : CDV V b c i0 i j g) (hj : j < c) (hz : V (b + (16 * i + j)) = 0) : CDV V b c i0 i (j + 1) g := by
  refine ⟨h.1, h.2.1, fun i' j' a e => ?_, fun x x1 x2 => h.2.2.2 x x1 (fun i' j' a e => x2 i' j' a ((thru_next hj).2 (Or.inl e)))⟩
  rcases (thru_next hj).1 e with e | e
  · exact h.2.2.1 i' j' a e
  · rw [e.1, e.2, hz]; exact ⟨0, (Int.mul_zero _).symm⟩
theorem CDV.uniq {V : Nat → Int} {b c i0 i j : Nat} {g g' : Int} (h : CDV V b c i0 i j g) (h' : CDV V b c i0 i j g') : g = g' := by
  have h1 := h'.2.2.2 g h.2.1 h.2.2.1
  have h2 := h.2.2.2 g' h'.2.1 h'.2.2.1
  have p1 := h.1
  have p2 := h'.1
  exact Int.dvd_antisymm (by omega) (by omega) h1 h2
theorem lc_pos {z : Int} (h : 0 < lc z) : z ≠ 0 := fun e => by rw [e, lc_0] at h; omega
theorem lc_nil {z : Int} (h : lc z ≤ 0) : z = 0 := by
  have := lc_lt z
  rw [show lc z = 0 by omega, Nat.pow_zero] at this
  omega
section K2
variable {G : jg} {d : Nat} {Q : jq} {rc rs : Nat} {M : mheap} {wa la cap : Nat → Nat} {N eu dv hi lo dk : Nat} {V : Nat → Int}
theorem k_common {mx ar b r c i0 i1 : Nat} (hG : kG G) (hK : KJI wa la cap N hi lo) (hS : KS M wa la cap N eu dv hi lo dk V) (hM : MXT M wa mx ar b r c) (hb : b + 256 < N) (hb7 : 13 ≤ b) (hcp : ∀ p, b ≤ p → p ≤ b + 256 → cap p ≤ 252) (hcc : c ≤ 16) (h01 : i0 ≤ i1) (h16 : i1 ≤ 16) (hpos : 0 < V (b + 256)) (k : ∀ (M' : mheap) (V' : Nat → Int), KS M' wa la cap N eu dv hi lo dk V' → CDV V b c i0 i1 0 (V' 10) → (∀ p, 7 ≤ p → p ≠ 10 → V' p = V p) → EF M M' wa la N eu dv hi lo → Q (.returned none) M' rc rs) : jj G kK_commonDivisor (d + 6) Q rc rs 0 (jj_ent [.ref dk, .ref mx, .int (nI i0), .int (nI i1)] 6) [] M := by
  have hm := hM.1
  have hlb : ∀ (M9 : mheap) (V9 : Nat → Int) (p : Nat), CW M9 wa la cap N V9 → b ≤ p → p ≤ b + 256 → lc (V9 p) ≤ 252 := fun M9 V9 p h h1 h2 => Nat.le_trans (h.lc (by omega)) (hcp p h1 h2)
  obtain ⟨hI, hN, hcap, hdi⟩ := id hK
  obtain ⟨hc0, ⟨r_a, px_a, pf_a, py_a, po_a, ps_a, od_a, hU0⟩, hdk0⟩ := id hS
  have hf0 : EF M M wa la N eu dv hi lo := fun _ _ _ _ _ _ => rfl
  obtain ⟨V0, hV0⟩ : ∃ V0, V = V0 := ⟨_, rfl⟩
  rw [hV0] at hc0
  have hn0 := hU0.1
  have b_r0 := hn0.2.1
  have b_x0 := hn0.2.2.1
  have b_f0 := hn0.2.2.2.1
  have hdv0 := hU0.2.1
  obtain ⟨ea0, eb0, ec0, ed0, hE0⟩ := hU0.2.2.2
  have hD0 := hdv0.1
  show jj G kK_commonDivisor (d + 6) Q rc rs 0 [some (.ref dk), some (.ref mx), some (.int (nI (i0))), some (.int (nI (i1))), none, none] [] M
  obtain ⟨T10_0, t10_0, hT10_0, _, _⟩ := hc0 10 (by omega)
  refine jj_aload_n (pc := 0) kK_commonDivisor_d0 rfl ?_
  refine jj_getf (pc := 1) kK_commonDivisor_d1 (kfK_divisor hG) hdk0 rfl ?_
  refine jj_aload_n (pc := 4) kK_commonDivisor_d4 rfl ?_
  refine jj_getf (pc := 5) kK_commonDivisor_d5 (kfK_M_common hG) hm rfl ?_
  refine jj_callV (pc := 8) (b := (wa 10)) (As := [.ref (wa (b + 256))]) kK_commonDivisor_d8 (kvK_W_copy hG) (kG_cl hG rfl) rfl hT10_0 rfl rfl rfl (Nat.le_of_ble_eq_true rfl) (Nat.le_of_ble_eq_true rfl) (jj_bare0 rfl) ?_
  refine w_copy hG hI hc0 (by omega : 10 < N) hb (Nat.lt_of_lt_of_le (lc_lt _) (Nat.pow_le_pow_right (by decide) (by rw [hcap 10 (by omega)]; exact hlb _ _ _ hc0 (by omega) (by omega)))) (fun M1 hcx1 hw1  => ?_) 
  obtain ⟨V1, hV1⟩ : ∃ W, vup V0 10 (V0 (b + 256)) = W := ⟨_, rfl⟩
  have hc1 : CW M1 wa la cap N V1 := by rw [← hV1]; exact hcx1
  have at1 : V1 10 = V0 (b + 256) := by rw [← hV1, vup_at]
  have ot1 : ∀ p, p ≠ 10 → V1 p = V0 p := fun p hp => by rw [← hV1, vup_ne _ _ hp]
  have hU1 := hU0.wt hc0 hdi (by omega) hw1
  have hf1 := hf0.trans (hw1.ef (by omega))
  have q1_mx := (hw1.ef (eu := eu) (dv := dv) (hi := hi) (lo := lo) (by omega)).obj hc0 hU0 hm (by decide) (by decide) (by decide)
  have q1_dk := (hw1.ef (eu := eu) (dv := dv) (hi := hi) (lo := lo) (by omega)).obj hc0 hU0 hdk0 (by decide) (by decide) (by decide)
  have hn1 := hU1.1
  have b_r1 := hn1.2.1
  have b_x1 := hn1.2.2.1
  have b_f1 := hn1.2.2.2.1
  have hdv1 := hU1.2.1
  obtain ⟨ea1, eb1, ec1, ed1, hE1⟩ := hU1.2.2.2
  have hD1 := hdv1.1
  show jj G kK_commonDivisor (d + 6) Q rc rs 11 [some (.ref dk), some (.ref mx), some (.int (nI (i0))), some (.int (nI (i1))), none, none] [] M1
  refine jj_iload_n (pc := 11) kK_commonDivisor_d11 rfl ?_
  refine jj_istore (pc := 12) kK_commonDivisor_d12 (Nat.le_of_ble_eq_true rfl) ?_
  show jj G kK_commonDivisor (d + 6) Q rc rs 14 [some (.ref dk), some (.ref mx), some (.int (nI (i0))), some (.int (nI (i1))), some (.int (nI (i0))), none] [] M1
  show jj G kK_commonDivisor (d + 6) Q rc rs 14 [some (.ref dk), some (.ref mx), some (.int (nI (i0))), some (.int (nI (i1))), some (.int (nI (i0))), none] [] M1
  have outer : ∀ mu i, i1 = i + mu → i0 ≤ i → ∀ (oj : Option Value) (M9 : mheap) (V9 : Nat → Int), KS M9 wa la cap N eu dv hi lo dk V9 → CDV V b c i0 i 0 (V9 10) → (∀ p, 7 ≤ p → p ≠ 10 → V9 p = V p) → EF M M9 wa la N eu dv hi lo → jj G kK_commonDivisor (d + 6) Q rc rs 14 [some (.ref dk), some (.ref mx), some (.int (nI (i0))), some (.int (nI (i1))), some (.int (nI (i))), (oj)] [] M9 := by
    intro mu
    induction mu with
    | zero =>
      intro i hk hk0 oj M9 V9 hS9 g9 o9 f9
      have e9 : i1 = i := by omega
      subst e9
      refine jj_iload (pc := 14) kK_commonDivisor_d14 rfl ?_
      refine jj_iload_n (pc := 16) kK_commonDivisor_d16 rfl ?_
      refine jn_icmp_ge (pc := 17) (tgt := 112) kK_commonDivisor_d17 (by decide) (by omega) (by omega) (fun _ => ?_) (fun c => by exfalso; omega)
      exact jj_vret (pc := 112) kK_commonDivisor_d112 rfl (k M9 V9 hS9 g9 o9 f9)
    | succ mu ih =>
      intro i hk hk0 oj M9 V9 hS9 g9 o9 f9
      have hM9 := hM.ef hS f9
      have hm9 := hM9.1
      obtain ⟨hc0, ⟨r_b, px_b, pf_b, py_b, po_b, ps_b, od_b, hU0⟩, hdk0⟩ := id hS9
      have hf0 : EF M9 M9 wa la N eu dv hi lo := fun _ _ _ _ _ _ => rfl
      obtain ⟨V0, hV0⟩ : ∃ V0, V9 = V0 := ⟨_, rfl⟩
      rw [hV0] at hc0
      have hn0 := hU0.1
      have b_r0 := hn0.2.1
      have b_x0 := hn0.2.2.1
      have b_f0 := hn0.2.2.2.1
      have hdv0 := hU0.2.1
      obtain ⟨ea0, eb0, ec0, ed0, hE0⟩ := hU0.2.2.2
      have hD0 := hdv0.1
      rw [hV0] at g9 o9
      show jj G kK_commonDivisor (d + 6) Q rc rs 14 [some (.ref dk), some (.ref mx), some (.int (nI (i0))), some (.int (nI (i1))), some (.int (nI (i))), (oj)] [] M9
      refine jj_iload (pc := 14) kK_commonDivisor_d14 rfl ?_
      refine jj_iload_n (pc := 16) kK_commonDivisor_d16 rfl ?_
      refine jn_icmp_ge (pc := 17) (tgt := 112) kK_commonDivisor_d17 (by decide) (by omega) (by omega) (fun c => by exfalso; omega) (fun _ => ?_)
      obtain ⟨T10_0, t10_0, hT10_0, _, _⟩ := hc0 10 (by omega)
      refine jj_aload_n (pc := 20) kK_commonDivisor_d20 rfl ?_
      refine jj_getf (pc := 21) kK_commonDivisor_d21 (kfK_divisor hG) hdk0 rfl ?_
      refine jj_callV (pc := 24) (b := (wa 10)) (As := []) kK_commonDivisor_d24 (kvK_W_isOne hG) (kG_cl hG rfl) rfl hT10_0 rfl rfl rfl (Nat.le_of_ble_eq_true rfl) (Nat.le_of_ble_eq_true rfl) (jj_bare0 rfl) ?_
      refine w_isOne hG hI hc0 (by omega) (fun c1 => ?_) (fun c1 => ?_)
      · skip
        show jj G kK_commonDivisor (d + 6) Q rc rs 27 [some (.ref dk), some (.ref mx), some (.int (nI (i0))), some (.int (nI (i1))), some (.int (nI (i))), (oj)] [.int (nI (1))] M9
        refine jn_if_ne (pc := 27) (tgt := 112) kK_commonDivisor_d27 (by decide) (by omega) (fun _ => ?_) (fun c => by exfalso; omega)
        rw [c1] at g9
        have g8 := g9.one (i2 := i1) (j2 := 0) (fun i' j' h => by unfold thru at h ⊢; omega)
        rw [← c1] at g8
        exact jj_vret (pc := 112) kK_commonDivisor_d112 rfl (k M9 V0 (by rw [← hV0]; exact hS9) g8 o9 f9)
      · skip
        show jj G kK_commonDivisor (d + 6) Q rc rs 27 [some (.ref dk), some (.ref mx), some (.int (nI (i0))), some (.int (nI (i1))), some (.int (nI (i))), (oj)] [.int (nI (0))] M9
        refine jn_if_ne (pc := 27) (tgt := 112) kK_commonDivisor_d27 (by decide) (by omega) (fun c => by exfalso; omega) (fun _ => ?_)
        refine jn_iconst (pc := 30) 0 kK_commonDivisor_d30 (by decide) ?_
        refine jj_istore (pc := 31) kK_commonDivisor_d31 (Nat.le_of_ble_eq_true rfl) ?_
        show jj G kK_commonDivisor (d + 6) Q rc rs 33 [some (.ref dk), some (.ref mx), some (.int (nI (i0))), some (.int (nI (i1))), some (.int (nI (i))), some (.int (nI (0)))] [] M9
        show jj G kK_commonDivisor (d + 6) Q rc rs 33 [some (.ref dk), some (.ref mx), some (.int (nI (i0))), some (.int (nI (i1))), some (.int (nI (i))), some (.int (nI (0)))] [] M9
        have inner : ∀ mu2 j, c = j + mu2 → ∀ (M9 : mheap) (V9 : Nat → Int), KS M9 wa la cap N eu dv hi lo dk V9 → CDV V b c i0 i j (V9 10) → (∀ p, 7 ≤ p → p ≠ 10 → V9 p = V p) → EF M M9 wa la N eu dv hi lo → jj G kK_commonDivisor (d + 6) Q rc rs 33 [some (.ref dk), some (.ref mx), some (.int (nI (i0))), some (.int (nI (i1))), some (.int (nI (i))), some (.int (nI (j)))] [] M9 := by
          intro mu2
          induction mu2 with
          | zero =>
            intro j hk2 M9 V9 hS9 g9 o9 f9
            have e9 : c = j := by omega
            subst e9
            have hm9 := (hM.ef hS f9).1
            refine jj_iload (pc := 33) kK_commonDivisor_d33 rfl ?_
            refine jj_aload_n (pc := 35) kK_commonDivisor_d35 rfl ?_
            refine jj_getf (pc := 36) kK_commonDivisor_d36 (kfK_M_columns hG) hm9 rfl ?_
            refine jn_icmp_ge (pc := 39) (tgt := 106) kK_commonDivisor_d39 (by decide) (by omega) (by omega) (fun _ => ?_) (fun c => by exfalso; omega)
            refine jn_iinc (pc := 106) (i + 1) kK_commonDivisor_d106 rfl (nI_1 _) ?_
            refine jj_goto (pc := 109) (tgt := 14) kK_commonDivisor_d109 (by decide) ?_
            show jj G kK_commonDivisor (d + 6) Q rc rs 14 [some (.ref dk), some (.ref mx), some (.int (nI (i0))), some (.int (nI (i1))), some (.int (nI (i + 1))), some (.int (nI (c)))] [] M9
            exact ih (i + 1) (by omega) (by omega) _ M9 V9 hS9 (g9.same (fun _ _ => thru_row)) o9 f9
          | succ mu2 ih2 =>
            intro j hk2 M9 V9 hS9 g9 o9 f9
            have hM9 := hM.ef hS f9
            have hm9 := hM9.1
            have hp : (b + (16 * i + j)) < N := by omega
            obtain ⟨hc0, ⟨r_d, px_d, pf_d, py_d, po_d, ps_d, od_d, hU0⟩, hdk0⟩ := id hS9
            have hf0 : EF M9 M9 wa la N eu dv hi lo := fun _ _ _ _ _ _ => rfl
            obtain ⟨V0, hV0⟩ : ∃ V0, V9 = V0 := ⟨_, rfl⟩
            rw [hV0] at hc0
            have hn0 := hU0.1
            have b_r0 := hn0.2.1
            have b_x0 := hn0.2.2.1
            have b_f0 := hn0.2.2.2.1
            have hdv0 := hU0.2.1
            obtain ⟨ea0, eb0, ec0, ed0, hE0⟩ := hU0.2.2.2
            have hD0 := hdv0.1
            rw [hV0] at g9 o9
            show jj G kK_commonDivisor (d + 6) Q rc rs 33 [some (.ref dk), some (.ref mx), some (.int (nI (i0))), some (.int (nI (i1))), some (.int (nI (i))), some (.int (nI (j)))] [] M9
            refine jj_iload (pc := 33) kK_commonDivisor_d33 rfl ?_
            refine jj_aload_n (pc := 35) kK_commonDivisor_d35 rfl ?_
            refine jj_getf (pc := 36) kK_commonDivisor_d36 (kfK_M_columns hG) hm9 rfl ?_
            refine jn_icmp_ge (pc := 39) (tgt := 106) kK_commonDivisor_d39 (by decide) (by omega) (by omega) (fun c => by exfalso; omega) (fun _ => ?_)
            obtain ⟨T10_0, t10_0, hT10_0, _, _⟩ := hc0 10 (by omega)
            refine jj_aload_n (pc := 42) kK_commonDivisor_d42 rfl ?_
            refine jj_getf (pc := 43) kK_commonDivisor_d43 (kfK_divisor hG) hdk0 rfl ?_
            refine jj_callV (pc := 46) (b := (wa 10)) (As := []) kK_commonDivisor_d46 (kvK_W_isOne hG) (kG_cl hG rfl) rfl hT10_0 rfl rfl rfl (Nat.le_of_ble_eq_true rfl) (Nat.le_of_ble_eq_true rfl) (jj_bare0 rfl) ?_
            refine w_isOne hG hI hc0 (by omega) (fun c2 => ?_) (fun c2 => ?_)
            · skip
              show jj G kK_commonDivisor (d + 6) Q rc rs 49 [some (.ref dk), some (.ref mx), some (.int (nI (i0))), some (.int (nI (i1))), some (.int (nI (i))), some (.int (nI (j)))] [.int (nI (1))] M9
              refine jn_if_ne (pc := 49) (tgt := 106) kK_commonDivisor_d49 (by decide) (by omega) (fun _ => ?_) (fun c => by exfalso; omega)
              refine jn_iinc (pc := 106) (i + 1) kK_commonDivisor_d106 rfl (nI_1 _) ?_
              refine jj_goto (pc := 109) (tgt := 14) kK_commonDivisor_d109 (by decide) ?_
              show jj G kK_commonDivisor (d + 6) Q rc rs 14 [some (.ref dk), some (.ref mx), some (.int (nI (i0))), some (.int (nI (i1))), some (.int (nI (i + 1))), some (.int (nI (j)))] [] M9
              rw [c2] at g9
              have g8 := g9.one (i2 := i + 1) (j2 := 0) (fun i' j' h => by unfold thru at h ⊢; omega)
              rw [← c2] at g8
              exact ih (i + 1) (by omega) (by omega) _ M9 V0 (by rw [← hV0]; exact hS9) g8 o9 f9
            · skip
              show jj G kK_commonDivisor (d + 6) Q rc rs 49 [some (.ref dk), some (.ref mx), some (.int (nI (i0))), some (.int (nI (i1))), some (.int (nI (i))), some (.int (nI (j)))] [.int (nI (0))] M9
              refine jn_if_ne (pc := 49) (tgt := 106) kK_commonDivisor_d49 (by decide) (by omega) (fun c => by exfalso; omega) (fun _ => ?_)
              refine jj_aload_n (pc := 52) kK_commonDivisor_d52 rfl ?_
              refine jj_iload (pc := 53) kK_commonDivisor_d53 rfl ?_
              refine jj_iload (pc := 55) kK_commonDivisor_d55 rfl ?_
              refine jj_callV (pc := 57) (b := mx) (As := [.int (nI (i)), .int (nI (j))]) kK_commonDivisor_d57 (kvK_M_at hG) (kG_cl hG rfl) rfl hm9 rfl rfl rfl (Nat.le_of_ble_eq_true rfl) (Nat.le_of_ble_eq_true rfl) (jj_bare0 rfl) ?_
              refine m_at hG hM9 (by omega) (by omega) ?_
              show jj G kK_commonDivisor (d + 6) Q rc rs 60 [some (.ref dk), some (.ref mx), some (.int (nI (i0))), some (.int (nI (i1))), some (.int (nI (i))), some (.int (nI (j)))] [.ref (wa (b + (16 * i + j)))] M9
              obtain ⟨T9, t9, hT9, _, _, hL9⟩ := hc0 (b + (16 * i + j)) hp
              have et9 := hL9.cnt
              subst et9
              have hl9 := hlb _ _ (b + (16 * i + j)) hc0 (by omega) (by omega)
              have ev9 : V0 (b + (16 * i + j)) = V (b + (16 * i + j)) := o9 _ (by omega) (by omega)
              refine jj_getf (pc := 60) kK_commonDivisor_d60 (kfK_W_count hG) hT9 rfl ?_
              refine jn_if_le (pc := 63) (tgt := 100) kK_commonDivisor_d63 (by decide) (by omega) (fun c3 => ?_) (fun c3 => ?_)
              · skip
                refine jn_iinc (pc := 100) (j + 1) kK_commonDivisor_d100 rfl (nI_1 _) ?_
                refine jj_goto (pc := 103) (tgt := 33) kK_commonDivisor_d103 (by decide) ?_
                show jj G kK_commonDivisor (d + 6) Q rc rs 33 [some (.ref dk), some (.ref mx), some (.int (nI (i0))), some (.int (nI (i1))), some (.int (nI (i))), some (.int (nI (j + 1)))] [] M9
                exact ih2 (j + 1) (by omega) M9 V0 (by rw [← hV0]; exact hS9) (g9.zero (by omega) (by rw [← ev9]; exact lc_nil (by omega))) o9 f9
              · skip
                refine jj_aload_n (pc := 66) kK_commonDivisor_d66 rfl ?_
                refine jj_getf (pc := 67) kK_commonDivisor_d67 (kfK_euclid hG) hdk0 rfl ?_
                refine jj_aload_n (pc := 70) kK_commonDivisor_d70 rfl ?_
                refine jj_iload (pc := 71) kK_commonDivisor_d71 rfl ?_
                refine jj_iload (pc := 73) kK_commonDivisor_d73 rfl ?_
                refine jj_callV (pc := 75) (b := mx) (As := [.int (nI (i)), .int (nI (j))]) kK_commonDivisor_d75 (kvK_M_at hG) (kG_cl hG rfl) rfl hm9 rfl rfl rfl (Nat.le_of_ble_eq_true rfl) (Nat.le_of_ble_eq_true rfl) (jj_bare0 rfl) ?_
                refine m_at hG hM9 (by omega) (by omega) ?_
                show jj G kK_commonDivisor (d + 6) Q rc rs 78 [some (.ref dk), some (.ref mx), some (.int (nI (i0))), some (.int (nI (i1))), some (.int (nI (i))), some (.int (nI (j)))] [.ref (wa (b + (16 * i + j))), .ref eu] M9
                refine jj_aload_n (pc := 78) kK_commonDivisor_d78 rfl ?_
                refine jj_getf (pc := 79) kK_commonDivisor_d79 (kfK_divisor hG) hdk0 rfl ?_
                refine jn_iconst (pc := 82) 0 kK_commonDivisor_d82 (by decide) ?_
                refine jj_callV (pc := 83) (b := eu) (As := [.ref (wa (b + (16 * i + j))), .ref (wa 10), .int (nI (0))]) kK_commonDivisor_d83 (kvK_U_run hG) (kG_cl hG rfl) rfl hE0 rfl rfl rfl (Nat.le_of_ble_eq_true rfl) (Nat.le_of_ble_eq_true rfl) (jj_bare0 rfl) ?_
                refine u_run hG hI hc0 (by omega) (fun p hp => hcap p (by omega)) hdi hU0 (by omega) hp (by omega) (by omega) (by omega) hl9 (by have := hc0.lc (p := 10) (by omega); rw [hcap 10 (by omega)] at this; exact this) (fun h => absurd h (by omega)) (fun M1 V1 r_1 px_1 pf_1 py_1 po_1 ps_1 od_1 hc1 ot1 hU1 gx1 gf1 hw1 => ?_)
                have hf1 := hf0.trans hw1
                have q1_mx := hw1.obj hc0 hU0 hm9 (by decide) (by decide) (by decide)
                have q1_dk := hw1.obj hc0 hU0 hdk0 (by decide) (by decide) (by decide)
                have hn1 := hU1.1
                have b_r1 := hn1.2.1
                have b_x1 := hn1.2.2.1
                have b_f1 := hn1.2.2.2.1
                have hdv1 := hU1.2.1
                obtain ⟨ea1, eb1, ec1, ed1, hE1⟩ := hU1.2.2.2
                have hD1 := hdv1.1
                show jj G kK_commonDivisor (d + 6) Q rc rs 86 [some (.ref dk), some (.ref mx), some (.int (nI (i0))), some (.int (nI (i1))), some (.int (nI (i))), some (.int (nI (j)))] [] M1
                have g1 := g9.next hk0 (by omega : j < c) (g' := V1 px_1) (by rw [gx1, ev9])
                have lg : (V1 px_1).natAbs < BB ^ 252 := by
                  have := hc1.wide (p := px_1) (by omega)
                  rw [hcap px_1 (by omega)] at this
                  exact this
                obtain ⟨T10_1, t10_1, hT10_1, _, _⟩ := hc1 10 (by omega)
                refine jj_aload_n (pc := 86) kK_commonDivisor_d86 rfl ?_
                refine jj_getf (pc := 87) kK_commonDivisor_d87 (kfK_divisor hG) q1_dk rfl ?_
                refine jj_aload_n (pc := 90) kK_commonDivisor_d90 rfl ?_
                refine jj_getf (pc := 91) kK_commonDivisor_d91 (kfK_euclid hG) q1_dk rfl ?_
                refine jj_getf (pc := 94) kK_commonDivisor_d94 (kfK_U_x hG) hE1 rfl ?_
                refine jj_callV (pc := 97) (b := (wa 10)) (As := [.ref (wa px_1)]) kK_commonDivisor_d97 (kvK_W_copy hG) (kG_cl hG rfl) rfl hT10_1 rfl rfl rfl (Nat.le_of_ble_eq_true rfl) (Nat.le_of_ble_eq_true rfl) (jj_bare0 rfl) ?_
                refine w_copy hG hI hc1 (by omega : 10 < N) (by omega) (by rw [hcap 10 (by omega)]; exact lg) (fun M2 hcx2 hw2  => ?_) 
                obtain ⟨V2, hV2⟩ : ∃ W, vup V1 10 (V1 px_1) = W := ⟨_, rfl⟩
                have hc2 : CW M2 wa la cap N V2 := by rw [← hV2]; exact hcx2
                have at2 : V2 10 = V1 px_1 := by rw [← hV2, vup_at]
                have ot2 : ∀ p, p ≠ 10 → V2 p = V1 p := fun p hp => by rw [← hV2, vup_ne _ _ hp]
                have hU2 := hU1.wt hc1 hdi (by omega) hw2
                have hf2 := hf1.trans (hw2.ef (by omega))
                have q2_mx := (hw2.ef (eu := eu) (dv := dv) (hi := hi) (lo := lo) (by omega)).obj hc1 hU1 q1_mx (by decide) (by decide) (by decide)
                have q2_dk := (hw2.ef (eu := eu) (dv := dv) (hi := hi) (lo := lo) (by omega)).obj hc1 hU1 q1_dk (by decide) (by decide) (by decide)
                have hn2 := hU2.1
                have b_r2 := hn2.2.1
                have b_x2 := hn2.2.2.1
                have b_f2 := hn2.2.2.2.1
                have hdv2 := hU2.2.1
                obtain ⟨ea2, eb2, ec2, ed2, hE2⟩ := hU2.2.2.2
                have hD2 := hdv2.1
                show jj G kK_commonDivisor (d + 6) Q rc rs 100 [some (.ref dk), some (.ref mx), some (.int (nI (i0))), some (.int (nI (i1))), some (.int (nI (i))), some (.int (nI (j)))] [] M2
                refine jn_iinc (pc := 100) (j + 1) kK_commonDivisor_d100 rfl (nI_1 _) ?_
                refine jj_goto (pc := 103) (tgt := 33) kK_commonDivisor_d103 (by decide) ?_
                show jj G kK_commonDivisor (d + 6) Q rc rs 33 [some (.ref dk), some (.ref mx), some (.int (nI (i0))), some (.int (nI (i1))), some (.int (nI (i))), some (.int (nI (j + 1)))] [] M2
                exact ih2 (j + 1) (by omega) M2 V2 ⟨hc2, ⟨r_1, px_1, pf_1, py_1, po_1, ps_1, od_1, hU2⟩, q2_dk⟩ (by rw [at2]; exact g1) (fun p p1 p2 => by rw [ot2 p p2, ot1 p p1]; exact o9 p p1 p2) (f9.trans hf2)
        exact inner c 0 (by omega) M9 V0 (by rw [← hV0]; exact hS9) g9 o9 f9
  refine outer (i1 - i0) i0 (by omega) (Nat.le_refl _) _ M1 V1 ⟨hc1, ⟨r_a, px_a, pf_a, py_a, po_a, ps_a, od_a, hU1⟩, q1_dk⟩ ?_ (fun p p1 p2 => by rw [ot1 p p2, hV0]) hf1
  rw [at1, ← hV0]
  refine ⟨hpos, Int.dvd_refl _, fun i' j' a h => ?_, fun x h _ => h⟩
  unfold thru at h
  omega
end K2
