/-! ===== Wholes.common, multiple (printed by wip/gen/rw17.py) ===== -/
theorem lcm_div {zx zy : Int} (hx : 0 < zx) (hy : 0 < zy) : zx / (Int.gcd zx zy : Int) * zy = (Int.lcm zx zy : Int) := by
  have hg : 0 < (Int.gcd zx zy : Int) := by have := Int.gcd_pos_of_ne_zero_left (a := zx) zy (by omega); omega
  have h1 : (Int.gcd zx zy : Int) * (Int.lcm zx zy : Int) = zx * zy := by
    have h2 : ((Int.gcd zx zy * Int.lcm zx zy : Nat) : Int) = ((zx.natAbs * zy.natAbs : Nat) : Int) := congrArg Nat.cast (Int.gcd_mul_lcm zx zy)
    rw [Int.natCast_mul, Int.natCast_mul] at h2
    rw [h2, Int.natAbs_of_nonneg (by omega), Int.natAbs_of_nonneg (by omega)]
  obtain ⟨k, hk⟩ := Int.gcd_dvd_left zx zy
  have h4 : zx / (Int.gcd zx zy : Int) = k := by
    conv => lhs; lhs; rw [hk]
    exact Int.mul_ediv_cancel_left k (by omega)
  rw [h4]
  have h5 : (Int.gcd zx zy : Int) * (k * zy) = (Int.gcd zx zy : Int) * (Int.lcm zx zy : Int) := by
    rw [h1, ← Int.mul_assoc, ← hk]
  exact Int.eq_of_mul_eq_mul_left (by omega) h5
theorem gcd_step (za zb : Int) : Int.gcd zb (za % zb) = Int.gcd za zb := by
  have e : za % zb = za + zb * (-(za / zb)) := by have := Int.mul_ediv_add_emod za zb; rw [Int.mul_neg]; omega
  rw [e, Int.gcd_comm]
  simp
theorem gcd_abs (zx zy : Int) : Int.gcd (zx.natAbs : Int) (zy.natAbs : Int) = Int.gcd zx zy := by
  unfold Int.gcd
  simp
theorem lcm_of_dvd {zx zy : Int} (hx : 0 < zx) (h : zx % zy = 0) : (Int.lcm zx zy : Int) = zx := by
  have := Int.dvd_of_emod_eq_zero h
  have e : Int.lcm zx zy = zx.natAbs := Nat.lcm_eq_left (Int.natAbs_dvd_natAbs.mpr this)
  rw [e]; omega
theorem RI.z0 {D : List Int32} {T : Nat} {z : Int} (h : RI D T 0 z) (hz : D.getD 0 0 = 0) (hT : T < 2 ^ 31) : z = 0 := by
  obtain ⟨r, h1, h2, h3, h4, h5⟩ := h
  have e := nI_iabs (by omega) h2
  rw [hz] at e
  have e0 : r = 0 := nI_inj (by omega) (by decide) (e.symm.trans (show iabs 0 = nI 0 by decide))
  rw [e0] at h5
  have : (0 : Nat) = z.natAbs := h5
  omega
theorem RI.p0 {D : List Int32} {T p : Nat} (h : RI D T p 0) : p = 0 := by
  obtain ⟨r, h1, h2, h3, h4, h5⟩ := h
  exact h1.2 ((rnat_eq0 h3 h4).mp h5)
theorem RI.lt {D : List Int32} {T p : Nat} {z : Int} (h : RI D T p z) : p < T := by
  obtain ⟨r, h1, -⟩ := h
  omega
/-- what stands at lo or above it has not been touched -/
theorem RI.above {D D' : List Int32} {T T' lo p : Nat} {z : Int} (h : RI D T p z) (hz : D.getD 0 0 = 0) (hT : T < 2 ^ 31) (hT' : T ≤ T') (hp : p = 0 ∨ lo ≤ p) (e : ∀ i, (i = 0 ∨ lo ≤ i) → i < T → D'.getD i 0 = D.getD i 0) : RI D' T' p z := by
  rcases hp with hp | hp
  · subst hp
    have := h.z0 hz hT
    subst this
    have hl := h.lt
    exact RI.zero (by rw [e 0 (Or.inl rfl) hl]; exact hz) (by omega)
  · obtain ⟨r, h1, h2, h3, h4, h5⟩ := h
    have e' : ∀ i, 0 < i → i ≤ r → D'.getD (p + i) 0 = D.getD (p + i) 0 := fun i _ h => e _ (by omega) (by omega)
    refine ⟨r, by omega, (e p (by omega) (by omega)).trans h2, h3.congr e', fun h => ?_, (rnat_congr e').trans h5⟩
    rw [e _ (by omega) (by omega)]
    exact h4 h
section RW17
variable {G : jg} {d : Nat} {Q : jq} {rc rs : Nat} {M : mheap} {w : Nat} {v2 : Value} {D : List Int32}
/-- what holds behind a call that makes the number v at T, with some rest -/
def RPv (Q : jq) (M : mheap) (w : Nat) (D : List Int32) (T cm X Z E : Nat) (v : Int) : Prop := ∀ M' D' T' p v2' rc' rs', RS M' w D' T' v2' cm X Z rc' rs' → T ≤ T' ∧ (p = 0 ∨ p = T) → T' ≤ E → (∀ i, i < T → D'.getD i 0 = D.getD i 0) → RF M M' w → RI D' T' p v → Q (.returned (some (.int (nI p)))) M' rc' rs'
/-- where moved has left the top -/
def MVX (D' : List Int32) (to T' p : Nat) : Prop := (p = 0 → T' = to) ∧ (p ≠ 0 → p = to ∧ ∃ r, iabs (D'.getD p 0) = nI r ∧ T' = to + r + 1)
theorem MVX.loc {D' : List Int32} {to T' p : Nat} (h : MVX D' to T' p) : p = 0 ∨ p = to := by
  by_cases e : p = 0
  · exact Or.inl e
  · exact Or.inr (h.2 e).1
theorem ri_common_loop {x y T cm X Z a g : Nat} (hG : kG G) (hp : 0 < T) (ha2 : a ≤ 9000) (hT : T + 20000 + 8 * a + 60 ≤ cm) (K : RPv Q M w D T cm X Z (T + a + 1) (g : Int)) : ∀ N : Nat, ∀ (na nb pa pb T9 : Nat) (v9 : Value) (rc9 rs9 : Nat) (o6 o7 o8 o9 : Option Value) (M9 : mheap) (D9 : List Int32), nb < N → na < 32768 ^ a → nb < 32768 ^ a → Nat.gcd na nb = g → RS M9 w D9 T9 v9 cm X Z rc9 rs9 → T ≤ T9 → T9 ≤ T + 20000 → (∀ i, i < T → D9.getD i 0 = D.getD i 0) → RF M M9 w → RI D9 T9 pa (na : Int) → RI D9 T9 pb (nb : Int) → jj G kRW_common (d + 7) Q rc9 rs9 19 [some (.ref w), some (.int (nI (x))), some (.int (nI (y))), some (.int (nI (T))), some (.int (nI (pa))), some (.int (nI (pb))), (o6), (o7), (o8), (o9)] [] M9 := by
  intro N
  induction N with
  | zero => intro na nb pa pb T9 v9 rc9 rs9 o6 o7 o8 o9 M9 D9 h; omega
  | succ N ih =>
    intro na nb pa pb T9 v9 rc9 rs9 o6 o7 o8 o9 M9 D9 hN hza hzb hg hS9 t9 u9 ho9 hf9 hA9 hB9
    obtain ⟨hS90, hRB9, hTD9, hz9, hp9⟩ := id hS9
    obtain ⟨dd9, hw9, hd9⟩ := id hS90
    have hl9 : D9.length < 2 ^ 31 := by have := hRB9.cap; omega
    have hwd9 : w ≠ dd9 := fun e => by subst e; rw [hw9] at hd9; cases hd9
    have lA := hA9.lt
    have lB := hB9.lt
    refine jj_iload (pc := 19) kRW_common_d19 rfl ?_
    refine jn_if_eq (pc := 21) (tgt := 119) kRW_common_d21 (by decide) (by omega) (fun c => ?_) (fun c => ?_)
    · skip
      subst c
      have e0 : nb = 0 := by have := hB9.z0 hz9 (by omega); omega
      subst e0
      rw [Nat.gcd_zero_right] at hg
      subst hg
      refine jj_aload_n (pc := 119) kRW_common_d119 rfl ?_
      refine jj_aload_n (pc := 120) kRW_common_d120 rfl ?_
      refine jj_iload (pc := 121) kRW_common_d121 rfl ?_
      refine jj_callV (pc := 123) (b := w) (As := [.int (nI (pa))]) kRW_common_d123 (kvRW_RW_copy hG) (kG_cl hG rfl) rfl hw9 rfl rfl rfl (Nat.le_of_ble_eq_true rfl) (Nat.le_of_ble_eq_true rfl) (jj_bare0 rfl) ?_
      refine ri_copy (a := a) hG hS9 hA9 (by omega) (by omega) (fun M1 D1 T1 p1 rc1 rs1 hS1 t1 u1 ho1 hf1 hI1 => ?_)
      show jj G kRW_common (d + 7) Q rc1 rs1 126 [some (.ref w), some (.int (nI (x))), some (.int (nI (y))), some (.int (nI (T))), some (.int (nI (pa))), some (.int (nI (0))), (o6), (o7), (o8), (o9)] [.int (nI (p1)), .ref w] M1
      obtain ⟨hS10, hB1, hTD1, hz1, hp1⟩ := id hS1
      obtain ⟨dd1, hw1, hd1⟩ := id hS10
      have hl1 : D1.length < 2 ^ 31 := by have := hB1.cap; omega
      have hwd1 : w ≠ dd1 := fun e => by subst e; rw [hw1] at hd1; cases hd1
      refine jj_iload_n (pc := 126) kRW_common_d126 rfl ?_
      refine jj_callV (pc := 127) (b := w) (As := [.int (nI (p1)), .int (nI (T))]) kRW_common_d127 (kvRW_RW_moved hG) (kG_cl hG rfl) rfl hw1 rfl rfl rfl (Nat.le_of_ble_eq_true rfl) (Nat.le_of_ble_eq_true rfl) (jj_bare0 rfl) ?_
      refine ri_moved (a := a) hG hS1 hI1 hTD1 (by omega) hp (by omega) (by omega) (fun M2 D2 T2 p2 hS2 hlen2 t2 u2 ho2 hf2 hI2 e2 e3 => ?_)
      show jj G kRW_common (d + 7) Q rc1 rs1 130 [some (.ref w), some (.int (nI (x))), some (.int (nI (y))), some (.int (nI (T))), some (.int (nI (pa))), some (.int (nI (0))), (o6), (o7), (o8), (o9)] [.int (nI (p2))] M2
      have hloc := (MVX.loc ⟨e2, e3⟩ : p2 = 0 ∨ p2 = T)
      clear e2 e3
      exact jj_iret (pc := 130) kRW_common_d130 rfl (by rfl) (K M2 D2 T2 p2 v9 rc1 rs1 hS2 ⟨t2.1, hloc⟩ u2 (fun i hi => by rw [ho2 i (by omega), ho1 i (by omega), ho9 i hi]) ((hf9.trans hf1).trans hf2) hI2)
    · skip
      have hb1 : 0 < nb := by
        rcases Nat.eq_zero_or_pos nb with e | e
        · subst e; have := RI.p0 hB9; omega
        · exact e
      have hgn : Nat.gcd nb (na % nb) = g := by rw [← hg, Nat.gcd_comm na nb, Nat.gcd_rec nb na, Nat.gcd_comm]
      have hm1 := Nat.mod_lt na hb1
      refine jj_aload_n (pc := 24) kRW_common_d24 rfl ?_
      refine jj_iload (pc := 25) kRW_common_d25 rfl ?_
      refine jj_iload (pc := 27) kRW_common_d27 rfl ?_
      refine jj_callV (pc := 29) (b := w) (As := [.int (nI (pa)), .int (nI (pb))]) kRW_common_d29 (kvRW_RW_divide hG) (kG_cl hG rfl) rfl hw9 rfl rfl rfl (Nat.le_of_ble_eq_true rfl) (Nat.le_of_ble_eq_true rfl) (jj_bare0 rfl) ?_
      refine ri_divide (a := a) (b := a) hG hS9 hA9 hB9 (by omega) (by omega) (by omega) (by omega) (fun M1 D1 T1 p1 s1 rc1 rs1 hS1 t1 u1 ho1 hf1 hI1 hJ1 => ?_)
      show jj G kRW_common (d + 7) Q rc1 rs1 32 [some (.ref w), some (.int (nI (x))), some (.int (nI (y))), some (.int (nI (T))), some (.int (nI (pa))), some (.int (nI (pb))), (o6), (o7), (o8), (o9)] [.int (nI (p1))] M1
      obtain ⟨hS10, hB1, hTD1, hz1, hp1⟩ := id hS1
      obtain ⟨dd1, hw1, hd1⟩ := id hS10
      have hl1 : D1.length < 2 ^ 31 := by have := hB1.cap; omega
      have hwd1 : w ≠ dd1 := fun e => by subst e; rw [hw1] at hd1; cases hd1
      rw [← Int.natCast_emod] at hJ1
      generalize na % nb = nr at hgn hm1 hJ1
      have hB1' := hB9.congr t1.1 ho1
      have lJ := hJ1.lt
      clear hI1 hA9 hB9 hg
      refine jj_pop (pc := 32) kRW_common_d32 rfl ?_
      refine jj_aload_n (pc := 33) kRW_common_d33 rfl ?_
      refine jj_getf (pc := 34) kRW_common_d34 (kfRW_rest hG) hw1 rfl ?_
      refine jj_istore (pc := 37) kRW_common_d37 (Nat.le_of_ble_eq_true rfl) ?_
      refine jj_iload (pc := 39) kRW_common_d39 rfl ?_
      refine jj_istore (pc := 41) kRW_common_d41 (Nat.le_of_ble_eq_true rfl) ?_
      refine jj_iload (pc := 43) kRW_common_d43 rfl ?_
      refine jj_istore (pc := 45) kRW_common_d45 (Nat.le_of_ble_eq_true rfl) ?_
      refine jj_aload_n (pc := 47) kRW_common_d47 rfl ?_
      refine jj_getf (pc := 48) kRW_common_d48 (kfRW_top hG) hw1 rfl ?_
      refine jj_iload_n (pc := 51) kRW_common_d51 rfl ?_
      obtain ⟨dT, hdT⟩ : ∃ dT, T1 = dT + T := ⟨T1 - T, by omega⟩
      refine jn_isub (pc := 52) (dT) kRW_common_d52 (by omega) ?_
      refine jn_sipush (pc := 53) 20000 kRW_common_d53 (by decide) ?_
      refine jn_icmp_le (pc := 56) (tgt := 116) kRW_common_d56 (by decide) (by omega) (by omega) (fun c2 => ?_) (fun c2 => ?_)
      · skip
        refine jj_goto (pc := 116) (tgt := 19) kRW_common_d116 (by decide) ?_
        show jj G kRW_common (d + 7) Q rc1 rs1 19 [some (.ref w), some (.int (nI (x))), some (.int (nI (y))), some (.int (nI (T))), some (.int (nI (pb))), some (.int (nI (s1))), some (.int (nI (s1))), (o7), (o8), (o9)] [] M1
        exact ih nb nr pb s1 T1 _ rc1 rs1 _ _ _ _ M1 D1 (by omega) hzb (by omega) hgn hS1 (by omega) (by omega) (fun i hi => by rw [ho1 i (by omega), ho9 i hi]) (hf9.trans hf1) hB1' hJ1
      · skip
        refine jj_aload_n (pc := 59) kRW_common_d59 rfl ?_
        refine jj_iload (pc := 60) kRW_common_d60 rfl ?_
        refine jj_callV (pc := 62) (b := w) (As := [.int (nI (pb))]) kRW_common_d62 (kvRW_RW_copy hG) (kG_cl hG rfl) rfl hw1 rfl rfl rfl (Nat.le_of_ble_eq_true rfl) (Nat.le_of_ble_eq_true rfl) (jj_bare0 rfl) ?_
        refine ri_copy (a := a) hG hS1 hB1' (by omega) (by omega) (fun M2 D2 T2 p2 rc2 rs2 hS2 t2 u2 ho2 hf2 hI2 => ?_)
        show jj G kRW_common (d + 7) Q rc2 rs2 65 [some (.ref w), some (.int (nI (x))), some (.int (nI (y))), some (.int (nI (T))), some (.int (nI (pb))), some (.int (nI (s1))), some (.int (nI (s1))), (o7), (o8), (o9)] [.int (nI (p2))] M2
        obtain ⟨hS20, hB2, hTD2, hz2, hp2⟩ := id hS2
        obtain ⟨dd2, hw2, hd2⟩ := id hS20
        have hl2 : D2.length < 2 ^ 31 := by have := hB2.cap; omega
        have hwd2 : w ≠ dd2 := fun e => by subst e; rw [hw2] at hd2; cases hd2
        refine jj_istore (pc := 65) kRW_common_d65 (Nat.le_of_ble_eq_true rfl) ?_
        refine jj_aload_n (pc := 67) kRW_common_d67 rfl ?_
        refine jj_iload (pc := 68) kRW_common_d68 rfl ?_
        refine jj_callV (pc := 70) (b := w) (As := [.int (nI (s1))]) kRW_common_d70 (kvRW_RW_copy hG) (kG_cl hG rfl) rfl hw2 rfl rfl rfl (Nat.le_of_ble_eq_true rfl) (Nat.le_of_ble_eq_true rfl) (jj_bare0 rfl) ?_
        refine ri_copy (a := a) hG hS2 (hJ1.congr t2.1 ho2) (by omega) (by omega) (fun M3 D3 T3 p3 rc3 rs3 hS3 t3 u3 ho3 hf3 hI3 => ?_)
        show jj G kRW_common (d + 7) Q rc3 rs3 73 [some (.ref w), some (.int (nI (x))), some (.int (nI (y))), some (.int (nI (T))), some (.int (nI (pb))), some (.int (nI (s1))), some (.int (nI (s1))), some (.int (nI (p2))), (o8), (o9)] [.int (nI (p3))] M3
        obtain ⟨hS30, hB3, hTD3, hz3, hp3⟩ := id hS3
        obtain ⟨dd3, hw3, hd3⟩ := id hS30
        have hl3 : D3.length < 2 ^ 31 := by have := hB3.cap; omega
        have hwd3 : w ≠ dd3 := fun e => by subst e; rw [hw3] at hd3; cases hd3
        refine jj_istore (pc := 73) kRW_common_d73 (Nat.le_of_ble_eq_true rfl) ?_
        refine jj_aload_n (pc := 75) kRW_common_d75 rfl ?_
        refine jj_iload (pc := 76) kRW_common_d76 rfl ?_
        refine jj_iload_n (pc := 78) kRW_common_d78 rfl ?_
        refine jj_callV (pc := 79) (b := w) (As := [.int (nI (p2)), .int (nI (T))]) kRW_common_d79 (kvRW_RW_moved hG) (kG_cl hG rfl) rfl hw3 rfl rfl rfl (Nat.le_of_ble_eq_true rfl) (Nat.le_of_ble_eq_true rfl) (jj_bare0 rfl) ?_
        refine ri_moved (a := a) hG hS3 (hI2.congr t3.1 ho3) hTD3 (by omega) hp (by omega) (by omega) (fun M4 D4 T4 p4 hS4 hlen4 t4 u4 ho4 hf4 hI4 e4 e5 => ?_)
        show jj G kRW_common (d + 7) Q rc3 rs3 82 [some (.ref w), some (.int (nI (x))), some (.int (nI (y))), some (.int (nI (T))), some (.int (nI (pb))), some (.int (nI (s1))), some (.int (nI (s1))), some (.int (nI (p2))), some (.int (nI (p3))), (o9)] [.int (nI (p4))] M4
        have e45 : MVX D4 T T4 p4 := ⟨e4, e5⟩
        clear e4 e5
        have hJ4 : RI D4 T3 p3 (nr : Int) := hI3.above (lo := T2) hz3 (by omega) (Nat.le_refl _) (by omega) (fun i h1 h2 => ho4 i (by omega))
        have hfx := (((hf9.trans hf1).trans hf2).trans hf3).trans hf4
        have hox : ∀ i, i < T → D4.getD i 0 = D.getD i 0 := fun i hi => by rw [ho4 i (by omega), ho3 i (by omega), ho2 i (by omega), ho1 i (by omega), ho9 i hi]
        have hbt : T2 ≤ D4.length ∧ T3 ≤ D4.length ∧ T + 20000 < T2 ∧ (p3 = 0 ∨ T2 ≤ p3) := by omega
        clear ho1 ho2 ho3 ho4 ho9 hI2 hI3 hJ1 hB1' hdT c2 t1 t2 t3 u1 u2 u3
        obtain ⟨hS40, hB4, hTD4, hz4, hp4⟩ := id hS4
        obtain ⟨dd4, hw4, hd4⟩ := id hS40
        have hl4 : D4.length < 2 ^ 31 := by omega
        have hwd4 : w ≠ dd4 := fun e => by subst e; rw [hw4] at hd4; cases hd4
        have lI4 := hI4.lt
        refine jj_istore (pc := 82) kRW_common_d82 (Nat.le_of_ble_eq_true rfl) ?_
        have k104 : jj G kRW_common (d + 7) Q rc3 rs3 104 [some (.ref w), some (.int (nI (x))), some (.int (nI (y))), some (.int (nI (T))), some (.int (nI (p4))), some (.int (nI (s1))), some (.int (nI (s1))), some (.int (nI (p2))), some (.int (nI (p3))), (o9)] [.int (nI (T4))] M4 := by
          refine jj_istore (pc := 104) kRW_common_d104 (Nat.le_of_ble_eq_true rfl) ?_
          refine jj_aload_n (pc := 106) kRW_common_d106 rfl ?_
          refine jj_iload (pc := 107) kRW_common_d107 rfl ?_
          refine jj_iload (pc := 109) kRW_common_d109 rfl ?_
          refine jj_callV (pc := 111) (b := w) (As := [.int (nI (p3)), .int (nI (T4))]) kRW_common_d111 (kvRW_RW_moved hG) (kG_cl hG rfl) rfl hw4 rfl rfl rfl (Nat.le_of_ble_eq_true rfl) (Nat.le_of_ble_eq_true rfl) (jj_bare0 rfl) ?_
          refine ri_moved (a := a) hG hS4 hJ4 (by omega) (by omega) (by omega) (by omega) (by omega) (fun M5 D5 T5 p5 hS5 hlen5 t5 u5 ho5 hf5 hI5 e6 e7 => ?_)
          show jj G kRW_common (d + 7) Q rc3 rs3 114 [some (.ref w), some (.int (nI (x))), some (.int (nI (y))), some (.int (nI (T))), some (.int (nI (p4))), some (.int (nI (s1))), some (.int (nI (s1))), some (.int (nI (p2))), some (.int (nI (p3))), some (.int (nI (T4)))] [.int (nI (p5))] M5
          clear e6 e7 e45
          refine jj_istore (pc := 114) kRW_common_d114 (Nat.le_of_ble_eq_true rfl) ?_
          refine jj_goto (pc := 116) (tgt := 19) kRW_common_d116 (by decide) ?_
          show jj G kRW_common (d + 7) Q rc3 rs3 19 [some (.ref w), some (.int (nI (x))), some (.int (nI (y))), some (.int (nI (T))), some (.int (nI (p4))), some (.int (nI (p5))), some (.int (nI (s1))), some (.int (nI (p2))), some (.int (nI (p3))), some (.int (nI (T4)))] [] M5
          exact ih nb nr p4 p5 T5 _ rc3 rs3 _ _ _ _ M5 D5 (by omega) hzb (by omega) hgn hS5 (by omega) (by omega) (fun i hi => by rw [ho5 i (by omega), hox i hi]) (hfx.trans hf5) (hI4.congr t5.1 (fun i hi => ho5 i (by omega))) hI5
        refine jj_iload (pc := 84) kRW_common_d84 rfl ?_
        refine jn_if_le (pc := 86) (tgt := 103) kRW_common_d86 (by decide) (by omega) (fun c3 => ?_) (fun c3 => ?_)
        · skip
          refine jj_iload_n (pc := 103) kRW_common_d103 rfl ?_
          have e9 : T = T4 := (e45.1 c3).symm
          refine jn_top (.int (nI (T4))) (by rw [← e9]) ?_
          exact k104
        · skip
          obtain ⟨e8, r, e9, e10⟩ := e45.2 (by omega)
          refine jj_iload (pc := 89) kRW_common_d89 rfl ?_
          refine jj_aload_n (pc := 91) kRW_common_d91 rfl ?_
          refine jj_iload (pc := 92) kRW_common_d92 rfl ?_
          refine jj_callV (pc := 94) (b := w) (As := [.int (nI (p4))]) kRW_common_d94 (kvRW_RW_digits hG) (kG_cl hG rfl) rfl hw4 rfl rfl rfl (Nat.le_of_ble_eq_true rfl) (Nat.le_of_ble_eq_true rfl) (jj_bare0 rfl) ?_
          refine rw_digits hG hw4 hd4 hl4 (by omega) ?_
          show jj G kRW_common (d + 7) Q rc3 rs3 97 [some (.ref w), some (.int (nI (x))), some (.int (nI (y))), some (.int (nI (T))), some (.int (nI (p4))), some (.int (nI (s1))), some (.int (nI (s1))), some (.int (nI (p2))), some (.int (nI (p3))), (o9)] [.int (iabs (D4.getD p4 0)), .int (nI (p4))] M4
          refine jn_top (.int (nI (r))) (by rw [e9]) ?_
          refine jn_iadd (pc := 97) (p4 + r) kRW_common_d97 (by omega) ?_
          refine jn_iconst (pc := 98) 1 kRW_common_d98 (by decide) ?_
          refine jn_iadd (pc := 99) (p4 + r + 1) kRW_common_d99 (by omega) ?_
          refine jj_goto (pc := 100) (tgt := 104) kRW_common_d100 (by decide) ?_
          refine jn_top (.int (nI (T4))) (by rw [show p4 + r + 1 = T4 by omega]) ?_
          exact k104
theorem ri_common {x y T cm X Z a : Nat} {zx zy : Int} (hG : kG G) (hS : RS M w D T v2 cm X Z rc rs) (hx : RI D T x zx) (hy : RI D T y zy) (ha : zx.natAbs < 32768 ^ a) (hb : zy.natAbs < 32768 ^ a) (ha2 : a ≤ 9000) (hT : T + 20000 + 8 * a + 60 ≤ cm)
    (K : RPv Q M w D T cm X Z (T + a + 1) (Int.gcd zx zy : Int)) : jj G kRW_common (d + 7) Q rc rs 0 (jj_ent [.ref w, .int (nI x), .int (nI y)] 10) [] M := by
  obtain ⟨hS0, hB, hTD, hz, hp⟩ := id hS
  obtain ⟨dd, hw, hd⟩ := id hS0
  have hcap := hB.cap
  have hl : D.length < 2 ^ 31 := by omega
  show jj G kRW_common (d + 7) Q rc rs 0 [some (.ref w), some (.int (nI (x))), some (.int (nI (y))), none, none, none, none, none, none, none] [] M
  refine jj_aload_n (pc := 0) kRW_common_d0 rfl ?_
  refine jj_getf (pc := 1) kRW_common_d1 (kfRW_top hG) hw rfl ?_
  refine jj_istore_n (pc := 4) kRW_common_d4 (Nat.le_of_ble_eq_true rfl) ?_
  refine jj_aload_n (pc := 5) kRW_common_d5 rfl ?_
  refine jj_iload_n (pc := 6) kRW_common_d6 rfl ?_
  refine jj_callV (pc := 7) (b := w) (As := [.int (nI (x))]) kRW_common_d7 (kvRW_RW_size hG) (kG_cl hG rfl) rfl hw rfl rfl rfl (Nat.le_of_ble_eq_true rfl) (Nat.le_of_ble_eq_true rfl) (jj_bare0 rfl) ?_
  refine ri_size (a := a) hG hS hx ha (by omega) (fun M1 D1 T1 p1 rc1 rs1 hS1 t1 u1 ho1 hf1 hI1 => ?_)
  show jj G kRW_common (d + 7) Q rc1 rs1 10 [some (.ref w), some (.int (nI (x))), some (.int (nI (y))), some (.int (nI (T))), none, none, none, none, none, none] [.int (nI (p1))] M1
  obtain ⟨hS10, hB1, hTD1, hz1, hp1⟩ := id hS1
  obtain ⟨dd1, hw1, hd1⟩ := id hS10
  have hl1 : D1.length < 2 ^ 31 := by have := hB1.cap; omega
  have hwd1 : w ≠ dd1 := fun e => by subst e; rw [hw1] at hd1; cases hd1
  refine jj_istore (pc := 10) kRW_common_d10 (Nat.le_of_ble_eq_true rfl) ?_
  refine jj_aload_n (pc := 12) kRW_common_d12 rfl ?_
  refine jj_iload_n (pc := 13) kRW_common_d13 rfl ?_
  refine jj_callV (pc := 14) (b := w) (As := [.int (nI (y))]) kRW_common_d14 (kvRW_RW_size hG) (kG_cl hG rfl) rfl hw1 rfl rfl rfl (Nat.le_of_ble_eq_true rfl) (Nat.le_of_ble_eq_true rfl) (jj_bare0 rfl) ?_
  refine ri_size (a := a) hG hS1 (hy.congr t1 ho1) hb (by omega) (fun M2 D2 T2 p2 rc2 rs2 hS2 t2 u2 ho2 hf2 hI2 => ?_)
  show jj G kRW_common (d + 7) Q rc2 rs2 17 [some (.ref w), some (.int (nI (x))), some (.int (nI (y))), some (.int (nI (T))), some (.int (nI (p1))), none, none, none, none, none] [.int (nI (p2))] M2
  obtain ⟨hS20, hB2, hTD2, hz2, hp2⟩ := id hS2
  obtain ⟨dd2, hw2, hd2⟩ := id hS20
  have hl2 : D2.length < 2 ^ 31 := by have := hB2.cap; omega
  have hwd2 : w ≠ dd2 := fun e => by subst e; rw [hw2] at hd2; cases hd2
  refine jj_istore (pc := 17) kRW_common_d17 (Nat.le_of_ble_eq_true rfl) ?_
  show jj G kRW_common (d + 7) Q rc2 rs2 19 [some (.ref w), some (.int (nI (x))), some (.int (nI (y))), some (.int (nI (T))), some (.int (nI (p1))), some (.int (nI (p2))), none, none, none, none] [] M2
  exact ri_common_loop hG hp ha2 hT K (zy.natAbs + 1) zx.natAbs zy.natAbs p1 p2 T2 v2 rc2 rs2 none none none none M2 D2 (by omega) ha hb rfl hS2 (by omega) (by omega) (fun i hi => by rw [ho2 i (by omega), ho1 i hi]) (hf1.trans hf2) (hI1.congr t2 ho2) hI2
theorem ri_multiple {x y mark T cm X Z a b : Nat} {zx zy : Int} (hG : kG G) (hS : RS M w D T v2 cm X Z rc rs) (hx : RI D T x zx) (hy : RI D T y zy) (hx0 : 0 < zx) (hy0 : 0 < zy) (ha : zx.natAbs < 32768 ^ a) (hb : zy.natAbs < 32768 ^ b) (hab : a + b ≤ 9000) (hm0 : 0 < mark) (hm : mark ≤ T) (hT : T + 20000 + 9 * (a + b) + 80 ≤ cm)
    (K : ∀ M' D' T' p v2' rc' rs', RS M' w D' T' v2' cm X Z rc' rs' → (T' = T ∧ p = x ∧ (∀ i, i < T → D'.getD i 0 = D.getD i 0) ∨ mark ≤ T' ∧ T' ≤ mark + (a + b) + 1 ∧ (p = 0 ∨ p = mark) ∧ (∀ i, i < mark → D'.getD i 0 = D.getD i 0)) → RF M M' w → RI D' T' p (Int.lcm zx zy : Int) → Q (.returned (some (.int (nI p)))) M' rc' rs') : jj G kRW_multiple (d + 8) Q rc rs 0 (jj_ent [.ref w, .int (nI x), .int (nI y), .int (nI mark)] 8) [] M := by
  obtain ⟨hS0, hB, hTD, hz, hp⟩ := id hS
  obtain ⟨dd, hw, hd⟩ := id hS0
  have hcap := hB.cap
  have hl : D.length < 2 ^ 31 := by omega
  have hwd : w ≠ dd := fun e => by subst e; rw [hw] at hd; cases hd
  have lx := hx.lt
  have ly := hy.lt
  show jj G kRW_multiple (d + 8) Q rc rs 0 [some (.ref w), some (.int (nI (x))), some (.int (nI (y))), some (.int (nI (mark))), none, none, none, none] [] M
  refine jj_aload_n (pc := 0) kRW_multiple_d0 rfl ?_
  refine jj_getf (pc := 1) kRW_multiple_d1 (kfRW_top hG) hw rfl ?_
  refine jj_istore (pc := 4) kRW_multiple_d4 (Nat.le_of_ble_eq_true rfl) ?_
  refine jj_aload_n (pc := 6) kRW_multiple_d6 rfl ?_
  refine jj_iload_n (pc := 7) kRW_multiple_d7 rfl ?_
  refine jj_iload_n (pc := 8) kRW_multiple_d8 rfl ?_
  refine jj_callV (pc := 9) (b := w) (As := [.int (nI (x)), .int (nI (y))]) kRW_multiple_d9 (kvRW_RW_divide hG) (kG_cl hG rfl) rfl hw rfl rfl rfl (Nat.le_of_ble_eq_true rfl) (Nat.le_of_ble_eq_true rfl) (jj_bare0 rfl) ?_
  refine ri_divide (a := a) (b := b) hG hS hx hy hy0 ha hb (by omega) (fun M1 D1 T1 p1 s1 rc1 rs1 hS1 t1 u1 ho1 hf1 hI1 hJ1 => ?_)
  show jj G kRW_multiple (d + 8) Q rc1 rs1 12 [some (.ref w), some (.int (nI (x))), some (.int (nI (y))), some (.int (nI (mark))), some (.int (nI (T))), none, none, none] [.int (nI (p1))] M1
  obtain ⟨hS10, hB1, hTD1, hz1, hp1⟩ := id hS1
  obtain ⟨dd1, hw1, hd1⟩ := id hS10
  have hl1 : D1.length < 2 ^ 31 := by have := hB1.cap; omega
  have hwd1 : w ≠ dd1 := fun e => by subst e; rw [hw1] at hd1; cases hd1
  have lJ := hJ1.lt
  refine jj_pop (pc := 12) kRW_multiple_d12 rfl ?_
  refine jj_aload_n (pc := 13) kRW_multiple_d13 rfl ?_
  refine jj_getf (pc := 14) kRW_multiple_d14 (kfRW_rest hG) hw1 rfl ?_
  refine jn_if_ne (pc := 17) (tgt := 24) kRW_multiple_d17 (by decide) (by omega) (fun c => ?_) (fun c => ?_)
  · skip
    refine jn_iconst (pc := 24) 0 kRW_multiple_d24 (by decide) ?_
    refine jj_istore (pc := 25) kRW_multiple_d25 (Nat.le_of_ble_eq_true rfl) ?_
    refine jj_aload_n (pc := 27) kRW_multiple_d27 rfl ?_
    refine jj_iload (pc := 28) kRW_multiple_d28 rfl ?_
    refine jj_putf (pc := 30) kRW_multiple_d30 (kpRW_top hG) hw1 (by rfl) rfl ?_
    refine jn_gen (fun M101 hM102 => ?_)
    have h103 : M101 dd1 = some (.inr 0, (D1).map .int) := by rw [hM102, jj_up_ne _ _ (Ne.symm hwd1)]; exact hd1
    have h104 : M101 w = some (.inl nRW, [.ref dd1, .int (nI (T)), .int (nI (s1))]) := by rw [hM102]; exact jj_up_at _ _ _
    have hF105 : RF M1 M101 w := by rw [hM102]; exact (RF.refl M1 w).trans (RF.top hw1)
    have hS2 : RS M101 w D1 T (.int (nI s1)) cm X Z rc1 rs1 := ⟨⟨dd1, h104, h103⟩, hB1, by omega, hz1, hp⟩
    have hf2 : RF M M101 w := hf1.trans hF105
    have hx2 : RI D1 T x zx := hx.congr (Nat.le_refl _) ho1
    have hy2 : RI D1 T y zy := hy.congr (Nat.le_refl _) ho1
    have hap : 0 < 32768 ^ a := Nat.pow_pos (by decide)
    have hbp : 0 < 32768 ^ b := Nat.pow_pos (by decide)
    have ha3 : zx.natAbs < 32768 ^ (a + b) := by rw [Nat.pow_add]; exact Nat.lt_of_lt_of_le ha (Nat.le_mul_of_pos_right _ hbp)
    have hb3 : zy.natAbs < 32768 ^ (a + b) := by rw [Nat.pow_add]; exact Nat.lt_of_lt_of_le hb (Nat.le_mul_of_pos_left _ hap)
    have hg0 : 0 < (Int.gcd zx zy : Int) := by have := Int.gcd_pos_of_ne_zero_left (a := zx) zy (by omega); omega
    have hgx : Int.gcd zx zy ≤ zx.natAbs := Nat.le_of_dvd (by omega) (Int.gcd_dvd_natAbs_left ..)
    have hdq : (zx / (Int.gcd zx zy : Int)).natAbs < 32768 ^ a := by
      have h1 : 0 ≤ zx / (Int.gcd zx zy : Int) := Int.ediv_nonneg (by omega) (by omega)
      have h2 : zx / (Int.gcd zx zy : Int) ≤ zx := Int.ediv_le_self _ (by omega)
      omega
    have hlc : zx / (Int.gcd zx zy : Int) * zy = (Int.lcm zx zy : Int) := lcm_div hx0 hy0
    have hlb : (Int.lcm zx zy : Int).natAbs < 32768 ^ (a + b) := by
      rw [← hlc, Int.natAbs_mul, Nat.pow_add]
      exact Nat.mul_lt_mul'' hdq hb
    refine jj_iload (pc := 33) kRW_multiple_d33 rfl ?_
    refine jn_if_eq (pc := 35) (tgt := 40) kRW_multiple_d35 (by decide) (by omega) (fun _ => ?_) (fun c => by exfalso; omega)
    refine jj_aload_n (pc := 40) kRW_multiple_d40 rfl ?_
    refine jj_iload_n (pc := 41) kRW_multiple_d41 rfl ?_
    refine jj_iload_n (pc := 42) kRW_multiple_d42 rfl ?_
    refine jj_callV (pc := 43) (b := w) (As := [.int (nI (x)), .int (nI (y))]) kRW_multiple_d43 (kvRW_RW_common hG) (kG_cl hG rfl) rfl h104 rfl rfl rfl (Nat.le_of_ble_eq_true rfl) (Nat.le_of_ble_eq_true rfl) (jj_bare0 rfl) ?_
    refine ri_common (a := a + b) hG hS2 hx2 hy2 ha3 hb3 (by omega) (by omega) (fun M3 D3 T3 p3 v3 rc3 rs3 hS3 t3 u3 ho3 hf3 hI3 => ?_)
    show jj G kRW_multiple (d + 8) Q rc3 rs3 46 [some (.ref w), some (.int (nI (x))), some (.int (nI (y))), some (.int (nI (mark))), some (.int (nI (T))), some (.int (nI (0))), none, none] [.int (nI (p3))] M3
    obtain ⟨hS30, hB3, hTD3, hz3, hp3⟩ := id hS3
    obtain ⟨dd3, hw3, hd3⟩ := id hS30
    have hl3 : D3.length < 2 ^ 31 := by have := hB3.cap; omega
    have hwd3 : w ≠ dd3 := fun e => by subst e; rw [hw3] at hd3; cases hd3
    refine jj_istore (pc := 46) kRW_multiple_d46 (Nat.le_of_ble_eq_true rfl) ?_
    refine jj_aload_n (pc := 48) kRW_multiple_d48 rfl ?_
    refine jj_aload_n (pc := 49) kRW_multiple_d49 rfl ?_
    refine jj_iload_n (pc := 50) kRW_multiple_d50 rfl ?_
    refine jj_iload (pc := 51) kRW_multiple_d51 rfl ?_
    refine jj_callV (pc := 53) (b := w) (As := [.int (nI (x)), .int (nI (p3))]) kRW_multiple_d53 (kvRW_RW_divide hG) (kG_cl hG rfl) rfl hw3 rfl rfl rfl (Nat.le_of_ble_eq_true rfl) (Nat.le_of_ble_eq_true rfl) (jj_bare0 rfl) ?_
    refine ri_divide (a := a) (b := a) hG hS3 (hx2.congr t3.1 ho3) hI3 hg0 ha (by omega) (by omega) (fun M4 D4 T4 p4 s4 rc4 rs4 hS4 t4 u4 ho4 hf4 hI4 hJ4 => ?_)
    show jj G kRW_multiple (d + 8) Q rc4 rs4 56 [some (.ref w), some (.int (nI (x))), some (.int (nI (y))), some (.int (nI (mark))), some (.int (nI (T))), some (.int (nI (0))), some (.int (nI (p3))), none] [.int (nI (p4)), .ref w] M4
    obtain ⟨hS40, hB4, hTD4, hz4, hp4⟩ := id hS4
    obtain ⟨dd4, hw4, hd4⟩ := id hS40
    have hl4 : D4.length < 2 ^ 31 := by have := hB4.cap; omega
    have hwd4 : w ≠ dd4 := fun e => by subst e; rw [hw4] at hd4; cases hd4
    refine jj_iload_n (pc := 56) kRW_multiple_d56 rfl ?_
    refine jj_callV (pc := 57) (b := w) (As := [.int (nI (p4)), .int (nI (y))]) kRW_multiple_d57 (kvRW_RW_multiply hG) (kG_cl hG rfl) rfl hw4 rfl rfl rfl (Nat.le_of_ble_eq_true rfl) (Nat.le_of_ble_eq_true rfl) (jj_bare0 rfl) ?_
    refine rs_multiply (a := a) (b := b) hG hS4 hI4 ((hy2.congr t3.1 ho3).congr t4.1 ho4) hdq hb (by omega) (fun M5 D5 T5 p5 rc5 rs5 hS5 t5 u5 ho5 hf5 hI5 => ?_)
    show jj G kRW_multiple (d + 8) Q rc5 rs5 60 [some (.ref w), some (.int (nI (x))), some (.int (nI (y))), some (.int (nI (mark))), some (.int (nI (T))), some (.int (nI (0))), some (.int (nI (p3))), none] [.int (nI (p5))] M5
    obtain ⟨hS50, hB5, hTD5, hz5, hp5⟩ := id hS5
    obtain ⟨dd5, hw5, hd5⟩ := id hS50
    have hl5 : D5.length < 2 ^ 31 := by have := hB5.cap; omega
    have hwd5 : w ≠ dd5 := fun e => by subst e; rw [hw5] at hd5; cases hd5
    rw [hlc] at hI5
    refine jj_istore (pc := 60) kRW_multiple_d60 (Nat.le_of_ble_eq_true rfl) ?_
    refine jj_aload_n (pc := 62) kRW_multiple_d62 rfl ?_
    refine jj_aload_n (pc := 63) kRW_multiple_d63 rfl ?_
    refine jj_iload (pc := 64) kRW_multiple_d64 rfl ?_
    refine jj_callV (pc := 66) (b := w) (As := [.int (nI (p5))]) kRW_multiple_d66 (kvRW_RW_copy hG) (kG_cl hG rfl) rfl hw5 rfl rfl rfl (Nat.le_of_ble_eq_true rfl) (Nat.le_of_ble_eq_true rfl) (jj_bare0 rfl) ?_
    refine ri_copy (a := a + b) hG hS5 hI5 hlb (by omega) (fun M6 D6 T6 p6 rc6 rs6 hS6 t6 u6 ho6 hf6 hI6 => ?_)
    show jj G kRW_multiple (d + 8) Q rc6 rs6 69 [some (.ref w), some (.int (nI (x))), some (.int (nI (y))), some (.int (nI (mark))), some (.int (nI (T))), some (.int (nI (0))), some (.int (nI (p3))), some (.int (nI (p5)))] [.int (nI (p6)), .ref w] M6
    obtain ⟨hS60, hB6, hTD6, hz6, hp6⟩ := id hS6
    obtain ⟨dd6, hw6, hd6⟩ := id hS60
    have hl6 : D6.length < 2 ^ 31 := by have := hB6.cap; omega
    have hwd6 : w ≠ dd6 := fun e => by subst e; rw [hw6] at hd6; cases hd6
    refine jj_iload_n (pc := 69) kRW_multiple_d69 rfl ?_
    refine jj_callV (pc := 70) (b := w) (As := [.int (nI (p6)), .int (nI (mark))]) kRW_multiple_d70 (kvRW_RW_moved hG) (kG_cl hG rfl) rfl hw6 rfl rfl rfl (Nat.le_of_ble_eq_true rfl) (Nat.le_of_ble_eq_true rfl) (jj_bare0 rfl) ?_
    refine ri_moved (a := a + b) hG hS6 hI6 hTD6 (by omega) hm0 (by omega) hlb (fun M7 D7 T7 p7 hS7 hlen7 t7 u7 ho7 hf7 hI7 e2 e3 => ?_)
    show jj G kRW_multiple (d + 8) Q rc6 rs6 73 [some (.ref w), some (.int (nI (x))), some (.int (nI (y))), some (.int (nI (mark))), some (.int (nI (T))), some (.int (nI (0))), some (.int (nI (p3))), some (.int (nI (p5)))] [.int (nI (p7))] M7
    have hloc := (MVX.loc ⟨e2, e3⟩ : p7 = 0 ∨ p7 = mark)
    clear e2 e3
    exact jj_iret (pc := 73) kRW_multiple_d73 rfl (by rfl) (K M7 D7 T7 p7 _ rc6 rs6 hS7 (Or.inr ⟨t7.1, u7, hloc, fun i hi => by rw [ho7 i (by omega), ho6 i (by omega), ho5 i (by omega), ho4 i (by omega), ho3 i (by omega), ho1 i (by omega)]⟩) (((((hf2.trans hf3).trans hf4).trans hf5).trans hf6).trans hf7) hI7)
  · skip
    refine jn_iconst (pc := 20) 1 kRW_multiple_d20 (by decide) ?_
    refine jj_goto (pc := 21) (tgt := 25) kRW_multiple_d21 (by decide) ?_
    refine jj_istore (pc := 25) kRW_multiple_d25 (Nat.le_of_ble_eq_true rfl) ?_
    refine jj_aload_n (pc := 27) kRW_multiple_d27 rfl ?_
    refine jj_iload (pc := 28) kRW_multiple_d28 rfl ?_
    refine jj_putf (pc := 30) kRW_multiple_d30 (kpRW_top hG) hw1 (by rfl) rfl ?_
    refine jn_gen (fun M106 hM107 => ?_)
    have h108 : M106 dd1 = some (.inr 0, (D1).map .int) := by rw [hM107, jj_up_ne _ _ (Ne.symm hwd1)]; exact hd1
    have h109 : M106 w = some (.inl nRW, [.ref dd1, .int (nI (T)), .int (nI (s1))]) := by rw [hM107]; exact jj_up_at _ _ _
    have hF110 : RF M1 M106 w := by rw [hM107]; exact (RF.refl M1 w).trans (RF.top hw1)
    have hS2 : RS M106 w D1 T (.int (nI s1)) cm X Z rc1 rs1 := ⟨⟨dd1, h109, h108⟩, hB1, by omega, hz1, hp⟩
    have hf2 : RF M M106 w := hf1.trans hF110
    have hx2 : RI D1 T x zx := hx.congr (Nat.le_refl _) ho1
    have hy2 : RI D1 T y zy := hy.congr (Nat.le_refl _) ho1
    subst c
    have e0 := hJ1.z0 hz1 (by omega)
    have hlc : (Int.lcm zx zy : Int) = zx := lcm_of_dvd hx0 e0
    refine jj_iload (pc := 33) kRW_multiple_d33 rfl ?_
    refine jn_if_eq (pc := 35) (tgt := 40) kRW_multiple_d35 (by decide) (by omega) (fun c => by exfalso; omega) (fun _ => ?_)
    refine jj_iload_n (pc := 38) kRW_multiple_d38 rfl ?_
    exact jj_iret (pc := 39) kRW_multiple_d39 rfl (by rfl) (K _ D1 T x _ rc1 rs1 hS2 (Or.inl ⟨rfl, rfl, ho1⟩) hf2 (by rw [hlc]; exact hx2))
end RW17
