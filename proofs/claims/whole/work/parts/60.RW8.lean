/-! ===== Wholes.lessSizes (printed by wip/gen/rw8.py) ===== -/
theorem nI_sub3 {a b c : Nat} (ha : a < 32768) (hb : b < 32768) (hc : c ≤ 1) : (nI a - nI b - nI c).toInt = (a : Int) - b - c := by
  rw [Int32.toInt_sub, Int32.toInt_sub, nI_toInt (by omega), nI_toInt (by omega), nI_toInt (by omega)]
  rw [Int.bmod_eq_of_le (n := (a : Int) - b) (by omega) (by omega), Int.bmod_eq_of_le (by omega) (by omega)]
theorem less_pos {a b c : Nat} (ha : a < 32768) (hb : b < 32768) (hc : c ≤ 1) (h : b + c ≤ a) : nI a - nI b - nI c = nI (a - b - c) := Int32.toInt_inj.mp (by
  rw [nI_sub3 ha hb hc, nI_toInt (by omega)]
  omega)
theorem less_neg {a b c : Nat} (ha : a < 32768) (hb : b < 32768) (hc : c ≤ 1) (h : ¬ b + c ≤ a) : ¬ (0 : Int32) ≤ nI a - nI b - nI c := by
  rw [Int32.le_iff_toInt_le, nI_sub3 ha hb hc, show (0 : Int32).toInt = 0 by decide]
  omega
theorem less_add {a b c : Nat} (ha : a < 32768) (hb : b < 32768) (hc : c ≤ 1) (h : ¬ b + c ≤ a) : nI a - nI b - nI c + 32768 = nI (a + 32768 - b - c) := Int32.toInt_inj.mp (by
  rw [Int32.toInt_add, nI_sub3 ha hb hc, nI_toInt (by omega), show (32768 : Int32).toInt = 32768 by decide, Int.bmod_eq_of_le (by omega) (by omega)]
  omega)
theorem less_step {r c a b P u v e c' : Nat} (h : r + v = u + c * P) (hs : e + b + c = a + c' * 32768) : r + e * P + (v + b * P) = (u + a * P) + c' * (P * 32768) := by
  have e1 : e * P + b * P + c * P = a * P + c' * (P * 32768) := by
    rw [← Nat.add_mul, ← Nat.add_mul, hs, Nat.add_mul, Nat.mul_comm P, Nat.mul_assoc]
  omega
section RW8
variable {G : jg} {d : Nat} {Q : jq} {rc rs : Nat} {M : mheap} {w : Nat} {v2 : Value} {D : List Int32}
theorem rs_lessSizes {x y T cm X Z a : Nat} {zx zy : Int} {z : Int32} (hG : kG G) (hS : RS M w D T v2 cm X Z rc rs) (hx : RI D T x zx) (hy : RI D T y zy) (ha : zx.natAbs < 32768 ^ a) (hle : zy.natAbs ≤ zx.natAbs) (hT : T + a + 1 ≤ cm)
    (k : RP Q M w D T v2 cm X Z (T + a + 1) (sgnI z (zx.natAbs - zy.natAbs))) : jj G kRW_lessSizes (d + 3) Q rc rs 0 (jj_ent [.ref w, .int (nI x), .int (nI y), .int z] 8) [] M := by
  show jj G kRW_lessSizes (d + 3) Q rc rs 0 [some (.ref w), some (.int (nI x)), some (.int (nI y)), some (.int z), none, none, none, none] [] M
  obtain ⟨hS0, hB, hTD, hz, hp⟩ := hS
  obtain ⟨dd, hw, hd⟩ := id hS0
  obtain ⟨n, x1, x2, x3, x4, x5⟩ := hx
  obtain ⟨m, y1, y2, y3, y4, y5⟩ := hy
  have hcap := hB.cap
  have hl : D.length < 2 ^ 31 := by omega
  have xn := RI.len x3 x4 x5 ha
  have hmn : m ≤ n := by
    rcases Nat.lt_or_ge n m with h | h
    · have := rnat_more x3 y3 y4 h
      omega
    · exact h
  have x6 := nI_iabs (by omega) x2
  have y6 := nI_iabs (by omega) y2
  refine jj_aload_n (pc := 0) kRW_lessSizes_d0 rfl ?_
  refine jj_iload_n (pc := 1) kRW_lessSizes_d1 rfl ?_
  refine jj_callV (pc := 2) (b := w) (As := [.int (nI x)]) kRW_lessSizes_d2 (kvRW_RW_digits hG) (kG_cl hG rfl) rfl hw rfl rfl rfl (Nat.le_of_ble_eq_true rfl) (Nat.le_of_ble_eq_true rfl) (jj_bare0 rfl) ?_
  refine rw_digits hG hw hd hl (by omega) ?_
  show jj G kRW_lessSizes (d + 3) Q rc rs 5 [some (.ref w), some (.int (nI x)), some (.int (nI y)), some (.int z), none, none, none, none] [.int (iabs (D.getD x 0))] M
  rw [x6]
  refine jj_istore (pc := 5) kRW_lessSizes_d5 (Nat.le_of_ble_eq_true rfl) ?_
  show jj G kRW_lessSizes (d + 3) Q rc rs 7 [some (.ref w), some (.int (nI x)), some (.int (nI y)), some (.int z), some (.int (nI (n))), none, none, none] [] M
  refine jj_aload_n (pc := 7) kRW_lessSizes_d7 rfl ?_
  refine jj_iload (pc := 8) kRW_lessSizes_d8 rfl ?_
  refine jj_iconst (pc := 10) (v := 1) kRW_lessSizes_d10 (by decide) ?_
  refine jj_iadd (pc := 11) kRW_lessSizes_d11 ?_
  rw [show (1 : Int32) = nI 1 from rfl, nI_add]
  refine jj_callV (pc := 12) (b := w) (As := [.int (nI (n + 1))]) kRW_lessSizes_d12 (kvRW_RW_room hG) (kG_cl hG rfl) rfl hw rfl rfl rfl (Nat.le_of_ble_eq_true rfl) (Nat.le_of_ble_eq_true rfl) (jj_bare0 rfl) ?_
  refine rs_room hG hS0 hB (by omega) (fun M1 D1 rc1 rs1 hS1 hB1 hl1 hx1 hf1 => ?_)
  show jj G kRW_lessSizes (d + 3) Q rc1 rs1 15 [some (.ref w), some (.int (nI x)), some (.int (nI y)), some (.int z), some (.int (nI (n))), none, none, none] [] M1
  refine jj_iconst (pc := 15) (v := 0) kRW_lessSizes_d15 (by decide) ?_
  refine jj_istore (pc := 16) kRW_lessSizes_d16 (Nat.le_of_ble_eq_true rfl) ?_
  refine jj_iconst (pc := 18) (v := 0) kRW_lessSizes_d18 (by decide) ?_
  refine jj_istore (pc := 19) kRW_lessSizes_d19 (Nat.le_of_ble_eq_true rfl) ?_
  show jj G kRW_lessSizes (d + 3) Q rc1 rs1 21 [some (.ref w), some (.int (nI x)), some (.int (nI y)), some (.int z), some (.int (nI (n))), some (.int (nI (0))), some (.int (nI (0))), none] [] M1
  have hl2 : D1.length < 2 ^ 31 := by have := hB1.cap; omega
  have loop : ∀ j k, n = k + j → ∀ (c : Nat) (o : Option Value) (M2 : mheap) (D2 : List Int32), RW M2 w D2 T v2 → D2.length = D1.length → RF M1 M2 w → (∀ q, q ≤ T → D2.getD q 0 = D.getD q 0) → RD D2 T k → c ≤ 1 → rnat D2 T k + rnat D y (min k m) = rnat D x (min k n) + c * 32768 ^ k → jj G kRW_lessSizes (d + 3) Q rc1 rs1 21 [some (.ref w), some (.int (nI x)), some (.int (nI y)), some (.int z), some (.int (nI (n))), some (.int (nI (c))), some (.int (nI (k))), o] [] M2 := by
    intro j
    induction j with
    | zero =>
      intro k' hk c o M2 D2 hS2 hlen hf2 ho hD hc hr
      obtain ⟨dd2, hw2, hd2⟩ := id hS2
      have e : k' = n := by omega
      subst e
      have e2 : min k' m = m := Nat.min_eq_right (by omega)
      rw [Nat.min_self, e2, x5, y5] at hr
      have hlt := rnat_lt hD
      have hc0 : c = 0 := by
        rcases Nat.eq_zero_or_pos c with h | h
        · exact h
        · have hc1 : c = 1 := by omega
          rw [hc1] at hr
          omega
      have hv : rnat D2 T k' = zx.natAbs - zy.natAbs := by rw [hc0, Nat.zero_mul] at hr; omega
      refine jj_iload (pc := 21) kRW_lessSizes_d21 rfl ?_
      refine jj_iload (pc := 23) kRW_lessSizes_d23 rfl ?_
      refine jj_icmp_ge (pc := 25) (tgt := 95) kRW_lessSizes_d25 (by decide) (fun c => ?_) (fun c => absurd (nI_le (Nat.le_refl _) (by omega)) c)
      refine jj_aload_n (pc := 95) kRW_lessSizes_d95 rfl ?_
      refine jj_iload (pc := 96) kRW_lessSizes_d96 rfl ?_
      refine jj_iload_n (pc := 98) kRW_lessSizes_d98 rfl ?_
      refine jj_callV (pc := 99) (b := w) (As := [.int (nI k'), .int z]) kRW_lessSizes_d99 (kvRW_RW_finish hG) (kG_cl hG rfl) rfl hw2 rfl rfl rfl (Nat.le_of_ble_eq_true rfl) (Nat.le_of_ble_eq_true rfl) (jj_bare0 rfl) ?_
      refine rs_fin hG hS2 (by omega) (by omega) hD (by rw [ho 0 (Nat.zero_le T)]; exact hz) hp (fun M3 D3 T3 p hS3 hl3 t1 t2 ho3 hf3 hI => ?_)
      show jj G kRW_lessSizes (d + 3) Q rc1 rs1 102 _ [.int (nI p)] M3
      rw [hv] at hI
      have ho4 : ∀ i, i < T → D3.getD i 0 = D.getD i 0 := fun i hi => by rw [ho3 i hi, ho i (by omega)]
      exact jj_iret (pc := 102) kRW_lessSizes_d102 rfl rfl (k M3 D3 T3 p rc1 rs1 ⟨hS3, hB1.same (by omega), by omega, by rw [ho4 0 hp]; exact hz, by omega⟩ t1 (by omega) ho4 ((hf1.trans hf2).trans hf3) hI)
    | succ j ih =>
      intro k hk c o M2 D2 hS2 hlen hf2 ho hD hc hr
      obtain ⟨dd2, hw2, hd2⟩ := id hS2
      have hwd2 : w ≠ dd2 := fun e => by subst e; rw [hw2] at hd2; cases hd2
      have hl3 : D2.length < 2 ^ 31 := by omega
      obtain ⟨ax, ax1⟩ := rw_dig_val (k := k) x3 x1.1 ho
      obtain ⟨ay, ay1⟩ := rw_dig_val (k := k) y3 y1.1 ho
      have mx := rnat_min (D := D) (x := x) (n := n) (k := k)
      have my := rnat_min (D := D) (x := y) (n := m) (k := k)
      revert ax ax1 ay ay1 mx my
      generalize (if k < n then dv D (x + (k + 1)) else 0) = va
      generalize (if k < m then dv D (y + (k + 1)) else 0) = vb
      intro ax ax1 ay ay1 mx my
      refine jj_iload (pc := 21) kRW_lessSizes_d21 rfl ?_
      refine jj_iload (pc := 23) kRW_lessSizes_d23 rfl ?_
      refine jj_icmp_ge (pc := 25) (tgt := 95) kRW_lessSizes_d25 (by decide) (fun c' => absurd c' (nI_ge (by omega) (by omega))) (fun _ => ?_)
      refine jj_aload_n (pc := 28) kRW_lessSizes_d28 rfl ?_
      refine jj_iload_n (pc := 29) kRW_lessSizes_d29 rfl ?_
      refine jj_iload (pc := 30) kRW_lessSizes_d30 rfl ?_
      refine jj_callV (pc := 32) (b := w) (As := [.int (nI x), .int (nI k)]) kRW_lessSizes_d32 (kvRW_RW_digit hG) (kG_cl hG rfl) rfl hw2 rfl rfl rfl (Nat.le_of_ble_eq_true rfl) (Nat.le_of_ble_eq_true rfl) (jj_bare0 rfl) ?_
      refine rw_digit hG hw2 hd2 hl3 (by omega) (by rw [ho x (by omega)]; exact x6) (by omega) (by omega) ?_
      show jj G kRW_lessSizes (d + 3) Q rc1 rs1 35 [some (.ref w), some (.int (nI x)), some (.int (nI y)), some (.int z), some (.int (nI (n))), some (.int (nI (c))), some (.int (nI (k))), o] [.int (if k < n then D2.getD (x + 1 + k) 0 else 0)] M2
      rw [ax]
      refine jj_aload_n (pc := 35) kRW_lessSizes_d35 rfl ?_
      refine jj_iload_n (pc := 36) kRW_lessSizes_d36 rfl ?_
      refine jj_iload (pc := 37) kRW_lessSizes_d37 rfl ?_
      refine jj_callV (pc := 39) (b := w) (As := [.int (nI y), .int (nI k)]) kRW_lessSizes_d39 (kvRW_RW_digit hG) (kG_cl hG rfl) rfl hw2 rfl rfl rfl (Nat.le_of_ble_eq_true rfl) (Nat.le_of_ble_eq_true rfl) (jj_bare0 rfl) ?_
      refine rw_digit hG hw2 hd2 hl3 (by omega) (by rw [ho y (by omega)]; exact y6) (by omega) (by omega) ?_
      show jj G kRW_lessSizes (d + 3) Q rc1 rs1 42 [some (.ref w), some (.int (nI x)), some (.int (nI y)), some (.int z), some (.int (nI (n))), some (.int (nI (c))), some (.int (nI (k))), o] [.int (if k < m then D2.getD (y + 1 + k) 0 else 0), .int (nI va)] M2
      rw [ay]
      refine jj_isub (pc := 42) kRW_lessSizes_d42 ?_
      refine jj_iload (pc := 43) kRW_lessSizes_d43 rfl ?_
      refine jj_isub (pc := 45) kRW_lessSizes_d45 ?_
      refine jj_istore (pc := 46) kRW_lessSizes_d46 (Nat.le_of_ble_eq_true rfl) ?_
      show jj G kRW_lessSizes (d + 3) Q rc1 rs1 48 [some (.ref w), some (.int (nI x)), some (.int (nI y)), some (.int z), some (.int (nI (n))), some (.int (nI (c))), some (.int (nI (k))), some (.int (nI va - nI vb - nI c))] [] M2
      have step : ∀ (V : Int32) (c' e : Nat), e < 32768 → c' ≤ 1 → e + vb + c = va + c' * 32768 → jj G kRW_lessSizes (d + 3) Q rc1 rs1 88 [some (.ref w), some (.int (nI x)), some (.int (nI y)), some (.int z), some (.int (nI (n))), some (.int (nI c')), some (.int (nI (k))), some (.int V)] [.int (nI e), .int (nI T + 1 + nI k), .ref dd2] M2 := by
        intro V c' e he hc' hs
        refine jj_iast (pc := 88) kRW_lessSizes_d88 (kG_t hG rfl) hd2 (i := T + (k + 1)) (by rw [show (1 : Int32) = nI 1 from rfl, nI_add, nI_add, Nat.add_assoc T 1 k, Nat.add_comm 1 k]) (by rw [List.length_map]; exact hl3) (by rw [List.length_map]; omega) ?_
        rw [gd_set]
        refine jj_iinc (pc := 89) kRW_lessSizes_d89 rfl ?_
        refine jj_goto (pc := 92) (tgt := 21) kRW_lessSizes_d92 (by decide) ?_
        show jj G kRW_lessSizes (d + 3) Q rc1 rs1 21 [some (.ref w), some (.int (nI x)), some (.int (nI y)), some (.int z), some (.int (nI (n))), some (.int (nI c')), some (.int (nI k + Int32.ofInt 1)), some (.int V)] [] _
        rw [show nI k + Int32.ofInt 1 = nI (k + 1) from nI_1 k]
        refine ih (k + 1) (by omega) _ _ _ (D2.set (T + (k + 1)) (nI e)) ⟨dd2, by rw [jj_up_ne _ _ hwd2]; exact hw2, jj_up_at _ _ _⟩ (by rw [List.length_set]; exact hlen) (hf2.trans (RF.put hw2 hwd2)) (fun q hq => by rw [gd_set_ne (by omega)]; exact ho q hq) (hD.put (by omega) he) hc' ?_
        rw [rnat_put (by omega) he, mx, my, Nat.pow_succ]
        exact less_step hr hs
      by_cases hge : vb + c ≤ va
      · rw [less_pos ax1 ay1 hc hge]
        have hnn : (0 : Int32) ≤ nI (va - vb - c) := nI_le (Nat.zero_le _) (by omega)
        refine jj_iload (pc := 48) kRW_lessSizes_d48 rfl ?_
        refine jj_if_ge (pc := 50) (tgt := 57) kRW_lessSizes_d50 (by decide) (fun _ => ?_) (fun c' => absurd hnn c')
        refine jj_iconst (pc := 57) (v := 0) kRW_lessSizes_d57 (by decide) ?_
        refine jj_istore (pc := 58) kRW_lessSizes_d58 (Nat.le_of_ble_eq_true rfl) ?_
        show jj G kRW_lessSizes (d + 3) Q rc1 rs1 60 [some (.ref w), some (.int (nI x)), some (.int (nI y)), some (.int z), some (.int (nI (n))), some (.int (nI (0))), some (.int (nI (k))), some (.int (nI (va - vb - c)))] [] M2
        refine jj_aload_n (pc := 60) kRW_lessSizes_d60 rfl ?_
        refine jj_getf (pc := 61) kRW_lessSizes_d61 (kfRW_d hG) hw2 rfl ?_
        refine jj_aload_n (pc := 64) kRW_lessSizes_d64 rfl ?_
        refine jj_getf (pc := 65) kRW_lessSizes_d65 (kfRW_top hG) hw2 rfl ?_
        refine jj_iconst (pc := 68) (v := 1) kRW_lessSizes_d68 (by decide) ?_
        refine jj_iadd (pc := 69) kRW_lessSizes_d69 ?_
        refine jj_iload (pc := 70) kRW_lessSizes_d70 rfl ?_
        refine jj_iadd (pc := 72) kRW_lessSizes_d72 ?_
        refine jj_iload (pc := 73) kRW_lessSizes_d73 rfl ?_
        refine jj_if_ge (pc := 75) (tgt := 86) kRW_lessSizes_d75 (by decide) (fun _ => ?_) (fun c' => absurd hnn c')
        refine jj_iload (pc := 86) kRW_lessSizes_d86 rfl ?_
        exact step _ 0 _ (by omega) (by omega) (by omega)
      · have hnn := less_neg ax1 ay1 hc hge
        refine jj_iload (pc := 48) kRW_lessSizes_d48 rfl ?_
        refine jj_if_ge (pc := 50) (tgt := 57) kRW_lessSizes_d50 (by decide) (fun c' => absurd c' hnn) (fun _ => ?_)
        refine jj_iconst (pc := 53) (v := 1) kRW_lessSizes_d53 (by decide) ?_
        refine jj_goto (pc := 54) (tgt := 58) kRW_lessSizes_d54 (by decide) ?_
        refine jj_istore (pc := 58) kRW_lessSizes_d58 (Nat.le_of_ble_eq_true rfl) ?_
        show jj G kRW_lessSizes (d + 3) Q rc1 rs1 60 [some (.ref w), some (.int (nI x)), some (.int (nI y)), some (.int z), some (.int (nI (n))), some (.int (nI (1))), some (.int (nI (k))), some (.int (nI va - nI vb - nI c))] [] M2
        refine jj_aload_n (pc := 60) kRW_lessSizes_d60 rfl ?_
        refine jj_getf (pc := 61) kRW_lessSizes_d61 (kfRW_d hG) hw2 rfl ?_
        refine jj_aload_n (pc := 64) kRW_lessSizes_d64 rfl ?_
        refine jj_getf (pc := 65) kRW_lessSizes_d65 (kfRW_top hG) hw2 rfl ?_
        refine jj_iconst (pc := 68) (v := 1) kRW_lessSizes_d68 (by decide) ?_
        refine jj_iadd (pc := 69) kRW_lessSizes_d69 ?_
        refine jj_iload (pc := 70) kRW_lessSizes_d70 rfl ?_
        refine jj_iadd (pc := 72) kRW_lessSizes_d72 ?_
        refine jj_iload (pc := 73) kRW_lessSizes_d73 rfl ?_
        refine jj_if_ge (pc := 75) (tgt := 86) kRW_lessSizes_d75 (by decide) (fun c' => absurd c' hnn) (fun _ => ?_)
        refine jj_iload (pc := 78) kRW_lessSizes_d78 rfl ?_
        refine jj_ldc (pc := 80) kRW_lessSizes_d80 (kcRW_i32768 hG) ?_
        refine jj_iadd (pc := 82) kRW_lessSizes_d82 ?_
        refine jj_goto (pc := 83) (tgt := 88) kRW_lessSizes_d83 (by decide) ?_
        rw [less_add ax1 ay1 hc hge]
        exact step _ 1 _ (by omega) (by omega) (by omega)
  exact loop n 0 (by omega) 0 none M1 D1 hS1 rfl (RF.refl M1 w) (fun q _ => hx1.at q) (fun i h1 h2 => by omega) (by omega) (by rw [Nat.min_eq_left (Nat.zero_le n), Nat.min_eq_left (Nat.zero_le m)]; rfl)
end RW8
