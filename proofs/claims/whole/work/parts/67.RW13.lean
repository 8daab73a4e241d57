/-! ===== Wholes.of, length (printed by wip/gen/rw13.py) ===== -/
section RW13
variable {G : jg} {d : Nat} {Q : jq} {rc rs : Nat} {M : mheap} {w : Nat} {v2 : Value} {D : List Int32}
theorem ri_of {T cm X Z : Nat} {v : Int64} (hG : kG G) (hS : RS M w D T v2 cm X Z rc rs) (hT : T + 7 ≤ cm)
    (k : RP Q M w D T v2 cm X Z (T + 6) v.toInt) : jj G kRW_of (d + 3) Q rc rs 0 (jj_ent [.ref w, .long v] 7) [] M := by
  obtain ⟨hS0, hB, hTD, hz, hp⟩ := id hS
  obtain ⟨dd, hw, hd⟩ := id hS0
  have hcap := hB.cap
  have hl : D.length < 2 ^ 31 := by omega
  have hva : v.toInt.natAbs ≤ 9223372036854775808 := by have := Int64.le_toInt v; have := Int64.toInt_lt v; omega
  have hv5 : v.toInt.natAbs / 32768 ^ 5 = 0 := Nat.div_eq_of_lt (by omega)
  show jj G kRW_of (d + 3) Q rc rs 0 [some (.ref w), some (.long (v)), none, none, none, none, none] [] M
  refine jj_aload_n (pc := 0) kRW_of_d0 rfl ?_
  refine jn_bipush (pc := 1) 7 kRW_of_d1 (by decide) ?_
  refine jj_callV (pc := 3) (b := w) (As := [.int (nI (7))]) kRW_of_d3 (kvRW_RW_room hG) (kG_cl hG rfl) rfl hw rfl rfl rfl (Nat.le_of_ble_eq_true rfl) (Nat.le_of_ble_eq_true rfl) (jj_bare0 rfl) ?_
  refine rs_room hG hS0 hB (by omega) (fun M1 D1 rc1 rs1 hS1 hB1 hl1 hx1 hf1 => ?_)
  show jj G kRW_of (d + 3) Q rc1 rs1 6 [some (.ref w), some (.long (v)), none, none, none, none, none] [] M1
  refine jj_lload_n (pc := 6) kRW_of_d6 rfl ?_
  refine jj_lstore_n (pc := 7) kRW_of_d7 (Nat.le_of_ble_eq_true rfl) ?_
  refine jn_iconst (pc := 8) 0 kRW_of_d8 (by decide) ?_
  refine jj_istore (pc := 9) kRW_of_d9 (Nat.le_of_ble_eq_true rfl) ?_
  refine jn_gen (fun M9 hM9 => ?_)
  rw [hM9]
  have hl2 : D1.length < 2 ^ 31 := by have := hB1.cap; omega
  have fin : ∀ (n : Nat) (o3 o6 : Option Value) (M2 : mheap) (D2 : List Int32), n ≤ 5 → RW M2 w D2 T v2 → D2.length = D1.length → RF M1 M2 w → (∀ q, q ≤ T → D2.getD q 0 = D.getD q 0) → RD D2 T n → rnat D2 T n = v.toInt.natAbs → jj G kRW_of (d + 3) Q rc1 rs1 64 [some (.ref w), some (.long (v)), none, (o3), none, some (.int (nI (n))), (o6)] [] M2 := by
    intro n o3 o6 M2 D2 hn hS2 hlen hf2 ho hD hv
    obtain ⟨dd2, hw2, hd2⟩ := id hS2
    have hl3 : D2.length < 2 ^ 31 := by omega
    have k78 : ∀ s : Int32, (s = 0 ∧ 0 ≤ v.toInt ∨ s = 1 ∧ v.toInt < 0) → jj G kRW_of (d + 3) Q rc1 rs1 78 [some (.ref w), some (.long (v)), none, (o3), none, some (.int (nI (n))), (o6)] [.int (s), .int (nI (n)), .ref w] M2 := by
      intro s hs
      refine jj_callV (pc := 78) (b := w) (As := [.int (nI (n)), .int (s)]) kRW_of_d78 (kvRW_RW_finish hG) (kG_cl hG rfl) rfl hw2 rfl rfl rfl (Nat.le_of_ble_eq_true rfl) (Nat.le_of_ble_eq_true rfl) (jj_bare0 rfl) ?_
      refine rs_fin hG hS2 hl3 (by omega) hD (by rw [ho 0 (Nat.zero_le T)]; exact hz) hp (fun M3 D3 T3 p hS3 hl4 t1 t2 ho3 hf3 hI => ?_)
      show jj G kRW_of (d + 3) Q rc1 rs1 81 [some (.ref w), some (.long (v)), none, (o3), none, some (.int (nI (n))), (o6)] [.int (nI (p))] M3
      have e : sgnI s (rnat D2 T n) = v.toInt := by
        rw [hv]
        unfold sgnI
        rcases hs with ⟨h1, h2⟩ | ⟨h1, h2⟩
        · rw [if_pos h1]; omega
        · rw [if_neg (by rw [h1]; decide)]; omega
      rw [e] at hI
      have ho4 : ∀ i, i < T → D3.getD i 0 = D.getD i 0 := fun i hi => by rw [ho3 i hi, ho i (by omega)]
      exact jj_iret (pc := 81) kRW_of_d81 rfl (by rfl) (k M3 D3 T3 p rc1 rs1 ⟨hS3, hB1.same (by omega), by omega, by rw [ho4 0 hp]; exact hz, by omega⟩ t1 (by omega) ho4 ((hf1.trans hf2).trans hf3) hI)
    refine jj_aload_n (pc := 64) kRW_of_d64 rfl ?_
    refine jj_iload (pc := 65) kRW_of_d65 rfl ?_
    refine jj_lload_n (pc := 67) kRW_of_d67 rfl ?_
    refine jj_lconst (pc := 68) (v := lN 0) kRW_of_d68 (by decide) ?_
    refine jj_lcmp (pc := 69) kRW_of_d69 ?_
    refine jj_if_ge (pc := 70) (tgt := 77) kRW_of_d70 (by decide) (fun c => ?_) (fun c => ?_)
    · skip
      rw [lg_cmp_ge, Int64.le_iff_toInt_le] at c
      refine jn_iconst (pc := 77) 0 kRW_of_d77 (by decide) ?_
      exact k78 0 (Or.inl ⟨rfl, c⟩)
    · skip
      rw [lg_cmp_ge, Int64.le_iff_toInt_le] at c
      refine jn_iconst (pc := 73) 1 kRW_of_d73 (by decide) ?_
      refine jj_goto (pc := 74) (tgt := 78) kRW_of_d74 (by decide) ?_
      exact k78 1 (Or.inr ⟨rfl, Int.not_le.mp c⟩)
  have loop : ∀ j n, 5 = n + j → ∀ (z : Int) (o6 : Option Value) (M2 : mheap) (D2 : List Int32), RW M2 w D2 T v2 → D2.length = D1.length → RF M1 M2 w → (∀ q, q ≤ T → D2.getD q 0 = D.getD q 0) → RD D2 T n → z.natAbs = v.toInt.natAbs / 32768 ^ n → -9223372036854775808 ≤ z → z < 9223372036854775808 → rnat D2 T n = v.toInt.natAbs % 32768 ^ n → jj G kRW_of (d + 3) Q rc1 rs1 11 [some (.ref w), some (.long (v)), none, some (.long (lZ z)), none, some (.int (nI (n))), (o6)] [] M2 := by
    intro j
    induction j with
    | zero =>
      intro n hn z o6 M2 D2 hS2 hlen hf2 ho hD hza z1 z2 hr
      obtain ⟨dd2, hw2, hd2⟩ := id hS2
      have hwd2 : w ≠ dd2 := fun e => by subst e; rw [hw2] at hd2; cases hd2
      have hl3 : D2.length < 2 ^ 31 := by omega
      refine jj_lload_n (pc := 11) kRW_of_d11 rfl ?_
      refine jj_lconst (pc := 12) (v := lN 0) kRW_of_d12 (by decide) ?_
      refine jj_lcmp (pc := 13) kRW_of_d13 ?_
      refine jj_if_eq (pc := 14) (tgt := 64) kRW_of_d14 (by decide) (fun c => ?_) (fun c => ?_)
      · skip
        rw [lg_cmp_eq] at c
        have e := congrArg Int64.toInt c
        rw [lZ_toInt z1 z2, lN_big (by decide)] at e
        have e0 : v.toInt.natAbs / 32768 ^ n = 0 := by rw [← hza, e]; rfl
        have e1 : v.toInt.natAbs < 32768 ^ n := (Nat.div_eq_zero_iff_lt (Nat.pow_pos (by decide))).mp e0
        exact fin n _ o6 M2 D2 (by omega) hS2 hlen hf2 ho hD (by rw [hr, Nat.mod_eq_of_lt e1])
      · skip
        have z0 : z ≠ 0 := fun e => c ((lg_cmp_eq ..).mpr (by rw [e]; rfl))
        exfalso
        have e : n = 5 := by omega
        subst e
        omega
    | succ j ih =>
      intro n hn z o6 M2 D2 hS2 hlen hf2 ho hD hza z1 z2 hr
      obtain ⟨dd2, hw2, hd2⟩ := id hS2
      have hwd2 : w ≠ dd2 := fun e => by subst e; rw [hw2] at hd2; cases hd2
      have hl3 : D2.length < 2 ^ 31 := by omega
      refine jj_lload_n (pc := 11) kRW_of_d11 rfl ?_
      refine jj_lconst (pc := 12) (v := lN 0) kRW_of_d12 (by decide) ?_
      refine jj_lcmp (pc := 13) kRW_of_d13 ?_
      refine jj_if_eq (pc := 14) (tgt := 64) kRW_of_d14 (by decide) (fun c => ?_) (fun c => ?_)
      · skip
        rw [lg_cmp_eq] at c
        have e := congrArg Int64.toInt c
        rw [lZ_toInt z1 z2, lN_big (by decide)] at e
        have e0 : v.toInt.natAbs / 32768 ^ n = 0 := by rw [← hza, e]; rfl
        have e1 : v.toInt.natAbs < 32768 ^ n := (Nat.div_eq_zero_iff_lt (Nat.pow_pos (by decide))).mp e0
        exact fin n _ o6 M2 D2 (by omega) hS2 hlen hf2 ho hD (by rw [hr, Nat.mod_eq_of_lt e1])
      · skip
        have z0 : z ≠ 0 := fun e => c ((lg_cmp_eq ..).mpr (by rw [e]; rfl))
        have hg : z.natAbs % 32768 < 32768 := Nat.mod_lt _ (by decide)
        have htm := tmod_abs z
        obtain ⟨g, hg2⟩ : ∃ g, z.natAbs % 32768 = g := ⟨_, rfl⟩
        rw [hg2] at hg htm
        have k51 : ∀ o6 : Option Value, jj G kRW_of (d + 3) Q rc1 rs1 51 [some (.ref w), some (.long (v)), none, some (.long (lZ z)), none, some (.int (nI (n))), (o6)] [.int (nI (g)), .int (nI (T + n + 1)), .ref dd2] M2 := by
          intro o6
          refine jn_iast (pc := 51) kRW_of_d51 (kG_t hG rfl) hd2 hl3 (by omega) ?_
          refine jn_gen (fun M101 hM102 => ?_)
          have h103 : M101 w = some (.inl nRW, [.ref dd2, .int (nI (T)), v2]) := by rw [hM102, jj_up_ne _ _ hwd2]; exact hw2
          have h104 : M101 dd2 = some (.inr 0, ((D2).set (T + n + 1) ((nI (g)))).map .int) := by rw [hM102]; exact jj_up_at _ _ _
          have hF105 : RF M1 M101 w := by rw [hM102]; exact hf2.trans (RF.put hw2 hwd2)
          refine jj_lload_n (pc := 52) kRW_of_d52 rfl ?_
          refine jj_ldc2 (pc := 53) kRW_of_d53 (kcRW_32768 hG) ?_
          refine jn_top (.long (lN (32768))) (rfl) ?_
          refine jj_ldiv (pc := 56) kRW_of_d56 (by decide) ?_
          refine jn_top (.long (lZ (z.tdiv 32768))) (congrArg Value.long (lZ_div z1 z2)) ?_
          refine jj_lstore_n (pc := 57) kRW_of_d57 (Nat.le_of_ble_eq_true rfl) ?_
          refine jn_iinc (pc := 58) (n + 1) kRW_of_d58 rfl (nI_1 _) ?_
          refine jj_goto (pc := 61) (tgt := 11) kRW_of_d61 (by decide) ?_
          show jj G kRW_of (d + 3) Q rc1 rs1 11 [some (.ref w), some (.long (v)), none, some (.long (lZ (z.tdiv 32768))), none, some (.int (nI (n + 1))), (o6)] [] M101
          have htd := tdiv_abs z
          refine ih (n + 1) (by omega) (z.tdiv 32768) o6 _ (D2.set (T + (n + 1)) (nI g)) ⟨dd2, h103, h104⟩ (by rw [List.length_set]; exact hlen) hF105 (fun q hq => by rw [gd_set_ne (by omega)]; exact ho q hq) (hD.put (by omega) hg) (by rw [htd, hza, Nat.div_div_eq_div_mul, Nat.pow_succ]) (by omega) (by omega) ?_
          rw [rnat_put (by omega) hg, hr, Nat.mod_pow_succ, ← hza, hg2, Nat.mul_comm]
        refine jj_lload_n (pc := 17) kRW_of_d17 rfl ?_
        refine jj_ldc2 (pc := 18) kRW_of_d18 (kcRW_32768 hG) ?_
        refine jn_top (.long (lN (32768))) (rfl) ?_
        refine jj_lrem (pc := 21) kRW_of_d21 (by decide) ?_
        refine jn_top (.long (lZ (z.tmod 32768))) (congrArg Value.long (lZ_rem z1 z2)) ?_
        refine jj_l2i (pc := 22) kRW_of_d22 ?_
        refine jn_top (.int (zI (z.tmod 32768))) (congrArg Value.int lZ_i) ?_
        refine jj_istore (pc := 23) kRW_of_d23 (Nat.le_of_ble_eq_true rfl) ?_
        refine jj_aload_n (pc := 25) kRW_of_d25 rfl ?_
        refine jj_getf (pc := 26) kRW_of_d26 (kfRW_d hG) hw2 rfl ?_
        refine jj_aload_n (pc := 29) kRW_of_d29 rfl ?_
        refine jj_getf (pc := 30) kRW_of_d30 (kfRW_top hG) hw2 rfl ?_
        refine jn_iconst (pc := 33) 1 kRW_of_d33 (by decide) ?_
        refine jn_iadd (pc := 34) (T + 1) kRW_of_d34 (by omega) ?_
        refine jj_iload (pc := 35) kRW_of_d35 rfl ?_
        refine jn_iadd (pc := 37) (T + n + 1) kRW_of_d37 (by omega) ?_
        refine jj_iload (pc := 38) kRW_of_d38 rfl ?_
        refine jz_if_ge (pc := 40) (tgt := 49) (a := z.tmod 32768) kRW_of_d40 (by decide) rfl (by omega) (by omega) (fun c => ?_) (fun c => ?_)
        · skip
          refine jj_iload (pc := 49) kRW_of_d49 rfl ?_
          refine jn_top (.int (nI (g))) (congrArg Value.int (zI_to (by omega))) ?_
          exact k51 _
        · skip
          refine jj_iload (pc := 43) kRW_of_d43 rfl ?_
          refine jj_ineg (pc := 45) kRW_of_d45 ?_
          refine jn_top (.int (nI (g))) (congrArg Value.int (by rw [zI_neg]; exact zI_to (by omega))) ?_
          refine jj_goto (pc := 46) (tgt := 51) kRW_of_d46 (by decide) ?_
          exact k51 _
  have h9 := loop 5 0 rfl v.toInt none M1 D1 hS1 rfl (RF.refl M1 w) (fun q _ => hx1.at q) (fun i h1 h2 => by omega) (by rw [Nat.pow_zero, Nat.div_one]) (by have := Int64.le_toInt v; omega) (by have := Int64.toInt_lt v; omega) (by rw [Nat.pow_zero, Nat.mod_one]; rfl)
  rw [lZ_of] at h9
  exact h9
theorem ri_length {x T cm X Z : Nat} {z : Int} (hG : kG G) (hS : RS M w D T v2 cm X Z rc rs) (hx : RI D T x z)
    (kk : ∀ L : Nat, (z = 0 → L = 0) → (z ≠ 0 → 0 < L ∧ 2 ^ (L - 1) ≤ z.natAbs ∧ z.natAbs < 2 ^ L) → Q (.returned (some (.int (nI L)))) M rc rs) : jj G kRW_length (d + 1) Q rc rs 0 (jj_ent [.ref w, .int (nI x)] 4) [] M := by
  obtain ⟨hS0, hB, hTD, hz, hp⟩ := id hS
  obtain ⟨dd, hw, hd⟩ := id hS0
  obtain ⟨n, x1, x2, x3, x4, x5⟩ := id hx
  have hcap := hB.cap
  have hl : D.length < 2 ^ 31 := by omega
  have x6 := nI_iabs (by omega) x2
  show jj G kRW_length (d + 1) Q rc rs 0 [some (.ref w), some (.int (nI (x))), none, none] [] M
  refine jj_aload_n (pc := 0) kRW_length_d0 rfl ?_
  refine jj_iload_n (pc := 1) kRW_length_d1 rfl ?_
  refine jj_callV (pc := 2) (b := w) (As := [.int (nI (x))]) kRW_length_d2 (kvRW_RW_digits hG) (kG_cl hG rfl) rfl hw rfl rfl rfl (Nat.le_of_ble_eq_true rfl) (Nat.le_of_ble_eq_true rfl) (jj_bare0 rfl) ?_
  refine rw_digits hG hw hd hl (by omega) ?_
  show jj G kRW_length (d + 1) Q rc rs 5 [some (.ref w), some (.int (nI (x))), none, none] [.int (iabs (D.getD x 0))] M
  refine jn_top (.int (nI (n))) (by rw [x6]) ?_
  refine jj_istore_n (pc := 5) kRW_length_d5 (Nat.le_of_ble_eq_true rfl) ?_
  refine jj_iload_n (pc := 6) kRW_length_d6 rfl ?_
  refine jn_if_ne (pc := 7) (tgt := 12) kRW_length_d7 (by decide) (by omega) (fun c => ?_) (fun c => ?_)
  · skip
    obtain ⟨q, rfl⟩ : ∃ q, n = q + 1 := ⟨n - 1, by omega⟩
    obtain ⟨g1, g2⟩ := x3.dv (i := q + 1) (by omega) (by omega)
    have hg0 : dv D (x + (q + 1)) ≠ 0 := fun e => x4 (by omega) (by rw [g2, e]; rfl)
    have hv : rnat D x q + dv D (x + (q + 1)) * 32768 ^ q = z.natAbs := x5
    have hlt := rnat_lt (x3.less (show q ≤ q + 1 by omega))
    revert g1 g2 hg0 hv
    generalize dv D (x + (q + 1)) = g
    intro g1 g2 hg0 hv
    have hz0 : z ≠ 0 := fun e => by have := (rnat_eq0 x3 x4).mp (by rw [x5, e]; rfl); omega
    refine jn_iconst (pc := 12) 0 kRW_length_d12 (by decide) ?_
    refine jj_istore_n (pc := 13) kRW_length_d13 (Nat.le_of_ble_eq_true rfl) ?_
    have loop : ∀ j k, 15 = k + j → (0 < k → 2 ^ (k - 1) ≤ g) → jj G kRW_length (d + 1) Q rc rs 14 [some (.ref w), some (.int (nI (x))), some (.int (nI (q + 1))), some (.int (nI (k)))] [] M := by
      intro j
      induction j with
      | zero =>
        intro k hk hb
        refine jj_aload_n (pc := 14) kRW_length_d14 rfl ?_
        refine jj_getf (pc := 15) kRW_length_d15 (kfRW_d hG) hw rfl ?_
        refine jj_iload_n (pc := 18) kRW_length_d18 rfl ?_
        refine jj_iload_n (pc := 19) kRW_length_d19 rfl ?_
        refine jn_iadd (pc := 20) (x + q + 1) kRW_length_d20 (by omega) ?_
        refine jn_iald (pc := 21) (v := (nI (g))) kRW_length_d21 (kG_t hG rfl) hd hl (by omega) (g2) ?_
        refine jj_iload_n (pc := 22) kRW_length_d22 rfl ?_
        refine jj_ishr (pc := 23) kRW_length_d23 ?_
        refine jn_top (.int (nI (g / 2 ^ k))) (congrArg Value.int (i32_shr (by omega) (by omega))) ?_
        have hle : g / 2 ^ k ≤ g := Nat.div_le_self _ _
        refine jn_if_le (pc := 24) (tgt := 33) kRW_length_d24 (by decide) (by omega) (fun c => ?_) (fun c => ?_)
        · skip
          have hgk : g < 2 ^ k := (Nat.div_eq_zero_iff_lt (Nat.pow_pos (by decide))).mp c
          have hk0 : 0 < k := by
            rcases Nat.eq_zero_or_pos k with e | e
            · subst e; rw [Nat.pow_zero] at hgk; omega
            · exact e
          obtain ⟨b1, b2⟩ := bits_top (hb hk0) hgk hk0 hlt
          rw [hv] at b1 b2
          refine jn_bipush (pc := 33) 15 kRW_length_d33 (by decide) ?_
          refine jj_iload_n (pc := 35) kRW_length_d35 rfl ?_
          refine jn_iconst (pc := 36) 1 kRW_length_d36 (by decide) ?_
          refine jn_isub (pc := 37) (q) kRW_length_d37 (by omega) ?_
          refine jn_imul (pc := 38) (15 * q) kRW_length_d38 (by omega) ?_
          refine jj_iload_n (pc := 39) kRW_length_d39 rfl ?_
          refine jn_iadd (pc := 40) (15 * q + k) kRW_length_d40 (by omega) ?_
          exact jj_iret (pc := 41) kRW_length_d41 rfl (by rfl) (kk (15 * q + k) (fun e => absurd e hz0) (fun _ => ⟨by omega, b1, b2⟩))
        · skip
          have hgk : 2 ^ k ≤ g := by
            rcases Nat.lt_or_ge g (2 ^ k) with h | h
            · rw [Nat.div_eq_of_lt h] at c; omega
            · exact h
          exfalso
          have e : k = 15 := by omega
          subst e
          omega
      | succ j ih =>
        intro k hk hb
        refine jj_aload_n (pc := 14) kRW_length_d14 rfl ?_
        refine jj_getf (pc := 15) kRW_length_d15 (kfRW_d hG) hw rfl ?_
        refine jj_iload_n (pc := 18) kRW_length_d18 rfl ?_
        refine jj_iload_n (pc := 19) kRW_length_d19 rfl ?_
        refine jn_iadd (pc := 20) (x + q + 1) kRW_length_d20 (by omega) ?_
        refine jn_iald (pc := 21) (v := (nI (g))) kRW_length_d21 (kG_t hG rfl) hd hl (by omega) (g2) ?_
        refine jj_iload_n (pc := 22) kRW_length_d22 rfl ?_
        refine jj_ishr (pc := 23) kRW_length_d23 ?_
        refine jn_top (.int (nI (g / 2 ^ k))) (congrArg Value.int (i32_shr (by omega) (by omega))) ?_
        have hle : g / 2 ^ k ≤ g := Nat.div_le_self _ _
        refine jn_if_le (pc := 24) (tgt := 33) kRW_length_d24 (by decide) (by omega) (fun c => ?_) (fun c => ?_)
        · skip
          have hgk : g < 2 ^ k := (Nat.div_eq_zero_iff_lt (Nat.pow_pos (by decide))).mp c
          have hk0 : 0 < k := by
            rcases Nat.eq_zero_or_pos k with e | e
            · subst e; rw [Nat.pow_zero] at hgk; omega
            · exact e
          obtain ⟨b1, b2⟩ := bits_top (hb hk0) hgk hk0 hlt
          rw [hv] at b1 b2
          refine jn_bipush (pc := 33) 15 kRW_length_d33 (by decide) ?_
          refine jj_iload_n (pc := 35) kRW_length_d35 rfl ?_
          refine jn_iconst (pc := 36) 1 kRW_length_d36 (by decide) ?_
          refine jn_isub (pc := 37) (q) kRW_length_d37 (by omega) ?_
          refine jn_imul (pc := 38) (15 * q) kRW_length_d38 (by omega) ?_
          refine jj_iload_n (pc := 39) kRW_length_d39 rfl ?_
          refine jn_iadd (pc := 40) (15 * q + k) kRW_length_d40 (by omega) ?_
          exact jj_iret (pc := 41) kRW_length_d41 rfl (by rfl) (kk (15 * q + k) (fun e => absurd e hz0) (fun _ => ⟨by omega, b1, b2⟩))
        · skip
          have hgk : 2 ^ k ≤ g := by
            rcases Nat.lt_or_ge g (2 ^ k) with h | h
            · rw [Nat.div_eq_of_lt h] at c; omega
            · exact h
          refine jn_iinc (pc := 27) (k + 1) kRW_length_d27 rfl (nI_1 _) ?_
          refine jj_goto (pc := 30) (tgt := 14) kRW_length_d30 (by decide) ?_
          show jj G kRW_length (d + 1) Q rc rs 14 [some (.ref w), some (.int (nI (x))), some (.int (nI (q + 1))), some (.int (nI (k + 1)))] [] M
          exact ih (k + 1) (by omega) (fun _ => by rw [Nat.add_sub_cancel]; exact hgk)
    exact loop 15 0 rfl (fun h => by omega)
  · skip
    subst c
    have e0 : z = 0 := by have : (0 : Nat) = z.natAbs := x5; omega
    refine jn_iconst (pc := 10) 0 kRW_length_d10 (by decide) ?_
    exact jj_iret (pc := 11) kRW_length_d11 rfl (by rfl) (kk 0 (fun _ => rfl) (fun h => absurd e0 h))
end RW13
