/-! ===== Euclid: guessSteps (printed by wip/gen/rU2.py) ===== -/
theorem max0 {z : Int} (h1 : -2147483648 ≤ z) (h2 : z < 2147483648) : (if nI 0 < zI z then zI z else nI 0) = nI z.toNat := by
  rw [← zI_nat, ← zI_nat]
  by_cases c : 0 < z
  · rw [if_pos ((zI_lt_iff (by omega) (by omega) h1 h2).mpr (by omega)), show ((z.toNat : Nat) : Int) = z by omega]
  · rw [if_neg (fun e => c (by have := (zI_lt_iff (by omega) (by omega) h1 h2).mp e; omega)), show ((z.toNat : Nat) : Int) = ((0 : Nat) : Int) by omega]
theorem win_top (n : Nat) : n / 2 ^ (bl n - 62) < 4611686018427387904 := by
  by_cases e : n = 0
  · rw [e, Nat.zero_div]; decide
  · obtain ⟨_, h, _⟩ := bl_spec e
    rw [Nat.div_lt_iff_lt_mul (Nat.pow_pos (by decide)), show (4611686018427387904 : Nat) = 2 ^ 62 from rfl, ← Nat.pow_add]
    exact Nat.lt_of_lt_of_le h (Nat.pow_le_pow_right (by decide) (by omega))
theorem win_b {p a b : Int} {S xl yl X : Nat} (hX : (X : Int) = p * S + a * xl + b * yl) (hs : (0 ≤ a ∧ b ≤ 0) ∨ (a ≤ 0 ∧ 0 ≤ b)) (ha1 : -2147483648 < a) (ha2 : a < 2147483648) (hb1 : -2147483648 < b) (hb2 : b < 2147483648) (hx : xl < S) (hy : yl < S) (hl : X < 4611686018427387904 * S) : -2147483648 < p ∧ p < 4611686020574871552 := by
  constructor
  · rcases (show -2147483648 < p ∨ p ≤ -2147483648 by omega) with g | g
    · exact g
    · exfalso
      have := lin_pos (e := -p) (u := -a) (v := -b) (by omega) (by omega) (by omega) hx hy
      rw [Int.neg_mul, Int.neg_mul, Int.neg_mul] at this
      omega
  · rcases (show p < 4611686020574871552 ∨ 4611686020574871552 ≤ p by omega) with g | g
    · exact g
    · exfalso
      have := lin_pos (e := p - 4611686018427387904) hs (by omega) (by omega) hx hy
      rw [Int.sub_mul] at this
      omega
theorem mul_b {t : Nat} {c : Int} (ht : t < 2147483648) (h1 : -2147483648 < c) (h2 : c < 2147483648) : -4611686018427387904 < (t : Int) * c ∧ (t : Int) * c < 4611686018427387904 := by
  have e : ((t : Int) * c).natAbs = t * c.natAbs := by rw [Int.natAbs_mul, Int.natAbs_natCast]
  have h : t * c.natAbs ≤ 2147483647 * 2147483647 := Nat.mul_le_mul (by omega) (by omega)
  generalize (t : Int) * c = z at *
  omega
/-- the windows of both numbers -/
theorem win_x {a b : Int} {x y p0 q0 xl yl S X : Nat} (h : (X : Int) = a * x + b * y) (hx : x = p0 * S + xl) (hy : y = q0 * S + yl) : (X : Int) = (a * p0 + b * q0) * S + a * xl + b * yl := by
  rw [h, hx, hy, Int.natCast_add, Int.natCast_add, Int.natCast_mul, Int.natCast_mul, Int.mul_add, Int.mul_add, Int.add_mul, Int.mul_assoc, Int.mul_assoc]
  omega
theorem win_next {a b c d pv qv : Int} {p0 q0 t : Nat} (h1 : pv = a * p0 + b * q0) (h2 : qv = c * p0 + d * q0) : pv - t * qv = (a - t * c) * p0 + (b - t * d) * q0 := by
  rw [h1, h2, Int.mul_add, Int.sub_mul, Int.sub_mul, Int.mul_assoc, Int.mul_assoc]
  omega
section U2
variable {G : jg} {d : Nat} {Q : jq} {rc rs : Nat} {M : mheap} {wa la cap : Nat → Nat} {N : Nat} {V : Nat → Int}
/-- the factors are small -/
def SB (a b c d9 : Int) : Prop := -2147483648 < a ∧ a < 2147483648 ∧ -2147483648 < b ∧ b < 2147483648 ∧ -2147483648 < c ∧ c < 2147483648 ∧ -2147483648 < d9 ∧ d9 < 2147483648
theorem u_guess {eu dv px pf py po ps od : Nat} {a0 b0 c0 d0 : Int64} (hG : kG G) (hI : CI wa la cap N) (hc : CW M wa la cap N V) (hE : M eu = some (.inl nU, [.ref (wa px), .ref (wa pf), .ref (wa py), .ref (wa po), .ref (wa ps), .ref dv, .int (nI od), .long a0, .long b0, .long c0, .long d0])) (ho : od ≤ 1) (hpx : px < N) (hpy : py < N) (hyx : (V py).natAbs ≤ (V px).natAbs) (hroom : lc (V px) ≤ 252) (k : ∀ (M' : mheap) (kk X Y o' : Nat) (a b c d9 : Int), LM (V px).natAbs (V py).natAbs od kk a b c d9 X Y o' → SB a b c d9 → o' ≤ 1 → X ≤ (V px).natAbs → M' eu = some (.inl nU, [.ref (wa px), .ref (wa pf), .ref (wa py), .ref (wa po), .ref (wa ps), .ref dv, .int (nI (o')), .long (lZ (a)), .long (lZ (b)), .long (lZ (c)), .long (lZ (d9))]) → (∀ q, q ≠ eu → M' q = M q) → Q (.returned none) M' rc rs) : jj G kU_guessSteps (d + 2) Q rc rs 0 (jj_ent [.ref eu] 15) [] M := by
  have hnw : ∀ p, p < N → wa p ≠ eu := fun p hp e => by obtain ⟨D9, c9, h91, _, _⟩ := hc p hp; rw [e, hE] at h91; cases h91
  have hnl : ∀ p, p < N → la p ≠ eu := fun p hp e => by obtain ⟨D9, c9, _, h92, _⟩ := hc p hp; rw [e, hE] at h92; cases h92
  obtain ⟨xx, exx⟩ : ∃ xx, (V px).natAbs = xx := ⟨_, rfl⟩
  obtain ⟨yy, eyy⟩ : ∃ yy, (V py).natAbs = yy := ⟨_, rfl⟩
  rw [exx, eyy] at hyx
  rw [exx] at k
  rw [eyy] at k
  have hbl : blen (V px) ≤ 8064 := by unfold lc at hroom; omega
  obtain ⟨sh, esh⟩ : ∃ sh, blen (V px) - 62 = sh := ⟨_, rfl⟩
  obtain ⟨S, hS⟩ : ∃ S, 2 ^ sh = S := ⟨_, rfl⟩
  have hS0 : 0 < S := by rw [← hS]; exact Nat.pow_pos (by decide)
  obtain ⟨p0, hp0⟩ : ∃ p0, xx / S = p0 := ⟨_, rfl⟩
  obtain ⟨q0, hq0⟩ : ∃ q0, yy / S = q0 := ⟨_, rfl⟩
  obtain ⟨xl, hxl⟩ : ∃ xl, xx % S = xl := ⟨_, rfl⟩
  obtain ⟨yl, hyl⟩ : ∃ yl, yy % S = yl := ⟨_, rfl⟩
  have hxS : xl < S := by rw [← hxl]; exact Nat.mod_lt _ hS0
  have hyS : yl < S := by rw [← hyl]; exact Nat.mod_lt _ hS0
  have ex : xx = p0 * S + xl := by rw [← hp0, ← hxl]; have := Nat.mod_add_div' xx S; omega
  have ey : yy = q0 * S + yl := by rw [← hq0, ← hyl]; have := Nat.mod_add_div' yy S; omega
  have hp62 : p0 < 4611686018427387904 := by rw [← hp0, ← hS, ← esh, bl_z, exx]; exact win_top xx
  have hq62 : q0 ≤ p0 := by rw [← hp0, ← hq0]; exact Nat.div_le_div_right hyx
  have hx62 : xx < 4611686018427387904 * S := by
    have := Nat.mul_le_mul_right S (show p0 + 1 ≤ 4611686018427387904 by omega)
    rw [Nat.succ_mul] at this
    omega
  have hsh1 : sh = 0 → S = 1 := fun e => by rw [← hS, e]
  show jj G kU_guessSteps (d + 2) Q rc rs 0 [some (.ref eu), none, none, none, none, none, none, none, none, none, none, none, none, none, none] [] M
  refine jj_aload_n (pc := 0) kU_guessSteps_d0 rfl ?_
  refine jj_lconst (pc := 1) (v := lN 1) kU_guessSteps_d1 (by decide) ?_
  refine jn_top (.long (lZ (1))) (rfl) ?_
  refine jj_putf (pc := 2) kU_guessSteps_d2 (kpU_a hG) hE (by rfl) rfl ?_
  refine jn_gen (fun M101 hM102 => ?_)
  have h103 : M101 eu = some (.inl nU, [.ref (wa px), .ref (wa pf), .ref (wa py), .ref (wa po), .ref (wa ps), .ref dv, .int (nI (od)), .long (lZ (1)), .long (b0), .long (c0), .long (d0)]) := by rw [hM102]; exact jj_up_at _ _ _
  refine jj_aload_n (pc := 5) kU_guessSteps_d5 rfl ?_
  refine jj_lconst (pc := 6) (v := lN 0) kU_guessSteps_d6 (by decide) ?_
  refine jn_top (.long (lZ (0))) (rfl) ?_
  refine jj_putf (pc := 7) kU_guessSteps_d7 (kpU_b hG) h103 (by rfl) rfl ?_
  refine jn_gen (fun M104 hM105 => ?_)
  have h106 : M104 eu = some (.inl nU, [.ref (wa px), .ref (wa pf), .ref (wa py), .ref (wa po), .ref (wa ps), .ref dv, .int (nI (od)), .long (lZ (1)), .long (lZ (0)), .long (c0), .long (d0)]) := by rw [hM105]; exact jj_up_at _ _ _
  refine jj_aload_n (pc := 10) kU_guessSteps_d10 rfl ?_
  refine jj_lconst (pc := 11) (v := lN 0) kU_guessSteps_d11 (by decide) ?_
  refine jn_top (.long (lZ (0))) (rfl) ?_
  refine jj_putf (pc := 12) kU_guessSteps_d12 (kpU_c hG) h106 (by rfl) rfl ?_
  refine jn_gen (fun M107 hM108 => ?_)
  have h109 : M107 eu = some (.inl nU, [.ref (wa px), .ref (wa pf), .ref (wa py), .ref (wa po), .ref (wa ps), .ref dv, .int (nI (od)), .long (lZ (1)), .long (lZ (0)), .long (lZ (0)), .long (d0)]) := by rw [hM108]; exact jj_up_at _ _ _
  refine jj_aload_n (pc := 15) kU_guessSteps_d15 rfl ?_
  refine jj_lconst (pc := 16) (v := lN 1) kU_guessSteps_d16 (by decide) ?_
  refine jn_top (.long (lZ (1))) (rfl) ?_
  refine jj_putf (pc := 17) kU_guessSteps_d17 (kpU_d hG) h109 (by rfl) rfl ?_
  refine jn_gen (fun M110 hM111 => ?_)
  have h112 : M110 eu = some (.inl nU, [.ref (wa px), .ref (wa pf), .ref (wa py), .ref (wa po), .ref (wa ps), .ref dv, .int (nI (od)), .long (lZ (1)), .long (lZ (0)), .long (lZ (0)), .long (lZ (1))]) := by rw [hM111]; exact jj_up_at _ _ _
  have hf1 : ∀ q, q ≠ eu → M110 q = M q := fun q hq => by rw [hM111, jj_up_ne _ _ hq, hM108, jj_up_ne _ _ hq, hM105, jj_up_ne _ _ hq, hM102, jj_up_ne _ _ hq]
  have hc1 : CW M110 wa la cap N V := hc.kept (fun p hp => ⟨hf1 _ (hnw p hp), hf1 _ (hnl p hp)⟩)
  obtain ⟨A1, ca, hA1, hA2, hA3, hA4⟩ := hc1 px hpx
  obtain ⟨B1, cb, hB1, hB2, hB3, hB4⟩ := hc1 py hpy
  refine jn_iconst (pc := 20) 0 kU_guessSteps_d20 (by decide) ?_
  refine jj_aload_n (pc := 21) kU_guessSteps_d21 rfl ?_
  refine jj_getf (pc := 22) kU_guessSteps_d22 (kfU_x hG) h112 rfl ?_
  refine jj_callV (pc := 25) (b := (wa px)) (As := []) kU_guessSteps_d25 (kvU_W_bits hG) (kG_cl hG rfl) rfl hA1 rfl rfl rfl (Nat.le_of_ble_eq_true rfl) (Nat.le_of_ble_eq_true rfl) (jj_bare0 rfl) ?_
  refine w_bits hG hI hc1 hpx ?_
  show jj G kU_guessSteps (d + 2) Q rc rs 28 [some (.ref eu), none, none, none, none, none, none, none, none, none, none, none, none, none, none] [.int (nI (blen (V px))), .int (nI (0))] M110
  refine jn_bipush (pc := 28) 62 kU_guessSteps_d28 (by decide) ?_
  refine jz_isub (pc := 30) (((blen (V px) : Nat) : Int) - 62) kU_guessSteps_d30 ((zI_nat _).symm) ((zI_nat _).symm) (by omega) ?_
  refine jj_callS (pc := 31) (As := [.int (nI (0)), .int (zI (((blen (V px) : Nat) : Int) - 62))]) kU_guessSteps_d31 (kvU_JM_max hG) rfl rfl rfl (Nat.le_of_ble_eq_true rfl) (Nat.le_of_ble_eq_true rfl) (jj_bare0 rfl) ?_
  refine jm_max ?_
  show jj G kU_guessSteps (d + 2) Q rc rs 34 [some (.ref eu), none, none, none, none, none, none, none, none, none, none, none, none, none, none] [.int ((if nI (0) < zI (((blen (V px) : Nat) : Int) - 62) then zI (((blen (V px) : Nat) : Int) - 62) else nI (0)))] M110
  refine jn_top (.int (nI (sh))) (by rw [max0 (by omega) (by omega), ← esh]; congr 2; omega) ?_
  refine jj_istore_n (pc := 34) kU_guessSteps_d34 (Nat.le_of_ble_eq_true rfl) ?_
  show jj G kU_guessSteps (d + 2) Q rc rs 35 [some (.ref eu), some (.int (nI (sh))), none, none, none, none, none, none, none, none, none, none, none, none, none] [] M110
  refine jj_aload_n (pc := 35) kU_guessSteps_d35 rfl ?_
  refine jj_getf (pc := 36) kU_guessSteps_d36 (kfU_x hG) h112 rfl ?_
  refine jj_iload_n (pc := 39) kU_guessSteps_d39 rfl ?_
  refine jj_callV (pc := 40) (b := (wa px)) (As := [.int (nI (sh))]) kU_guessSteps_d40 (kvU_W_bitsFrom hG) (kG_cl hG rfl) rfl hA1 rfl rfl rfl (Nat.le_of_ble_eq_true rfl) (Nat.le_of_ble_eq_true rfl) (jj_bare0 rfl) ?_
  refine w_bitsFrom hG hI hc1 hpx (by omega) ?_
  show jj G kU_guessSteps (d + 2) Q rc rs 43 [some (.ref eu), some (.int (nI (sh))), none, none, none, none, none, none, none, none, none, none, none, none, none] [.long (lN ((V px).natAbs / 2 ^ sh))] M110
  refine jn_top (.long (lZ (p0 : Int))) (by rw [exx, hS, hp0, lZ_nat]) ?_
  refine jj_lstore_n (pc := 43) kU_guessSteps_d43 (Nat.le_of_ble_eq_true rfl) ?_
  show jj G kU_guessSteps (d + 2) Q rc rs 44 [some (.ref eu), some (.int (nI (sh))), some (.long (lZ (p0 : Int))), none, none, none, none, none, none, none, none, none, none, none, none] [] M110
  refine jj_aload_n (pc := 44) kU_guessSteps_d44 rfl ?_
  refine jj_getf (pc := 45) kU_guessSteps_d45 (kfU_y hG) h112 rfl ?_
  refine jj_iload_n (pc := 48) kU_guessSteps_d48 rfl ?_
  refine jj_callV (pc := 49) (b := (wa py)) (As := [.int (nI (sh))]) kU_guessSteps_d49 (kvU_W_bitsFrom hG) (kG_cl hG rfl) rfl hB1 rfl rfl rfl (Nat.le_of_ble_eq_true rfl) (Nat.le_of_ble_eq_true rfl) (jj_bare0 rfl) ?_
  refine w_bitsFrom hG hI hc1 hpy (by omega) ?_
  show jj G kU_guessSteps (d + 2) Q rc rs 52 [some (.ref eu), some (.int (nI (sh))), some (.long (lZ (p0 : Int))), none, none, none, none, none, none, none, none, none, none, none, none] [.long (lN ((V py).natAbs / 2 ^ sh))] M110
  refine jn_top (.long (lZ (q0 : Int))) (by rw [eyy, hS, hq0, lZ_nat]) ?_
  refine jj_lstore (pc := 52) kU_guessSteps_d52 (Nat.le_of_ble_eq_true rfl) ?_
  show jj G kU_guessSteps (d + 2) Q rc rs 54 [some (.ref eu), some (.int (nI (sh))), some (.long (lZ (p0 : Int))), none, some (.long (lZ (q0 : Int))), none, none, none, none, none, none, none, none, none, none] [] M110
  refine jn_iconst (pc := 54) 0 kU_guessSteps_d54 (by decide) ?_
  refine jj_istore (pc := 55) kU_guessSteps_d55 (Nat.le_of_ble_eq_true rfl) ?_
  show jj G kU_guessSteps (d + 2) Q rc rs 57 [some (.ref eu), some (.int (nI (sh))), some (.long (lZ (p0 : Int))), none, some (.long (lZ (q0 : Int))), none, some (.int (nI (0))), none, none, none, none, none, none, none, none] [] M110
  have loop : ∀ mu i, 64 = i + mu → ∀ (M9 : mheap) (X Y o' : Nat) (a b c d9 pv qv : Int) (o7 o8 o9 o10 o11 o12 o13 o14 : Option Value), M9 eu = some (.inl nU, [.ref (wa px), .ref (wa pf), .ref (wa py), .ref (wa po), .ref (wa ps), .ref dv, .int (nI (o')), .long (lZ (a)), .long (lZ (b)), .long (lZ (c)), .long (lZ (d9))]) → (∀ q, q ≠ eu → M9 q = M q) → LM xx yy od i a b c d9 X Y o' → SB a b c d9 → o' ≤ 1 → X ≤ xx → pv = a * p0 + b * q0 → qv = c * p0 + d9 * q0 → (sh ≠ 0 → 0 ≤ pv + a ∧ 0 ≤ pv + b) → jj G kU_guessSteps (d + 2) Q rc rs 57 [some (.ref eu), some (.int (nI (sh))), some (.long (lZ pv)), none, some (.long (lZ qv)), none, some (.int (nI (i))), (o7), (o8), (o9), (o10), (o11), (o12), (o13), (o14)] [] M9 := by
    intro mu
    induction mu with
    | zero =>
      intro i hk M9 X Y o' a b c d9 pv qv o7 o8 o9 o10 o11 o12 o13 o14 h9 f9 hLM hSB ho9 hXx ep eq_ hpp
      have e9 : i = 64 := by omega
      subst e9
      refine jj_iload (pc := 57) kU_guessSteps_d57 rfl ?_
      refine jn_bipush (pc := 59) 64 kU_guessSteps_d59 (by decide) ?_
      refine jn_icmp_ge (pc := 61) (tgt := 215) kU_guessSteps_d61 (by decide) (by omega) (by omega) (fun _ => ?_) (fun c => by exfalso; omega)
      exact jj_vret (pc := 215) kU_guessSteps_d215 rfl (k M9 64 X Y o' a b c d9 hLM hSB ho9 hXx h9 f9)
    | succ mu ih =>
      intro i hk M9 X Y o' a b c d9 pv qv o7 o8 o9 o10 o11 o12 o13 o14 h9 f9 hLM hSB ho9 hXx ep eq_ hpp
      obtain ⟨ha1, ha2, hb1, hb2, hc1', hc2, hd1, hd2⟩ := id hSB
      have hsg := hLM.2.2.1
      have wX := win_x hLM.1 ex ey
      have wY := win_x hLM.2.1 ex ey
      rw [← ep] at wX
      rw [← eq_] at wY
      have hYX := hLM.2.2.2.2.2.2
      obtain ⟨bp1, bp2⟩ := win_b wX (by omega) ha1 ha2 hb1 hb2 hxS hyS (by omega)
      obtain ⟨bq1, bq2⟩ := win_b wY (by omega) hc1' hc2 hd1 hd2 hxS hyS (by omega)
      refine jj_iload (pc := 57) kU_guessSteps_d57 rfl ?_
      refine jn_bipush (pc := 59) 64 kU_guessSteps_d59 (by decide) ?_
      refine jn_icmp_ge (pc := 61) (tgt := 215) kU_guessSteps_d61 (by decide) (by omega) (by omega) (fun c => by exfalso; omega) (fun _ => ?_)
      refine jj_iload_n (pc := 64) kU_guessSteps_d64 rfl ?_
      have k84 : ∀ t : Nat, t < 9223372036854775808 → (t < 2147483648 → 0 < Y ∧ X / Y = t ∧ (sh ≠ 0 → 0 ≤ qv + c ∧ 0 ≤ qv + d9)) → jj G kU_guessSteps (d + 2) Q rc rs 84 [some (.ref eu), some (.int (nI (sh))), some (.long (lZ pv)), none, some (.long (lZ qv)), none, some (.int (nI (i))), (o7), (o8), (o9), (o10), (o11), (o12), (o13), (o14)] [.long (lN (t))] M9 := by
        intro t ht hst
        show jj G kU_guessSteps (d + 2) Q rc rs 84 [some (.ref eu), some (.int (nI (sh))), some (.long (lZ pv)), none, some (.long (lZ qv)), none, some (.int (nI (i))), (o7), (o8), (o9), (o10), (o11), (o12), (o13), (o14)] [.long (lN (t))] M9
        refine jj_lstore (pc := 84) kU_guessSteps_d84 (Nat.le_of_ble_eq_true rfl) ?_
        show jj G kU_guessSteps (d + 2) Q rc rs 86 [some (.ref eu), some (.int (nI (sh))), some (.long (lZ pv)), none, some (.long (lZ qv)), none, some (.int (nI (i))), some (.long (lN (t))), none, (o9), (o10), (o11), (o12), (o13), (o14)] [] M9
        refine jj_lload (pc := 86) kU_guessSteps_d86 rfl ?_
        refine jj_ldc2 (pc := 88) kU_guessSteps_d88 (kcU_2147483648 hG) ?_
        refine jn_top (.long (lN (2147483648))) (rfl) ?_
        refine jj_lcmp (pc := 91) kU_guessSteps_d91 ?_
        refine jj_if_lt (pc := 92) (tgt := 96) kU_guessSteps_d92 (by decide) (fun c1 => ?_) (fun c1 => ?_)
        · skip
          rw [lg_cmp_lt, Int64.lt_iff_toInt_lt, lN_big (by omega), lN_big (by omega)] at c1
          obtain ⟨hY0, hXY, hqq⟩ := hst (by omega)
          obtain ⟨m1, m2⟩ := mul_b (show t < 2147483648 by omega) hc1' hc2
          obtain ⟨m3, m4⟩ := mul_b (show t < 2147483648 by omega) hd1 hd2
          have hLM2 := hLM.step hY0
          rw [hXY] at hLM2
          refine jj_aload_n (pc := 96) kU_guessSteps_d96 rfl ?_
          refine jj_getf (pc := 97) kU_guessSteps_d97 (kfU_a hG) h9 rfl ?_
          refine jj_lload (pc := 100) kU_guessSteps_d100 rfl ?_
          refine jj_aload_n (pc := 102) kU_guessSteps_d102 rfl ?_
          refine jj_getf (pc := 103) kU_guessSteps_d103 (kfU_c hG) h9 rfl ?_
          refine jj_lmul (pc := 106) kU_guessSteps_d106 ?_
          refine jn_top (.long (lZ ((t : Int) * c))) (by rw [← lZ_nat, lZ_mul]) ?_
          refine jj_lsub (pc := 107) kU_guessSteps_d107 ?_
          refine jn_top (.long (lZ (a - (t : Int) * c))) (by rw [lZ_sub]) ?_
          refine jj_lstore (pc := 108) kU_guessSteps_d108 (Nat.le_of_ble_eq_true rfl) ?_
          show jj G kU_guessSteps (d + 2) Q rc rs 110 [some (.ref eu), some (.int (nI (sh))), some (.long (lZ pv)), none, some (.long (lZ qv)), none, some (.int (nI (i))), some (.long (lN (t))), none, some (.long (lZ (a - (t : Int) * c))), none, (o11), (o12), (o13), (o14)] [] M9
          refine jj_aload_n (pc := 110) kU_guessSteps_d110 rfl ?_
          refine jj_getf (pc := 111) kU_guessSteps_d111 (kfU_b hG) h9 rfl ?_
          refine jj_lload (pc := 114) kU_guessSteps_d114 rfl ?_
          refine jj_aload_n (pc := 116) kU_guessSteps_d116 rfl ?_
          refine jj_getf (pc := 117) kU_guessSteps_d117 (kfU_d hG) h9 rfl ?_
          refine jj_lmul (pc := 120) kU_guessSteps_d120 ?_
          refine jn_top (.long (lZ ((t : Int) * d9))) (by rw [← lZ_nat, lZ_mul]) ?_
          refine jj_lsub (pc := 121) kU_guessSteps_d121 ?_
          refine jn_top (.long (lZ (b - (t : Int) * d9))) (by rw [lZ_sub]) ?_
          refine jj_lstore (pc := 122) kU_guessSteps_d122 (Nat.le_of_ble_eq_true rfl) ?_
          show jj G kU_guessSteps (d + 2) Q rc rs 124 [some (.ref eu), some (.int (nI (sh))), some (.long (lZ pv)), none, some (.long (lZ qv)), none, some (.int (nI (i))), some (.long (lN (t))), none, some (.long (lZ (a - (t : Int) * c))), none, some (.long (lZ (b - (t : Int) * d9))), none, (o13), (o14)] [] M9
          refine jj_lload (pc := 124) kU_guessSteps_d124 rfl ?_
          obtain ⟨nc, hnc⟩ : ∃ nc : Int, a - (t : Int) * c = nc := ⟨_, rfl⟩
          obtain ⟨nd, hnd⟩ : ∃ nd : Int, b - (t : Int) * d9 = nd := ⟨_, rfl⟩
          rw [hnc, hnd] at hLM2
          rw [hnc, hnd]
          show jj G kU_guessSteps (d + 2) Q rc rs 126 [some (.ref eu), some (.int (nI (sh))), some (.long (lZ pv)), none, some (.long (lZ qv)), none, some (.int (nI (i))), some (.long (lN (t))), none, some (.long (lZ nc)), none, some (.long (lZ nd)), none, (o13), (o14)] [.long (lZ nc)] M9
          refine jj_callS (pc := 126) (As := [.long (lZ nc)]) kU_guessSteps_d126 (kvU_JM_abs hG) rfl rfl rfl (Nat.le_of_ble_eq_true rfl) (Nat.le_of_ble_eq_true rfl) (jj_bare0 rfl) ?_
          refine jm_absZ (by omega) (by omega) ?_
          show jj G kU_guessSteps (d + 2) Q rc rs 129 [some (.ref eu), some (.int (nI (sh))), some (.long (lZ pv)), none, some (.long (lZ qv)), none, some (.int (nI (i))), some (.long (lN (t))), none, some (.long (lZ nc)), none, some (.long (lZ nd)), none, (o13), (o14)] [.long (lN (nc.natAbs))] M9
          refine jj_ldc2 (pc := 129) kU_guessSteps_d129 (kcU_2147483648 hG) ?_
          refine jn_top (.long (lN (2147483648))) (rfl) ?_
          refine jj_lcmp (pc := 132) kU_guessSteps_d132 ?_
          refine jj_if_ge (pc := 133) (tgt := 148) kU_guessSteps_d133 (by decide) (fun c2 => ?_) (fun c2 => ?_)
          · skip
            exact jj_vret (pc := 148) kU_guessSteps_d148 rfl (k M9 i X Y o' a b c d9 hLM hSB ho9 hXx h9 f9)
          · skip
            rw [lg_cmp_ge, Int64.le_iff_toInt_le, lN_big (by omega), lN_big (by omega)] at c2
            refine jj_lload (pc := 136) kU_guessSteps_d136 rfl ?_
            refine jj_callS (pc := 138) (As := [.long (lZ nd)]) kU_guessSteps_d138 (kvU_JM_abs hG) rfl rfl rfl (Nat.le_of_ble_eq_true rfl) (Nat.le_of_ble_eq_true rfl) (jj_bare0 rfl) ?_
            refine jm_absZ (by omega) (by omega) ?_
            show jj G kU_guessSteps (d + 2) Q rc rs 141 [some (.ref eu), some (.int (nI (sh))), some (.long (lZ pv)), none, some (.long (lZ qv)), none, some (.int (nI (i))), some (.long (lN (t))), none, some (.long (lZ nc)), none, some (.long (lZ nd)), none, (o13), (o14)] [.long (lN (nd.natAbs))] M9
            refine jj_ldc2 (pc := 141) kU_guessSteps_d141 (kcU_2147483648 hG) ?_
            refine jn_top (.long (lN (2147483648))) (rfl) ?_
            refine jj_lcmp (pc := 144) kU_guessSteps_d144 ?_
            refine jj_if_lt (pc := 145) (tgt := 149) kU_guessSteps_d145 (by decide) (fun c3 => ?_) (fun c3 => ?_)
            · skip
              rw [lg_cmp_lt, Int64.lt_iff_toInt_lt, lN_big (by omega), lN_big (by omega)] at c3
              refine jj_aload_n (pc := 149) kU_guessSteps_d149 rfl ?_
              refine jj_aload_n (pc := 150) kU_guessSteps_d150 rfl ?_
              refine jj_getf (pc := 151) kU_guessSteps_d151 (kfU_c hG) h9 rfl ?_
              refine jj_putf (pc := 154) kU_guessSteps_d154 (kpU_a hG) h9 (by rfl) rfl ?_
              refine jn_gen (fun M113 hM114 => ?_)
              have h115 : M113 eu = some (.inl nU, [.ref (wa px), .ref (wa pf), .ref (wa py), .ref (wa po), .ref (wa ps), .ref dv, .int (nI (o')), .long (lZ (c)), .long (lZ (b)), .long (lZ (c)), .long (lZ (d9))]) := by rw [hM114]; exact jj_up_at _ _ _
              refine jj_aload_n (pc := 157) kU_guessSteps_d157 rfl ?_
              refine jj_aload_n (pc := 158) kU_guessSteps_d158 rfl ?_
              refine jj_getf (pc := 159) kU_guessSteps_d159 (kfU_d hG) h115 rfl ?_
              refine jj_putf (pc := 162) kU_guessSteps_d162 (kpU_b hG) h115 (by rfl) rfl ?_
              refine jn_gen (fun M116 hM117 => ?_)
              have h118 : M116 eu = some (.inl nU, [.ref (wa px), .ref (wa pf), .ref (wa py), .ref (wa po), .ref (wa ps), .ref dv, .int (nI (o')), .long (lZ (c)), .long (lZ (d9)), .long (lZ (c)), .long (lZ (d9))]) := by rw [hM117]; exact jj_up_at _ _ _
              refine jj_aload_n (pc := 165) kU_guessSteps_d165 rfl ?_
              refine jj_lload (pc := 166) kU_guessSteps_d166 rfl ?_
              refine jj_putf (pc := 168) kU_guessSteps_d168 (kpU_c hG) h118 (by rfl) rfl ?_
              refine jn_gen (fun M119 hM120 => ?_)
              have h121 : M119 eu = some (.inl nU, [.ref (wa px), .ref (wa pf), .ref (wa py), .ref (wa po), .ref (wa ps), .ref dv, .int (nI (o')), .long (lZ (c)), .long (lZ (d9)), .long (lZ nc), .long (lZ (d9))]) := by rw [hM120]; exact jj_up_at _ _ _
              refine jj_aload_n (pc := 171) kU_guessSteps_d171 rfl ?_
              refine jj_lload (pc := 172) kU_guessSteps_d172 rfl ?_
              refine jj_putf (pc := 174) kU_guessSteps_d174 (kpU_d hG) h121 (by rfl) rfl ?_
              refine jn_gen (fun M122 hM123 => ?_)
              have h124 : M122 eu = some (.inl nU, [.ref (wa px), .ref (wa pf), .ref (wa py), .ref (wa po), .ref (wa ps), .ref dv, .int (nI (o')), .long (lZ (c)), .long (lZ (d9)), .long (lZ nc), .long (lZ nd)]) := by rw [hM123]; exact jj_up_at _ _ _
              refine jj_lload_n (pc := 177) kU_guessSteps_d177 rfl ?_
              refine jj_lload (pc := 178) kU_guessSteps_d178 rfl ?_
              refine jj_lload (pc := 180) kU_guessSteps_d180 rfl ?_
              refine jj_lmul (pc := 182) kU_guessSteps_d182 ?_
              refine jn_top (.long (lZ ((t : Int) * qv))) (by rw [← lZ_nat, lZ_mul]) ?_
              refine jj_lsub (pc := 183) kU_guessSteps_d183 ?_
              refine jn_top (.long (lZ (pv - (t : Int) * qv))) (by rw [lZ_sub]) ?_
              refine jj_lstore (pc := 184) kU_guessSteps_d184 (Nat.le_of_ble_eq_true rfl) ?_
              show jj G kU_guessSteps (d + 2) Q rc rs 186 [some (.ref eu), some (.int (nI (sh))), some (.long (lZ pv)), none, some (.long (lZ qv)), none, some (.int (nI (i))), some (.long (lN (t))), none, some (.long (lZ nc)), none, some (.long (lZ nd)), none, some (.long (lZ (pv - (t : Int) * qv))), none] [] M122
              refine jj_lload (pc := 186) kU_guessSteps_d186 rfl ?_
              refine jj_lstore_n (pc := 188) kU_guessSteps_d188 (Nat.le_of_ble_eq_true rfl) ?_
              show jj G kU_guessSteps (d + 2) Q rc rs 189 [some (.ref eu), some (.int (nI (sh))), some (.long (lZ qv)), none, some (.long (lZ qv)), none, some (.int (nI (i))), some (.long (lN (t))), none, some (.long (lZ nc)), none, some (.long (lZ nd)), none, some (.long (lZ (pv - (t : Int) * qv))), none] [] M122
              refine jj_lload (pc := 189) kU_guessSteps_d189 rfl ?_
              refine jj_lstore (pc := 191) kU_guessSteps_d191 (Nat.le_of_ble_eq_true rfl) ?_
              show jj G kU_guessSteps (d + 2) Q rc rs 193 [some (.ref eu), some (.int (nI (sh))), some (.long (lZ qv)), none, some (.long (lZ (pv - (t : Int) * qv))), none, some (.int (nI (i))), some (.long (lN (t))), none, some (.long (lZ nc)), none, some (.long (lZ nd)), none, some (.long (lZ (pv - (t : Int) * qv))), none] [] M122
              refine jj_aload_n (pc := 193) kU_guessSteps_d193 rfl ?_
              refine jj_aload_n (pc := 194) kU_guessSteps_d194 rfl ?_
              refine jj_getf (pc := 195) kU_guessSteps_d195 (kfU_odd hG) h124 rfl ?_
              refine jn_if_ne (pc := 198) (tgt := 205) kU_guessSteps_d198 (by decide) (by omega) (fun c4 => ?_) (fun c4 => ?_)
              · skip
                refine jn_iconst (pc := 205) 0 kU_guessSteps_d205 (by decide) ?_
                refine jn_top (.int (nI (1 - o'))) (by rw [show 1 - o' = 0 by omega]) ?_
                refine jj_putf (pc := 206) kU_guessSteps_d206 (kpU_odd hG) h124 (nb_narrow (by omega)) (nb_fits (by omega)) ?_
                refine jn_gen (fun M125 hM126 => ?_)
                have h127 : M125 eu = some (.inl nU, [.ref (wa px), .ref (wa pf), .ref (wa py), .ref (wa po), .ref (wa ps), .ref dv, .int (nI (1 - o')), .long (lZ (c)), .long (lZ (d9)), .long (lZ nc), .long (lZ nd)]) := by rw [hM126]; exact jj_up_at _ _ _
                refine jn_iinc (pc := 209) (i + 1) kU_guessSteps_d209 rfl (nI_1 _) ?_
                refine jj_goto (pc := 212) (tgt := 57) kU_guessSteps_d212 (by decide) ?_
                show jj G kU_guessSteps (d + 2) Q rc rs 57 [some (.ref eu), some (.int (nI (sh))), some (.long (lZ qv)), none, some (.long (lZ (pv - (t : Int) * qv))), none, some (.int (nI (i + 1))), some (.long (lN (t))), none, some (.long (lZ nc)), none, some (.long (lZ nd)), none, some (.long (lZ (pv - (t : Int) * qv))), none] [] M125
                exact ih (i + 1) (by omega) M125 Y (X % Y) (1 - o') c d9 nc nd qv (pv - (t : Int) * qv) _ _ _ _ _ _ _ _ h127 (fun q hq => by rw [hM126, jj_up_ne _ _ hq, hM123, jj_up_ne _ _ hq, hM120, jj_up_ne _ _ hq, hM117, jj_up_ne _ _ hq, hM114, jj_up_ne _ _ hq]; exact f9 q hq) hLM2 ⟨hc1', hc2, hd1, hd2, by omega, by omega, by omega, by omega⟩ (by omega) (by omega) eq_ (by rw [win_next ep eq_, hnc, hnd]) hqq
              · skip
                refine jn_iconst (pc := 201) 1 kU_guessSteps_d201 (by decide) ?_
                refine jj_goto (pc := 202) (tgt := 206) kU_guessSteps_d202 (by decide) ?_
                refine jn_top (.int (nI (1 - o'))) (by rw [show 1 - o' = 1 by omega]) ?_
                refine jj_putf (pc := 206) kU_guessSteps_d206 (kpU_odd hG) h124 (nb_narrow (by omega)) (nb_fits (by omega)) ?_
                refine jn_gen (fun M128 hM129 => ?_)
                have h130 : M128 eu = some (.inl nU, [.ref (wa px), .ref (wa pf), .ref (wa py), .ref (wa po), .ref (wa ps), .ref dv, .int (nI (1 - o')), .long (lZ (c)), .long (lZ (d9)), .long (lZ nc), .long (lZ nd)]) := by rw [hM129]; exact jj_up_at _ _ _
                refine jn_iinc (pc := 209) (i + 1) kU_guessSteps_d209 rfl (nI_1 _) ?_
                refine jj_goto (pc := 212) (tgt := 57) kU_guessSteps_d212 (by decide) ?_
                show jj G kU_guessSteps (d + 2) Q rc rs 57 [some (.ref eu), some (.int (nI (sh))), some (.long (lZ qv)), none, some (.long (lZ (pv - (t : Int) * qv))), none, some (.int (nI (i + 1))), some (.long (lN (t))), none, some (.long (lZ nc)), none, some (.long (lZ nd)), none, some (.long (lZ (pv - (t : Int) * qv))), none] [] M128
                exact ih (i + 1) (by omega) M128 Y (X % Y) (1 - o') c d9 nc nd qv (pv - (t : Int) * qv) _ _ _ _ _ _ _ _ h130 (fun q hq => by rw [hM129, jj_up_ne _ _ hq, hM123, jj_up_ne _ _ hq, hM120, jj_up_ne _ _ hq, hM117, jj_up_ne _ _ hq, hM114, jj_up_ne _ _ hq]; exact f9 q hq) hLM2 ⟨hc1', hc2, hd1, hd2, by omega, by omega, by omega, by omega⟩ (by omega) (by omega) eq_ (by rw [win_next ep eq_, hnc, hnd]) hqq
            · skip
              exact jj_vret (pc := 148) kU_guessSteps_d148 rfl (k M9 i X Y o' a b c d9 hLM hSB ho9 hXx h9 f9)
        · skip
          exact jj_vret (pc := 95) kU_guessSteps_d95 rfl (k M9 i X Y o' a b c d9 hLM hSB ho9 hXx h9 f9)
      refine jn_if_ne (pc := 65) (tgt := 77) kU_guessSteps_d65 (by decide) (by omega) (fun c0 => ?_) (fun c0 => ?_)
      · skip
        obtain ⟨hpa, hpb⟩ := hpp (by omega)
        refine jj_aload_n (pc := 77) kU_guessSteps_d77 rfl ?_
        refine jj_lload_n (pc := 78) kU_guessSteps_d78 rfl ?_
        refine jj_lload (pc := 79) kU_guessSteps_d79 rfl ?_
        refine jj_callV (pc := 81) (b := eu) (As := [.long (lZ pv), .long (lZ qv)]) kU_guessSteps_d81 (kvU_U_sureQuotient hG) (kG_cl hG rfl) rfl h9 rfl rfl rfl (Nat.le_of_ble_eq_true rfl) (Nat.le_of_ble_eq_true rfl) (jj_bare0 rfl) ?_
        refine u_sure hG h9 ha1 ha2 hb1 hb2 hc1' hc2 hd1 hd2 (by omega) (by omega) (by omega) (by omega) hpa hpb ?_ (fun t ht g1 g2 g3 g4 g5 g6 => ?_)
        · exact k84 2147483648 (by omega) (fun h => absurd h (by omega))
        · obtain ⟨r1, r2⟩ := sure_q wX wY hxS hyS hsg g1 g2 g3 g4 g5 g6
          exact k84 t ht (fun _ => ⟨r1, r2, fun _ => ⟨by omega, by omega⟩⟩)
      · skip
        have hS1 := hsh1 (by omega)
        have exl : xl = 0 := by omega
        have eyl : yl = 0 := by omega
        rw [hS1, exl, eyl] at wX wY
        have epX : pv = (X : Int) := by omega
        have eqY : qv = (Y : Int) := by omega
        refine jj_lload_n (pc := 68) kU_guessSteps_d68 rfl ?_
        refine jj_lload (pc := 69) kU_guessSteps_d69 rfl ?_
        refine jj_eq (L' := [some (.ref eu), some (.int (nI (sh))), some (.long (lZ pv)), none, some (.long (lZ qv)), none, some (.int (nI (i))), (o7), (o8), (o9), (o10), (o11), (o12), (o13), (o14)]) (st' := [.long (lN Y), .long (lN X)]) rfl rfl (by rw [epX, eqY, lZ_nat, lZ_nat]) rfl ?_
        show jj G kU_guessSteps (d + 2) Q rc rs 71 [some (.ref eu), some (.int (nI (sh))), some (.long (lZ pv)), none, some (.long (lZ qv)), none, some (.int (nI (i))), (o7), (o8), (o9), (o10), (o11), (o12), (o13), (o14)] [.long (lN (Y)), .long (lN (X))] M9
        refine jj_callS (pc := 71) (As := [.long (lN (X)), .long (lN (Y))]) kU_guessSteps_d71 (kvU_U_quotientOf hG) rfl rfl rfl (Nat.le_of_ble_eq_true rfl) (Nat.le_of_ble_eq_true rfl) (jj_bare0 rfl) ?_
        refine u_quotientOf hG (by omega) (by omega) (fun g => ?_) (fun g => ?_)
        · skip
          show jj G kU_guessSteps (d + 2) Q rc rs 74 [some (.ref eu), some (.int (nI (sh))), some (.long (lZ pv)), none, some (.long (lZ qv)), none, some (.int (nI (i))), (o7), (o8), (o9), (o10), (o11), (o12), (o13), (o14)] [.long (lN (2147483648))] M9
          refine jj_goto (pc := 74) (tgt := 84) kU_guessSteps_d74 (by decide) ?_
          exact k84 2147483648 (by omega) (fun h => absurd h (by omega))
        · skip
          show jj G kU_guessSteps (d + 2) Q rc rs 74 [some (.ref eu), some (.int (nI (sh))), some (.long (lZ pv)), none, some (.long (lZ qv)), none, some (.int (nI (i))), (o7), (o8), (o9), (o10), (o11), (o12), (o13), (o14)] [.long (lN (X / Y))] M9
          refine jj_goto (pc := 74) (tgt := 84) kU_guessSteps_d74 (by decide) ?_
          exact k84 (X / Y) (by have := Nat.div_le_self X Y; omega) (fun _ => ⟨g, rfl, fun h => absurd c0 (by omega)⟩)
  exact loop 64 0 (by omega) M110 xx yy od 1 0 0 1 p0 q0 none none none none none none none none h112 hf1 (LM.start hyx) ⟨by omega, by omega, by omega, by omega, by omega, by omega, by omega, by omega⟩ ho (Nat.le_refl _) (by omega) (by omega) (fun _ => ⟨by omega, by omega⟩)
end U2
