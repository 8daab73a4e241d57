/-! ===== shifts of longs by a count; Whole: bitsFrom (printed by wip/gen/rW6.py) ===== -/
theorem lN_mod (n : Nat) : lN (n % 18446744073709551616) = lN n := by
  apply Int64.toBitVec_inj.mp
  rw [lN_bv, lN_bv]
  apply BitVec.eq_of_toNat_eq
  rw [BitVec.toNat_ofNat, BitVec.toNat_ofNat, show (2 : Nat) ^ 64 = 18446744073709551616 from rfl, Nat.mod_mod]
theorem lN_cong {a b : Nat} (h : a % 18446744073709551616 = b % 18446744073709551616) : lN a = lN b := by rw [← lN_mod a, h, lN_mod]
theorem sh64 : ∀ s, s < 64 → (((nI s).toInt64.toUInt64 &&& Int64.toUInt64 63).toBitVec % 64) = BitVec.ofNat 64 s := by decide
theorem sh64s : ∀ s, s < 64 → (((nI s).toInt64 &&& 63).toBitVec.smod 64) = BitVec.ofNat 64 s := by decide
theorem lN_shr {n s : Nat} (h : n < 18446744073709551616) (hs : s < 64) : ((lN n).toUInt64 >>> ((nI s).toInt64.toUInt64 &&& Int64.toUInt64 63)).toInt64 = lN (n / 2 ^ s) := by
  apply Int64.toBitVec_inj.mp
  rw [lN_bv]
  show ((lN n).toUInt64 >>> ((nI s).toInt64.toUInt64 &&& Int64.toUInt64 63)).toBitVec = _
  rw [UInt64.toBitVec_shiftRight, sh64 s hs]
  apply BitVec.eq_of_toNat_eq
  rw [BitVec.toNat_ofNat]
  show ((BitVec.ofNat 64 n) >>> (BitVec.ofNat 64 s).toNat).toNat = _
  rw [BitVec.toNat_ofNat, Nat.mod_eq_of_lt (show s < 2 ^ 64 by omega), BitVec.toNat_ushiftRight, BitVec.toNat_ofNat, Nat.mod_eq_of_lt (show n < 2 ^ 64 from h), Nat.shiftRight_eq_div_pow, Nat.mod_eq_of_lt (Nat.lt_of_le_of_lt (Nat.div_le_self _ _) (show n < 2 ^ 64 from h))]
theorem lx_shl {x : Int64} {n s : Nat} (hs : s < 64) (h : x.toBitVec.toNat * 2 ^ s % 18446744073709551616 = n % 18446744073709551616) : x <<< ((nI s).toInt64 &&& 63) = lN n := by
  apply Int64.toBitVec_inj.mp
  rw [lN_bv, Int64.toBitVec_shiftLeft, sh64s s hs]
  apply BitVec.eq_of_toNat_eq
  show (x.toBitVec <<< (BitVec.ofNat 64 s).toNat).toNat = _
  rw [BitVec.toNat_ofNat, Nat.mod_eq_of_lt (show s < 2 ^ 64 by omega), BitVec.toNat_shiftLeft, Nat.shiftLeft_eq, BitVec.toNat_ofNat]
  exact h
theorem lN_shl {n s : Nat} (hs : s < 64) : lN n <<< ((nI s).toInt64 &&& 63) = lN (n * 2 ^ s) := lx_shl hs (by
  rw [lN_bv, BitVec.toNat_ofNat, show (2 : Nat) ^ 64 = 18446744073709551616 from rfl, Nat.mod_mul_mod])
theorem lx_ext (x : Int32) : x.toInt64.toBitVec.toNat % 4294967296 = lu x := by
  have h4 : (x.toBitVec.signExtend 64).setWidth 32 = x.toBitVec := by
    apply BitVec.eq_of_getLsbD_eq
    intro i hi
    simp [BitVec.getLsbD_signExtend, hi]
    intro h; omega
  have h5 := congrArg BitVec.toNat h4
  rw [BitVec.toNat_setWidth] at h5
  exact h5
theorem lx_shl2 {x : Int32} {s : Nat} (h1 : 32 ≤ s) (hs : s < 64) : x.toInt64 <<< ((nI s).toInt64 &&& 63) = lN (lu x * 2 ^ s) := lx_shl hs (by
  rw [← lx_ext x]
  generalize x.toInt64.toBitVec.toNat = y
  obtain ⟨r, rfl⟩ : ∃ r, s = 32 + r := ⟨s - 32, by omega⟩
  rw [Nat.pow_add, show (2 : Nat) ^ 32 = 4294967296 from rfl]
  have e : y = y % 4294967296 + 4294967296 * (y / 4294967296) := by omega
  generalize y % 4294967296 = u at *
  generalize y / 4294967296 = v at *
  rw [e, Nat.add_mul, show 4294967296 * v * (4294967296 * 2 ^ r) = 18446744073709551616 * (v * 2 ^ r) by rw [Nat.mul_comm 4294967296 v, Nat.mul_assoc v, ← Nat.mul_assoc 4294967296 4294967296, Nat.mul_left_comm]]
  omega)
theorem lN_or {a b k : Nat} (ha : a < 2 ^ k) : lN a ||| lN (b * 2 ^ k) = lN (a + b * 2 ^ k) := by
  apply Int64.toBitVec_inj.mp
  rw [Int64.toBitVec_or, lN_bv, lN_bv, lN_bv, Nat.add_comm, Nat.mul_comm, Nat.two_pow_add_eq_or_of_lt ha, BitVec.ofNat_or, BitVec.or_comm]
theorem lN_or' {a b k : Nat} (ha : a < 2 ^ k) : lN (b * 2 ^ k) ||| lN a = lN (b * 2 ^ k + a) := by
  apply Int64.toBitVec_inj.mp
  rw [Int64.toBitVec_or, lN_bv, lN_bv, lN_bv, Nat.mul_comm, Nat.two_pow_add_eq_or_of_lt ha, BitVec.ofNat_or]
theorem nI_shr5 {n : Nat} (h : n < 2 ^ 31) : nI n >>> (nI 5 &&& 31) = nI (n / 32) := Int32.toInt_inj.mp (by
  have e : (nI n >>> (nI 5 &&& 31)).toInt = (nI n).toInt >>> 5 := by
    show (nI n >>> (nI 5 &&& 31)).toBitVec.toInt = (nI n).toBitVec.toInt >>> 5
    rw [Int32.toBitVec_shiftRight]
    exact BitVec.toInt_sshiftRight ..
  rw [e, nI_toInt h, nI_toInt (show n / 32 < 2 ^ 31 by omega), Int.shiftRight_eq_div_pow]
  omega)
theorem nI_and31 {n : Nat} : nI n &&& nI 31 = nI (n % 32) := by
  apply lu_inj
  rw [lu_nI]
  show (nI n &&& nI 31).toBitVec.toNat = _
  rw [Int32.toBitVec_and, BitVec.toNat_and]
  show lu (nI n) &&& 31 = _
  rw [lu_nI, show (31 : Nat) = 2 ^ 5 - 1 from rfl, Nat.and_two_pow_sub_one_eq_mod, show (2 : Nat) ^ 5 = 32 from rfl]
  show n % 4294967296 % 32 = n % 32 % 4294967296
  omega
theorem bits_lo (Y : Nat) : lN (Y % 4294967296 + Y / 4294967296 % 4294967296 * 2 ^ 32) = lN (Y % 18446744073709551616) := by
  congr 1
  rw [show (2 : Nat) ^ 32 = 4294967296 from rfl]
  omega
theorem bits_hi {Y s : Nat} (hs : s < 32) : lN (Y % 18446744073709551616 / 2 ^ s + Y / 18446744073709551616 % 4294967296 * 2 ^ (64 - s)) = lN (Y / 2 ^ s) := lN_cong (by
  have e : (18446744073709551616 : Nat) = 2 ^ s * 2 ^ (64 - s) := by rw [← Nat.pow_add, show s + (64 - s) = 64 by omega]
  have h0 : 0 < 2 ^ s := Nat.pow_pos (by decide)
  have e2 : Y / 2 ^ s = Y % 18446744073709551616 / 2 ^ s + Y / 18446744073709551616 * 2 ^ (64 - s) := by
    conv => lhs; rw [← Nat.mod_add_div Y 18446744073709551616]
    rw [show 18446744073709551616 * (Y / 18446744073709551616) = 2 ^ s * (2 ^ (64 - s) * (Y / 18446744073709551616)) by rw [← Nat.mul_assoc, ← e], Nat.add_mul_div_left _ _ h0, Nat.mul_comm (2 ^ (64 - s))]
  rw [e2]
  obtain ⟨r, hr⟩ : ∃ r, 64 - s = 32 + r := ⟨32 - s, by omega⟩
  rw [hr, Nat.pow_add, show (2 : Nat) ^ 32 = 4294967296 from rfl]
  generalize Y % 18446744073709551616 / 2 ^ s = a
  generalize Y / 18446744073709551616 = z
  have e3 : z = z % 4294967296 + 4294967296 * (z / 4294967296) := by omega
  generalize z % 4294967296 = u at *
  generalize z / 4294967296 = v at *
  rw [e3, Nat.add_mul, show 4294967296 * v * (4294967296 * 2 ^ r) = 18446744073709551616 * (v * 2 ^ r) by rw [Nat.mul_comm 4294967296 v, Nat.mul_assoc v, ← Nat.mul_assoc 4294967296 4294967296, Nat.mul_left_comm]]
  omega)
section W6
variable {G : jg} {d : Nat} {Q : jq} {rc rs : Nat} {M : mheap} {wa la cap : Nat → Nat} {N : Nat} {V : Nat → Int}
theorem w_bitsFrom {t n : Nat} (hG : kG G) (hI : CI wa la cap N) (hc : CW M wa la cap N V) (ht : t < N) (hn : n < 2 ^ 30) (k : Q (.returned (some (.long (lN ((V t).natAbs / 2 ^ n))))) M rc rs) : jj G kW_bitsFrom (d + 1) Q rc rs 0 (jj_ent [.ref (wa t), .int (nI n)] 6) [] M := by
  obtain ⟨T, ct, hT1, hT2, hT3, hT4⟩ := hc t ht
  obtain ⟨Y, hY⟩ : ∃ Y, (V t).natAbs / BB ^ (n / 32) = Y := ⟨_, rfl⟩
  obtain ⟨b, hb⟩ : ∃ b, n / 32 = b := ⟨_, rfl⟩
  obtain ⟨h, hh⟩ : ∃ h, n % 32 = h := ⟨_, rfl⟩
  have hbl : b < 2 ^ 30 := by omega
  have hhl : h < 32 := by omega
  have hY1 : (V t).natAbs / BB ^ (b + 1) = Y / 4294967296 := by rw [← hY, hb, Nat.div_div_eq_div_mul, Nat.pow_succ]
  have hY2 : (V t).natAbs / BB ^ (b + 2) = Y / 18446744073709551616 := by rw [Nat.pow_succ, ← Nat.div_div_eq_div_mul, hY1, Nat.div_div_eq_div_mul]; rfl
  have hYs : (V t).natAbs / 2 ^ n = Y / 2 ^ h := by
    rw [← hY, Nat.div_div_eq_div_mul, hb, show BB = 2 ^ 32 from rfl, ← Nat.pow_mul, ← Nat.pow_add]
    congr 2
    omega
  rw [hb] at hY
  rw [hYs] at k
  show jj G kW_bitsFrom (d + 1) Q rc rs 0 [some (.ref (wa t)), some (.int (nI (n))), none, none, none, none] [] M
  refine jj_iload_n (pc := 0) kW_bitsFrom_d0 rfl ?_
  refine jn_iconst (pc := 1) 5 kW_bitsFrom_d1 (by decide) ?_
  refine jj_ishr (pc := 2) kW_bitsFrom_d2 ?_
  refine jn_top (.int (nI (b))) (by rw [nI_shr5 (by omega), hb]) ?_
  refine jj_istore_n (pc := 3) kW_bitsFrom_d3 (Nat.le_of_ble_eq_true rfl) ?_
  refine jj_iload_n (pc := 4) kW_bitsFrom_d4 rfl ?_
  refine jn_bipush (pc := 5) 31 kW_bitsFrom_d5 (by decide) ?_
  refine jj_iand (pc := 7) kW_bitsFrom_d7 ?_
  refine jn_top (.int (nI (h))) (by rw [nI_and31, hh]) ?_
  refine jj_istore_n (pc := 8) kW_bitsFrom_d8 (Nat.le_of_ble_eq_true rfl) ?_
  refine jj_aload_n (pc := 9) kW_bitsFrom_d9 rfl ?_
  refine jj_iload_n (pc := 10) kW_bitsFrom_d10 rfl ?_
  refine jj_callV (pc := 11) (b := (wa t)) (As := [.int (nI (b))]) kW_bitsFrom_d11 (kvW_W_limbAt hG) (kG_cl hG rfl) rfl hT1 rfl rfl rfl (Nat.le_of_ble_eq_true rfl) (Nat.le_of_ble_eq_true rfl) (jj_bare0 rfl) ?_
  refine w_limbAt hG hI hc ht (by omega) ?_
  show jj G kW_bitsFrom (d + 1) Q rc rs 14 [some (.ref (wa t)), some (.int (nI (n))), some (.int (nI (b))), some (.int (nI (h))), none, none] [.int (nI ((V t).natAbs / BB ^ b))] M
  refine jn_top (.int (nI (Y))) (by rw [hY]) ?_
  refine jj_i2l (pc := 14) kW_bitsFrom_d14 ?_
  refine jj_ldc2 (pc := 15) kW_bitsFrom_d15 (kcW_4294967295 hG) ?_
  refine jn_top (.long (lN (4294967295))) (rfl) ?_
  refine jj_land (pc := 18) kW_bitsFrom_d18 ?_
  refine jn_top (.long (lN (Y % 4294967296))) (by rw [lu_mask, lu_nI]) ?_
  refine jj_aload_n (pc := 19) kW_bitsFrom_d19 rfl ?_
  refine jj_iload_n (pc := 20) kW_bitsFrom_d20 rfl ?_
  refine jn_iconst (pc := 21) 1 kW_bitsFrom_d21 (by decide) ?_
  refine jn_iadd (pc := 22) (b + 1) kW_bitsFrom_d22 (by omega) ?_
  refine jj_callV (pc := 23) (b := (wa t)) (As := [.int (nI (b + 1))]) kW_bitsFrom_d23 (kvW_W_limbAt hG) (kG_cl hG rfl) rfl hT1 rfl rfl rfl (Nat.le_of_ble_eq_true rfl) (Nat.le_of_ble_eq_true rfl) (jj_bare0 rfl) ?_
  refine w_limbAt hG hI hc ht (by omega) ?_
  show jj G kW_bitsFrom (d + 1) Q rc rs 26 [some (.ref (wa t)), some (.int (nI (n))), some (.int (nI (b))), some (.int (nI (h))), none, none] [.int (nI ((V t).natAbs / BB ^ (b + 1))), .long (lN (Y % 4294967296))] M
  refine jn_top (.int (nI (Y / 4294967296))) (by rw [hY1]) ?_
  refine jj_i2l (pc := 26) kW_bitsFrom_d26 ?_
  refine jn_bipush (pc := 27) 32 kW_bitsFrom_d27 (by decide) ?_
  refine jj_lshl (pc := 29) kW_bitsFrom_d29 ?_
  refine jn_top (.long (lN (Y / 4294967296 % 4294967296 * 2 ^ 32))) (by rw [lx_shl2 (by decide) (by decide), lu_nI]) ?_
  refine jj_lor (pc := 30) kW_bitsFrom_d30 ?_
  refine jn_top (.long (lN (Y % 18446744073709551616))) (by rw [lN_or (k := 32) (Nat.mod_lt _ (by decide)), bits_lo]) ?_
  refine jj_lstore (pc := 31) kW_bitsFrom_d31 (Nat.le_of_ble_eq_true rfl) ?_
  refine jj_iload_n (pc := 33) kW_bitsFrom_d33 rfl ?_
  refine jn_if_ne (pc := 34) (tgt := 40) kW_bitsFrom_d34 (by decide) (by omega) (fun c => ?_) (fun c => ?_)
  · skip
    refine jj_lload (pc := 40) kW_bitsFrom_d40 rfl ?_
    refine jj_iload_n (pc := 42) kW_bitsFrom_d42 rfl ?_
    refine jj_lushr (pc := 43) kW_bitsFrom_d43 ?_
    refine jn_top (.long (lN (Y % 18446744073709551616 / 2 ^ h))) (by rw [lN_shr (Nat.mod_lt _ (by decide)) (by omega)]) ?_
    refine jj_aload_n (pc := 44) kW_bitsFrom_d44 rfl ?_
    refine jj_iload_n (pc := 45) kW_bitsFrom_d45 rfl ?_
    refine jn_iconst (pc := 46) 2 kW_bitsFrom_d46 (by decide) ?_
    refine jn_iadd (pc := 47) (b + 2) kW_bitsFrom_d47 (by omega) ?_
    refine jj_callV (pc := 48) (b := (wa t)) (As := [.int (nI (b + 2))]) kW_bitsFrom_d48 (kvW_W_limbAt hG) (kG_cl hG rfl) rfl hT1 rfl rfl rfl (Nat.le_of_ble_eq_true rfl) (Nat.le_of_ble_eq_true rfl) (jj_bare0 rfl) ?_
    refine w_limbAt hG hI hc ht (by omega) ?_
    show jj G kW_bitsFrom (d + 1) Q rc rs 51 [some (.ref (wa t)), some (.int (nI (n))), some (.int (nI (b))), some (.int (nI (h))), some (.long (lN (Y % 18446744073709551616))), none] [.int (nI ((V t).natAbs / BB ^ (b + 2))), .long (lN (Y % 18446744073709551616 / 2 ^ h))] M
    refine jn_top (.int (nI (Y / 18446744073709551616))) (by rw [hY2]) ?_
    refine jj_i2l (pc := 51) kW_bitsFrom_d51 ?_
    refine jn_bipush (pc := 52) 64 kW_bitsFrom_d52 (by decide) ?_
    refine jj_iload_n (pc := 54) kW_bitsFrom_d54 rfl ?_
    refine jn_isub (pc := 55) (64 - h) kW_bitsFrom_d55 (by omega) ?_
    refine jj_lshl (pc := 56) kW_bitsFrom_d56 ?_
    refine jn_top (.long (lN (Y / 18446744073709551616 % 4294967296 * 2 ^ (64 - h)))) (by rw [lx_shl2 (by omega) (by omega), lu_nI]) ?_
    have hor : Y % 18446744073709551616 / 2 ^ h < 2 ^ (64 - h) := by
      rw [Nat.div_lt_iff_lt_mul (Nat.pow_pos (by decide)), ← Nat.pow_add, show 64 - h + h = 64 by omega]
      exact Nat.mod_lt _ (by decide)
    refine jj_lor (pc := 57) kW_bitsFrom_d57 ?_
    refine jn_top (.long (lN (Y / 2 ^ h))) (by rw [lN_or hor, bits_hi hhl]) ?_
    exact jj_lret (pc := 58) kW_bitsFrom_d58 rfl k
  · skip
    refine jj_lload (pc := 37) kW_bitsFrom_d37 rfl ?_
    refine jn_top (.long (lN (Y / 2 ^ h))) (by rw [lN_mod, show h = 0 by omega, Nat.pow_zero, Nat.div_one]) ?_
    exact jj_lret (pc := 39) kW_bitsFrom_d39 rfl k
end W6
