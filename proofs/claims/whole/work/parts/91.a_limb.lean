/-! ===== limbs of 32 bits ===== -/
def lu (x : Int32) : Nat := x.toBitVec.toNat
abbrev BB : Nat := 4294967296
theorem lu_lt (x : Int32) : lu x < 4294967296 := x.toBitVec.isLt
theorem lu_nI (n : Nat) : lu (nI n) = n % BB := by
  show (BitVec.ofNat 32 n).toNat = _
  rw [BitVec.toNat_ofNat]
theorem lu_nI' {n : Nat} (h : n < BB) : lu (nI n) = n := by rw [lu_nI, Nat.mod_eq_of_lt h]
theorem lu_inj {x y : Int32} (h : lu x = lu y) : x = y := Int32.toBitVec_inj.mp (BitVec.eq_of_toNat_eq h)
theorem nI_lu (x : Int32) : nI (lu x) = x := lu_inj (lu_nI' (lu_lt x))
theorem lu_zero : lu 0 = 0 := rfl
theorem lu_eq0 {x : Int32} : lu x = 0 ↔ x = 0 := ⟨fun h => lu_inj (h.trans lu_zero.symm), fun h => by rw [h]; rfl⟩
theorem nI_mod (n : Nat) : nI (n % BB) = nI n := lu_inj (by rw [lu_nI, lu_nI, Nat.mod_mod])
theorem lN_bv (n : Nat) : (lN n).toBitVec = BitVec.ofNat 64 n := rfl
theorem lu_mask (x : Int32) : x.toInt64 &&& lN 4294967295 = lN (lu x) := by
  apply Int64.toBitVec_inj.mp
  rw [Int64.toBitVec_and, lN_bv, lN_bv, show x.toInt64.toBitVec = x.toBitVec.signExtend 64 from rfl]
  apply BitVec.eq_of_toNat_eq
  rw [BitVec.toNat_and, BitVec.toNat_ofNat, BitVec.toNat_ofNat]
  have h1 : (4294967295 : Nat) % 2 ^ 64 = 2 ^ 32 - 1 := by decide
  rw [h1, Nat.and_two_pow_sub_one_eq_mod]
  have h2 := lu_lt x
  have h3 : (x.toBitVec.signExtend 64).toNat % 2 ^ 32 = lu x := by
    have h4 : (x.toBitVec.signExtend 64).setWidth 32 = x.toBitVec := by
      apply BitVec.eq_of_getLsbD_eq
      intro i hi
      simp [BitVec.getLsbD_signExtend, hi]
      intro h; omega
    have h5 := congrArg BitVec.toNat h4
    rw [BitVec.toNat_setWidth] at h5
    exact h5
  rw [h3, Nat.mod_eq_of_lt (by omega)]
theorem lN_shr32 {n : Nat} (h : n < 2 ^ 64) : ((lN n).toUInt64 >>> ((nI 32).toInt64.toUInt64 &&& Int64.toUInt64 63)).toInt64 = lN (n / BB) := by
  apply Int64.toBitVec_inj.mp
  rw [lN_bv]
  show ((lN n).toUInt64 >>> (32 : UInt64)).toBitVec = _
  rw [UInt64.toBitVec_shiftRight]
  apply BitVec.eq_of_toNat_eq
  rw [BitVec.toNat_ofNat]
  show ((BitVec.ofNat 64 n) >>> ((32 : BitVec 64) % 64)).toNat = _
  show ((BitVec.ofNat 64 n) >>> ((32 : BitVec 64) % 64).toNat).toNat = _
  rw [show ((32 : BitVec 64) % 64).toNat = 32 from rfl, BitVec.toNat_ushiftRight, BitVec.toNat_ofNat, Nat.mod_eq_of_lt h, Nat.shiftRight_eq_div_pow, show (2 : Nat) ^ 32 = BB from rfl, Nat.mod_eq_of_lt (Nat.lt_of_le_of_lt (Nat.div_le_self _ _) h)]
/-- what the first n limbs mean -/
def lnat (D : List Int32) : Nat → Nat
  | 0 => 0
  | n + 1 => lnat D n + lu (D.getD n 0) * BB ^ n
theorem lnat_congr {D E : List Int32} : ∀ {n : Nat}, (∀ i, i < n → D.getD i 0 = E.getD i 0) → lnat D n = lnat E n
  | 0, _ => rfl
  | n + 1, h => by
    show lnat D n + _ = lnat E n + _
    rw [lnat_congr (fun i hi => h i (by omega)), h n (by omega)]
theorem lnat_lt (D : List Int32) : ∀ n, lnat D n < BB ^ n
  | 0 => Nat.zero_lt_one
  | n + 1 => by
    have h1 := lnat_lt D n
    have h2 := lu_lt (D.getD n 0)
    have h3 : lu (D.getD n 0) * BB ^ n ≤ 4294967295 * BB ^ n := Nat.mul_le_mul_right _ (by omega)
    have h4 : BB ^ (n + 1) = 4294967296 * BB ^ n := by rw [Nat.pow_succ, Nat.mul_comm]
    show lnat D n + _ < _
    rw [h4]
    generalize BB ^ n = W at *
    generalize lu (D.getD n 0) * W = Y at *
    omega
theorem lnat_top {D : List Int32} {n : Nat} (h : D.getD n 0 ≠ 0) : BB ^ n ≤ lnat D (n + 1) := by
  have h1 : 1 ≤ lu (D.getD n 0) := Nat.pos_of_ne_zero (fun e => h (lu_eq0.mp e))
  have h2 := Nat.mul_le_mul_right (BB ^ n) h1
  show _ ≤ lnat D n + _
  omega
theorem lnat_zero_top {D : List Int32} {n : Nat} (h : D.getD n 0 = 0) : lnat D (n + 1) = lnat D n := by
  show lnat D n + lu (D.getD n 0) * _ = _
  rw [h, lu_zero, Nat.zero_mul]
  rfl
theorem lnat_set_ge {D : List Int32} {k : Nat} {v : Int32} : ∀ {n : Nat}, n ≤ k → lnat (D.set k v) n = lnat D n := fun {n} h => lnat_congr (fun i hi => gd_set_ne (by omega))
theorem lnat_step {D : List Int32} {n : Nat} {v : Nat} (hn : n < D.length) : lnat (D.set n (nI v)) (n + 1) = lnat D n + v % BB * BB ^ n := by
  show lnat (D.set n (nI v)) n + lu ((D.set n (nI v)).getD n 0) * _ = _
  rw [lnat_set_ge (Nat.le_refl _), gd_set_eq hn, lu_nI]
/-- a number at its place: c limbs of D -/
def LW (D : List Int32) (c : Nat) (z : Int) : Prop := c ≤ D.length ∧ lnat D c = z.natAbs ∧ (0 < c → D.getD (c - 1) 0 ≠ 0)
theorem LW.bound {D : List Int32} {c L : Nat} {z : Int} (h : LW D c z) (hz : z.natAbs < BB ^ L) : c ≤ L := by
  rcases Nat.lt_or_ge L c with g | g
  · exfalso
    have h1 := h.2.2 (by omega)
    have h2 := lnat_top h1
    rw [show c - 1 + 1 = c by omega, h.2.1] at h2
    have h3 : BB ^ L ≤ BB ^ (c - 1) := Nat.pow_le_pow_right (by decide) (by omega)
    omega
  · exact g
theorem LW.lt {D : List Int32} {c : Nat} {z : Int} (h : LW D c z) : z.natAbs < BB ^ c := by rw [← h.2.1]; exact lnat_lt D c
theorem LW.zero {D : List Int32} {c : Nat} {z : Int} (h : LW D c z) : c = 0 ↔ z = 0 := by
  constructor
  · intro e
    have := h.2.1
    rw [e] at this
    have h9 : (0 : Nat) = z.natAbs := this
    omega
  · intro e
    rcases Nat.eq_zero_or_pos c with g | g
    · exact g
    · exfalso
      have h2 := lnat_top (h.2.2 g)
      rw [show c - 1 + 1 = c by omega, h.2.1, e] at h2
      have : 0 < BB ^ (c - 1) := Nat.pow_pos (by decide)
      have h9 : (0 : Int).natAbs = 0 := rfl
      omega
/-- the limbs without those of 0 on top -/
def ltrim (D : List Int32) : Nat → Nat
  | 0 => 0
  | n + 1 => if D.getD n 0 = 0 then ltrim D n else n + 1
theorem ltrim_le (D : List Int32) : ∀ n, ltrim D n ≤ n
  | 0 => Nat.le_refl _
  | n + 1 => by
    have h := ltrim_le D n
    have e : ltrim D (n + 1) = if D.getD n 0 = 0 then ltrim D n else n + 1 := rfl
    rw [e]
    split <;> omega
theorem ltrim_nat (D : List Int32) : ∀ n, lnat D (ltrim D n) = lnat D n
  | 0 => rfl
  | n + 1 => by
    show lnat D (if _ then _ else _) = _
    by_cases c : D.getD n 0 = 0
    · rw [if_pos c, ltrim_nat D n, lnat_zero_top c]
    · rw [if_neg c]
theorem ltrim_top (D : List Int32) : ∀ n, 0 < ltrim D n → D.getD (ltrim D n - 1) 0 ≠ 0
  | 0, h => absurd h (Nat.lt_irrefl 0)
  | n + 1, h => by
    have e : ltrim D (n + 1) = if D.getD n 0 = 0 then ltrim D n else n + 1 := rfl
    by_cases c : D.getD n 0 = 0
    · rw [if_pos c] at e
      rw [e] at h ⊢
      exact ltrim_top D n h
    · rw [if_neg c] at e
      rw [e]
      exact c
theorem ltrim_LW {D : List Int32} {n : Nat} {z : Int} (hn : n ≤ D.length) (h : lnat D n = z.natAbs) : LW D (ltrim D n) z := ⟨Nat.le_trans (ltrim_le D n) hn, by rw [ltrim_nat]; exact h, ltrim_top D n⟩
/-- the sign's bit -/
def sg (z : Int) : Int32 := if z < 0 then 1 else 0
theorem sg_fits (z : Int) : fits .boolean (.int (sg z)) = true := by unfold sg; split <;> rfl
theorem sg_narrow (z : Int) : narrow .boolean (.int (sg z)) = .int (sg z) := by unfold sg; split <;> rfl
/-- a Whole at a with the limbs at l: L of them -/
def WH (M : mheap) (a l L : Nat) (z : Int) : Prop := ∃ (D : List Int32) (c : Nat), M a = some (.inl nW, [.ref l, .int (nI c), .int (sg z)]) ∧ M l = some (.inr 0, D.map .int) ∧ D.length = L ∧ LW D c z
/-- all Wholes of the class: their places p below N stand at wa p, their limbs at la p -/
def CW (M : mheap) (wa la cap : Nat → Nat) (N : Nat) (V : Nat → Int) : Prop := ∀ p, p < N → WH M (wa p) (la p) (cap p) (V p)
def CI (wa la cap : Nat → Nat) (N : Nat) : Prop := (∀ p q, p < N → q < N → wa p = wa q → p = q) ∧ (∀ p q, p < N → q < N → la p = la q → p = q) ∧ ∀ p, p < N → cap p < 2000
def vup (V : Nat → Int) (t : Nat) (z : Int) : Nat → Int := fun i => if i = t then z else V i
theorem vup_at (V : Nat → Int) (t : Nat) (z : Int) : vup V t z t = z := if_pos rfl
theorem vup_ne (V : Nat → Int) {t i : Nat} (z : Int) (h : i ≠ t) : vup V t z i = V i := if_neg h
/-- only the place t has been written -/
def WT (M M' : mheap) (wa la : Nat → Nat) (t : Nat) : Prop := ∀ q, q ≠ wa t → q ≠ la t → M' q = M q
theorem WT.refl (M : mheap) (wa la : Nat → Nat) (t : Nat) : WT M M wa la t := fun _ _ _ => rfl
theorem WT.trans {M M1 M2 : mheap} {wa la : Nat → Nat} {t : Nat} (h1 : WT M M1 wa la t) (h2 : WT M1 M2 wa la t) : WT M M2 wa la t := fun q a b => (h2 q a b).trans (h1 q a b)
section CWS
variable {M M' : mheap} {wa la cap : Nat → Nat} {N t : Nat} {V : Nat → Int}
theorem CW.put {z : Int} (h : CW M wa la cap N V) (hI : CI wa la cap N) (ht : t < N) (hw : WH M' (wa t) (la t) (cap t) z) (hf : WT M M' wa la t) : CW M' wa la cap N (vup V t z) := by
  intro p hp
  by_cases c : p = t
  · rw [c, vup_at]; exact hw
  · rw [vup_ne _ _ c]
    obtain ⟨D, n, a1, a2, a3⟩ := h p hp
    obtain ⟨D', n', b1, b2, b3⟩ := h t ht
    refine ⟨D, n, ?_, ?_, a3⟩
    · rw [hf _ (fun e => c (hI.1 p t hp ht e)) (fun e => by rw [e, b2] at a1; cases a1)]; exact a1
    · rw [hf _ (fun e => by rw [e, b1] at a2; cases a2) (fun e => c (hI.2.1 p t hp ht e))]; exact a2
end CWS
/-- another array after a write into one: the same but at that index -/
theorem alias_set {M : mheap} {l a i : Nat} {T A : List Int32} {v : Int32} (hT : M l = some (.inr 0, T.map .int)) (hA : M a = some (.inr 0, A.map .int)) : ∃ A' : List Int32, jj_up M l (.inr 0, (T.set i v).map .int) a = some (.inr 0, A'.map .int) ∧ A'.length = A.length ∧ ∀ j, j ≠ i → A'.getD j 0 = A.getD j 0 := by
  by_cases c : a = l
  · subst c
    rw [hT] at hA
    have e : T = A := by
      have h1 : T.map Value.int = A.map Value.int := by simpa using hA
      exact (List.map_inj_right (fun x y h => by cases h; rfl)).mp h1
    subst e
    exact ⟨T.set i v, jj_up_at _ _ _, List.length_set .., fun j hj => gd_set_ne (by omega)⟩
  · exact ⟨A, by rw [jj_up_ne _ _ c]; exact hA, rfl, fun _ _ => rfl⟩
