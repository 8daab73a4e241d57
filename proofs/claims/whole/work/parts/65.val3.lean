/-! ===== digits: the head, the guess of a quotient's digit, taking away ===== -/
theorem rnat_head {D : List Int32} {x : Nat} : ∀ {n : Nat}, rnat D x (n + 1) = dv D (x + 1) + 32768 * rnat D (x + 1) n
  | 0 => by show 0 + dv D (x + (0 + 1)) * 32768 ^ 0 = dv D (x + 1) + 32768 * 0; simp
  | n + 1 => by
    show rnat D x (n + 1) + dv D (x + (n + 1 + 1)) * 32768 ^ (n + 1) = dv D (x + 1) + 32768 * (rnat D (x + 1) n + dv D (x + 1 + (n + 1)) * 32768 ^ n)
    rw [rnat_head, show x + (n + 1 + 1) = x + 1 + (n + 1) by omega, Nat.mul_add, Nat.pow_succ, Nat.add_assoc]
    congr 2
    rw [Nat.mul_comm (32768 ^ n) 32768, Nat.mul_left_comm]
theorem rnat_inj {D E : List Int32} {x y : Nat} : ∀ {n : Nat}, RD D x n → RD E y n → rnat D x n = rnat E y n → ∀ i, 0 < i → i ≤ n → D.getD (x + i) 0 = E.getD (y + i) 0
  | 0, _, _, _ => fun i h1 h2 => by omega
  | n + 1, hx, hy, e => by
    have lx := rnat_lt (hx.less (Nat.le_succ n))
    have ly := rnat_lt (hy.less (Nat.le_succ n))
    obtain ⟨a1, a2⟩ := hx.dv (Nat.succ_pos n) (Nat.le_refl _)
    obtain ⟨b1, b2⟩ := hy.dv (Nat.succ_pos n) (Nat.le_refl _)
    have e' : rnat D x n + dv D (x + (n + 1)) * 32768 ^ n = rnat E y n + dv E (y + (n + 1)) * 32768 ^ n := e
    have hp : 0 < 32768 ^ n := Nat.pow_pos (by decide)
    have h1 : dv D (x + (n + 1)) = dv E (y + (n + 1)) := by
      have q1 : (rnat D x n + dv D (x + (n + 1)) * 32768 ^ n) / 32768 ^ n = dv D (x + (n + 1)) := by rw [Nat.add_mul_div_right _ _ hp, Nat.div_eq_of_lt lx, Nat.zero_add]
      have q2 : (rnat E y n + dv E (y + (n + 1)) * 32768 ^ n) / 32768 ^ n = dv E (y + (n + 1)) := by rw [Nat.add_mul_div_right _ _ hp, Nat.div_eq_of_lt ly, Nat.zero_add]
      rw [← q1, ← q2, e']
    have h2 : rnat D x n = rnat E y n := by rw [h1] at e'; omega
    intro i g1 g2
    by_cases c : i = n + 1
    · subst c
      rw [a2, b2, h1]
    · exact rnat_inj (hx.less (Nat.le_succ n)) (hy.less (Nat.le_succ n)) h2 i g1 (by omega)
theorem i32_and (x : Int32) : (x &&& 32767).toInt = x.toInt % 32768 := by
  have h1 : (x &&& 32767).toBitVec.toNat = x.toBitVec.toNat % 32768 := by
    rw [Int32.toBitVec_and, BitVec.toNat_and]
    exact Nat.and_two_pow_sub_one_eq_mod x.toBitVec.toNat 15
  have h2 : x.toInt = x.toBitVec.toInt := rfl
  have h3 : (x &&& 32767).toInt = (x &&& 32767).toBitVec.toInt := rfl
  have hb : x.toBitVec.toNat < 2 ^ 32 := x.toBitVec.isLt
  rw [h2, h3, BitVec.toInt_eq_toNat_cond, BitVec.toInt_eq_toNat_cond, h1]
  split <;> split <;> omega
theorem i32_shr15 {a : Nat} (h : a < 2 ^ 31) : nI a >>> (nI 15 &&& 31) = nI (a / 32768) := Int32.toInt_inj.mp (by
  rw [show nI 15 &&& 31 = 15 by decide, nI_toInt (show a / 32768 < 2 ^ 31 by omega)]
  have e : (nI a >>> 15).toInt = (nI a).toInt >>> 15 := by
    show (nI a >>> 15).toBitVec.toInt = (nI a).toBitVec.toInt >>> 15
    rw [Int32.toBitVec_shiftRight]
    exact BitVec.toInt_sshiftRight ..
  rw [e, nI_toInt h, Int.shiftRight_eq_div_pow]
  omega)
theorem nI_of_toInt {x : Int32} {n : Nat} (h : x.toInt = (n : Int)) : x = nI n := Int32.toInt_inj.mp (by
  have := Int32.toInt_lt x
  rw [nI_toInt (by omega), h])
theorem i32_sub {a b : Int32} (h1 : -2147483648 ≤ a.toInt - b.toInt) (h2 : a.toInt - b.toInt < 2147483648) : (a - b).toInt = a.toInt - b.toInt := by
  rw [Int32.toInt_sub, Int.bmod_eq_of_le (by omega) (by omega)]
theorem give_low {a : Nat} (h : a < 2 ^ 31) : nI a &&& nI 32767 = nI (a % 32768) := by
  refine nI_of_toInt ?_
  rw [show nI 32767 = 32767 from rfl, i32_and, nI_toInt h]
  omega
/-- what a guess of a digit needs: lead and high are the upper digits -/
def lead3 (m V L : Nat) : Prop := L * 32768 ^ m ≤ V * 32768 ^ 3 ∧ V * 32768 ^ 3 < (L + 1) * 32768 ^ m
theorem lead3_guess {m Y A L H q : Nat} (hY : lead3 m Y L) (hA : lead3 m A H) (hq : q * Y ≤ A) (hL : 0 < L) : q ≤ H / L := by
  rw [Nat.le_div_iff_mul_le hL]
  have h1 : q * L * 32768 ^ m ≤ q * Y * 32768 ^ 3 := by
    rw [Nat.mul_assoc, Nat.mul_assoc]
    exact Nat.mul_le_mul_left q hY.1
  have h2 : q * Y * 32768 ^ 3 ≤ A * 32768 ^ 3 := Nat.mul_le_mul_right _ hq
  have h3 : q * L * 32768 ^ m < (H + 1) * 32768 ^ m := Nat.lt_of_le_of_lt (Nat.le_trans h1 h2) hA.2
  have h4 : q * L < H + 1 := Nat.lt_of_mul_lt_mul_right h3
  omega
theorem lead3_pos {m Y L : Nat} (hY : lead3 m Y L) (h : 32768 ^ (m - 1) ≤ Y) (hm : 0 < m) : 0 < L := by
  rcases Nat.eq_zero_or_pos L with e | e
  · subst e
    have h1 := hY.2
    rw [Nat.zero_add, Nat.one_mul] at h1
    have h2 : 32768 ^ (m - 1) * 32768 ^ 3 ≤ Y * 32768 ^ 3 := Nat.mul_le_mul_right _ h
    have h3 : 32768 ^ m ≤ 32768 ^ (m - 1) * 32768 ^ 3 := by
      rw [← Nat.pow_add]
      exact Nat.pow_le_pow_right (by decide) (by omega)
    omega
  · exact e
def leadv (D : List Int32) (r m v : Nat) : Nat := ((v * 32768 + dv D (r + m)) * 32768 + (if 2 ≤ m then dv D (r + m - 1) else 0)) * 32768 + (if 3 ≤ m then dv D (r + m - 2) else 0)
theorem leadv_val {D : List Int32} {r m : Nat} (v : Nat) (h : RD D r m) (hm : 0 < m) : lead3 m (rnat D r m + v * 32768 ^ m) (leadv D r m v) := by
  unfold lead3 leadv
  match m, hm with
  | 1, _ =>
    show _ * 32768 ^ 1 ≤ (0 + dv D (r + (0 + 1)) * 32768 ^ 0 + v * 32768 ^ 1) * 32768 ^ 3 ∧ (0 + dv D (r + (0 + 1)) * 32768 ^ 0 + v * 32768 ^ 1) * 32768 ^ 3 < _ * 32768 ^ 1
    simp only [Nat.pow_zero, Nat.pow_one, Nat.zero_add]
    rw [if_neg (by omega), if_neg (by omega)]
    omega
  | 2, _ =>
    show _ * 32768 ^ 2 ≤ (0 + dv D (r + (0 + 1)) * 32768 ^ 0 + dv D (r + (1 + 1)) * 32768 ^ 1 + v * 32768 ^ 2) * 32768 ^ 3 ∧ (0 + dv D (r + (0 + 1)) * 32768 ^ 0 + dv D (r + (1 + 1)) * 32768 ^ 1 + v * 32768 ^ 2) * 32768 ^ 3 < _ * 32768 ^ 2
    simp only [Nat.pow_zero, Nat.pow_one, Nat.zero_add]
    rw [if_pos (by omega), if_neg (by omega), show r + 2 - 1 = r + 1 by omega, show (1 + 1 : Nat) = 2 by rfl]
    omega
  | k + 3, _ =>
    rw [if_pos (by omega), if_pos (by omega), show r + (k + 3) - 1 = r + (k + 2) by omega, show r + (k + 3) - 2 = r + (k + 1) by omega]
    show _ * 32768 ^ (k + 3) ≤ (rnat D r k + dv D (r + (k + 1)) * 32768 ^ k + dv D (r + (k + 2)) * 32768 ^ (k + 1) + dv D (r + (k + 3)) * 32768 ^ (k + 2) + v * 32768 ^ (k + 3)) * 32768 ^ 3 ∧ (rnat D r k + dv D (r + (k + 1)) * 32768 ^ k + dv D (r + (k + 2)) * 32768 ^ (k + 1) + dv D (r + (k + 3)) * 32768 ^ (k + 2) + v * 32768 ^ (k + 3)) * 32768 ^ 3 < _ * 32768 ^ (k + 3)
    have hl := rnat_lt (h.less (show k ≤ k + 3 by omega))
    generalize dv D (r + (k + 1)) = a
    generalize dv D (r + (k + 2)) = b
    generalize dv D (r + (k + 3)) = c
    generalize rnat D r k = u at hl ⊢
    simp only [Nat.pow_add]
    generalize 32768 ^ k = P at hl ⊢
    have e : (u + a * P + b * (P * 32768 ^ 1) + c * (P * 32768 ^ 2) + v * (P * 32768 ^ 3)) * 32768 ^ 3 = u * 32768 ^ 3 + (((v * 32768 + c) * 32768 + b) * 32768 + a) * (P * 32768 ^ 3) := by
      grind
    rw [e]
    refine ⟨Nat.le_add_left _ _, ?_⟩
    rw [Nat.add_mul _ 1 (P * 32768 ^ 3), Nat.one_mul]
    omega
theorem leadv_lt {D : List Int32} {r m v : Nat} (h : RD D r m) (hm : 0 < m) (hv : v < 32768) : leadv D r m v < 32768 ^ 4 := by
  unfold leadv
  have h1 := (h.dv hm (Nat.le_refl m)).1
  have h2 : (if 2 ≤ m then dv D (r + m - 1) else 0) < 32768 := by
    split
    · rw [show r + m - 1 = r + (m - 1) by omega]; exact (h.dv (by omega) (by omega)).1
    · decide
  have h3 : (if 3 ≤ m then dv D (r + m - 2) else 0) < 32768 := by
    split
    · rw [show r + m - 2 = r + (m - 2) by omega]; exact (h.dv (by omega) (by omega)).1
    · decide
  omega
theorem rnat_shift {D D' : List Int32} {r m v : Nat} (h1 : D'.getD (r + 1) 0 = nI v) (hv : v < 32768) (h : ∀ i, 0 < i → i ≤ m → D'.getD (r + 1 + i) 0 = D.getD (r + i) 0) : rnat D' r (m + 1) = v + 32768 * rnat D r m := by
  rw [rnat_head, dv_nI h1 (by omega), rnat_congr h]
theorem div_step {Xh Qh Y R x f : Nat} (h : Xh = Qh * Y + R) (hf : f * Y ≤ x + 32768 * R) : x + 32768 * Xh = (f + 32768 * Qh) * Y + (x + 32768 * R - f * Y) := by
  subst h
  rw [Nat.add_mul, Nat.mul_add, Nat.mul_assoc]
  omega
theorem div_small {Y R x : Nat} (h : R < Y) (hx : x < 32768) : x + 32768 * R < 32768 * Y := by omega
theorem div_quot {Y A : Nat} (h : A < 32768 * Y) : A / Y < 32768 := by
  rw [Nat.div_lt_iff_lt_mul (by omega)]
  exact h
theorem zI_low {z : Int} {l : Nat} (h1 : -2147483648 ≤ z) (h2 : z < 2147483648) (h : z % 32768 = (l : Int)) : zI z &&& nI 32767 = nI l := by
  refine nI_of_toInt ?_
  rw [show nI 32767 = 32767 from rfl, i32_and, zI_toInt h1 h2, h]
theorem zI_shr {z : Int} {b : Nat} (h : z = 32768 * (b : Int)) (hb : b < 65536) : zI z >>> (nI 15 &&& 31) = nI b := by
  rw [zI_to (n := 32768 * b) (by omega), i32_shr15 (by omega)]
  congr 1
  omega
theorem take_ok {d b p : Nat} (hd : d < 32768) (hb : b < 32768) (hp : p ≤ 32767 * 32767) : ∃ l b' : Nat, l < 32768 ∧ b' < 32768 ∧ ((d : Int) - b - p) % 32768 = (l : Int) ∧ (l : Int) - ((d : Int) - b - p) = 32768 * (b' : Int) ∧ l + p + b = d + 32768 * b' :=
  ⟨(((d : Int) - b - p) % 32768).toNat, (-(((d : Int) - b - p) / 32768)).toNat, by omega, by omega, by omega, by omega, by omega⟩
theorem take_step {d b p l b' P r u v : Nat} (h : r + u = v + b * P) (e : l + p + b = d + 32768 * b') : r + l * P + (u + p * P) = (v + d * P) + b' * (P * 32768) := by
  have := congrArg (· * P) e
  simp only [Nat.add_mul] at this
  grind
theorem give_step {s P r c e p u v : Nat} (h : r + c * P = u + v) (hs : c + e + p = s) : r + s % 32768 * P + s / 32768 * (P * 32768) = (u + e * P) + (v + p * P) := by
  have e1 : s % 32768 * P + s / 32768 * (P * 32768) = s * P := by
    rw [show s / 32768 * (P * 32768) = s / 32768 * 32768 * P by rw [Nat.mul_comm P, Nat.mul_assoc], ← Nat.add_mul]
    congr 1
    omega
  have e2 : s * P = c * P + e * P + p * P := by rw [← hs, Nat.add_mul, Nat.add_mul]
  omega
theorem prod_lt {f g : Nat} (hf : f < 32768) (hg : g < 32768) : f * g ≤ 32767 * 32767 := Nat.mul_le_mul (by omega) (by omega)
theorem i32_shk : ∀ k, k < 32 → ((nI k &&& 31).toBitVec.smod 32).toNat = k := by decide
theorem i32_shr {a k : Nat} (h : a < 2 ^ 31) (hk : k < 32) : nI a >>> (nI k &&& 31) = nI (a / 2 ^ k) := Int32.toInt_inj.mp (by
  have hq : a / 2 ^ k ≤ a := Nat.div_le_self _ _
  rw [nI_toInt (show a / 2 ^ k < 2 ^ 31 by omega)]
  have e : (nI a >>> (nI k &&& 31)).toInt = (nI a).toInt >>> k := by
    show (nI a >>> (nI k &&& 31)).toBitVec.toInt = (nI a).toBitVec.toInt >>> k
    rw [Int32.toBitVec_shiftRight]
    show ((nI a).toBitVec.sshiftRight ((nI k &&& 31).toBitVec.smod 32).toNat).toInt = _
    rw [i32_shk k hk]
    exact BitVec.toInt_sshiftRight ..
  rw [e, nI_toInt h, Int.shiftRight_eq_div_pow]
  simp)
/-- the long of a whole number -/
def lZ (z : Int) : Int64 := Int64.ofInt z
theorem lZ_toInt {z : Int} (h1 : -9223372036854775808 ≤ z) (h2 : z < 9223372036854775808) : (lZ z).toInt = z := by unfold lZ; exact Int64.toInt_ofInt_of_le (by omega) (by omega)
theorem lZ_of (x : Int64) : lZ x.toInt = x := Int64.ofInt_toInt ..
theorem lZ_div {z : Int} (h1 : -9223372036854775808 ≤ z) (h2 : z < 9223372036854775808) : lZ z / 32768 = lZ (z.tdiv 32768) := Int64.toInt_inj.mp (by
  have a1 : -9223372036854775808 ≤ z.tdiv 32768 ∧ z.tdiv 32768 < 9223372036854775808 := by
    rcases Int.le_total 0 z with h | h
    · rw [Int.tdiv_eq_ediv_of_nonneg h]; omega
    · have : z = -(-z) := by omega
      rw [this, Int.neg_tdiv, Int.tdiv_eq_ediv_of_nonneg (by omega)]; omega
  rw [Int64.toInt_div, lZ_toInt h1 h2, show (32768 : Int64).toInt = 32768 by decide, lZ_toInt a1.1 a1.2, Int.bmod_eq_of_le (by omega) (by omega)])
theorem lZ_rem {z : Int} (h1 : -9223372036854775808 ≤ z) (h2 : z < 9223372036854775808) : lZ z - lZ z / 32768 * 32768 = lZ (z.tmod 32768) := by
  rw [lZ_div h1 h2, show (32768 : Int64) = lZ 32768 from rfl]
  unfold lZ
  rw [← Int64.ofInt_mul, ← Int64.ofInt_sub, Int.tmod_def, Int.mul_comm]
theorem lZ_i {z : Int} : (lZ z).toInt32 = zI z := by
  unfold lZ zI
  exact Int64.toInt32_ofInt ..
theorem tdiv_abs (z : Int) : (z.tdiv 32768).natAbs = z.natAbs / 32768 := by rw [Int.natAbs_tdiv]; rfl
theorem tmod_abs (z : Int) : (z.tmod 32768).natAbs = z.natAbs % 32768 := by rw [Int.natAbs_tmod]; rfl
theorem tdiv_sign {z : Int} : (0 ≤ z → 0 ≤ z.tdiv 32768) ∧ (z ≤ 0 → z.tdiv 32768 ≤ 0) := ⟨fun h => Int.tdiv_nonneg h (by decide), fun h => by
  have : z = -(-z) := by omega
  rw [this, Int.neg_tdiv]
  have := Int.tdiv_nonneg (a := -z) (b := 32768) (by omega) (by decide)
  omega⟩
theorem bits_top {g n u L : Nat} (hg : 2 ^ (L - 1) ≤ g) (hg2 : g < 2 ^ L) (hL : 0 < L) (hu : u < 32768 ^ n) : 2 ^ (15 * n + L - 1) ≤ u + g * 32768 ^ n ∧ u + g * 32768 ^ n < 2 ^ (15 * n + L) := by
  have e : 32768 ^ n = 2 ^ (15 * n) := by rw [Nat.pow_mul]
  rw [e] at hu ⊢
  have h1 : 2 ^ (15 * n + L - 1) = 2 ^ (L - 1) * 2 ^ (15 * n) := by rw [← Nat.pow_add]; congr 1; omega
  have h2 : 2 ^ (15 * n + L) = 2 ^ L * 2 ^ (15 * n) := by rw [← Nat.pow_add]; congr 1; omega
  have h3 : (g + 1) * 2 ^ (15 * n) ≤ 2 ^ L * 2 ^ (15 * n) := Nat.mul_le_mul_right _ hg2
  have h4 : 2 ^ (L - 1) * 2 ^ (15 * n) ≤ g * 2 ^ (15 * n) := Nat.mul_le_mul_right _ hg
  rw [Nat.succ_mul] at h3
  omega
