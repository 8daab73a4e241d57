/-! ===== what the digits at a place mean: base 32768, the lowest first ===== -/
def dv (D : List Int32) (i : Nat) : Nat := (D.getD i 0).toInt.toNat
def rnat (D : List Int32) (x : Nat) : Nat → Nat
  | 0 => 0
  | n + 1 => rnat D x n + dv D (x + (n + 1)) * 32768 ^ n
/-- n digits of the base stand behind x -/
def RD (D : List Int32) (x n : Nat) : Prop := ∀ i, 0 < i → i ≤ n → ∃ v, v < 32768 ∧ D.getD (x + i) 0 = nI v
theorem dv_nI {D : List Int32} {i v : Nat} (h : D.getD i 0 = nI v) (hv : v < 2 ^ 31) : dv D i = v := by
  unfold dv
  rw [h, nI_toInt hv]
  rfl
theorem RD.dv {D : List Int32} {x n i : Nat} (h : RD D x n) (h1 : 0 < i) (h2 : i ≤ n) : dv D (x + i) < 32768 ∧ D.getD (x + i) 0 = nI (dv D (x + i)) := by
  obtain ⟨v, hv, e⟩ := h i h1 h2
  rw [dv_nI e (by omega)]
  exact ⟨hv, e⟩
theorem RD.less {D : List Int32} {x n m : Nat} (h : RD D x n) (hm : m ≤ n) : RD D x m := fun i h1 h2 => h i h1 (by omega)
theorem rnat_congr {D D' : List Int32} {x y : Nat} : ∀ {n : Nat}, (∀ i, 0 < i → i ≤ n → D.getD (x + i) 0 = D'.getD (y + i) 0) → rnat D x n = rnat D' y n
  | 0, _ => rfl
  | n + 1, h => by
    have h1 : dv D (x + (n + 1)) = dv D' (y + (n + 1)) := by unfold dv; rw [h (n + 1) (by omega) (Nat.le_refl _)]
    show rnat D x n + _ * _ = rnat D' y n + _ * _
    rw [h1, rnat_congr (fun i a b => h i a (by omega))]
theorem RD.congr {D D' : List Int32} {x y n : Nat} (h : RD D x n) (e : ∀ i, 0 < i → i ≤ n → D'.getD (y + i) 0 = D.getD (x + i) 0) : RD D' y n := by
  intro i h1 h2
  obtain ⟨v, hv, hd⟩ := h i h1 h2
  exact ⟨v, hv, (e i h1 h2).trans hd⟩
theorem rnat_lt {D : List Int32} {x : Nat} : ∀ {n : Nat}, RD D x n → rnat D x n < 32768 ^ n
  | 0, _ => Nat.zero_lt_one
  | n + 1, h => by
    have h1 := rnat_lt (h.less (Nat.le_succ n))
    have h2 : dv D (x + (n + 1)) < 32768 := (h.dv (Nat.succ_pos n) (Nat.le_refl _)).1
    have h3 : dv D (x + (n + 1)) * 32768 ^ n ≤ 32767 * 32768 ^ n := Nat.mul_le_mul_right _ (by omega)
    show rnat D x n + _ < _
    rw [Nat.pow_succ]
    omega
theorem rnat_ge {D : List Int32} {x n : Nat} (h : RD D x (n + 1)) (h0 : D.getD (x + (n + 1)) 0 ≠ 0) : 32768 ^ n ≤ rnat D x (n + 1) := by
  have h2 := (h.dv (Nat.succ_pos n) (Nat.le_refl _)).2
  have h3 : 0 < dv D (x + (n + 1)) := by
    rcases Nat.eq_zero_or_pos (dv D (x + (n + 1))) with e | e
    · rw [e] at h2; exact absurd h2 h0
    · exact e
  show _ ≤ rnat D x n + _
  exact Nat.le_trans (Nat.le_mul_of_pos_left _ h3) (Nat.le_add_left _ _)
theorem rnat_zero {D : List Int32} {x n : Nat} (h : D.getD (x + (n + 1)) 0 = 0) : rnat D x (n + 1) = rnat D x n := by
  have e : dv D (x + (n + 1)) = 0 := by unfold dv; rw [h]; rfl
  show rnat D x n + _ * _ = _
  rw [e, Nat.zero_mul, Nat.add_zero]
theorem rnat_rtrim (D : List Int32) (T : Nat) : ∀ n, rnat D T (rtrim D T n) = rnat D T n
  | 0 => rfl
  | n + 1 => by
    unfold rtrim
    split
    · rename_i h
      rw [rnat_rtrim D T n, rnat_zero h]
    · rfl
theorem rtrim_nz {D : List Int32} {T : Nat} : ∀ {n : Nat}, 0 < rtrim D T n → D.getD (T + rtrim D T n) 0 ≠ 0
  | 0, h => absurd h (Nat.lt_irrefl 0)
  | n + 1, h => by
    unfold rtrim at h ⊢
    split
    · rename_i h1
      rw [if_pos h1] at h
      exact rtrim_nz h
    · rename_i h1
      exact h1
theorem rnat_eq0 {D : List Int32} {x n : Nat} (h : RD D x n) (hz : 0 < n → D.getD (x + n) 0 ≠ 0) : rnat D x n = 0 ↔ n = 0 := by
  cases n with
  | zero => exact ⟨fun _ => rfl, fun _ => rfl⟩
  | succ n =>
    have := rnat_ge h (hz (Nat.succ_pos n))
    have h1 : 0 < 32768 ^ n := Nat.pow_pos (by decide)
    exact ⟨fun e => by omega, fun e => by omega⟩
/-- 1, 0 or -1 as a is above, at or below b -/
def cmpI (a b : Nat) : Int32 := if a = b then 0 else if b ≤ a then 1 else -1
theorem ocmp_val {D : List Int32} {x y : Nat} : ∀ {n : Nat}, RD D x n → RD D y n → ocmp D x y n = cmpI (rnat D x n) (rnat D y n)
  | 0, _, _ => rfl
  | n + 1, hx, hy => by
    have ih := ocmp_val (hx.less (Nat.le_succ n)) (hy.less (Nat.le_succ n))
    have lx := rnat_lt (hx.less (Nat.le_succ n))
    have ly := rnat_lt (hy.less (Nat.le_succ n))
    obtain ⟨a1, a2⟩ := hx.dv (Nat.succ_pos n) (Nat.le_refl _)
    obtain ⟨b1, b2⟩ := hy.dv (Nat.succ_pos n) (Nat.le_refl _)
    show (if D.getD (x + (n + 1)) 0 = D.getD (y + (n + 1)) 0 then ocmp D x y n else if D.getD (y + (n + 1)) 0 ≤ D.getD (x + (n + 1)) 0 then 1 else -1) = cmpI (rnat D x n + dv D (x + (n + 1)) * 32768 ^ n) (rnat D y n + dv D (y + (n + 1)) * 32768 ^ n)
    rw [a2, b2, ih]
    generalize dv D (x + (n + 1)) = p at *
    generalize dv D (y + (n + 1)) = q at *
    generalize rnat D x n = u at *
    generalize rnat D y n = v at *
    generalize hB : (32768 : Nat) ^ n = B at *
    unfold cmpI
    rcases Nat.lt_trichotomy p q with h | h | h
    · rw [if_neg (fun e => by have := (nI_eq (by omega) (by omega)).mp e; omega), if_neg (nI_ge h (by omega))]
      have : (p + 1) * B ≤ q * B := Nat.mul_le_mul_right _ h
      rw [Nat.succ_mul] at this
      rw [if_neg (by omega), if_neg (by omega)]
    · subst h
      rw [if_pos rfl]
      by_cases e : u = v
      · rw [if_pos e, if_pos (by omega)]
      · by_cases e2 : v ≤ u
        · rw [if_neg e, if_pos e2, if_neg (show ¬ u + p * B = v + p * B by omega), if_pos (show v + p * B ≤ u + p * B by omega)]
        · rw [if_neg e, if_neg e2, if_neg (show ¬ u + p * B = v + p * B by omega), if_neg (show ¬ v + p * B ≤ u + p * B by omega)]
    · rw [if_neg (fun e => by have := (nI_eq (by omega) (by omega)).mp e; omega), if_pos (nI_le (by omega) (by omega))]
      have : (q + 1) * B ≤ p * B := Nat.mul_le_mul_right _ h
      rw [Nat.succ_mul] at this
      rw [if_neg (by omega), if_pos (by omega)]
theorem rnat_more {D D' : List Int32} {x y n m : Nat} (hx : RD D x n) (hy : RD D' y m) (hz : 0 < m → D'.getD (y + m) 0 ≠ 0) (h : n < m) : rnat D x n < rnat D' y m := by
  cases m with
  | zero => omega
  | succ m =>
    have h1 := rnat_lt hx
    have h2 := rnat_ge hy (hz (Nat.succ_pos m))
    have h3 : 32768 ^ n ≤ 32768 ^ m := Nat.pow_le_pow_right (by decide) (by omega)
    omega
theorem osz_val {D : List Int32} {x y n m : Nat} (hx : RD D x n) (hy : RD D y m) (hxz : 0 < n → D.getD (x + n) 0 ≠ 0) (hyz : 0 < m → D.getD (y + m) 0 ≠ 0) : osz D x y n m = cmpI (rnat D x n) (rnat D y m) := by
  unfold osz
  rcases Nat.lt_trichotomy n m with h | h | h
  · have := rnat_more hx hy hyz h
    rw [if_neg (by omega), if_neg (by omega)]
    unfold cmpI
    rw [if_neg (by omega), if_neg (by omega)]
  · subst h
    rw [if_pos rfl]
    exact ocmp_val hx hy
  · have := rnat_more hy hx hxz h
    rw [if_neg (by omega), if_pos (by omega)]
    unfold cmpI
    rw [if_neg (by omega), if_pos (by omega)]
