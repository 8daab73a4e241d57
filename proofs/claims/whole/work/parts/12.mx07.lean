/-! ===== steps of elimination with fractions ===== -/
theorem qsum_two {f : Nat → Rat} {k l : Nat} (hkl : k ≠ l) : ∀ {n : Nat}, k < n → l < n → (∀ i, i < n → i ≠ k → i ≠ l → f i = 0) → qsum f n = f k + f l := by
  have main : ∀ {k l : Nat}, k < l → ∀ {n : Nat}, l < n → (∀ i, i < n → i ≠ k → i ≠ l → f i = 0) → qsum f n = f k + f l := by
    intro k l hkl n
    induction n with
    | zero => intro h; omega
    | succ n ih =>
      intro hl h
      show qsum f n + f n = _
      by_cases c : l = n
      · subst c
        rw [qsum_one hkl (fun i hi hne => h i (by omega) hne (by omega))]
      · rw [ih (by omega) (fun i hi => h i (by omega)), h n (by omega) (by omega) (by omega)]
        grind
  intro n hk hl h
  rcases Nat.lt_or_ge k l with g | g
  · exact main g hl h
  · rw [main (show l < k by omega) hk (fun i hi h1 h2 => h i hi h2 h1)]
    grind
/-- row p comes to r, over its cell in column c; the others lose their cell there -/
def gj (A : qmat) (r p c : Nat) : qmat := fun i k => if i = r then A p k / A p c else A (if i = p then r else i) k - A (if i = p then r else i) c / A p c * A p k
theorem gj_r (A : qmat) (r p c k : Nat) : gj A r p c r k = A p k / A p c := if_pos rfl
theorem gj_o (A : qmat) {r p c i k : Nat} (h : i ≠ r) : gj A r p c i k = A (if i = p then r else i) k - A (if i = p then r else i) c / A p c * A p k := if_neg h
theorem gj_in {A : qmat} {m n r p c : Nat} (hr : r < m) (hp : p < m) : rowsIn (gj A r p c) m A m n := by
  intro i hi
  by_cases h : i = r
  · subst h
    refine ⟨fun x => if x = p then 1 / A p c else 0, fun j _ => ?_⟩
    rw [gj_r, qsum_one hp (fun x _ hx => by dsimp only; rw [if_neg hx]; grind)]
    dsimp only
    rw [if_pos rfl]
    grind
  · have ho : (if i = p then r else i) ≠ p := by split <;> omega
    have hl : (if i = p then r else i) < m := by split <;> omega
    generalize hq : (if i = p then r else i) = q at ho hl
    refine ⟨fun x => if x = q then 1 else if x = p then -(A q c / A p c) else 0, fun j _ => ?_⟩
    rw [gj_o A h, hq, qsum_two ho hl hp (fun x _ h1 h2 => by dsimp only; rw [if_neg h1, if_neg h2]; grind)]
    dsimp only
    rw [if_pos rfl, if_neg (fun e => ho e.symm), if_pos rfl]
    grind
theorem gj_back {A : qmat} {m n r p c : Nat} (hr : r < m) (hp : p < m) (h0 : A p c ≠ 0) : rowsIn A m (gj A r p c) m n := by
  intro x hx
  by_cases h : x = p
  · subst h
    refine ⟨fun i => if i = r then A x c else 0, fun j _ => ?_⟩
    rw [qsum_one hr (fun i _ hi => by dsimp only; rw [if_neg hi]; grind)]
    dsimp only
    rw [if_pos rfl, gj_r]
    grind
  · -- the row that it went to
    have ⟨i, hi, hir, hio⟩ : ∃ i, i < m ∧ i ≠ r ∧ (if i = p then r else i) = x := by
      by_cases g : x = r
      · exact ⟨p, hp, fun e => h (by omega), by rw [if_pos rfl]; omega⟩
      · exact ⟨x, hx, g, by rw [if_neg h]⟩
    refine ⟨fun y => if y = i then 1 else if y = r then A x c else 0, fun j _ => ?_⟩
    rw [qsum_two hir hi hr (fun y _ h1 h2 => by dsimp only; rw [if_neg h1, if_neg h2]; grind)]
    dsimp only
    rw [if_pos rfl, if_neg (fun e => hir e.symm), if_pos rfl, gj_r, gj_o A hir, hio]
    grind
/-- the columns before c are done: rk pivots, p -/
def gjinv (A : qmat) (m c rk : Nat) (p : Nat → Nat) : Prop :=
  rk ≤ m ∧ (∀ i, i < rk → p i < c) ∧ (∀ i k, i < k → k < rk → p i < p k) ∧ (∀ i, i < rk → ∀ j, j < p i → A i j = 0) ∧ (∀ i, i < rk → A i (p i) = 1) ∧ (∀ i k, i < m → k < rk → i ≠ k → A i (p k) = 0) ∧ (∀ i, rk ≤ i → i < m → ∀ j, j < c → A i j = 0)
theorem gjinv_start (A : qmat) (m : Nat) (p : Nat → Nat) : gjinv A m 0 0 p := ⟨Nat.zero_le m, fun i h => by omega, fun i k _ h => by omega, fun i h => by omega, fun i h => by omega, fun i k _ h => by omega, fun i _ _ j h => by omega⟩
theorem gjinv_none {A : qmat} {m c rk : Nat} {p : Nat → Nat} (h : gjinv A m c rk p) (h0 : ∀ i, rk ≤ i → i < m → A i c = 0) : gjinv A m (c + 1) rk p := by
  obtain ⟨a1, a2, a3, a4, a5, a6, a7⟩ := h
  refine ⟨a1, fun i hi => by have := a2 i hi; omega, a3, a4, a5, a6, fun i h1 h2 j hj => ?_⟩
  by_cases e : j = c
  · rw [e]; exact h0 i h1 h2
  · exact a7 i h1 h2 j (by omega)
theorem gjinv_step {A : qmat} {m c rk q : Nat} {p : Nat → Nat} (h : gjinv A m c rk p) (hq : rk ≤ q) (hqm : q < m) (h0 : A q c ≠ 0) : gjinv (gj A rk q c) m (c + 1) (rk + 1) (fun i => if i = rk then c else p i) := by
  obtain ⟨a1, a2, a3, a4, a5, a6, a7⟩ := h
  have zq : ∀ j, j < c → A q j = 0 := fun j hj => a7 q hq hqm j hj
  -- the rows above keep what is before c
  have low : ∀ i, i < rk → ∀ j, j < c → gj A rk q c i j = A i j := fun i hi j hj => by
    rw [gj_o A (by omega), if_neg (by omega), zq j hj]
    grind
  refine ⟨by omega, fun i hi => ?_, fun i k h1 h2 => ?_, fun i hi j hj => ?_, fun i hi => ?_, fun i k hi hk hne => ?_, fun i h1 h2 j hj => ?_⟩
  · show (if i = rk then c else p i) < c + 1
    split
    · omega
    · have := a2 i (by omega); omega
  · show (if i = rk then c else p i) < (if k = rk then c else p k)
    rw [if_neg (by omega)]
    split
    · exact a2 i (by omega)
    · exact a3 i k h1 (by omega)
  · have hj' : j < (if i = rk then c else p i) := hj
    by_cases e : i = rk
    · subst e
      rw [if_pos rfl] at hj'
      rw [gj_r, zq j hj']
      grind
    · rw [if_neg e] at hj'
      have := a2 i (by omega)
      rw [low i (by omega) j (by omega)]
      exact a4 i (by omega) j hj'
  · show gj A rk q c i (if i = rk then c else p i) = 1
    by_cases e : i = rk
    · subst e
      rw [if_pos rfl, gj_r]
      grind
    · rw [if_neg e, low i (by omega) _ (a2 i (by omega))]
      exact a5 i (by omega)
  · show gj A rk q c i (if k = rk then c else p k) = 0
    by_cases e : k = rk
    · rw [if_pos e, gj_o A (by omega)]
      grind
    · rw [if_neg e]
      have hpk := a2 k (by omega)
      by_cases e2 : i = rk
      · subst e2
        rw [gj_r, zq _ hpk]
        grind
      · rw [gj_o A e2, zq _ hpk, a6 _ k (by split <;> omega) (by omega) (by split <;> omega)]
        grind
  · rw [gj_o A (by omega)]
    by_cases e : j = c
    · subst e
      grind
    · rw [zq j (by omega), a7 (if i = q then rk else i) (by split <;> omega) (by split <;> omega) j (by omega)]
      grind
theorem gjinv_rref {A : qmat} {m c rk : Nat} {p : Nat → Nat} (h : gjinv A m c rk p) : rref A c rk p := by
  obtain ⟨a1, a2, a3, a4, a5, a6, a7⟩ := h
  exact ⟨a2, a3, a4, a5, fun i k hi hk hne => a6 i k (by omega) hk hne⟩
