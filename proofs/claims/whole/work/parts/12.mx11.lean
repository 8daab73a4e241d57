/-! ===== determinants that are 0; rows in another order; rows of a lattice ===== -/
theorem det_hole : ∀ {c n : Nat} {M : qmat}, c < n → (∀ i, c ≤ i → i < n → ∀ j, j ≤ c → M i j = 0) → det n M = 0
  | _, 0, _, h, _ => by omega
  | 0, n + 1, M, _, h => by
    rw [det_succ]
    exact qsum_zero (fun i hi => by rw [h i (by omega) hi 0 (by omega)]; grind)
  | c + 1, n + 1, M, hc, h => by
    rw [det_succ]
    refine qsum_zero (fun i hi => ?_)
    by_cases g : c + 1 ≤ i
    · rw [h i g hi 0 (by omega)]; grind
    · have : det n (fun r k => M (skp i r) (k + 1)) = 0 := det_hole (c := c) (by omega) (fun r h1 h2 j hj => by
        show M (skp i r) (j + 1) = 0
        unfold skp
        rw [if_neg (by omega)]
        exact h (r + 1) (by omega) (by omega) (j + 1) (by omega))
      rw [this]
      grind
/-- one of k different numbers below k is t -/
theorem pigeon_hit {k : Nat} {f : Nat → Nat} (hi : ∀ a b, a < k → b < k → f a = f b → a = b) (hb : ∀ a, a < k → f a < k) {t : Nat} (ht : t < k) : ∃ a, a < k ∧ f a = t := Classical.byContradiction (fun hn => by
  have := pigeon k (f := fun a => if f a = k - 1 then t else f a) (j := k - 1) (fun a b ha hb' e => by
    have e' : (if f a = k - 1 then t else f a) = (if f b = k - 1 then t else f b) := e
    by_cases c1 : f a = k - 1
    · by_cases c2 : f b = k - 1
      · exact hi a b ha hb' (by omega)
      · rw [if_pos c1, if_neg c2] at e'
        exact absurd ⟨b, hb', e'.symm⟩ hn
    · rw [if_neg c1] at e'
      by_cases c2 : f b = k - 1
      · rw [if_pos c2] at e'
        exact absurd ⟨a, ha, e'⟩ hn
      · rw [if_neg c2] at e'
        exact hi a b ha hb' e') (fun a ha => by
    show (if f a = k - 1 then t else f a) < k - 1
    have := hb a ha
    split
    · rename_i c
      rcases Nat.lt_or_ge t (k - 1) with g | g
      · exact g
      · exact absurd ⟨a, ha, by omega⟩ hn
    · omega)
  omega)
theorem det_perm {k : Nat} {M : qmat} {f : Nat → Nat} (hi : ∀ a b, a < k → b < k → f a = f b → a = b) (hb : ∀ a, a < k → f a < k) : det k (fun i => M (f i)) = det k M ∨ det k (fun i => M (f i)) = -det k M := by
  have step : ∀ e t, k = t + e → ∀ f : Nat → Nat, (∀ a b, a < k → b < k → f a = f b → a = b) → (∀ a, a < k → f a < k) → (∀ a, a < t → f a = a) → det k (fun i => M (f i)) = det k M ∨ det k (fun i => M (f i)) = -det k M := by
    intro e
    induction e with
    | zero =>
      intro t ht f _ _ hf
      exact Or.inl (det_congr (fun i hi j _ => by rw [hf i (by omega)]))
    | succ e ih =>
      intro t ht f hi hb hf
      obtain ⟨a, ha, hat⟩ := pigeon_hit hi hb (show t < k by omega)
      by_cases c : a = t
      · exact ih (t + 1) (by omega) f hi hb (fun x hx => by
          by_cases g : x = t
          · rw [g, ← c, hat, c]
          · exact hf x (by omega))
      · have hta : t < a := by
          rcases Nat.lt_or_ge a t with g | g
          · have := hf a g; omega
          · omega
        have sw := det_swap (n := k) (M := fun i => M (f i)) (i := t) (k := a) (by omega) ha (by omega)
        have r := ih (t + 1) (by omega) (fun x => f (if x = t then a else if x = a then t else x)) (fun x y hx hy e => by
          have := hi _ _ (show (if x = t then a else if x = a then t else x) < k by split <;> (try split) <;> omega) (show (if y = t then a else if y = a then t else y) < k by split <;> (try split) <;> omega) e
          split at this <;> split at this <;> (try split at this) <;> (try split at this) <;> omega) (fun x hx => hb _ (by split <;> (try split) <;> omega)) (fun x hx => by
          by_cases g : x = t
          · rw [if_pos g, hat, g]
          · rw [if_neg g, if_neg (by omega)]; exact hf x (by omega))
        have e1 : det k (rswap (fun i => M (f i)) t a) = det k (fun i => M ((fun x => f (if x = t then a else if x = a then t else x)) i)) := rfl
        rw [← e1, sw] at r
        rcases r with r | r
        · exact Or.inr (by grind)
        · exact Or.inl (by grind)
  exact step k 0 (by omega) f hi hb (fun a ha => by omega)
/-- rows that are whole combinations of k rows: the determinant of these divides theirs -/
theorem det_rows {k : Nat} {S T U : qmat} {d : Int} (hU : ∀ i, i < k → ∀ l, l < k → isZ (U i l)) (hT : ∀ i, i < k → ∀ j, j < k → T i j = qsum (fun l => U i l * S l j) k) (hd : det k S = (d : Rat)) : gdiv d (det k T) := by
  have := minor_rows (S := S) (T := T) (m := k) (k := k) (U := U) (d := d) (mT := k) (g := fun j => j) hU hT (fun f hf => ?_) (f := fun i => i) (fun i hi => hi)
  · exact this
  · by_cases c : ∀ a b, a < k → b < k → f a = f b → a = b
    · rcases det_perm (M := S) c hf with e | e
      · rw [show det k (fun i j => S (f i) j) = det k S from e, hd]
        exact ⟨1, by simp⟩
      · rw [show det k (fun i j => S (f i) j) = -det k S from e, hd]
        exact ⟨-1, by grind⟩
    · have : ∃ a b, a < k ∧ b < k ∧ f a = f b ∧ a ≠ b := Classical.byContradiction (fun hn => c (fun a b ha hb e => Classical.byContradiction (fun g => hn ⟨a, b, ha, hb, e, g⟩)))
      obtain ⟨a, b, ha, hb, e, g⟩ := this
      have z : det k (fun i j => S (f i) j) = 0 := det_same ha hb g (fun j _ => by rw [e])
      rw [z]
      exact gdiv_zero d
