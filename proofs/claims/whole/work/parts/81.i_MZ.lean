/-! ===== a matrix of whole numbers in the heads ===== -/
def MZ (D : List Int32) (T : Nat) (V : List Int32) (t a R n : Nat) (Z : imat) : Prop := a + 2 + 2 * (R * n) ≤ t ∧ V.getD a 0 = nI R ∧ V.getD (a + 1) 0 = nI n ∧ ∀ i j, i < R → j < n → ∃ p, V.getD (a + 2 + 2 * (i * n + j)) 0 = nI p ∧ V.getD (a + 3 + 2 * (i * n + j)) 0 = nI 1 ∧ RI D T p (Z i j)
theorem MZ.congr {D D' V V' : List Int32} {T T' t t' a R n : Nat} {Z : imat} (h : MZ D T V t a R n Z) (hT : T ≤ T') (e : ∀ i, i < T → D'.getD i 0 = D.getD i 0) (ht : a + 2 + 2 * (R * n) ≤ t') (eV : ∀ i, a ≤ i → i < a + 2 + 2 * (R * n) → V'.getD i 0 = V.getD i 0) : MZ D' T' V' t' a R n Z := by
  obtain ⟨h1, h2, h3, h4⟩ := h
  refine ⟨ht, by rw [eV a (by omega) (by omega)]; exact h2, by rw [eV (a + 1) (by omega) (by omega)]; exact h3, fun i j hi hj => ?_⟩
  have hl := cell_lt hi hj
  obtain ⟨p, g1, g2, g3⟩ := h4 i j hi hj
  exact ⟨p, by rw [eV _ (by omega) (by omega)]; exact g1, by rw [eV _ (by omega) (by omega)]; exact g2, g3.congr hT e⟩
theorem MZ.eq {D V : List Int32} {T t a R n : Nat} {Z Z' : imat} (h : MZ D T V t a R n Z) (e : ∀ i, i < R → ∀ j, j < n → Z' i j = Z i j) : MZ D T V t a R n Z' := by
  obtain ⟨h1, h2, h3, h4⟩ := h
  exact ⟨h1, h2, h3, fun i j hi hj => by rw [e i hi j hj]; exact h4 i j hi hj⟩
theorem MZ.ofMX {D V : List Int32} {T t a R n lo : Nat} {q : Nat → Rat} {Z : imat} (h : MX D T V t a R n lo q) (e : ∀ i, i < R → ∀ j, j < n → q (i * n + j) = ((Z i j : Int) : Rat)) : MZ D T V t a R n Z := by
  obtain ⟨h1, h2, h3, h4⟩ := h
  refine ⟨h1, h2, h3, fun i j hi hj => ?_⟩
  obtain ⟨p, l, g1, g2, g3, -⟩ := h4 _ (cell_lt hi hj)
  rw [e i hi j hj] at g3
  exact ⟨p, g1, by rw [g2, g3.2.2 rfl], g3.1⟩
theorem MZ.toMX {D V : List Int32} {T t a R n : Nat} {Z : imat} (h : MZ D T V t a R n Z) (h1' : RI D T 1 1) : MX D T V t a R n 0 (fun k => ((Z (k / n) (k % n) : Int) : Rat)) := by
  obtain ⟨h1, h2, h3, h4⟩ := h
  refine ⟨h1, h2, h3, fun k hk => ?_⟩
  obtain ⟨k1, k2, k3⟩ := at_back hk
  obtain ⟨p, g1, g2, g3⟩ := h4 _ _ k1 k2
  rw [k3] at g1 g2
  exact ⟨p, 1, g1, g2, ⟨g3, h1', fun _ => rfl⟩, Or.inr (Nat.zero_le _), Or.inl rfl⟩
theorem cell_ne {n i j i' j' : Nat} (hj : j < n) (hj' : j' < n) (h : i * n + j = i' * n + j') : i = i' ∧ j = j' := by
  have a1 := at_div (i := i) hj
  have a2 := at_div (i := i') hj'
  rw [h] at a1
  exact ⟨a1.1.symm.trans a2.1, a1.2.symm.trans a2.2⟩
theorem MZ.put {D V V' : List Int32} {T t a R n i j x : Nat} {Z : imat} {z : Int} (h : MZ D T V t a R n Z) (hi : i < R) (hj : j < n) (hl : a + 2 + 2 * (R * n) ≤ V.length) (hV : V' = (V.set (a + 2 + 2 * (i * n + j)) (nI x)).set (a + 3 + 2 * (i * n + j)) (nI 1)) (hx : RI D T x z) : MZ D T V' t a R n (fun a b => if a = i ∧ b = j then z else Z a b) := by
  obtain ⟨h1, h2, h3, h4⟩ := h
  have hc := cell_lt hi hj
  refine ⟨h1, by rw [hV, gd_set_ne (by omega), gd_set_ne (by omega)]; exact h2, by rw [hV, gd_set_ne (by omega), gd_set_ne (by omega)]; exact h3, fun i' j' hi' hj' => ?_⟩
  by_cases e : i' = i ∧ j' = j
  · rw [e.1, e.2]
    refine ⟨x, by rw [hV, gd_set_ne (by omega)]; exact gd_set_eq (by omega), by rw [hV]; exact gd_set_eq (by rw [List.length_set]; omega), ?_⟩
    try dsimp only
    rw [if_pos ⟨rfl, rfl⟩]
    exact hx
  · obtain ⟨p, g1, g2, g3⟩ := h4 i' j' hi' hj'
    have hne : i' * n + j' ≠ i * n + j := fun e1 => e (cell_ne hj' hj e1)
    refine ⟨p, by rw [hV, gd_set_ne (by omega), gd_set_ne (by omega)]; exact g1, by rw [hV, gd_set_ne (by omega), gd_set_ne (by omega)]; exact g2, ?_⟩
    try dsimp only
    rw [if_neg e]
    exact g3
