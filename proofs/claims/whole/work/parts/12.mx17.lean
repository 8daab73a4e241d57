/-! ===== the greatest common divisor and the least common multiple on a diagonal ===== -/
/-- two numbers of a diagonal: their divisor and their multiple instead -/
theorem eqvZ.gcdlcm {A A' : imat} {m n i j : Nat} {x y g l u v : Int} (him : i < m) (hjm : j < m) (hin : i < n) (hjn : j < n) (hij : i ≠ j) (hxi : A i i = x) (hyj : A j j = y) (ri : ∀ b, b < n → b ≠ i → A i b = 0) (rj : ∀ b, b < n → b ≠ j → A j b = 0) (ci : ∀ a, a < m → a ≠ i → A a i = 0) (cj : ∀ a, a < m → a ≠ j → A a j = 0) (hg : g ≠ 0) (hgx : g ∣ x) (hgy : g ∣ y) (huv : u * x + v * y = g) (hl : g * l = x * y) (ho : ∀ a, a < m → ∀ b, b < n → ¬ (a = i ∧ b = i) → ¬ (a = j ∧ b = j) → A' a b = A a b) (hgi : A' i i = g) (hlj : A' j j = l) : eqvZ A' A m n := by
  obtain ⟨x1, hx1⟩ := hgx
  obtain ⟨y1, hy1⟩ := hgy
  have h1 : u * x1 + v * y1 = 1 := by
    have : g * (u * x1 + v * y1) = g * 1 := by rw [Int.mul_one]; grind
    exact Int.eq_of_mul_eq_mul_left hg this
  have hl1 : l = x1 * y := by
    have : g * l = g * (x1 * y) := by rw [hl, hx1]; grind
    exact Int.eq_of_mul_eq_mul_left hg this
  -- row i takes v times row j and u times its own: first a column step
  -- B: column j more in column i
  have s1 : eqvZ (fun a b => if b = i then u * A a i + v * A a j else if b = j then -y1 * A a i + x1 * A a j else A a b) A m n := by
    have := (eqvZ.pair (A := fun a b => A b a) (A' := fun a b => if a = i then u * A b i + v * A b j else if a = j then -y1 * A b i + x1 * A b j else A b a) (m := n) (n := m) (x := i) (y := j) (a := u) (b := v) (c := -y1) (e := x1) hin hjn hij (fun a _ h3 h4 b _ => by rw [if_neg h3, if_neg h4]) (fun b _ => by rw [if_pos rfl]) (fun b _ => by rw [if_neg (fun e => hij e.symm), if_pos rfl]) (by grind)).turn
    exact this
  -- then the rows
  have s2 : eqvZ (fun a b => if a = i then (fun a b => if b = i then u * A a i + v * A a j else if b = j then -y1 * A a i + x1 * A a j else A a b) i b + (fun a b => if b = i then u * A a i + v * A a j else if b = j then -y1 * A a i + x1 * A a j else A a b) j b else if a = j then -(v * y1) * (fun a b => if b = i then u * A a i + v * A a j else if b = j then -y1 * A a i + x1 * A a j else A a b) i b + (u * x1) * (fun a b => if b = i then u * A a i + v * A a j else if b = j then -y1 * A a i + x1 * A a j else A a b) j b else (fun a b => if b = i then u * A a i + v * A a j else if b = j then -y1 * A a i + x1 * A a j else A a b) a b) (fun a b => if b = i then u * A a i + v * A a j else if b = j then -y1 * A a i + x1 * A a j else A a b) m n :=
    eqvZ.pair (x := i) (y := j) (a := 1) (b := 1) (c := -(v * y1)) (e := u * x1) him hjm hij (fun a _ h3 h4 b _ => by rw [if_neg h3, if_neg h4]) (fun b _ => by rw [if_pos rfl, Int.one_mul, Int.one_mul]) (fun b _ => by rw [if_neg (fun e => hij e.symm), if_pos rfl]) (by grind)
  refine (s2.trans s1).congr (fun a ha b hb => ?_) (fun _ _ _ _ => rfl)
  have eii := hxi
  have ejj := hyj
  have eij : A i j = 0 := ri j hjn (fun e => hij e.symm)
  have eji : A j i = 0 := rj i hin hij
  dsimp only
  by_cases c1 : a = i
  · rw [if_pos c1]
    by_cases c2 : b = i
    · rw [if_pos c2, if_pos c2, eii, eij, eji, ejj, c1, c2, hgi]
      grind
    · rw [if_neg c2, if_neg c2, ho a ha b hb (fun e => c2 e.2) (fun e => hij (c1.symm.trans e.1)), c1]
      by_cases c3 : b = j
      · rw [if_pos c3, if_pos c3, c3, eii, eij, eji, ejj]
        grind
      · rw [if_neg c3, if_neg c3, ri b hb c2, rj b hb c3]
        omega
  · rw [if_neg c1]
    by_cases c4 : a = j
    · rw [if_pos c4]
      by_cases c2 : b = i
      · rw [if_pos c2, if_pos c2, ho a ha b hb (fun e => c1 e.1) (fun e => hij (c2.symm.trans e.2)), c4, c2, eii, eij, eji, ejj]
        grind
      · rw [if_neg c2, if_neg c2]
        by_cases c3 : b = j
        · rw [if_pos c3, if_pos c3, c4, c3, hlj, eii, eij, eji, ejj, hl1]
          grind
        · rw [if_neg c3, if_neg c3, ho a ha b hb (fun e => c1 e.1) (fun e => c3 e.2), c4, ri b hb c2, rj b hb c3]
          omega
    · rw [if_neg c4, ho a ha b hb (fun e => c1 e.1) (fun e => c4 e.1)]
      by_cases c2 : b = i
      · rw [if_pos c2, c2, ci a ha c1, cj a ha c4]
        omega
      · rw [if_neg c2]
        by_cases c3 : b = j
        · rw [if_pos c3, c3, ci a ha c1, cj a ha c4]
          omega
        · rw [if_neg c3]
