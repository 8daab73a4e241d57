/-! ===== lattices of rows ===== -/
def inZ (v : Nat → Int) (B : imat) (s n : Nat) : Prop := ∃ c : Nat → Int, ∀ j, j < n → v j = isum (fun k => c k * B k j) s
theorem inZ_row {B : imat} {s n k : Nat} (hk : k < s) : inZ (B k) B s n := rowsZ_refl k hk
theorem inZ_add {u v : Nat → Int} {B : imat} {s n : Nat} (hu : inZ u B s n) (hv : inZ v B s n) : inZ (fun j => u j + v j) B s n := by
  obtain ⟨c, hc⟩ := hu
  obtain ⟨e, he⟩ := hv
  refine ⟨fun k => c k + e k, fun j hj => ?_⟩
  dsimp only
  rw [hc j hj, he j hj, ← isum_add]
  exact isum_congr (fun k _ => by rw [Int.add_mul])
theorem inZ_smul {v : Nat → Int} {B : imat} {s n : Nat} (a : Int) (hv : inZ v B s n) : inZ (fun j => a * v j) B s n := by
  obtain ⟨e, he⟩ := hv
  refine ⟨fun k => a * e k, fun j hj => ?_⟩
  dsimp only
  rw [he j hj, isum_mul]
  exact isum_congr (fun k _ => by rw [Int.mul_assoc])
theorem inZ_congr {u v : Nat → Int} {B : imat} {s n : Nat} (hu : inZ u B s n) (h : ∀ j, j < n → v j = u j) : inZ v B s n := by
  obtain ⟨c, hc⟩ := hu
  exact ⟨c, fun j hj => (h j hj).trans (hc j hj)⟩
theorem inZ_zero {B : imat} {s n : Nat} : inZ (fun _ => 0) B s n := ⟨fun _ => 0, fun _ _ => (isum_zero (fun _ _ => Int.zero_mul _)).symm⟩
theorem inZ_trans {v : Nat → Int} {A B : imat} {r s n : Nat} (hv : inZ v A r n) (h : rowsZ A r B s n) : inZ v B s n := by
  have := rowsZ_trans (A := fun _ => v) (r := 1) (B := A) (s := r) (C := B) (t := s) (n := n) (fun _ _ => hv) h
  exact this 0 (by omega)
theorem inZ_sum {B : imat} {s n : Nat} {f : Nat → Nat → Int} : ∀ {m : Nat}, (∀ l, l < m → inZ (f l) B s n) → inZ (fun j => isum (fun l => f l j) m) B s n
  | 0, _ => inZ_zero
  | m + 1, h => inZ_add (inZ_sum (fun l hl => h l (by omega))) (h m (Nat.lt_succ_self m))
/-- d times a unit row in each column from lo on: what differs by multiples of d there is in as well -/
theorem inZ_mod {u v : Nat → Int} {B : imat} {s n lo : Nat} {d : Int} (hd : ∀ k, lo ≤ k → k < n → inZ (fun j => if j = k then d else 0) B s n) (hu : inZ u B s n) (h0 : ∀ j, j < lo → v j = u j) (h : ∀ j, lo ≤ j → j < n → d ∣ v j - u j) : inZ v B s n := by
  have ⟨t, ht⟩ : ∃ t : Nat → Int, ∀ j, lo ≤ j → j < n → v j = u j + t j * d :=
    ⟨fun j => (v j - u j) / d, fun j h1 h2 => by have := Int.ediv_mul_cancel (h j h1 h2); dsimp only; omega⟩
  have hs : inZ (fun j => isum (fun k => if lo ≤ k then t k * (if j = k then d else 0) else 0) n) B s n := inZ_sum (fun k hk => by
    by_cases c : lo ≤ k
    · exact inZ_congr (inZ_smul (t k) (hd k c hk)) (fun j _ => by rw [if_pos c])
    · exact inZ_congr inZ_zero (fun j _ => by rw [if_neg c]))
  refine inZ_congr (inZ_add hu hs) (fun j hj => ?_)
  rw [isum_one hj (fun k _ hk => by
    by_cases c : lo ≤ k
    · rw [if_pos c, if_neg (fun e => hk e.symm), Int.mul_zero]
    · rw [if_neg c]), if_pos rfl]
  by_cases c : lo ≤ j
  · rw [if_pos c]; exact ht j c hj
  · rw [if_neg c, Int.add_zero]; exact h0 j (by omega)
/-- rows x and y changed by a step that can be taken back: both lattices are one -/
theorem rowsZ_pair {A A' : imat} {s n x y : Nat} {a b c e : Int} (hx : x < s) (hy : y < s) (hxy : x ≠ y) (ho : ∀ i, i < s → i ≠ x → i ≠ y → ∀ j, j < n → A' i j = A i j) (h1 : ∀ j, j < n → A' x j = a * A x j + b * A y j) (h2 : ∀ j, j < n → A' y j = c * A x j + e * A y j) (hu : a * e - b * c = 1) : rowsZ A' s A s n ∧ rowsZ A s A' s n := by
  constructor
  · intro i hi
    by_cases g : i = x
    · subst g; exact inZ_congr (inZ_add (inZ_smul a (inZ_row hx)) (inZ_smul b (inZ_row hy))) h1
    · by_cases g2 : i = y
      · subst g2; exact inZ_congr (inZ_add (inZ_smul c (inZ_row hx)) (inZ_smul e (inZ_row hy))) h2
      · exact inZ_congr (inZ_row hi) (ho i hi g g2)
  · intro i hi
    by_cases g : i = x
    · subst g
      refine inZ_congr (inZ_add (inZ_smul e (inZ_row hx)) (inZ_smul (-b) (inZ_row hy))) (fun j hj => ?_)
      rw [h1 j hj, h2 j hj]
      grind
    · by_cases g2 : i = y
      · subst g2
        refine inZ_congr (inZ_add (inZ_smul (-c) (inZ_row hx)) (inZ_smul a (inZ_row hy))) (fun j hj => ?_)
        rw [h1 j hj, h2 j hj]
        grind
      · exact inZ_congr (inZ_row hi) (fun j hj => (ho i hi g g2 j hj).symm)
/-- all rows reduced by multiples of d in the columns from lo on, which both lattices have -/
theorem rowsZ_mod {A A' : imat} {s n lo : Nat} {d : Int} (hd : ∀ k, lo ≤ k → k < n → inZ (fun j => if j = k then d else 0) A s n) (h0 : ∀ i, i < s → ∀ j, j < lo → A' i j = A i j) (h : ∀ i, i < s → ∀ j, lo ≤ j → j < n → d ∣ A' i j - A i j) : rowsZ A' s A s n := fun i hi => inZ_mod hd (inZ_row hi) (h0 i hi) (h i hi)
