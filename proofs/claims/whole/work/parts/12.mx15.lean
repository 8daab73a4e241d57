/-! ===== whole matrices that are made of each other by rows and columns ===== -/
def madeZ (T S : imat) (m n : Nat) : Prop := ∃ U V : imat, ∀ i, i < m → ∀ j, j < n → T i j = isum (fun a => U i a * isum (fun b => S a b * V b j) n) m
theorem isum_mulr {f : Nat → Int} {c : Int} {n : Nat} : isum f n * c = isum (fun i => f i * c) n := by
  rw [Int.mul_comm, isum_mul]
  exact isum_congr (fun i _ => Int.mul_comm _ _)
theorem madeZ_rows {T S : imat} {m n : Nat} (h : rowsZ T m S m n) : madeZ T S m n := by
  have hc : ∀ i, ∃ c : Nat → Int, i < m → ∀ j, j < n → T i j = isum (fun k => c k * S k j) m := fun i => by
    by_cases g : i < m
    · obtain ⟨c, hc⟩ := h i g; exact ⟨c, fun _ => hc⟩
    · exact ⟨fun _ => 0, fun g' => absurd g' g⟩
  refine ⟨fun i => Classical.choose (hc i), fun b j => if b = j then 1 else 0, fun i hi j hj => ?_⟩
  rw [Classical.choose_spec (hc i) hi j hj]
  refine isum_congr (fun k _ => ?_)
  dsimp only
  rw [isum_one hj (fun b _ hb => by rw [if_neg hb, Int.mul_zero]), if_pos rfl, Int.mul_one]
theorem madeZ_turn {T S : imat} {m n : Nat} (h : madeZ T S m n) : madeZ (fun i j => T j i) (fun i j => S j i) n m := by
  obtain ⟨U, V, h⟩ := h
  refine ⟨fun i a => V a i, fun b j => U j b, fun i hi j hj => ?_⟩
  show T j i = _
  rw [h j hj i hi]
  have e1 : ∀ a, a < m → U j a * isum (fun b => S a b * V b i) n = isum (fun b => U j a * (S a b * V b i)) n := fun a _ => isum_mul
  have e2 : ∀ a, a < n → V a i * isum (fun b => S b a * U j b) m = isum (fun b => V a i * (S b a * U j b)) m := fun a _ => isum_mul
  rw [isum_congr e1, isum_congr e2, isum_comm]
  exact isum_congr (fun a _ => isum_congr (fun b _ => by grind))
theorem madeZ_trans {A B C : imat} {m n : Nat} (h1 : madeZ A B m n) (h2 : madeZ B C m n) : madeZ A C m n := by
  obtain ⟨U, V, h⟩ := h1
  obtain ⟨W, Y, g⟩ := h2
  refine ⟨fun i x => isum (fun a => U i a * W a x) m, fun y j => isum (fun b => Y y b * V b j) n, fun i hi j hj => ?_⟩
  rw [h i hi j hj]
  -- all sums outside
  have e1 : ∀ a, a < m → U i a * isum (fun b => B a b * V b j) n = isum (fun x => U i a * W a x * isum (fun y => C x y * isum (fun b => Y y b * V b j) n) n) m := by
    intro a ha
    have f1 : ∀ b, b < n → B a b * V b j = isum (fun x => W a x * isum (fun y => C x y * Y y b * V b j) n) m := fun b hb => by
      rw [g a ha b hb, isum_mulr]
      refine isum_congr (fun x _ => ?_)
      rw [Int.mul_assoc, isum_mulr]
    rw [isum_congr f1, isum_comm, isum_mul]
    refine isum_congr (fun x _ => ?_)
    have f2 : isum (fun b => W a x * isum (fun y => C x y * Y y b * V b j) n) n = W a x * isum (fun y => C x y * isum (fun b => Y y b * V b j) n) n := by
      rw [← isum_mul, isum_comm]
      congr 1
      refine isum_congr (fun y _ => ?_)
      rw [isum_mul]
      exact isum_congr (fun b _ => by rw [Int.mul_assoc])
    rw [f2, Int.mul_assoc]
  rw [isum_congr e1, isum_comm]
  refine isum_congr (fun x _ => ?_)
  rw [isum_mulr]
theorem madeZ_refl (A : imat) (m n : Nat) : madeZ A A m n := madeZ_rows rowsZ_refl
theorem madeZ_cast {T S : imat} {m n : Nat} (h : madeZ T S m n) : madeOf (zq T) (zq S) m n := by
  obtain ⟨U, V, h⟩ := h
  refine ⟨zq U, zq V, fun i a => ⟨U i a, rfl⟩, fun b j => ⟨V b j, rfl⟩, fun i hi j hj => ?_⟩
  show ((T i j : Int) : Rat) = _
  rw [h i hi j hj, isum_cast]
  refine qsum_congr (fun a _ => ?_)
  rw [Rat.intCast_mul, isum_cast]
  congr 1
  exact qsum_congr (fun b _ => by rw [Rat.intCast_mul]; rfl)
def eqvZ (A B : imat) (m n : Nat) : Prop := madeZ A B m n ∧ madeZ B A m n
theorem eqvZ.trans {A B C : imat} {m n : Nat} (h1 : eqvZ A B m n) (h2 : eqvZ B C m n) : eqvZ A C m n := ⟨madeZ_trans h1.1 h2.1, madeZ_trans h2.2 h1.2⟩
theorem eqvZ.symm {A B : imat} {m n : Nat} (h : eqvZ A B m n) : eqvZ B A m n := ⟨h.2, h.1⟩
theorem eqvZ.turn {A B : imat} {m n : Nat} (h : eqvZ A B m n) : eqvZ (fun i j => A j i) (fun i j => B j i) n m := ⟨madeZ_turn h.1, madeZ_turn h.2⟩
theorem eqvZ.pair {A A' : imat} {m n x y : Nat} {a b c e : Int} (hx : x < m) (hy : y < m) (hxy : x ≠ y) (ho : ∀ i, i < m → i ≠ x → i ≠ y → ∀ j, j < n → A' i j = A i j) (h1 : ∀ j, j < n → A' x j = a * A x j + b * A y j) (h2 : ∀ j, j < n → A' y j = c * A x j + e * A y j) (hu : a * e - b * c = 1) : eqvZ A' A m n := by
  obtain ⟨p, q⟩ := rowsZ_pair hx hy hxy ho h1 h2 hu
  exact ⟨madeZ_rows p, madeZ_rows q⟩
theorem madeZ_congr {T T' S S' : imat} {m n : Nat} (h : madeZ T S m n) (h1 : ∀ i, i < m → ∀ j, j < n → T' i j = T i j) (h2 : ∀ i, i < m → ∀ j, j < n → S i j = S' i j) : madeZ T' S' m n := by
  obtain ⟨U, V, h⟩ := h
  refine ⟨U, V, fun i hi j hj => ?_⟩
  rw [h1 i hi j hj, h i hi j hj]
  refine isum_congr (fun a ha => ?_)
  congr 1
  exact isum_congr (fun b hb => by rw [h2 a ha b hb])
/-- two Smith forms of one matrix are the same -/
theorem smith_same {A : imat} {m n : Nat} {s t : Nat → Int} (hs : ∀ i j, i ≤ j → s i ∣ s j) (ht : ∀ i j, i ≤ j → t i ∣ t j) (s0 : ∀ i, 0 ≤ s i) (t0 : ∀ i, 0 ≤ t i) (h1 : eqvZ (fun i j => if i = j then s i else 0) A m n) (h2 : eqvZ (fun i j => if i = j then t i else 0) A m n) : ∀ k, k < m → k < n → s k = t k := by
  have h := h2.trans h1.symm
  have e : ∀ s : Nat → Int, zq (fun i j => if i = j then s i else 0) = diagM s := fun s => by
    funext i j
    show (((if i = j then s i else 0) : Int) : Rat) = _
    unfold diagM
    split <;> rfl
  have a := madeZ_cast h.1
  have b := madeZ_cast h.2
  rw [e, e] at a b
  exact smith_unique hs ht s0 t0 a b
