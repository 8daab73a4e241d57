/-! ===== Smith forms by steps that can be taken back (printed by wip/gen/mxS.py) ===== -/
def MI (U W A B : imat) (m n : Nat) : Prop := ∀ i, i < m → ∀ j, j < n → A i j = isum (fun a => U i a * isum (fun b => B a b * W b j) n) m
theorem MI.trans {A B C U V W Y : imat} {m n : Nat} (h : MI U V A B m n) (g : MI W Y B C m n) : MI (fun i x => isum (fun a => U i a * W a x) m) (fun y j => isum (fun b => Y y b * V b j) n) A C m n := fun i hi j hj => by
  rw [h i hi j hj]
  -- all sums outside
  have e1 : ∀ a, a < m → U i a * isum (fun b => B a b * V b j) n = isum (fun x => U i a * W a x * isum (fun y => C x y * isum (fun b => Y y b * V b j) n) n) m := by
    intro a ha
    have f1 : ∀ b, b < n → B a b * V b j = isum (fun x => W a x * isum (fun y => C x y * Y y b * V b j) n) m := fun b hb => by
      rw [g a ha b hb, isum_mulr]
      refine isum_congr (fun x _ => ?_)
      rw [Int.mul_assoc, isum_mulr]
    rw [isum_congr f1, isum_comm, isum_mul]
    refine isum_congr (fun x _ => ?_)
    have f2 : isum (fun b => W a x * isum (fun y => C x y * Y y b * V b j) n) n = W a x * isum (fun y => C x y * isum (fun b => Y y b * V b j) n) n := by
      rw [← isum_mul, isum_comm]
      congr 1
      refine isum_congr (fun y _ => ?_)
      rw [isum_mul]
      exact isum_congr (fun b _ => by rw [Int.mul_assoc])
    rw [f2, Int.mul_assoc]
  rw [isum_congr e1, isum_comm]
  refine isum_congr (fun x _ => ?_)
  rw [isum_mulr]
theorem MI.turn {T S U V : imat} {m n : Nat} (h : MI U V T S m n) : MI (fun i a => V a i) (fun b j => U j b) (fun i j => T j i) (fun i j => S j i) n m := fun i hi j hj => by
  show T j i = _
  rw [h j hj i hi]
  have e1 : ∀ a, a < m → U j a * isum (fun b => S a b * V b i) n = isum (fun b => U j a * (S a b * V b i)) n := fun a _ => isum_mul
  have e2 : ∀ a, a < n → V a i * isum (fun b => S b a * U j b) m = isum (fun b => V a i * (S b a * U j b)) m := fun a _ => isum_mul
  rw [isum_congr e1, isum_congr e2, isum_comm]
  exact isum_congr (fun a _ => isum_congr (fun b _ => by grind))
theorem MI.block {T S U V : imat} {m n : Nat} (g : Int) (h : MI U V T S m n) : MI (blockZ 1 U) (blockZ 1 V) (blockZ g T) (blockZ g S) (m + 1) (n + 1) := fun i hi j hj => by
  have col : ∀ a, isum (fun b => blockZ g S a b * blockZ 1 V b j) (n + 1) = if a = 0 then (if j = 0 then g else 0) else if j = 0 then 0 else isum (fun b => S (a - 1) b * V b (j - 1)) n := by
    intro a
    rw [isum_head]
    by_cases c : a = 0
    · rw [if_pos c, isum_zero (fun b _ => by unfold blockZ; rw [if_pos c, if_neg (by omega), Int.zero_mul])]
      unfold blockZ
      rw [if_pos c, if_pos rfl, if_pos rfl]
      split <;> omega
    · rw [if_neg c]
      have e0 : blockZ g S a 0 = 0 := by unfold blockZ; rw [if_neg c, if_pos rfl]
      rw [e0, Int.zero_mul, Int.zero_add]
      by_cases c2 : j = 0
      · rw [if_pos c2]
        exact isum_zero (fun b _ => by
          have : blockZ 1 V (b + 1) j = 0 := by unfold blockZ; rw [if_neg (by omega), if_pos c2]
          rw [this, Int.mul_zero])
      · rw [if_neg c2]
        refine isum_congr (fun b _ => ?_)
        unfold blockZ
        rw [if_neg c, if_neg (by omega), if_neg (by omega), if_neg c2, Nat.add_sub_cancel]
  have e : isum (fun a => blockZ 1 U i a * isum (fun b => blockZ g S a b * blockZ 1 V b j) (n + 1)) (m + 1) = isum (fun a => blockZ 1 U i a * (if a = 0 then (if j = 0 then g else 0) else if j = 0 then 0 else isum (fun b => S (a - 1) b * V b (j - 1)) n)) (m + 1) := isum_congr (fun a _ => by rw [col a])
  rw [e, isum_head, if_pos rfl]
  by_cases c : i = 0
  · rw [isum_zero (fun a _ => by
      have : blockZ 1 U i (a + 1) = 0 := by unfold blockZ; rw [if_pos c, if_neg (by omega)]
      rw [this, Int.zero_mul])]
    unfold blockZ
    rw [if_pos c, if_pos c, if_pos rfl]
    omega
  · have e0 : blockZ 1 U i 0 = 0 := by unfold blockZ; rw [if_neg c, if_pos rfl]
    rw [e0, Int.zero_mul, Int.zero_add]
    by_cases c2 : j = 0
    · rw [isum_zero (fun a _ => by rw [if_neg (by omega), if_pos c2, Int.mul_zero])]
      unfold blockZ
      rw [if_neg c, if_pos c2]
    · have : blockZ g T i j = T (i - 1) (j - 1) := by unfold blockZ; rw [if_neg c, if_neg c2]
      rw [this, h (i - 1) (by omega) (j - 1) (by omega)]
      refine isum_congr (fun a _ => ?_)
      rw [if_neg (by omega), if_neg c2, Nat.add_sub_cancel]
      unfold blockZ
      rw [if_neg c, if_neg (by omega), Nat.add_sub_cancel]
def EI (A B : imat) (m n : Nat) : Prop := ∃ U U' W W' : imat, invZ U U' m ∧ invZ W W' n ∧ MI U W A B m n ∧ MI U' W' B A m n
theorem EI.trans {A B C : imat} {m n : Nat} (h1 : EI A B m n) (h2 : EI B C m n) : EI A C m n := by
  obtain ⟨U, U', W, W', a1, a2, a3, a4⟩ := h1
  obtain ⟨X, X', Y, Y', b1, b2, b3, b4⟩ := h2
  exact ⟨_, _, _, _, b1.trans a1, a2.trans b2, a3.trans b3, b4.trans a4⟩
theorem EI.symm {A B : imat} {m n : Nat} (h : EI A B m n) : EI B A m n := by
  obtain ⟨U, U', W, W', a1, a2, a3, a4⟩ := h
  exact ⟨U', U, W', W, a1.symm, a2.symm, a4, a3⟩
theorem EI.made {A B : imat} {m n : Nat} (h : EI A B m n) : madeZ A B m n := by
  obtain ⟨U, U', W, W', a1, a2, a3, a4⟩ := h
  exact ⟨U, W, a3⟩
theorem EI.eqv {A B : imat} {m n : Nat} (h : EI A B m n) : eqvZ A B m n := ⟨h.made, h.symm.made⟩
theorem invZ.turn {U U' : imat} {n : Nat} (h : invZ U U' n) : invZ (fun i j => U j i) (fun i j => U' j i) n := by
  refine ⟨fun i hi j hj => ?_, fun i hi j hj => ?_⟩
  · have := h.2 j hj i hi
    rw [isum_congr (fun k _ => Int.mul_comm (U k i) (U' j k)), this]
    by_cases c : i = j
    · rw [if_pos c, if_pos c.symm]
    · rw [if_neg c, if_neg (fun e => c e.symm)]
  · have := h.1 j hj i hi
    rw [isum_congr (fun k _ => Int.mul_comm (U' k i) (U j k)), this]
    by_cases c : i = j
    · rw [if_pos c, if_pos c.symm]
    · rw [if_neg c, if_neg (fun e => c e.symm)]
theorem EI.turn {A B : imat} {m n : Nat} (h : EI A B m n) : EI (fun i j => A j i) (fun i j => B j i) n m := by
  obtain ⟨U, U', W, W', a1, a2, a3, a4⟩ := h
  exact ⟨_, _, _, _, a2.turn, a1.turn, a3.turn, a4.turn⟩
theorem MI.rows {A' A U : imat} {m n : Nat} (h : ∀ i, i < m → ∀ j, j < n → A' i j = isum (fun k => U i k * A k j) m) : MI U (fun b j => if b = j then 1 else 0) A' A m n := fun i hi j hj => by
  rw [h i hi j hj]
  refine isum_congr (fun k _ => ?_)
  dsimp only
  rw [isum_one hj (fun b _ hb => by rw [if_neg hb, Int.mul_zero]), if_pos rfl, Int.mul_one]
theorem EI.rows {A' A U U' : imat} {m n : Nat} (hU : invZ U U' m) (h : ∀ i, i < m → ∀ j, j < n → A' i j = isum (fun k => U i k * A k j) m) : EI A' A m n := by
  refine ⟨U, U', _, _, hU, invZ.refl n, MI.rows h, MI.rows (fun i hi j hj => ?_)⟩
  have e1 : isum (fun k => U' i k * A' k j) m = isum (fun k => U' i k * isum (fun l => U k l * A l j) m) m := isum_congr (fun k hk => by rw [h k hk j hj])
  rw [e1, ← mul3 (W := fun k => A k j)]
  have e2 : isum (fun k => isum (fun l => U' i l * U l k) m * A k j) m = isum (fun k => (if i = k then (1 : Int) else 0) * A k j) m := isum_congr (fun k hk => by rw [hU.2 i hi k hk])
  rw [e2, isum_delta (W := fun k => A k j) hi]
theorem EI.refl (A : imat) (m n : Nat) : EI A A m n := EI.rows (invZ.refl m) (fun i hi j _ => (isum_delta (W := fun k => A k j) hi).symm)
theorem EI.congr {A B A' B' : imat} {m n : Nat} (h : EI A B m n) (h1 : ∀ i, i < m → ∀ j, j < n → A' i j = A i j) (h2 : ∀ i, i < m → ∀ j, j < n → B i j = B' i j) : EI A' B' m n := by
  obtain ⟨U, U', W, W', a1, a2, a3, a4⟩ := h
  refine ⟨U, U', W, W', a1, a2, fun i hi j hj => ?_, fun i hi j hj => ?_⟩
  · rw [h1 i hi j hj, a3 i hi j hj]
    exact isum_congr (fun a ha => by rw [isum_congr (fun b hb => by rw [h2 a ha b hb])])
  · rw [← h2 i hi j hj, a4 i hi j hj]
    exact isum_congr (fun a ha => by rw [isum_congr (fun b hb => by rw [← h1 a ha b hb])])
theorem EI.pair {A A' : imat} {m n x y : Nat} {a b c e : Int} (hx : x < m) (hy : y < m) (hxy : x ≠ y) (ho : ∀ i, i < m → i ≠ x → i ≠ y → ∀ j, j < n → A' i j = A i j) (h1 : ∀ j, j < n → A' x j = a * A x j + b * A y j) (h2 : ∀ j, j < n → A' y j = c * A x j + e * A y j) (hu : a * e - b * c = 1) : EI A' A m n := by
  refine EI.rows (U := pairU x y a b c e) (U' := pairU x y e (-b) (-c) a) ⟨fun i hi j _ => pair_inv1 hx hy hxy (by grind) (by grind) (by grind) (by grind) hi, fun i hi j _ => pair_inv1 hx hy hxy (by grind) (by grind) (by grind) (by grind) hi⟩ (fun i hi j hj => ?_)
  rw [pairU_mul (W := fun k => A k j) hx hy hxy hi]
  by_cases c1 : i = x
  · rw [if_pos c1, c1]; exact h1 j hj
  · by_cases c2 : i = y
    · rw [if_neg c1, if_pos c2, c2]; exact h2 j hj
    · rw [if_neg c1, if_neg c2]; exact ho i hi c1 c2 j hj
theorem EI.swaprows (A : imat) {m n x : Nat} (hx : x < m + 1) : EI (fun i j => if i = 0 then A x j else if i = x then A 0 j else A i j) A (m + 1) n := by
  by_cases c0 : x = 0
  · refine (EI.refl A _ _).congr (fun i _ j _ => ?_) (fun _ _ _ _ => rfl)
    try dsimp only
    by_cases c : i = 0
    · rw [if_pos c, c0, c]
    · rw [if_neg c, if_neg (by omega)]
  · refine EI.rows (U := pairU 0 x 0 1 1 0) (U' := pairU 0 x 0 1 1 0) ⟨fun i hi j _ => pair_inv1 (by omega) hx (by omega) (by decide) (by decide) (by decide) (by decide) hi, fun i hi j _ => pair_inv1 (by omega) hx (by omega) (by decide) (by decide) (by decide) (by decide) hi⟩ (fun i hi j hj => ?_)
    rw [pairU_mul (W := fun k => A k j) (by omega) hx (by omega) hi]
    try dsimp only
    by_cases c1 : i = 0
    · rw [if_pos c1, if_pos c1]; omega
    · rw [if_neg c1, if_neg c1]
      split <;> omega
theorem EI.swapcols (A : imat) {m n x : Nat} (hx : x < n + 1) : EI (fun i j => if j = 0 then A i x else if j = x then A i 0 else A i j) A m (n + 1) := (EI.swaprows (fun i j => A j i) (m := n) (n := m) hx).turn
theorem neg_mul0 {W : Nat → Int} {n i : Nat} (hi : i < n) : isum (fun k => (if i = k then (if i = 0 then (-1 : Int) else 1) else 0) * W k) n = if i = 0 then -W 0 else W i := by
  rw [isum_one hi (fun k _ hk => by rw [if_neg (Ne.symm hk), Int.zero_mul]), if_pos rfl]
  by_cases c : i = 0
  · rw [if_pos c, if_pos c, c]; omega
  · rw [if_neg c, if_neg c]; omega
theorem neg_inv0 {n i j : Nat} (hi : i < n) : isum (fun k => (if i = k then (if i = 0 then (-1 : Int) else 1) else 0) * (if k = j then (if k = 0 then (-1 : Int) else 1) else 0)) n = if i = j then 1 else 0 := by
  rw [neg_mul0 (W := fun k => if k = j then (if k = 0 then (-1 : Int) else 1) else 0) hi]
  by_cases c : i = 0
  · rw [if_pos c, c]
    try dsimp only
    by_cases c2 : 0 = j
    · rw [if_pos c2, if_pos c2, if_pos rfl]; rfl
    · rw [if_neg c2, if_neg c2]; rfl
  · rw [if_neg c]
    try dsimp only
    by_cases c2 : i = j
    · rw [if_pos c2, if_pos c2, if_neg c]
    · rw [if_neg c2, if_neg c2]
theorem EI.neg0 (A : imat) {m n : Nat} : EI (fun i j => if i = 0 then -A 0 j else A i j) A (m + 1) n :=
  EI.rows (U := fun i k => if i = k then (if i = 0 then (-1 : Int) else 1) else 0) (U' := fun i k => if i = k then (if i = 0 then (-1 : Int) else 1) else 0) ⟨fun i hi j _ => neg_inv0 hi, fun i hi j _ => neg_inv0 hi⟩ (fun i hi j _ => (neg_mul0 (W := fun k => A k j) hi).symm)
def addU (q : Nat → Int) : imat := fun i k => if i = k then 1 else if k = 0 then q i else 0
theorem addU_mul {q W : Nat → Int} {m i : Nat} (hi : i < m + 1) : isum (fun k => addU q i k * W k) (m + 1) = if i = 0 then W 0 else W i + q i * W 0 := by
  by_cases c : i = 0
  · rw [if_pos c, isum_one (k := 0) (by omega) (fun k _ hk => by unfold addU; rw [if_neg (by omega), if_neg hk, Int.zero_mul])]
    unfold addU
    rw [if_pos c, Int.one_mul]
  · rw [if_neg c, isum_two (k := 0) (l := i) (by omega) hi (by omega) (fun k _ h1 h2 => by unfold addU; rw [if_neg (by omega), if_neg h1, Int.zero_mul])]
    unfold addU
    rw [if_neg c, if_pos rfl, if_pos rfl, Int.one_mul, Int.add_comm]
theorem addU_inv {q q' : Nat → Int} {m i j : Nat} (h : ∀ i, q' i = -q i) (hi : i < m + 1) : isum (fun k => addU q i k * addU q' k j) (m + 1) = if i = j then 1 else 0 := by
  rw [addU_mul (W := fun k => addU q' k j) hi]
  unfold addU
  by_cases c : i = 0
  · rw [if_pos c, c]
    by_cases c2 : 0 = j
    · rw [if_pos c2, if_pos c2]
    · rw [if_neg c2, if_neg c2, if_neg (fun e => c2 e.symm)]
  · rw [if_neg c]
    by_cases c2 : i = j
    · rw [if_pos c2, if_pos c2, if_neg (by omega), if_neg (by omega)]; omega
    · rw [if_neg c2, if_neg c2]
      by_cases c3 : j = 0
      · rw [if_pos c3, if_pos c3.symm, h]; omega
      · rw [if_neg c3, if_neg (fun e => c3 e.symm), if_neg c3]; omega
theorem EI.addrows (A : imat) {m n : Nat} (q : Nat → Int) : EI (fun i j => if i = 0 then A 0 j else A i j + q i * A 0 j) A (m + 1) n :=
  EI.rows (U := addU q) (U' := addU (fun i => -q i)) ⟨fun i hi j _ => addU_inv (fun _ => rfl) hi, fun i hi j _ => addU_inv (fun _ => by omega) hi⟩ (fun i hi j _ => (addU_mul (W := fun k => A k j) hi).symm)
theorem EI.addcols (A : imat) {m n : Nat} (q : Nat → Int) : EI (fun i j => if j = 0 then A i 0 else A i j + q j * A i 0) A m (n + 1) := (EI.addrows (fun i j => A j i) (m := n) (n := m) q).turn
theorem block_inv {U U' : imat} {n i j : Nat} (h : ∀ i, i < n → ∀ j, j < n → isum (fun k => U i k * U' k j) n = if i = j then 1 else 0) (hi : i < n + 1) (hj : j < n + 1) : isum (fun k => blockZ 1 U i k * blockZ 1 U' k j) (n + 1) = if i = j then 1 else 0 := by
  rw [isum_head]
  unfold blockZ
  by_cases c : i = 0
  · rw [if_pos c, if_pos rfl, if_pos rfl, isum_zero (fun k _ => by rw [if_pos c, if_neg (by omega), Int.zero_mul]), c]
    by_cases c2 : j = 0
    · rw [if_pos c2, if_pos c2.symm]; rfl
    · rw [if_neg c2, if_neg (fun e => c2 e.symm)]; rfl
  · rw [if_neg c, if_pos rfl, Int.zero_mul, Int.zero_add]
    by_cases c2 : j = 0
    · rw [show (if i = j then (1 : Int) else 0) = 0 from if_neg (by omega)]
      exact isum_zero (fun k _ => by rw [if_neg c, if_neg (show ¬ k + 1 = 0 by omega), if_neg (show ¬ k + 1 = 0 by omega), if_pos c2, Int.mul_zero])
    · have e : isum (fun k => (if i = 0 then if k + 1 = 0 then (1 : Int) else 0 else if k + 1 = 0 then 0 else U (i - 1) (k + 1 - 1)) * (if k + 1 = 0 then if j = 0 then (1 : Int) else 0 else if j = 0 then 0 else U' (k + 1 - 1) (j - 1))) n = isum (fun k => U (i - 1) k * U' k (j - 1)) n := isum_congr (fun k _ => by rw [if_neg c, if_neg (by omega), if_neg (by omega), if_neg c2, Nat.add_sub_cancel])
      rw [e, h (i - 1) (by omega) (j - 1) (by omega)]
      by_cases c3 : i = j
      · rw [if_pos c3, if_pos (by omega)]
      · rw [if_neg c3, if_neg (by omega)]
theorem EI.block {T S : imat} {m n : Nat} (g : Int) (h : EI T S m n) : EI (blockZ g T) (blockZ g S) (m + 1) (n + 1) := by
  obtain ⟨U, U', W, W', a1, a2, a3, a4⟩ := h
  exact ⟨_, _, _, _, ⟨fun i hi j hj => block_inv a1.1 hi hj, fun i hi j hj => block_inv a1.2 hi hj⟩, ⟨fun i hi j hj => block_inv a2.1 hi hj, fun i hi j hj => block_inv a2.2 hi hj⟩, a3.block g, a4.block g⟩
theorem smith_inv : ∀ (m n : Nat) (A : imat), ∃ s : Nat → Int, (∀ i j, i ≤ j → s i ∣ s j) ∧ (∀ i, 0 ≤ s i) ∧ (∀ i, m ≤ i ∨ n ≤ i → s i = 0) ∧ EI (fun i j => if i = j then s i else 0) A m n
  | 0, n, A => ⟨fun _ => 0, fun _ _ _ => ⟨0, rfl⟩, fun _ => Int.le_refl 0, fun _ _ => rfl, (EI.refl A 0 n).congr (fun i hi => by omega) (fun i hi => by omega)⟩
  | m + 1, 0, A => ⟨fun _ => 0, fun _ _ _ => ⟨0, rfl⟩, fun _ => Int.le_refl 0, fun _ _ => rfl, (EI.refl A (m + 1) 0).congr (fun i _ j hj => by omega) (fun i _ j hj => by omega)⟩
  | m + 1, n + 1, A => by
    by_cases hz : ∀ i, i < m + 1 → ∀ j, j < n + 1 → A i j = 0
    · exact ⟨fun _ => 0, fun _ _ _ => ⟨0, rfl⟩, fun _ => Int.le_refl 0, fun _ _ => rfl, (EI.refl A _ _).congr (fun i hi j hj => by rw [hz i hi j hj]; split <;> rfl) (fun _ _ _ _ => rfl)⟩
    · -- the least size of a cell in all matrices of the kind
      have h0 : ∃ (N : imat) (i j : Nat), EI N A (m + 1) (n + 1) ∧ i < m + 1 ∧ j < n + 1 ∧ N i j ≠ 0 := Classical.byContradiction (fun hn => hz (fun i hi j hj => Classical.byContradiction (fun c => hn ⟨A, i, j, EI.refl A _ _, hi, hj, c⟩)))
      have hmin : ∃ (N : imat) (i j : Nat), EI N A (m + 1) (n + 1) ∧ i < m + 1 ∧ j < n + 1 ∧ N i j ≠ 0 ∧ ∀ (N' : imat) (i' j' : Nat), EI N' A (m + 1) (n + 1) → i' < m + 1 → j' < n + 1 → N' i' j' ≠ 0 → (N i j).natAbs ≤ (N' i' j').natAbs := by
        obtain ⟨N, i, j, a1, a2, a3, a4⟩ := h0
        have : ∀ k : Nat, ∀ (N : imat) (i j : Nat), EI N A (m + 1) (n + 1) → i < m + 1 → j < n + 1 → N i j ≠ 0 → (N i j).natAbs ≤ k → ∃ (N : imat) (i j : Nat), EI N A (m + 1) (n + 1) ∧ i < m + 1 ∧ j < n + 1 ∧ N i j ≠ 0 ∧ ∀ (N' : imat) (i' j' : Nat), EI N' A (m + 1) (n + 1) → i' < m + 1 → j' < n + 1 → N' i' j' ≠ 0 → (N i j).natAbs ≤ (N' i' j').natAbs := by
          intro k
          induction k with
          | zero => intro N i j _ _ _ h1 h2; omega
          | succ k ih =>
            intro N i j b1 b2 b3 b4 b5
            by_cases c : ∀ (N' : imat) (i' j' : Nat), EI N' A (m + 1) (n + 1) → i' < m + 1 → j' < n + 1 → N' i' j' ≠ 0 → (N i j).natAbs ≤ (N' i' j').natAbs
            · exact ⟨N, i, j, b1, b2, b3, b4, c⟩
            · have ⟨N', i', j', d1, d2, d3, d4, d5⟩ : ∃ (N' : imat) (i' j' : Nat), EI N' A (m + 1) (n + 1) ∧ i' < m + 1 ∧ j' < n + 1 ∧ N' i' j' ≠ 0 ∧ ¬ (N i j).natAbs ≤ (N' i' j').natAbs := Classical.byContradiction (fun hn => c (fun N' i' j' d1 d2 d3 d4 => Classical.byContradiction (fun d5 => hn ⟨N', i', j', d1, d2, d3, d4, d5⟩)))
              exact ih N' i' j' d1 d2 d3 d4 (by omega)
        exact this _ N i j a1 a2 a3 a4 (Nat.le_refl _)
      obtain ⟨N0, i0, j0, a1, a2, a3, a4, least⟩ := hmin
      -- bring it to the corner, with its size
      have ⟨N, g, b1, b2, b3, b4⟩ : ∃ (N : imat) (g : Int), EI N A (m + 1) (n + 1) ∧ N 0 0 = g ∧ 0 < g ∧ g.natAbs = (N0 i0 j0).natAbs := by
        have c1 := (EI.swaprows N0 (m := m) (n := n + 1) a2).trans a1
        have c2 := (EI.swapcols (fun i j => if i = 0 then N0 i0 j else if i = i0 then N0 0 j else N0 i j) (m := m + 1) (n := n) a3).trans c1
        rcases Int.lt_or_gt_of_ne a4 with c | c
        · exact ⟨_, -N0 i0 j0, (EI.neg0 _).trans c2, by simp, by omega, by omega⟩
        · exact ⟨_, N0 i0 j0, c2, by simp, by omega, rfl⟩
      have least' : ∀ (N' : imat) (i' j' : Nat), EI N' A (m + 1) (n + 1) → i' < m + 1 → j' < n + 1 → N' i' j' ≠ 0 → g.natAbs ≤ (N' i' j').natAbs := fun N' i' j' h1 h2 h3 h4 => by rw [b4]; exact least N' i' j' h1 h2 h3 h4
      have em : ∀ x : Int, x + -(x / g) * g = x % g := fun x => by
        have := Int.mul_ediv_add_emod x g
        rw [Int.neg_mul, Int.mul_comm (x / g)]; omega
      -- no rest can stand in such a matrix
      have rest : ∀ (N' : imat) (i' j' : Nat) (x : Int), EI N' A (m + 1) (n + 1) → i' < m + 1 → j' < n + 1 → N' i' j' = x % g → x % g = 0 := fun N' i' j' x h1 h2 h3 h4 => Classical.byContradiction (fun h5 => by
        have := least' N' i' j' h1 h2 h3 (by rw [h4]; exact h5)
        have p1 := Int.emod_lt_of_pos x b3
        have p2 := Int.emod_nonneg x (show g ≠ 0 by omega)
        rw [h4] at this
        omega)
      have r1 := (EI.addrows N (m := m) (n := n + 1) (fun i => -(N i 0 / g))).trans b1
      have z1 : ∀ i, 0 < i → i < m + 1 → N i 0 + -(N i 0 / g) * N 0 0 = 0 := fun i h1 h2 => by
        rw [b2, em]
        exact rest _ i 0 (N i 0) r1 h2 (by omega) (by (try dsimp only); rw [if_neg (by omega), b2, em])
      obtain ⟨N1, hN1⟩ : ∃ N1 : imat, N1 = fun i j => if i = 0 then N 0 j else N i j + -(N i 0 / g) * N 0 j := ⟨_, rfl⟩
      rw [← hN1] at r1
      have c00 : N1 0 0 = g := by rw [hN1]; simp [b2]
      have ci0 : ∀ i, 0 < i → i < m + 1 → N1 i 0 = 0 := fun i h1 h2 => by rw [hN1]; (try dsimp only); rw [if_neg (by omega)]; exact z1 i h1 h2
      have r2 := (EI.addcols N1 (m := m + 1) (n := n) (fun j => -(N1 0 j / g))).trans r1
      obtain ⟨N2, hN2⟩ : ∃ N2 : imat, N2 = fun i j => if j = 0 then N1 i 0 else N1 i j + -(N1 0 j / g) * N1 i 0 := ⟨_, rfl⟩
      rw [← hN2] at r2
      have d00 : N2 0 0 = g := by rw [hN2]; simp [c00]
      have di0 : ∀ i, 0 < i → i < m + 1 → N2 i 0 = 0 := fun i h1 h2 => by rw [hN2]; (try dsimp only); rw [if_pos rfl]; exact ci0 i h1 h2
      have d0j : ∀ j, 0 < j → j < n + 1 → N2 0 j = 0 := fun j h1 h2 => by
        have e : N2 0 j = N1 0 j % g := by rw [hN2]; (try dsimp only); rw [if_neg (by omega), c00, em]
        rw [e]
        exact rest N2 0 j (N1 0 j) r2 (by omega) h2 e
      have dv : ∀ i, 0 < i → i < m + 1 → ∀ j, 0 < j → j < n + 1 → g ∣ N2 i j := fun i h1 h2 j h3 h4 => by
        have p1 : EI (fun x y => if x = 0 then N2 0 y + N2 i y else N2 x y) N2 (m + 1) (n + 1) := EI.pair (a := 1) (b := 1) (c := 0) (e := 1) (show 0 < m + 1 by omega) h2 (by omega) (fun x _ h5 _ y _ => by rw [if_neg h5]) (fun y _ => by rw [if_pos rfl]; omega) (fun y _ => by rw [if_neg (by omega)]; omega) (by omega)
        have p2 := ((EI.addcols (fun x y => if x = 0 then N2 0 y + N2 i y else N2 x y) (m := m + 1) (n := n) (fun y => -(N2 i y / g))).trans p1).trans r2
        refine Int.dvd_of_emod_eq_zero (rest _ 0 j (N2 i j) p2 (by omega) h4 ?_)
        try dsimp only
        rw [if_neg (by omega), if_pos rfl, if_pos rfl, d0j j h3 h4, d00, di0 i h1 h2, Int.add_zero, Int.zero_add, em]
      -- the rest of it
      obtain ⟨s, s1, s2, s3, s4⟩ := smith_inv m n (fun i j => N2 (i + 1) (j + 1))
      have hgs : ∀ i, g ∣ s i := fun i => by
        by_cases c : m ≤ i ∨ n ≤ i
        · rw [s3 i c]; exact ⟨0, by omega⟩
        · have := madeZ_dvd s4.made (g := g) (fun a ha b hb => dv (a + 1) (by omega) (by omega) (b + 1) (by omega) (by omega)) i (by omega) i (by omega)
          rw [if_pos rfl] at this
          exact this
      refine ⟨fun i => if i = 0 then g else s (i - 1), fun i j hij => ?_, fun i => ?_, fun i hi => ?_, ?_⟩
      · show (if i = 0 then g else s (i - 1)) ∣ (if j = 0 then g else s (j - 1))
        by_cases c : i = 0
        · rw [if_pos c]
          split
          · exact ⟨1, by omega⟩
          · exact hgs _
        · rw [if_neg c, if_neg (by omega)]
          exact s1 _ _ (by omega)
      · show 0 ≤ (if i = 0 then g else s (i - 1))
        split
        · omega
        · exact s2 _
      · show (if i = 0 then g else s (i - 1)) = 0
        rw [if_neg (by omega)]
        exact s3 _ (by omega)
      · refine EI.trans ((EI.block g s4).congr (fun i hi j hj => ?_) (fun i hi j hj => ?_)) r2
        · unfold blockZ
          by_cases c : i = 0
          · rw [if_pos c]
            by_cases c2 : j = 0
            · rw [if_pos c2, if_pos (by omega)]; simp [c]
            · rw [if_neg c2, if_neg (by omega)]
          · rw [if_neg c]
            by_cases c2 : j = 0
            · rw [if_pos c2, if_neg (by omega)]
            · rw [if_neg c2]
              by_cases c3 : i = j
              · rw [if_pos c3]
                try dsimp only
                rw [if_neg c, if_pos (by omega)]
              · rw [if_neg c3]
                try dsimp only
                rw [if_neg (by omega)]
        · unfold blockZ
          by_cases c : i = 0
          · rw [if_pos c, c]
            by_cases c2 : j = 0
            · rw [if_pos c2, c2, d00]
            · rw [if_neg c2, d0j j (by omega) hj]
          · rw [if_neg c]
            by_cases c2 : j = 0
            · rw [if_pos c2, c2, di0 i (by omega) hi]
            · rw [if_neg c2]
              show N2 (i - 1 + 1) (j - 1 + 1) = N2 i j
              rw [show i - 1 + 1 = i by omega, show j - 1 + 1 = j by omega]
