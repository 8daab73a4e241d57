/-! ===== every whole matrix has a Smith form ===== -/
theorem eqvZ.rows {A A' : imat} {m n : Nat} (h1 : rowsZ A' m A m n) (h2 : rowsZ A m A' m n) : eqvZ A' A m n := ⟨madeZ_rows h1, madeZ_rows h2⟩
theorem eqvZ.refl (A : imat) (m n : Nat) : eqvZ A A m n := ⟨madeZ_refl A m n, madeZ_refl A m n⟩
theorem eqvZ.congr {A B A' B' : imat} {m n : Nat} (h : eqvZ A B m n) (h1 : ∀ i, i < m → ∀ j, j < n → A' i j = A i j) (h2 : ∀ i, i < m → ∀ j, j < n → B i j = B' i j) : eqvZ A' B' m n := ⟨madeZ_congr h.1 h1 h2, madeZ_congr h.2 (fun i hi j hj => (h2 i hi j hj).symm) (fun i hi j hj => (h1 i hi j hj).symm)⟩
/-- multiples of row 0 come to the other rows -/
theorem eqvZ.addrows (A : imat) {m n : Nat} (q : Nat → Int) : eqvZ (fun i j => if i = 0 then A 0 j else A i j + q i * A 0 j) A (m + 1) n := by
  refine eqvZ.rows (fun i hi => ?_) (fun i hi => ?_)
  · by_cases c : i = 0
    · exact inZ_congr (inZ_row (show 0 < m + 1 by omega)) (fun j _ => by rw [if_pos c])
    · exact inZ_congr (inZ_add (inZ_row hi) (inZ_smul (q i) (inZ_row (show 0 < m + 1 by omega)))) (fun j _ => by rw [if_neg c])
  · by_cases c : i = 0
    · subst c
      exact inZ_congr (inZ_row (B := fun i j => if i = 0 then A 0 j else A i j + q i * A 0 j) (show 0 < m + 1 by omega)) (fun j _ => by rw [if_pos rfl])
    · refine inZ_congr (inZ_add (inZ_row (B := fun i j => if i = 0 then A 0 j else A i j + q i * A 0 j) hi) (inZ_smul (-(q i)) (inZ_row (B := fun i j => if i = 0 then A 0 j else A i j + q i * A 0 j) (show 0 < m + 1 by omega)))) (fun j _ => ?_)
      try dsimp only
      rw [if_neg c, if_pos rfl, Int.neg_mul]
      omega
theorem eqvZ.addcols (A : imat) {m n : Nat} (q : Nat → Int) : eqvZ (fun i j => if j = 0 then A i 0 else A i j + q j * A i 0) A m (n + 1) := by
  have := (eqvZ.addrows (fun i j => A j i) (m := n) (n := m) q).turn
  exact this
theorem eqvZ.swaprows (A : imat) {m n x : Nat} (hx : x < m + 1) : eqvZ (fun i j => if i = 0 then A x j else if i = x then A 0 j else A i j) A (m + 1) n := by
  refine eqvZ.rows (fun i hi => ?_) (fun i hi => ?_)
  · by_cases c : i = 0
    · exact inZ_congr (inZ_row hx) (fun j _ => by rw [if_pos c])
    · by_cases c2 : i = x
      · exact inZ_congr (inZ_row (show 0 < m + 1 by omega)) (fun j _ => by rw [if_neg c, if_pos c2])
      · exact inZ_congr (inZ_row hi) (fun j _ => by rw [if_neg c, if_neg c2])
  · by_cases c : i = 0
    · subst c
      refine inZ_congr (inZ_row (B := fun i j => if i = 0 then A x j else if i = x then A 0 j else A i j) hx) (fun j _ => ?_)
      try dsimp only
      by_cases c3 : x = 0
      · rw [if_pos c3, c3]
      · rw [if_neg c3, if_pos rfl]
    · by_cases c2 : i = x
      · subst c2
        exact inZ_congr (inZ_row (B := fun k j => if k = 0 then A i j else if k = i then A 0 j else A k j) (show 0 < m + 1 by omega)) (fun j _ => by (try dsimp only); rw [if_pos rfl])
      · exact inZ_congr (inZ_row (B := fun i j => if i = 0 then A x j else if i = x then A 0 j else A i j) hi) (fun j _ => by (try dsimp only); rw [if_neg c, if_neg c2])
theorem eqvZ.swapcols (A : imat) {m n x : Nat} (hx : x < n + 1) : eqvZ (fun i j => if j = 0 then A i x else if j = x then A i 0 else A i j) A m (n + 1) := (eqvZ.swaprows (fun i j => A j i) (m := n) (n := m) hx).turn
theorem eqvZ.neg0 (A : imat) {m n : Nat} : eqvZ (fun i j => if i = 0 then -A 0 j else A i j) A (m + 1) n := by
  refine eqvZ.rows (fun i hi => ?_) (fun i hi => ?_)
  · by_cases c : i = 0
    · exact inZ_congr (inZ_smul (-1) (inZ_row (show 0 < m + 1 by omega))) (fun j _ => by rw [if_pos c]; omega)
    · exact inZ_congr (inZ_row hi) (fun j _ => by rw [if_neg c])
  · by_cases c : i = 0
    · subst c
      exact inZ_congr (inZ_smul (-1) (inZ_row (B := fun i j => if i = 0 then -A 0 j else A i j) (show 0 < m + 1 by omega))) (fun j _ => by rw [if_pos rfl]; omega)
    · exact inZ_congr (inZ_row (B := fun i j => if i = 0 then -A 0 j else A i j) hi) (fun j _ => by (try dsimp only); rw [if_neg c])
def blockZ (g : Int) (T : imat) : imat := fun i j => if i = 0 then (if j = 0 then g else 0) else if j = 0 then 0 else T (i - 1) (j - 1)
theorem madeZ_block {T S : imat} {m n : Nat} (g : Int) (h : madeZ T S m n) : madeZ (blockZ g T) (blockZ g S) (m + 1) (n + 1) := by
  obtain ⟨U, V, h⟩ := h
  refine ⟨blockZ 1 U, blockZ 1 V, fun i hi j hj => ?_⟩
  have col : ∀ a, isum (fun b => blockZ g S a b * blockZ 1 V b j) (n + 1) = if a = 0 then (if j = 0 then g else 0) else if j = 0 then 0 else isum (fun b => S (a - 1) b * V b (j - 1)) n := by
    intro a
    rw [isum_head]
    by_cases c : a = 0
    · rw [if_pos c, isum_zero (fun b _ => by unfold blockZ; rw [if_pos c, if_neg (by omega), Int.zero_mul])]
      unfold blockZ
      rw [if_pos c, if_pos rfl, if_pos rfl]
      split <;> omega
    · rw [if_neg c]
      have e0 : blockZ g S a 0 = 0 := by unfold blockZ; rw [if_neg c, if_pos rfl]
      rw [e0, Int.zero_mul, Int.zero_add]
      by_cases c2 : j = 0
      · rw [if_pos c2]
        exact isum_zero (fun b _ => by
          have : blockZ 1 V (b + 1) j = 0 := by unfold blockZ; rw [if_neg (by omega), if_pos c2]
          rw [this, Int.mul_zero])
      · rw [if_neg c2]
        refine isum_congr (fun b _ => ?_)
        unfold blockZ
        rw [if_neg c, if_neg (by omega), if_neg (by omega), if_neg c2, Nat.add_sub_cancel]
  have e : isum (fun a => blockZ 1 U i a * isum (fun b => blockZ g S a b * blockZ 1 V b j) (n + 1)) (m + 1) = isum (fun a => blockZ 1 U i a * (if a = 0 then (if j = 0 then g else 0) else if j = 0 then 0 else isum (fun b => S (a - 1) b * V b (j - 1)) n)) (m + 1) := isum_congr (fun a _ => by rw [col a])
  rw [e, isum_head, if_pos rfl]
  by_cases c : i = 0
  · rw [isum_zero (fun a _ => by
      have : blockZ 1 U i (a + 1) = 0 := by unfold blockZ; rw [if_pos c, if_neg (by omega)]
      rw [this, Int.zero_mul])]
    unfold blockZ
    rw [if_pos c, if_pos c, if_pos rfl]
    omega
  · have e0 : blockZ 1 U i 0 = 0 := by unfold blockZ; rw [if_neg c, if_pos rfl]
    rw [e0, Int.zero_mul, Int.zero_add]
    by_cases c2 : j = 0
    · rw [isum_zero (fun a _ => by rw [if_neg (by omega), if_pos c2, Int.mul_zero])]
      unfold blockZ
      rw [if_neg c, if_pos c2]
    · have : blockZ g T i j = T (i - 1) (j - 1) := by unfold blockZ; rw [if_neg c, if_neg c2]
      rw [this, h (i - 1) (by omega) (j - 1) (by omega)]
      refine isum_congr (fun a _ => ?_)
      rw [if_neg (by omega), if_neg c2, Nat.add_sub_cancel]
      unfold blockZ
      rw [if_neg c, if_neg (by omega), Nat.add_sub_cancel]
theorem eqvZ.block {T S : imat} {m n : Nat} (g : Int) (h : eqvZ T S m n) : eqvZ (blockZ g T) (blockZ g S) (m + 1) (n + 1) := ⟨madeZ_block g h.1, madeZ_block g h.2⟩
/-- a number that divides all cells goes on dividing them -/
theorem madeZ_dvd {T S : imat} {m n : Nat} {g : Int} (h : madeZ T S m n) (hg : ∀ i, i < m → ∀ j, j < n → g ∣ S i j) : ∀ i, i < m → ∀ j, j < n → g ∣ T i j := by
  obtain ⟨U, V, h⟩ := h
  have hs : ∀ {f : Nat → Int} {k : Nat}, (∀ i, i < k → g ∣ f i) → g ∣ isum f k := fun {f k} => by
    induction k with
    | zero => intro _; exact ⟨0, by show (0 : Int) = g * 0; omega⟩
    | succ k ih => intro hk; exact Int.dvd_add (ih (fun i hi => hk i (by omega))) (hk k (by omega))
  intro i hi j hj
  rw [h i hi j hj]
  exact hs (fun a ha => Int.dvd_mul_of_dvd_right (hs (fun b hb => Int.dvd_mul_of_dvd_left (hg a ha b hb))))
theorem smith_exists : ∀ (m n : Nat) (A : imat), ∃ s : Nat → Int, (∀ i j, i ≤ j → s i ∣ s j) ∧ (∀ i, 0 ≤ s i) ∧ (∀ i, m ≤ i ∨ n ≤ i → s i = 0) ∧ eqvZ (fun i j => if i = j then s i else 0) A m n
  | 0, n, A => ⟨fun _ => 0, fun _ _ _ => ⟨0, rfl⟩, fun _ => Int.le_refl 0, fun _ _ => rfl, (eqvZ.refl A 0 n).congr (fun i hi => by omega) (fun i hi => by omega)⟩
  | m + 1, 0, A => ⟨fun _ => 0, fun _ _ _ => ⟨0, rfl⟩, fun _ => Int.le_refl 0, fun _ _ => rfl, (eqvZ.refl A (m + 1) 0).congr (fun i _ j hj => by omega) (fun i _ j hj => by omega)⟩
  | m + 1, n + 1, A => by
    by_cases hz : ∀ i, i < m + 1 → ∀ j, j < n + 1 → A i j = 0
    · exact ⟨fun _ => 0, fun _ _ _ => ⟨0, rfl⟩, fun _ => Int.le_refl 0, fun _ _ => rfl, (eqvZ.refl A _ _).congr (fun i hi j hj => by rw [hz i hi j hj]; split <;> rfl) (fun _ _ _ _ => rfl)⟩
    · -- the least size of a cell in all matrices of the kind
      have h0 : ∃ (N : imat) (i j : Nat), eqvZ N A (m + 1) (n + 1) ∧ i < m + 1 ∧ j < n + 1 ∧ N i j ≠ 0 := Classical.byContradiction (fun hn => hz (fun i hi j hj => Classical.byContradiction (fun c => hn ⟨A, i, j, eqvZ.refl A _ _, hi, hj, c⟩)))
      have hmin : ∃ (N : imat) (i j : Nat), eqvZ N A (m + 1) (n + 1) ∧ i < m + 1 ∧ j < n + 1 ∧ N i j ≠ 0 ∧ ∀ (N' : imat) (i' j' : Nat), eqvZ N' A (m + 1) (n + 1) → i' < m + 1 → j' < n + 1 → N' i' j' ≠ 0 → (N i j).natAbs ≤ (N' i' j').natAbs := by
        obtain ⟨N, i, j, a1, a2, a3, a4⟩ := h0
        have : ∀ k : Nat, ∀ (N : imat) (i j : Nat), eqvZ N A (m + 1) (n + 1) → i < m + 1 → j < n + 1 → N i j ≠ 0 → (N i j).natAbs ≤ k → ∃ (N : imat) (i j : Nat), eqvZ N A (m + 1) (n + 1) ∧ i < m + 1 ∧ j < n + 1 ∧ N i j ≠ 0 ∧ ∀ (N' : imat) (i' j' : Nat), eqvZ N' A (m + 1) (n + 1) → i' < m + 1 → j' < n + 1 → N' i' j' ≠ 0 → (N i j).natAbs ≤ (N' i' j').natAbs := by
          intro k
          induction k with
          | zero => intro N i j _ _ _ h1 h2; omega
          | succ k ih =>
            intro N i j b1 b2 b3 b4 b5
            by_cases c : ∀ (N' : imat) (i' j' : Nat), eqvZ N' A (m + 1) (n + 1) → i' < m + 1 → j' < n + 1 → N' i' j' ≠ 0 → (N i j).natAbs ≤ (N' i' j').natAbs
            · exact ⟨N, i, j, b1, b2, b3, b4, c⟩
            · have ⟨N', i', j', d1, d2, d3, d4, d5⟩ : ∃ (N' : imat) (i' j' : Nat), eqvZ N' A (m + 1) (n + 1) ∧ i' < m + 1 ∧ j' < n + 1 ∧ N' i' j' ≠ 0 ∧ ¬ (N i j).natAbs ≤ (N' i' j').natAbs := Classical.byContradiction (fun hn => c (fun N' i' j' d1 d2 d3 d4 => Classical.byContradiction (fun d5 => hn ⟨N', i', j', d1, d2, d3, d4, d5⟩)))
              exact ih N' i' j' d1 d2 d3 d4 (by omega)
        exact this _ N i j a1 a2 a3 a4 (Nat.le_refl _)
      obtain ⟨N0, i0, j0, a1, a2, a3, a4, least⟩ := hmin
      -- bring it to the corner, with its size
      have ⟨N, g, b1, b2, b3, b4⟩ : ∃ (N : imat) (g : Int), eqvZ N A (m + 1) (n + 1) ∧ N 0 0 = g ∧ 0 < g ∧ g.natAbs = (N0 i0 j0).natAbs := by
        have c1 := (eqvZ.swaprows N0 (m := m) (n := n + 1) a2).trans a1
        have c2 := (eqvZ.swapcols (fun i j => if i = 0 then N0 i0 j else if i = i0 then N0 0 j else N0 i j) (m := m + 1) (n := n) a3).trans c1
        rcases Int.lt_or_gt_of_ne a4 with c | c
        · exact ⟨_, -N0 i0 j0, (eqvZ.neg0 _).trans c2, by simp, by omega, by omega⟩
        · exact ⟨_, N0 i0 j0, c2, by simp, by omega, rfl⟩
      have least' : ∀ (N' : imat) (i' j' : Nat), eqvZ N' A (m + 1) (n + 1) → i' < m + 1 → j' < n + 1 → N' i' j' ≠ 0 → g.natAbs ≤ (N' i' j').natAbs := fun N' i' j' h1 h2 h3 h4 => by rw [b4]; exact least N' i' j' h1 h2 h3 h4
      have em : ∀ x : Int, x + -(x / g) * g = x % g := fun x => by
        have := Int.mul_ediv_add_emod x g
        rw [Int.neg_mul, Int.mul_comm (x / g)]; omega
      -- no rest can stand in such a matrix
      have rest : ∀ (N' : imat) (i' j' : Nat) (x : Int), eqvZ N' A (m + 1) (n + 1) → i' < m + 1 → j' < n + 1 → N' i' j' = x % g → x % g = 0 := fun N' i' j' x h1 h2 h3 h4 => Classical.byContradiction (fun h5 => by
        have := least' N' i' j' h1 h2 h3 (by rw [h4]; exact h5)
        have p1 := Int.emod_lt_of_pos x b3
        have p2 := Int.emod_nonneg x (show g ≠ 0 by omega)
        rw [h4] at this
        omega)
      have r1 := (eqvZ.addrows N (m := m) (n := n + 1) (fun i => -(N i 0 / g))).trans b1
      have z1 : ∀ i, 0 < i → i < m + 1 → N i 0 + -(N i 0 / g) * N 0 0 = 0 := fun i h1 h2 => by
        rw [b2, em]
        exact rest _ i 0 (N i 0) r1 h2 (by omega) (by (try dsimp only); rw [if_neg (by omega), b2, em])
      obtain ⟨N1, hN1⟩ : ∃ N1 : imat, N1 = fun i j => if i = 0 then N 0 j else N i j + -(N i 0 / g) * N 0 j := ⟨_, rfl⟩
      rw [← hN1] at r1
      have c00 : N1 0 0 = g := by rw [hN1]; simp [b2]
      have ci0 : ∀ i, 0 < i → i < m + 1 → N1 i 0 = 0 := fun i h1 h2 => by rw [hN1]; (try dsimp only); rw [if_neg (by omega)]; exact z1 i h1 h2
      have r2 := (eqvZ.addcols N1 (m := m + 1) (n := n) (fun j => -(N1 0 j / g))).trans r1
      obtain ⟨N2, hN2⟩ : ∃ N2 : imat, N2 = fun i j => if j = 0 then N1 i 0 else N1 i j + -(N1 0 j / g) * N1 i 0 := ⟨_, rfl⟩
      rw [← hN2] at r2
      have d00 : N2 0 0 = g := by rw [hN2]; simp [c00]
      have di0 : ∀ i, 0 < i → i < m + 1 → N2 i 0 = 0 := fun i h1 h2 => by rw [hN2]; (try dsimp only); rw [if_pos rfl]; exact ci0 i h1 h2
      have d0j : ∀ j, 0 < j → j < n + 1 → N2 0 j = 0 := fun j h1 h2 => by
        have e : N2 0 j = N1 0 j % g := by rw [hN2]; (try dsimp only); rw [if_neg (by omega), c00, em]
        rw [e]
        exact rest N2 0 j (N1 0 j) r2 (by omega) h2 e
      have dv : ∀ i, 0 < i → i < m + 1 → ∀ j, 0 < j → j < n + 1 → g ∣ N2 i j := fun i h1 h2 j h3 h4 => by
        have p1 : eqvZ (fun x y => if x = 0 then N2 0 y + N2 i y else N2 x y) N2 (m + 1) (n + 1) := eqvZ.pair (a := 1) (b := 1) (c := 0) (e := 1) (show 0 < m + 1 by omega) h2 (by omega) (fun x _ h5 _ y _ => by rw [if_neg h5]) (fun y _ => by rw [if_pos rfl]; omega) (fun y _ => by rw [if_neg (by omega)]; omega) (by omega)
        have p2 := ((eqvZ.addcols (fun x y => if x = 0 then N2 0 y + N2 i y else N2 x y) (m := m + 1) (n := n) (fun y => -(N2 i y / g))).trans p1).trans r2
        refine Int.dvd_of_emod_eq_zero (rest _ 0 j (N2 i j) p2 (by omega) h4 ?_)
        try dsimp only
        rw [if_neg (by omega), if_pos rfl, if_pos rfl, d0j j h3 h4, d00, di0 i h1 h2, Int.add_zero, Int.zero_add, em]
      -- the rest of it
      obtain ⟨s, s1, s2, s3, s4⟩ := smith_exists m n (fun i j => N2 (i + 1) (j + 1))
      have hgs : ∀ i, g ∣ s i := fun i => by
        by_cases c : m ≤ i ∨ n ≤ i
        · rw [s3 i c]; exact ⟨0, by omega⟩
        · have := madeZ_dvd s4.1 (g := g) (fun a ha b hb => dv (a + 1) (by omega) (by omega) (b + 1) (by omega) (by omega)) i (by omega) i (by omega)
          rw [if_pos rfl] at this
          exact this
      refine ⟨fun i => if i = 0 then g else s (i - 1), fun i j hij => ?_, fun i => ?_, fun i hi => ?_, ?_⟩
      · show (if i = 0 then g else s (i - 1)) ∣ (if j = 0 then g else s (j - 1))
        by_cases c : i = 0
        · rw [if_pos c]
          split
          · exact ⟨1, by omega⟩
          · exact hgs _
        · rw [if_neg c, if_neg (by omega)]
          exact s1 _ _ (by omega)
      · show 0 ≤ (if i = 0 then g else s (i - 1))
        split
        · omega
        · exact s2 _
      · show (if i = 0 then g else s (i - 1)) = 0
        rw [if_neg (by omega)]
        exact s3 _ (by omega)
      · refine eqvZ.trans ((eqvZ.block g s4).congr (fun i hi j hj => ?_) (fun i hi j hj => ?_)) r2
        · unfold blockZ
          by_cases c : i = 0
          · rw [if_pos c]
            by_cases c2 : j = 0
            · rw [if_pos c2, if_pos (by omega)]; simp [c]
            · rw [if_neg c2, if_neg (by omega)]
          · rw [if_neg c]
            by_cases c2 : j = 0
            · rw [if_pos c2, if_neg (by omega)]
            · rw [if_neg c2]
              by_cases c3 : i = j
              · rw [if_pos c3]
                try dsimp only
                rw [if_neg c, if_pos (by omega)]
              · rw [if_neg c3]
                try dsimp only
                rw [if_neg (by omega)]
        · unfold blockZ
          by_cases c : i = 0
          · rw [if_pos c, c]
            by_cases c2 : j = 0
            · rw [if_pos c2, c2, d00]
            · rw [if_neg c2, d0j j (by omega) hj]
          · rw [if_neg c]
            by_cases c2 : j = 0
            · rw [if_pos c2, c2, di0 i (by omega) hi]
            · rw [if_neg c2]
              show N2 (i - 1 + 1) (j - 1 + 1) = N2 i j
              rw [show i - 1 + 1 = i by omega, show j - 1 + 1 = j by omega]
