/-! ===== a matrix with a multiple of the unit matrix below it (printed by wip/gen/mxT.py) ===== -/
def stk (A : imat) (R : Int) (m : Nat) : imat := fun i j => if i < m then A i j else if i - m = j then R else 0
def dia (s : Nat → Int) : imat := fun i j => if i = j then s i else 0
theorem dia_eq (s : Nat → Int) : dia s = fun i j => if i = j then s i else 0 := rfl
theorem MI.stack {U W W' A B : imat} {m n N : Nat} (R : Int) (hN : m + n ≤ N) (hW : ∀ i, i < n → ∀ j, j < n → isum (fun k => W' i k * W k j) n = if i = j then 1 else 0) (h : MI U W A B m n) : madeZ (stk A R m) (stk B R m) N n := by
  refine ⟨fun i a => if i < m then (if a < m then U i a else 0) else if i < m + n ∧ m ≤ a then W' (i - m) (a - m) else 0, W, fun i hi j hj => ?_⟩
  obtain ⟨x, ex⟩ : ∃ x, N = m + (n + x) := ⟨N - m - n, by omega⟩
  rw [ex, isum_split]
  have top : ∀ a, a < m → isum (fun b => stk B R m a b * W b j) n = isum (fun b => B a b * W b j) n := fun a ha => isum_congr (fun b _ => by unfold stk; rw [if_pos ha])
  have low : ∀ k, isum (fun b => stk B R m (m + k) b * W b j) n = if k < n then R * W k j else 0 := fun k => by
    by_cases c : k < n
    · rw [if_pos c, isum_one c (fun b _ hb => by unfold stk; rw [if_neg (by omega), if_neg (by omega), Int.zero_mul])]
      unfold stk
      rw [if_neg (by omega), if_pos (by omega)]
    · rw [if_neg c]
      exact isum_zero (fun b hb => by unfold stk; rw [if_neg (by omega), if_neg (by omega), Int.zero_mul])
  by_cases c : i < m
  · have e2 : isum (fun k => (if i < m then (if m + k < m then U i (m + k) else 0) else if i < m + n ∧ m ≤ m + k then W' (i - m) (m + k - m) else 0) * isum (fun b => stk B R m (m + k) b * W b j) n) (n + x) = 0 := isum_zero (fun k _ => by rw [if_pos c, if_neg (by omega), Int.zero_mul])
    rw [e2, Int.add_zero]
    have : stk A R m i j = A i j := by unfold stk; rw [if_pos c]
    rw [this, h i c j hj]
    exact isum_congr (fun a ha => by dsimp only; rw [if_pos c, if_pos ha, top a ha])
  · have e1 : isum (fun a => (if i < m then (if a < m then U i a else 0) else if i < m + n ∧ m ≤ a then W' (i - m) (a - m) else 0) * isum (fun b => stk B R m a b * W b j) n) m = 0 := isum_zero (fun a ha => by rw [if_neg c, if_neg (by omega), Int.zero_mul])
    rw [e1, Int.zero_add]
    have hs : stk A R m i j = if i - m = j then R else 0 := by unfold stk; rw [if_neg c]
    rw [hs]
    by_cases c2 : i < m + n
    · have e2 : isum (fun k => (if i < m then (if m + k < m then U i (m + k) else 0) else if i < m + n ∧ m ≤ m + k then W' (i - m) (m + k - m) else 0) * isum (fun b => stk B R m (m + k) b * W b j) n) (n + x) = isum (fun k => W' (i - m) k * if k < n then R * W k j else 0) (n + x) := isum_congr (fun k _ => by rw [if_neg c, if_pos ⟨c2, by omega⟩, low k, Nat.add_sub_cancel_left])
      rw [e2, isum_split]
      have e3 : isum (fun k => W' (i - m) (n + k) * if n + k < n then R * W (n + k) j else 0) x = 0 := isum_zero (fun k _ => by rw [if_neg (by omega), Int.mul_zero])
      rw [e3, Int.add_zero]
      have e4 : isum (fun k => W' (i - m) k * if k < n then R * W k j else 0) n = R * isum (fun k => W' (i - m) k * W k j) n := by
        rw [isum_mul]
        exact isum_congr (fun k hk => by rw [if_pos hk, Int.mul_left_comm])
      rw [e4, hW _ (by omega) j hj]
      by_cases c3 : i - m = j
      · rw [if_pos c3, if_pos c3, Int.mul_one]
      · rw [if_neg c3, if_neg c3, Int.mul_zero]
    · rw [if_neg (by omega)]
      exact (isum_zero (fun k _ => by dsimp only; rw [if_neg c, if_neg (by omega), Int.zero_mul])).symm
theorem EI.stack {A B : imat} {m n N : Nat} (R : Int) (hN : m + n ≤ N) (h : EI A B m n) : eqvZ (stk A R m) (stk B R m) N n := by
  obtain ⟨U, U', W, W', a1, a2, a3, a4⟩ := h
  exact ⟨a3.stack R hN a2.2, a4.stack R hN a2.1⟩
theorem stk_low {A : imat} {R : Int} {m n N k : Nat} (hN : m + n ≤ N) (hk : k < n) : inZ (fun j => if j = k then R else 0) (stk A R m) N n := inZ_congr (inZ_row (B := stk A R m) (k := m + k) (by omega)) (fun j _ => by
  unfold stk
  (try dsimp only)
  (repeat' split) <;> first | rfl | omega)
theorem stk_mod1 {A B : imat} {R : Int} {m n N : Nat} (hN : m + n ≤ N) (h : ∀ i, i < m → ∀ j, j < n → ∃ z : Int, A i j = B i j + R * z) : rowsZ (stk A R m) N (stk B R m) N n := fun i hi => by
  by_cases c : i < m
  · refine inZ_congr (v := stk A R m i) (u := A i) (inZ_mod (lo := 0) (d := R) (u := B i) (fun k _ hk => stk_low hN hk) (inZ_congr (inZ_row (B := stk B R m) (k := i) hi) (fun j _ => by unfold stk; rw [if_pos c])) (fun j hj => by omega) (fun j _ hj => ?_)) (fun j _ => by unfold stk; rw [if_pos c])
    obtain ⟨z, hz⟩ := h i c j hj
    exact ⟨z, by first | exact hz | (rw [hz]; grind)⟩
  · exact inZ_congr (v := stk A R m i) (inZ_row (B := stk B R m) hi) (fun j _ => by unfold stk; rw [if_neg c, if_neg c])
theorem stk_mod {A B : imat} {R : Int} {m n N : Nat} (hN : m + n ≤ N) (h : ∀ i, i < m → ∀ j, j < n → R ∣ A i j - B i j) : eqvZ (stk A R m) (stk B R m) N n := by
  refine eqvZ.rows (stk_mod1 hN (fun i hi j hj => ?_)) (stk_mod1 hN (fun i hi j hj => ?_))
  · obtain ⟨z, hz⟩ := h i hi j hj
    exact ⟨z, by omega⟩
  · obtain ⟨z, hz⟩ := h i hi j hj
    exact ⟨-z, by rw [Int.mul_neg]; omega⟩
def gI (a b : Int) : Int := ((Nat.gcd a.natAbs b.natAbs : Nat) : Int)
theorem gI_l (a b : Int) : gI a b ∣ a := Int.ofNat_dvd_left.mpr (Nat.gcd_dvd_left _ _)
theorem gI_r (a b : Int) : gI a b ∣ b := Int.ofNat_dvd_left.mpr (Nat.gcd_dvd_right _ _)
theorem gI_nn (a b : Int) : 0 ≤ gI a b := Int.natCast_nonneg _
theorem gI_dvd {a b c : Int} (h1 : c ∣ a) (h2 : c ∣ b) : c ∣ gI a b := Int.ofNat_dvd_right.mpr (Nat.dvd_gcd (Int.natAbs_dvd_natAbs.mpr h1) (Int.natAbs_dvd_natAbs.mpr h2))
theorem dvd_both {a b : Int} (ha : 0 ≤ a) (hb : 0 ≤ b) (h1 : a ∣ b) (h2 : b ∣ a) : a = b := by
  have := Nat.dvd_antisymm (Int.natAbs_dvd_natAbs.mpr h1) (Int.natAbs_dvd_natAbs.mpr h2)
  omega
theorem gI_of {a b : Int} (ha : 0 ≤ a) (h : a ∣ b) : gI a b = a := dvd_both (gI_nn _ _) ha (gI_l _ _) (gI_dvd (Int.dvd_refl _) h)
theorem gI_of' {a b : Int} (hb : 0 ≤ b) (h : b ∣ a) : gI a b = b := dvd_both (gI_nn _ _) hb (gI_r _ _) (gI_dvd h (Int.dvd_refl _))
theorem bezN : ∀ (k b a : Nat), b ≤ k → ∃ u v : Int, ((Nat.gcd a b : Nat) : Int) = u * (a : Int) + v * (b : Int)
  | 0, b, a, h => ⟨1, 0, by rw [show b = 0 by omega, Nat.gcd_zero_right]; omega⟩
  | k + 1, b, a, h => by
    by_cases c : b = 0
    · exact ⟨1, 0, by rw [c, Nat.gcd_zero_right]; omega⟩
    · have hl := Nat.mod_lt a (show 0 < b by omega)
      obtain ⟨u, v, e⟩ := bezN k (a % b) b (by omega)
      refine ⟨v, u - v * ((a / b : Nat) : Int), ?_⟩
      have e1 : Nat.gcd a b = Nat.gcd b (a % b) := by rw [Nat.gcd_comm a b, Nat.gcd_rec b a, Nat.gcd_comm]
      have e2 : (a : Int) = (b : Int) * ((a / b : Nat) : Int) + ((a % b : Nat) : Int) := by
        have := Nat.div_add_mod a b
        exact_mod_cast this.symm
      rw [e1, e]
      grind
theorem gI_bez (a b : Int) : ∃ u v : Int, gI a b = u * a + v * b := by
  obtain ⟨u, v, h⟩ := bezN b.natAbs b.natAbs a.natAbs (Nat.le_refl _)
  have ha : ((a.natAbs : Nat) : Int) = a ∨ ((a.natAbs : Nat) : Int) = -a := by omega
  have hb : ((b.natAbs : Nat) : Int) = b ∨ ((b.natAbs : Nat) : Int) = -b := by omega
  unfold gI
  rcases ha with ha | ha <;> rcases hb with hb | hb <;> rw [ha, hb] at h
  · exact ⟨u, v, h⟩
  · exact ⟨u, -v, by rw [h]; grind⟩
  · exact ⟨-u, v, by rw [h]; grind⟩
  · exact ⟨-u, -v, by rw [h]; grind⟩
theorem inZ_unit {B : imat} {s n k : Nat} {x y : Int} (h : inZ (fun j => if j = k then x else 0) B s n) (hd : x ∣ y) : inZ (fun j => if j = k then y else 0) B s n := by
  obtain ⟨z, hz⟩ := hd
  refine inZ_congr (inZ_smul z h) (fun j _ => ?_)
  by_cases c : j = k
  · rw [if_pos c, if_pos c, hz, Int.mul_comm]
  · rw [if_neg c, if_neg c, Int.mul_zero]
theorem inZ_unit2 {B : imat} {s n k : Nat} {x y u v : Int} (h1 : inZ (fun j => if j = k then x else 0) B s n) (h2 : inZ (fun j => if j = k then y else 0) B s n) : inZ (fun j => if j = k then u * x + v * y else 0) B s n := by
  refine inZ_congr (inZ_add (inZ_smul u h1) (inZ_smul v h2)) (fun j _ => ?_)
  by_cases c : j = k
  · rw [if_pos c, if_pos c, if_pos c]
  · rw [if_neg c, if_neg c, if_neg c]; omega
theorem stk_dia {c : Nat → Int} {R : Int} {m n N : Nat} (hN : m + n ≤ N) (hc : ∀ i, m ≤ i → c i = 0) : eqvZ (dia (fun i => gI (c i) R)) (stk (dia c) R m) N n := by
  refine eqvZ.rows (fun i hi => ?_) (fun i hi => ?_)
  · by_cases h : i < n
    · have a1 : inZ (fun j => if j = i then R else 0) (stk (dia c) R m) N n := stk_low hN h
      have a2 : inZ (fun j => if j = i then c i else 0) (stk (dia c) R m) N n := by
        by_cases h2 : i < m
        · refine inZ_congr (inZ_row (B := stk (dia c) R m) (k := i) hi) (fun j _ => ?_)
          unfold stk dia
          rw [if_pos h2]
          by_cases e : j = i
          · rw [if_pos e, if_pos e.symm]
          · rw [if_neg e, if_neg (fun x => e x.symm)]
        · rw [hc i (by omega)]
          exact inZ_congr inZ_zero (fun j _ => by split <;> rfl)
      obtain ⟨u, v, e⟩ := gI_bez (c i) R
      refine inZ_congr (v := dia (fun i => gI (c i) R) i) (inZ_unit2 (u := u) (v := v) a2 a1) (fun j _ => ?_)
      unfold dia
      by_cases e2 : j = i
      · rw [if_pos e2, if_pos e2.symm]; exact e
      · rw [if_neg e2, if_neg (fun x => e2 x.symm)]
    · refine inZ_congr (v := dia (fun i => gI (c i) R) i) inZ_zero (fun j hj => ?_)
      unfold dia
      rw [if_neg (by omega)]
  · have hd : ∀ k, k < n → inZ (fun j => if j = k then gI (c k) R else 0) (dia (fun i => gI (c i) R)) N n := fun k hk => inZ_congr (inZ_row (B := dia (fun i => gI (c i) R)) (k := k) (by omega)) (fun j _ => by
      unfold dia
      by_cases e : j = k
      · rw [if_pos e, if_pos e.symm]
      · rw [if_neg e, if_neg (fun x => e x.symm)])
    by_cases h : i < m
    · by_cases h2 : i < n
      · refine inZ_congr (v := stk (dia c) R m i) (inZ_unit (hd i h2) (gI_l (c i) R)) (fun j _ => ?_)
        unfold stk dia
        rw [if_pos h]
        by_cases e : j = i
        · rw [if_pos e, if_pos e.symm]
        · rw [if_neg e, if_neg (fun x => e x.symm)]
      · refine inZ_congr (v := stk (dia c) R m i) inZ_zero (fun j hj => ?_)
        unfold stk dia
        rw [if_pos h, if_neg (by omega)]
    · by_cases h2 : i - m < n
      · refine inZ_congr (v := stk (dia c) R m i) (inZ_unit (hd (i - m) h2) (gI_r (c (i - m)) R)) (fun j _ => ?_)
        unfold stk
        rw [if_neg h]
        by_cases e : j = i - m
        · rw [if_pos e, if_pos e.symm]
        · rw [if_neg e, if_neg (fun x => e x.symm)]
      · refine inZ_congr (v := stk (dia c) R m i) inZ_zero (fun j hj => ?_)
        unfold stk
        rw [if_neg h, if_neg (by omega)]
theorem gI_chain {c : Nat → Int} {R : Int} (h : ∀ i j, i ≤ j → c i ∣ c j) : ∀ i j, i ≤ j → gI (c i) R ∣ gI (c j) R := fun i j hij => gI_dvd (Int.dvd_trans (gI_l _ _) (h i j hij)) (gI_r _ _)
/-- a smaller modulus -/
theorem stk_less {C : imat} {R R' : Int} {m n N : Nat} {d : Nat → Int} (hN : m + n ≤ N) (hd : ∀ i j, i ≤ j → d i ∣ d j) (d0 : ∀ i, 0 ≤ d i) (hR : R' ∣ R) (h : eqvZ (dia d) (stk C R m) N n) : eqvZ (dia (fun i => gI (d i) R')) (stk C R' m) N n := by
  obtain ⟨c, c1, c2, c3, c4⟩ := smith_inv m n C
  have k1 := (stk_dia (c := c) (R := R) hN (fun i hi => c3 i (Or.inl hi))).trans (c4.stack R hN)
  have k2 := (stk_dia (c := c) (R := R') hN (fun i hi => c3 i (Or.inl hi))).trans (c4.stack R' hN)
  have e := smith_same hd (gI_chain c1) d0 (fun i => gI_nn _ _) h k1
  refine k2.congr (fun i hi j hj => ?_) (fun _ _ _ _ => rfl)
  unfold dia
  by_cases c5 : i = j
  · rw [if_pos c5, if_pos c5]
    try dsimp only
    rw [e i hi (by omega)]
    exact dvd_both (gI_nn _ _) (gI_nn _ _) (gI_dvd (Int.dvd_trans (gI_l _ _) (gI_l _ _)) (gI_r _ _)) (gI_dvd (gI_dvd (gI_l _ _) (Int.dvd_trans (gI_r _ _) hR)) (gI_r _ _))
  · rw [if_neg c5, if_neg c5]
/-- the corner of a matrix whose corner divides all -/
theorem stk_step {C : imat} {g R : Int} {m n N : Nat} {d : Nat → Int} (hN : m + n + 1 ≤ N) (hd : ∀ i j, i ≤ j → d i ∣ d j) (d0 : ∀ i, 0 ≤ d i) (hg : 0 < g) (hgR : g ∣ R) (hgC : ∀ i, i < m → ∀ j, j < n → g ∣ C i j) (h : eqvZ (dia d) (stk (blockZ g C) R (m + 1)) (N + 1) (n + 1)) : d 0 = g ∧ eqvZ (dia (fun i => d (i + 1))) (stk C R m) N n := by
  obtain ⟨s, s1, s2, s3, s4⟩ := smith_exists N n (stk C R m)
  have hgs : ∀ i, g ∣ s i := fun i => by
    by_cases c : N ≤ i ∨ n ≤ i
    · rw [s3 i c]; exact ⟨0, by omega⟩
    · have := madeZ_dvd s4.1 (g := g) (fun a ha b hb => by
        unfold stk
        split
        · exact hgC a (by assumption) b hb
        · split
          · exact hgR
          · exact ⟨0, by omega⟩) i (by omega) i (by omega)
      rw [if_pos rfl] at this
      exact this
  have b1 := eqvZ.block g s4
  have row0 : inZ (fun j => if j = 0 then g else 0) (blockZ g (stk C R m)) (N + 1) (n + 1) := inZ_congr (inZ_row (B := blockZ g (stk C R m)) (k := 0) (by omega)) (fun j _ => by unfold blockZ; rw [if_pos rfl])
  have b2 : eqvZ (stk (blockZ g C) R (m + 1)) (blockZ g (stk C R m)) (N + 1) (n + 1) := by
    refine eqvZ.rows (fun i hi => ?_) (fun i hi => ?_)
    · by_cases c : i < m + 1
      · refine inZ_congr (v := stk (blockZ g C) R (m + 1) i) (inZ_row (B := blockZ g (stk C R m)) (k := i) hi) (fun j _ => ?_)
        unfold stk blockZ
        (try dsimp only)
        (repeat' split) <;> first | rfl | omega
      · by_cases c3 : i = m + 1
        · refine inZ_congr (v := stk (blockZ g C) R (m + 1) i) (inZ_unit row0 hgR) (fun j _ => ?_)
          unfold stk
          (try dsimp only)
          (repeat' split) <;> first | rfl | omega
        · refine inZ_congr (v := stk (blockZ g C) R (m + 1) i) (inZ_row (B := blockZ g (stk C R m)) (k := i - 1) (by omega)) (fun j _ => ?_)
          unfold stk blockZ
          (try dsimp only)
          (repeat' split) <;> first | rfl | omega
    · by_cases c : i < m + 1
      · refine inZ_congr (v := blockZ g (stk C R m) i) (inZ_row (B := stk (blockZ g C) R (m + 1)) (k := i) hi) (fun j _ => ?_)
        unfold stk blockZ
        (try dsimp only)
        (repeat' split) <;> first | rfl | omega
      · by_cases c3 : i = N
        · refine inZ_congr (v := blockZ g (stk C R m) i) inZ_zero (fun j hj => ?_)
          unfold stk blockZ
          (try dsimp only)
          (repeat' split) <;> first | rfl | omega
        · refine inZ_congr (v := blockZ g (stk C R m) i) (inZ_row (B := stk (blockZ g C) R (m + 1)) (k := i + 1) (by omega)) (fun j _ => ?_)
          unfold stk blockZ
          (try dsimp only)
          (repeat' split) <;> first | rfl | omega
  have b3 : eqvZ (fun i j => if i = j then (fun i => if i = 0 then g else s (i - 1)) i else 0) (stk (blockZ g C) R (m + 1)) (N + 1) (n + 1) := by
    refine (b1.trans b2.symm).congr (fun i hi j hj => ?_) (fun _ _ _ _ => rfl)
    unfold blockZ
    try dsimp only
    by_cases c : i = 0
    · rw [if_pos c, if_pos c]
      by_cases c2 : j = 0
      · rw [if_pos c2, if_pos (by omega)]
      · rw [if_neg c2, if_neg (by omega)]
    · rw [if_neg c, if_neg c]
      by_cases c2 : j = 0
      · rw [if_pos c2, if_neg (by omega)]
      · rw [if_neg c2]
        by_cases c3 : i = j
        · rw [if_pos c3, if_pos (by omega)]
        · rw [if_neg c3, if_neg (by omega)]
  have hch : ∀ i j, i ≤ j → (fun i => if i = 0 then g else s (i - 1)) i ∣ (fun i => if i = 0 then g else s (i - 1)) j := fun i j hij => by
    dsimp only
    by_cases c : i = 0
    · rw [if_pos c]
      split
      · exact Int.dvd_refl _
      · exact hgs _
    · rw [if_neg c, if_neg (by omega)]
      exact s1 _ _ (by omega)
  have e := smith_same hd hch d0 (fun i => by (try dsimp only); split; omega; exact s2 _) h b3
  refine ⟨e 0 (by omega) (by omega), s4.congr (fun i hi j hj => ?_) (fun _ _ _ _ => rfl)⟩
  unfold dia
  by_cases c : i = j
  · rw [if_pos c, if_pos c]
    have := e (i + 1) (by omega) (by omega)
    try dsimp only at this
    rw [if_neg (by omega), Nat.add_sub_cancel] at this
    exact this
  · rw [if_neg c, if_neg c]
