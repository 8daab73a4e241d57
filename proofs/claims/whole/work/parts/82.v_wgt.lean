/-! ===== what the weight bounds ===== -/
theorem nmax_ge {f : Nat → Nat} : ∀ {n i : Nat}, i < n → f i ≤ nmax f n
  | 0, i, h => absurd h (Nat.not_lt_zero _)
  | n + 1, i, h => by
    show f i ≤ max (nmax f n) (f n)
    by_cases c : i = n
    · rw [c]; exact Nat.le_max_right ..
    · exact Nat.le_trans (nmax_ge (show i < n by omega)) (Nat.le_max_left ..)
theorem lcmf_least {z C : Int} {f : Nat → Nat} (hz : z ∣ C) : ∀ {n : Nat}, (∀ j, j < n → (f j : Int) ∣ C) → lcmf z f n ∣ C
  | 0, _ => hz
  | n + 1, h => by
    show (Int.lcm (lcmf z f n) (f n : Int) : Int) ∣ C
    exact Int.dvd_natAbs.mp (Int.natCast_dvd_natCast.mpr (Nat.lcm_dvd (Int.natAbs_dvd_natAbs.mpr (lcmf_least hz (fun j hj => h j (by omega)))) (Int.natAbs_dvd_natAbs.mpr (h n (by omega)))))
theorem lcmf_start {z : Int} {f : Nat → Nat} : ∀ {n : Nat}, z ∣ lcmf z f n
  | 0 => Int.dvd_refl _
  | n + 1 => Int.dvd_trans (lcmf_start (n := n)) (Int.dvd_lcm_left ..)
theorem blen_pow (z : Int) : z.natAbs < 2 ^ blen z := by
  unfold blen
  by_cases e : z = 0
  · rw [e]; exact Nat.pow_pos (by decide)
  · rw [if_neg e]
    exact (Nat.log2_lt (by omega)).mp (Nat.lt_succ_self _)
/-- a cell times a multiple of its lower part -/
theorem cell_times {q : Rat} {l : Int} (h : (q.den : Int) ∣ l) : (l : Rat) * q = ((l / (q.den : Int) * q.num : Int) : Rat) := by
  have hd0 : (q.den : Int) ≠ 0 := by have := q.den_nz; omega
  obtain ⟨e, he⟩ := h
  rw [he, Int.mul_ediv_cancel_left _ hd0, Rat.intCast_mul, Rat.intCast_mul]
  have hp := (Rat.num_divInt_den q).symm
  rw [Rat.divInt_eq_div] at hp
  have d1 : ((q.den : Int) : Rat) ≠ 0 := fun e => hd0 (Rat.intCast_inj.mp (e.trans (show (0 : Rat) = ((0 : Int) : Rat) from rfl)))
  generalize ((q.den : Int) : Rat) = a at hp d1 ⊢
  generalize (q.num : Rat) = x at hp ⊢
  generalize (e : Rat) = y
  rw [hp]
  grind
theorem hvy_pow {k b : Nat} (hk : 1 ≤ k) (h : ¬ hvy k b) : (k * 2 ^ b) ^ k ≤ 2 ^ 2000 := by
  unfold hvy at h
  have h1 : k * 2 ^ b ≤ 2 ^ (lgc k + b) := by rw [Nat.pow_add]; exact Nat.mul_le_mul_right _ (lgc_le hk)
  refine Nat.le_trans (Nat.pow_le_pow_left h1 k) ?_
  rw [← Nat.pow_mul]
  exact Nat.pow_le_pow_right (by decide) (by rw [Nat.mul_comm, Nat.add_comm]; omega)
theorem pow_s {x w a s : Nat} (h : x ≤ 2 ^ 2000) (hw : w ≤ 2 ^ a) (hs : 2000 + a < 15 * s) : x * w < 32768 ^ s := by
  refine Nat.lt_of_le_of_lt (Nat.mul_le_mul h hw) ?_
  rw [← Nat.pow_add, show (32768 : Nat) = 2 ^ 15 from rfl, ← Nat.pow_mul]
  exact Nat.pow_lt_pow_right (by decide) hs
section WGT
variable {q : Nat → Rat} {m n : Nat}
/-- a row's lower parts divide what makes it whole -/
theorem rowD_dvd {i j : Nat} {z : Int} (hj : j < n) : ((q (i * n + j)).den : Int) ∣ rowD q n i z := lcmf_dvd' (f := fun j => (q (i * n + j)).den) hj
theorem rowD_pos {i : Nat} {z : Int} (hz : 0 < z) : 0 < rowD q n i z := lcmf_pos hz (fun j _ => (q (i * n + j)).den_pos)
theorem rowD_le {i : Nat} (h : fitC q (m * n)) (hi : i < m) : (rowD q n i 1).natAbs ≤ 2 ^ 4000 := by
  have h1 : rowD q n i 1 ∣ lcmf 1 (fun j => (q j).den) (m * n) := lcmf_least (Int.one_dvd _) (fun j hj => lcmf_dvd' (f := fun j => (q j).den) (cell_lt hi hj))
  have h2 : 0 < lcmf 1 (fun j => (q j).den) (m * n) := lcmf_pos (by decide) (fun i _ => (q i).den_pos)
  have h3 := Nat.le_of_dvd (by omega) (Int.natAbs_dvd_natAbs.mpr h1)
  have h4 := h.1 _ (Nat.le_refl _)
  have h5 := blen_pow (lcmf 1 (fun j => (q j).den) (m * n))
  have h6 : 2 ^ blen (lcmf 1 (fun j => (q j).den) (m * n)) ≤ 2 ^ 4000 := Nat.pow_le_pow_right (by decide) h4
  omega
theorem wcell {i j b : Nat} {z : Int} (hj : j < n) (hb : rowL q n i (rowD q n i z) ≤ b) : zle (2 ^ b) ((rowD q n i z : Rat) * q (i * n + j)) := by
  refine ⟨_, cell_times (rowD_dvd hj), ?_⟩
  have h1 := blen_pow (rowD q n i z / ((q (i * n + j)).den : Int) * (q (i * n + j)).num)
  have h2 : blen (rowD q n i z / ((q (i * n + j)).den : Int) * (q (i * n + j)).num) ≤ rowL q n i (rowD q n i z) := nmax_ge (f := fun j => blen (rowD q n i z / ((q (i * n + j)).den : Int) * (q (i * n + j)).num)) hj
  have h3 : 2 ^ blen (rowD q n i z / ((q (i * n + j)).den : Int) * (q (i * n + j)).num) ≤ 2 ^ b := Nat.pow_le_pow_right (by decide) (Nat.le_trans h2 hb)
  omega
/-- the sizes on the way of elimination -/
theorem wgt_one (hf : fitC q (m * n)) (hm : 1 ≤ m) (hn : 1 ≤ n) (hh : ¬ hvy (min m n) (nmax (fun k => rowL q n k (rowD q n k 1)) m)) : ∃ b0 : Nat, 1 ≤ b0 ∧ (∀ i, i < m → ∀ j, j < n → zle b0 ((rowD q n i 1 : Rat) * q (i * n + j))) ∧ (∀ i, i < m → zle (2 ^ 4000) (rowD q n i 1 : Rat) ∧ (rowD q n i 1 : Rat) ≠ 0) ∧ (min m n * b0) ^ min m n ≤ 2 ^ 2000 := by
  refine ⟨2 ^ nmax (fun k => rowL q n k (rowD q n k 1)) m, Nat.pow_pos (by decide), fun i hi j hj => wcell hj (nmax_ge (f := fun k => rowL q n k (rowD q n k 1)) hi), fun i hi => ⟨⟨_, rfl, rowD_le hf hi⟩, fun e => ?_⟩, hvy_pow (by omega) hh⟩
  have h1 := Rat.intCast_inj.mp (e.trans (show (0 : Rat) = ((0 : Int) : Rat) from rfl))
  have := rowD_pos (q := q) (n := n) (i := i) (z := 1) (by decide)
  omega
end WGT
/-- the weight of two matrices side by side -/
theorem wgt_two {q qb : Nat → Rat} {m n nb : Nat} (hf : fitC q (m * n)) (hfb : fitC qb (m * nb)) (hm : 1 ≤ m) (hn : 1 ≤ n) (hh : ¬ hvy (min m (n + nb)) (nmax (fun k => max (rowL q n k (rowD qb nb k (rowD q n k 1))) (rowL qb nb k (rowD qb nb k (rowD q n k 1)))) m)) : ∃ b0 : Nat, 1 ≤ b0 ∧ (∀ i, i < m → (∀ j, j < n → zle b0 ((rowD qb nb i (rowD q n i 1) : Rat) * q (i * n + j))) ∧ ∀ j, j < nb → zle b0 ((rowD qb nb i (rowD q n i 1) : Rat) * qb (i * nb + j))) ∧ (∀ i, i < m → zle (2 ^ 6000) (rowD qb nb i (rowD q n i 1) : Rat) ∧ (rowD qb nb i (rowD q n i 1) : Rat) ≠ 0) ∧ (min m (n + nb) * b0) ^ min m (n + nb) ≤ 2 ^ 2000 := by
  obtain ⟨b, hb⟩ : ∃ b, nmax (fun k => max (rowL q n k (rowD qb nb k (rowD q n k 1))) (rowL qb nb k (rowD qb nb k (rowD q n k 1)))) m = b := ⟨_, rfl⟩
  have hrow : ∀ i, i < m → rowL q n i (rowD qb nb i (rowD q n i 1)) ≤ b ∧ rowL qb nb i (rowD qb nb i (rowD q n i 1)) ≤ b := fun i hi => by
    have := nmax_ge (f := fun k => max (rowL q n k (rowD qb nb k (rowD q n k 1))) (rowL qb nb k (rowD qb nb k (rowD q n k 1)))) hi
    rw [hb] at this
    exact Nat.max_le.mp this
  have hpw := hvy_pow (k := min m (n + nb)) (by omega) hh
  rw [hb] at hpw
  have hb2 : b ≤ 2000 := by
    unfold hvy at hh
    rw [hb] at hh
    have h1 : 1 * (b + lgc (min m (n + nb))) ≤ min m (n + nb) * (b + lgc (min m (n + nb))) := Nat.mul_le_mul_right _ (by omega)
    omega
  have hpos : ∀ i, 0 < rowD qb nb i (rowD q n i 1) := fun i => rowD_pos (rowD_pos (by decide))
  have hda : ∀ i j, j < n → ((q (i * n + j)).den : Int) ∣ rowD qb nb i (rowD q n i 1) := fun i j hj => Int.dvd_trans (rowD_dvd hj) lcmf_start
  have cellb : ∀ (r : Rat) (l : Int), 0 < l → (r.den : Int) ∣ l → blen (l / (r.den : Int) * r.num) ≤ b → zle (2 ^ b) ((l : Rat) * r) := fun r l _ h1 h2 => ⟨_, cell_times h1, by
    have h3 := blen_pow (l / (r.den : Int) * r.num)
    have h4 : 2 ^ blen (l / (r.den : Int) * r.num) ≤ 2 ^ b := Nat.pow_le_pow_right (by decide) h2
    omega⟩
  have hla : ∀ i, i < m → ∀ j, j < n → blen (rowD qb nb i (rowD q n i 1) / ((q (i * n + j)).den : Int) * (q (i * n + j)).num) ≤ b := fun i hi j hj => Nat.le_trans (nmax_ge (f := fun j => blen (rowD qb nb i (rowD q n i 1) / ((q (i * n + j)).den : Int) * (q (i * n + j)).num)) hj) (hrow i hi).1
  have hlb : ∀ i, i < m → ∀ j, j < nb → blen (rowD qb nb i (rowD q n i 1) / ((qb (i * nb + j)).den : Int) * (qb (i * nb + j)).num) ≤ b := fun i hi j hj => Nat.le_trans (nmax_ge (f := fun j => blen (rowD qb nb i (rowD q n i 1) / ((qb (i * nb + j)).den : Int) * (qb (i * nb + j)).num)) hj) (hrow i hi).2
  -- a cell that is not 0 bounds the row's multiple
  have big : ∀ (r : Rat) (l : Int), 0 < l → (r.den : Int) ∣ l → r.num ≠ 0 → blen (l / (r.den : Int) * r.num) ≤ b → (r.den : Int).natAbs ≤ 2 ^ 4000 → l.natAbs ≤ 2 ^ 6000 := fun r l h0 h1 h2 h3 h4 => by
    obtain ⟨e, he⟩ := h1
    have hd0 : (r.den : Int) ≠ 0 := by have := r.den_nz; omega
    rw [he, Int.mul_ediv_cancel_left _ hd0] at h3
    have h5 := blen_pow (e * r.num)
    rw [Int.natAbs_mul] at h5
    have h6 : e.natAbs * 1 ≤ e.natAbs * r.num.natAbs := Nat.mul_le_mul_left _ (by omega)
    have h7 : 2 ^ blen (e * r.num) ≤ 2 ^ 2000 := Nat.pow_le_pow_right (by decide) (by omega)
    rw [he, Int.natAbs_mul]
    have h8 : (r.den : Int).natAbs * e.natAbs ≤ 2 ^ 4000 * 2 ^ 2000 := Nat.mul_le_mul h4 (by omega)
    rw [← Nat.pow_add] at h8
    exact h8
  have hden : ∀ {q : Nat → Rat} {k j : Nat}, fitC q k → j < k → ((q j).den : Int).natAbs ≤ 2 ^ 4000 := fun {q k j} h hj => by
    have h1 : ((q j).den : Int) ∣ lcmf 1 (fun j => (q j).den) k := lcmf_dvd' (f := fun j => (q j).den) hj
    have h2 : 0 < lcmf 1 (fun j => (q j).den) k := lcmf_pos (by decide) (fun i _ => (q i).den_pos)
    have h3 := Nat.le_of_dvd (by omega) (Int.natAbs_dvd_natAbs.mpr h1)
    have h4 := h.1 _ (Nat.le_refl _)
    have h5 := blen_pow (lcmf 1 (fun j => (q j).den) k)
    have h6 : 2 ^ blen (lcmf 1 (fun j => (q j).den) k) ≤ 2 ^ 4000 := Nat.pow_le_pow_right (by decide) h4
    omega
  refine ⟨2 ^ b, Nat.pow_pos (by decide), fun i hi => ⟨fun j hj => cellb _ _ (hpos i) (hda i j hj) (hla i hi j hj), fun j hj => cellb _ _ (hpos i) (rowD_dvd hj) (hlb i hi j hj)⟩, fun i hi => ⟨⟨_, rfl, ?_⟩, fun e => ?_⟩, hpw⟩
  · by_cases c1 : ∃ j, j < n ∧ (q (i * n + j)).num ≠ 0
    · obtain ⟨j, hj, hne⟩ := c1
      exact big _ _ (hpos i) (hda i j hj) hne (hla i hi j hj) (hden hf (cell_lt hi hj))
    · by_cases c2 : ∃ j, j < nb ∧ (qb (i * nb + j)).num ≠ 0
      · obtain ⟨j, hj, hne⟩ := c2
        exact big _ _ (hpos i) (rowD_dvd hj) hne (hlb i hi j hj) (hden hfb (cell_lt hi hj))
      · have hz : ∀ {r : Rat}, r.num = 0 → (r.den : Int) = 1 := fun {r} h => by rw [Rat.num_eq_zero.mp h]; rfl
        have h1 : rowD qb nb i (rowD q n i 1) ∣ 1 := lcmf_least (lcmf_least (Int.one_dvd _) (fun j hj => by rw [hz (Decidable.byContradiction fun h => c1 ⟨j, hj, h⟩)]; exact Int.dvd_refl _)) (fun j hj => by rw [hz (Decidable.byContradiction fun h => c2 ⟨j, hj, h⟩)]; exact Int.dvd_refl _)
        have h2 := Nat.le_of_dvd (by decide) (Int.natAbs_dvd_natAbs.mpr h1)
        have h3 : 1 ≤ 2 ^ 6000 := Nat.pow_pos (by decide)
        exact Nat.le_trans h2 h3
  · have h1 := Rat.intCast_inj.mp (e.trans (show (0 : Rat) = ((0 : Int) : Rat) from rfl))
    have := hpos i
    omega
