/-! ===== sizes of the Hermite form's product ===== -/
theorem herm_sizes {Y : imat} {A : qmat} {r n Bd : Nat} {L : Int} (hY : ∀ i k, i < r → k < r → (Y i k).natAbs ≤ Bd) (hW : ∀ k j, k < r → j < n → zle Bd (A k j * L)) {i j : Nat} (hi : i < r) (hj : j < n) {K : Nat} (hK : K ≤ r) : zle (K * (Bd * Bd)) (qsum (fun k => ((Y i k : Int) : Rat) * A k j) K * L) := by
  have e : qsum (fun k => ((Y i k : Int) : Rat) * A k j) K * L = qsum (fun k => ((Y i k : Int) : Rat) * (A k j * L)) K := by
    rw [show ∀ x y : Rat, x * y = y * x from fun x y => by grind, qsum_mul]
    exact qsum_congr (fun k _ => by grind)
  rw [e]
  exact zle_sum (fun k hk => zle_mul ⟨Y i k, rfl, hY i k hi (by omega)⟩ (hW k j (by omega) hj))
theorem den_dvd {q : Rat} {L w : Int} (h : q * L = w) : (q.den : Int) ∣ L := by
  have hd : (q.den : Int) ≠ 0 := by have := q.den_nz; omega
  have hq : q = (q.num : Rat) / ((q.den : Int) : Rat) := by
    have := (Rat.num_divInt_den q).symm
    rw [Rat.divInt_eq_div] at this
    exact this
  have hdr : ((q.den : Int) : Rat) ≠ 0 := fun e => hd (Rat.intCast_inj.mp (e.trans (show (0 : Rat) = ((0 : Int) : Rat) from rfl)))
  have hx : q.num * L = w * (q.den : Int) := by
    apply Rat.intCast_inj.mp
    rw [Rat.intCast_mul, Rat.intCast_mul, ← h]
    generalize ((q.den : Int) : Rat) = dd at hq hdr
    generalize (q.num : Rat) = nn at hq
    rw [hq]
    grind
  have hco : Nat.Coprime q.num.natAbs q.den := q.reduced
  have hn : q.num.natAbs * L.natAbs = w.natAbs * q.den := by
    have := congrArg Int.natAbs hx
    rw [Int.natAbs_mul, Int.natAbs_mul] at this
    exact this
  have d1 : q.den ∣ L.natAbs := Nat.Coprime.dvd_of_dvd_mul_left (Nat.Coprime.symm hco) ⟨w.natAbs, by rw [hn, Nat.mul_comm]⟩
  exact Int.dvd_natAbs.mp (Int.natCast_dvd_natCast.mpr d1)
/-- the matrix for triangle has the lattice of the rows at the pivots' columns -/
theorem herm_lat {Bz Z0 : imat} {m r : Nat} {g1 g2 : Nat → Nat} {D : Int} (hg1 : ∀ i, i < r → g1 i < m) (hD : det r (fun a b => zq Bz (g1 a) (g2 b)) = (D : Rat)) (h1 : ∀ i, i < m → ∀ j, j < r → Z0 i j = Bz i (g2 j)) (h2 : ∀ k, k < r → ∀ j, j < r → Z0 (m + k) j = if j = k then (D.natAbs : Int) else 0) : rowsZ Z0 (m + r) (fun i k => Bz i (g2 k)) m r ∧ rowsZ (fun i k => Bz i (g2 k)) m Z0 (m + r) r := by
  refine ⟨fun i hi => ?_, rowsZ_rows (fun i hi => ⟨i, by omega, fun j hj => (h1 i hi j hj).symm⟩)⟩
  by_cases c : i < m
  · exact inZ_congr (inZ_row c) (fun j hj => h1 i c j hj)
  · have hP : rowsZ (fun a b => Bz (g1 a) (g2 b)) r (fun i k => Bz i (g2 k)) m r := rowsZ_rows (fun a ha => ⟨g1 a, hg1 a ha, fun j _ => rfl⟩)
    have hin := inZ_trans (det_in (P := fun a b => Bz (g1 a) (g2 b)) hD (show i - m < r by omega)) hP
    obtain ⟨e, he⟩ : ∃ e : Int, (D.natAbs : Int) = e * D := by
      rcases (show 0 ≤ D ∨ D < 0 by omega) with g | g
      · exact ⟨1, by omega⟩
      · exact ⟨-1, by omega⟩
    refine inZ_congr (inZ_smul e hin) (fun j hj => ?_)
    have := h2 (i - m) (by omega) j hj
    rw [show m + (i - m) = i by omega] at this
    rw [this]
    split
    · rw [he]
    · omega
theorem herm_sizes2 {Y : imat} {A : qmat} {r n Bd Bd2 : Nat} {L : Int} (hY : ∀ i k, i < r → k < r → (Y i k).natAbs ≤ Bd2) (hW : ∀ k j, k < r → j < n → zle Bd (A k j * L)) {i j : Nat} (hi : i < r) (hj : j < n) {K : Nat} (hK : K ≤ r) : zle (K * (Bd2 * Bd)) (qsum (fun k => ((Y i k : Int) : Rat) * A k j) K * L) := by
  have e : qsum (fun k => ((Y i k : Int) : Rat) * A k j) K * L = qsum (fun k => ((Y i k : Int) : Rat) * (A k j * L)) K := by
    rw [show ∀ x y : Rat, x * y = y * x from fun x y => by grind, qsum_mul]
    exact qsum_congr (fun k _ => by grind)
  rw [e]
  exact zle_sum (fun k hk => zle_mul ⟨Y i k, rfl, hY i k hi (by omega)⟩ (hW k j (by omega) hj))
/-- a Hermite form's cells are no longer than a determinant of rows of its lattice -/
theorem herm_le_det {Y Bz : imat} {m r : Nat} {x g2 : Nat → Nat} {D : Int} (hx : ∀ i, i < r → x i < m) (hD : det r (fun a b => zq Bz (x a) (g2 b)) = (D : Rat)) (hD0 : D ≠ 0) (hY1 : hermF Y r r (fun i => i)) (hY3 : rowsZ (fun i k => Bz i (g2 k)) m Y r r) : ∀ i k, i < r → k < r → (Y i k).natAbs ≤ D.natAbs := by
  intro i k hi hk
  have hP : rowsZ (fun a b => Bz (x a) (g2 b)) r (fun i k => Bz i (g2 k)) m r := rowsZ_rows (fun a ha => ⟨x a, hx a ha, fun j _ => rfl⟩)
  have hin := inZ_trans (inZ_trans (det_in (P := fun a b => Bz (x a) (g2 b)) hD hk) hP) hY3
  have hdv := herm_dvd hY1 hin hk (fun j hj => if_neg (by omega))
  rw [if_pos rfl] at hdv
  have hle : (Y k k).natAbs ≤ D.natAbs := Nat.le_of_dvd (by omega) (Int.natAbs_dvd_natAbs.mpr hdv)
  rcases Nat.lt_trichotomy i k with h | h | h
  · have h9 : 0 ≤ Y i k ∧ Y i k < Y k k := hY1.2 i k h hk
    omega
  · rw [h]; exact hle
  · have := hY1.1.2.2.1 i hi k h
    rw [this]; exact Nat.zero_le _
