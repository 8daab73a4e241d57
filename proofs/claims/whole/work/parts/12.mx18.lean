/-! ===== a Hermite form turned over and made a Hermite form again: rows split off, or a pivot falls ===== -/
theorem least_ne {v : Nat → Int} {n : Nat} (h : ∃ l, l < n ∧ v l ≠ 0) : ∃ l, l < n ∧ v l ≠ 0 ∧ ∀ j, j < l → v j = 0 := by
  obtain ⟨k, hk, hc⟩ := h
  induction k using Nat.strongRecOn with
  | ind k ih =>
    by_cases g : ∃ i, i < k ∧ v i ≠ 0
    · obtain ⟨i, hi, gi⟩ := g
      exact ih i hi (by omega) gi
    · exact ⟨k, hk, hc, fun i hi => Classical.byContradiction (fun gi => g ⟨i, hi, gi⟩)⟩
/-- what is in the lattice and less than every pivot is 0 -/
theorem herm_small {H : imat} {r : Nat} (hH : hermF H r r (fun i => i)) {v : Nat → Int} (hv : inZ v H r r) (h : ∀ k, k < r → 0 ≤ v k ∧ (v k < H k k ∨ v k = 0)) : ∀ k, k < r → v k = 0 := by
  intro k hk
  refine Classical.byContradiction (fun hne => ?_)
  obtain ⟨l, hl, hlne, hlz⟩ := least_ne ⟨k, hk, hne⟩
  obtain ⟨c, hc⟩ := hv
  obtain ⟨x, hx, hxl, hz⟩ := stairs_lead hH.1 hc hl hlz hlne
  have e := (stairs_first hH.1 hc hx hz).1
  have hp : 0 < H x x := hH.1.2.2.2 x hx
  have hxl' : x = l := hxl
  subst hxl'
  obtain ⟨h1, h2⟩ := h x hx
  have e' : v x = c x * H x x := e
  rcases h2 with h2 | h2
  · rcases Int.lt_trichotomy (c x) 0 with g | g | g
    · have : c x * H x x ≤ -1 * H x x := Int.mul_le_mul_of_nonneg_right (by omega) (by omega)
      omega
    · rw [g, Int.zero_mul] at e'; exact hlne e'
    · have : 1 * H x x ≤ c x * H x x := Int.mul_le_mul_of_nonneg_right (by omega) (by omega)
      omega
  · exact hlne h2
theorem herm_dvd {H : imat} {r : Nat} (hH : hermF H r r (fun i => i)) {v : Nat → Int} (hv : inZ v H r r) {i : Nat} (hi : i < r) (hz : ∀ j, j < i → v j = 0) : H i i ∣ v i := by
  by_cases e : v i = 0
  · rw [e]; exact ⟨0, by omega⟩
  · obtain ⟨c, hc⟩ := hv
    obtain ⟨x, hx, hxl, hz'⟩ := stairs_lead hH.1 hc hi hz e
    have hxl' : x = i := hxl
    subst hxl'
    have := (stairs_first hH.1 hc hx hz').1
    exact ⟨c x, by rw [Int.mul_comm]; exact this⟩
/-- a multiple of a unit row in the lattice that the pivot equals: the row is that -/
theorem herm_unitrow {H : imat} {r i : Nat} {d : Int} (hH : hermF H r r (fun i => i)) (hi : i < r) (hd : inZ (fun j => if j = i then d else 0) H r r) (he : H i i = d) : ∀ j, j < r → j ≠ i → H i j = 0 := by
  have hv : inZ (fun j => H i j + -1 * (if j = i then d else 0)) H r r := inZ_add (inZ_row hi) (inZ_smul (-1) hd)
  have z := herm_small hH hv (fun k hk => by
    rcases Nat.lt_trichotomy k i with g | g | g
    · have : H i k = 0 := hH.1.2.2.1 i hi k g
      rw [if_neg (by omega), this]
      exact ⟨by omega, Or.inr (by omega)⟩
    · subst g
      rw [if_pos rfl, he]
      exact ⟨by omega, Or.inr (by omega)⟩
    · obtain ⟨a, b⟩ := hH.2 i k g hk
      have a' : 0 ≤ H i k := a
      have b' : H i k < H k k := b
      rw [if_neg (by omega)]
      exact ⟨by omega, Or.inl (by omega)⟩)
  intro j hj hne
  have := z j hj
  rw [if_neg hne] at this
  omega
theorem herm_split {H H' : imat} {r s : Nat} (hH : hermF H r r (fun i => i)) (hH' : hermF H' r r (fun i => i)) (h1 : rowsZ H' r (fun i j => H j i) r r) (h2 : rowsZ (fun i j => H j i) r H' r r) (hsr : s ≤ r) (hs : ∀ i, i < s → ∀ j, j < r → j ≠ i → H i j = 0) : (∀ i, i < s → H' i i = H i i ∧ ∀ j, j < r → j ≠ i → H' i j = 0) ∧ (s < r → H' s s ≤ H s s ∧ (H' s s = H s s → ∀ j, j < r → j ≠ s → H' s j = 0)) := by
  -- the rows up to s of the turned matrix are multiples of unit rows
  have unit : ∀ i, i < r → (∀ j, j < i → ∀ k, k < r → k ≠ j → H j k = 0) → inZ (fun j => if j = i then H i i else 0) H' r r := fun i hi hz => by
    refine inZ_congr (inZ_trans (inZ_row (B := fun i j => H j i) hi) h2) (fun j hj => ?_)
    by_cases e : j = i
    · rw [if_pos e, e]
    · rw [if_neg e]
      rcases Nat.lt_or_ge j i with g | g
      · exact (hz j g i hi (fun e' => e e'.symm)).symm
      · exact (hH.1.2.2.1 j hj i (show i < j by omega)).symm
  have hpos : ∀ i, i < r → 0 < H i i := hH.1.2.2.2
  have hpos' : ∀ i, i < r → 0 < H' i i := hH'.1.2.2.2
  have dv1 : ∀ i, i < r → (∀ j, j < i → ∀ k, k < r → k ≠ j → H j k = 0) → H' i i ∣ H i i := fun i hi hz => by
    have := herm_dvd hH' (unit i hi hz) hi (fun j hj => if_neg (by omega))
    rw [if_pos rfl] at this
    exact this
  refine ⟨fun i hi => ?_, fun hlt => ?_⟩
  · have hz : ∀ j, j < i → ∀ k, k < r → k ≠ j → H j k = 0 := fun j hj => hs j (by omega)
    have hir : i < r := by omega
    -- only row i has something in column i
    have dv2 : H i i ∣ H' i i := by
      obtain ⟨c, hc⟩ := h1 i hir
      have e := hc i hir
      rw [isum_one hir (fun k hk hne => by dsimp only; rw [hs i hi k hk hne, Int.mul_zero])] at e
      exact ⟨c i, by rw [e, Int.mul_comm]⟩
    have he := Int.dvd_antisymm (by have := hpos' i hir; omega) (by have := hpos i hir; omega) (dv1 i hir hz) dv2
    exact ⟨he, herm_unitrow hH' hir (unit i hir hz) he⟩
  · have hz : ∀ j, j < s → ∀ k, k < r → k ≠ j → H j k = 0 := fun j hj => hs j hj
    have d := dv1 s hlt hz
    exact ⟨Int.le_of_dvd (hpos s hlt) d, fun he => herm_unitrow hH' hlt (unit s hlt hz) he⟩
