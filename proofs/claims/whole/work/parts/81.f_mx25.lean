/-! ===== a greatest common divisor as a sum ===== -/
/-- Euclid's numbers: za and zb out of p and X, with the factors u, v, s, t -/
def BZ (p X za zb u v s t : Int) : Prop := za = u * p + v * X ∧ zb = s * p + t * X ∧ Int.gcd za zb = Int.gcd p X ∧ 0 ≤ zb ∧ (0 < za ∨ s = 0) ∧ (0 < za ∨ 0 < zb) ∧ za.natAbs ≤ p.natAbs + X.natAbs ∧ zb ≤ X ∧ u.natAbs ≤ X.natAbs ∧ s.natAbs ≤ X.natAbs ∧ ((0 ≤ s ∧ u ≤ 0 ∧ s * za - u * zb = X) ∨ (s ≤ 0 ∧ 0 ≤ u ∧ u * zb - s * za = X))
theorem BZ_start {p X : Int} (h : 0 < X) : BZ p X p X 1 0 0 1 := by
  refine ⟨by omega, by omega, rfl, by omega, Or.inr rfl, Or.inr h, by omega, by omega, by omega, by omega, Or.inr ⟨by omega, by omega, by omega⟩⟩
theorem BZ.step {p X za zb u v s t : Int} (h : BZ p X za zb u v s t) (hb : 0 < zb) (hX : 0 < X) : BZ p X zb (za % zb) s t (u - za / zb * s) (v - za / zb * t) := by
  obtain ⟨h1, h2, h3, h4, h5, h6, h7, h8, h9, h10, h11⟩ := h
  have hm0 := Int.emod_nonneg za (show zb ≠ 0 by omega)
  have hm1 := Int.emod_lt_of_pos za hb
  have he := Int.mul_ediv_add_emod za zb
  have hq : za / zb * s = 0 ∨ 0 ≤ za / zb := by
    rcases h5 with g | g
    · exact Or.inr (Int.ediv_nonneg (by omega) (by omega))
    · exact Or.inl (by rw [g, Int.mul_zero])
  have hgcd := gcd_step za zb
  generalize za / zb = q at he hq
  generalize za % zb = r at hm0 hm1 he hgcd
  have hsgn : (0 ≤ u - q * s ∧ s ≤ 0 ∧ (u - q * s) * zb - s * r = X) ∨ (u - q * s ≤ 0 ∧ 0 ≤ s ∧ s * r - (u - q * s) * zb = X) := by
    rcases h11 with ⟨a1, a2, a3⟩ | ⟨a1, a2, a3⟩
    · refine Or.inr ⟨?_, a1, ?_⟩
      · rcases hq with g | g
        · omega
        · have := Int.mul_nonneg g a1; omega
      · rw [← a3, ← he]; grind
    · refine Or.inl ⟨?_, a1, ?_⟩
      · rcases hq with g | g
        · omega
        · have := Int.mul_nonneg g (show 0 ≤ -s by omega)
          have e : q * -s = -(q * s) := by grind
          omega
      · rw [← a3, ← he]; grind
  have hbig : (u - q * s).natAbs ≤ X.natAbs := by
    have key : ∀ y x : Int, 0 ≤ y → 0 ≤ x → y * zb + x * r = X → y ≤ X := fun y x hy hx e => by
      have a1 : y * 1 ≤ y * zb := Int.mul_le_mul_of_nonneg_left (by omega) hy
      have a2 := Int.mul_nonneg hx hm0
      omega
    rcases hsgn with ⟨a1, a2, a3⟩ | ⟨a1, a2, a3⟩
    · have := key _ (-s) a1 (by omega) (by rw [← a3]; grind)
      omega
    · have := key (-(u - q * s)) s (by omega) a2 (by rw [← a3]; grind)
      omega
  exact ⟨h2, by rw [show r = za - q * zb by rw [← he]; grind, h1, h2]; grind, by rw [hgcd, h3], hm0, Or.inl hb, Or.inl hb, by omega, by omega, h10, hbig, by
    rcases hsgn with g | g
    · exact Or.inl g
    · exact Or.inr g⟩
/-- the other factors are not much longer -/
theorem BZ.sizes {p X za zb u v s t : Int} (h : BZ p X za zb u v s t) (hX : 0 < X) : v.natAbs ≤ 2 * p.natAbs + 1 ∧ t.natAbs ≤ 2 * p.natAbs + 1 := by
  obtain ⟨h1, h2, h3, h4, h5, h6, h7, h8, h9, h10, h11⟩ := h
  have key : ∀ y f z : Int, z = f * p + y * X → z.natAbs ≤ p.natAbs + X.natAbs → f.natAbs ≤ X.natAbs → y.natAbs ≤ 2 * p.natAbs + 1 := fun y f z e hz hf => by
    have a1 : (y * X).natAbs ≤ z.natAbs + (f * p).natAbs := by rw [show y * X = z - f * p by omega]; omega
    rw [Int.natAbs_mul, Int.natAbs_mul] at a1
    have a2 : f.natAbs * p.natAbs ≤ X.natAbs * p.natAbs := Nat.mul_le_mul_right _ hf
    have a3 : p.natAbs ≤ X.natAbs * p.natAbs := Nat.le_mul_of_pos_left _ (by omega)
    have a4 : y.natAbs * X.natAbs ≤ (2 * p.natAbs + 1) * X.natAbs := by
      rw [Nat.add_mul, Nat.mul_assoc, Nat.mul_comm p.natAbs X.natAbs]
      omega
    exact Nat.le_of_mul_le_mul_right a4 (by omega)
  exact ⟨key v u za h1 h7 h9, key t s zb h2 (by omega) h10⟩
theorem BZ.done {p X za u v s t : Int} (h : BZ p X za 0 u v s t) : za = Int.gcd p X ∧ za = u * p + v * X := by
  obtain ⟨h1, h2, h3, h4, h5, h6, -⟩ := h
  refine ⟨?_, h1⟩
  rw [← h3, Int.gcd_zero_right]
  omega
