/-! ===== sums over pivots' columns and free columns; the kernel ===== -/
theorem qsum_pick {p : Nat → Nat} {n : Nat} {g : Nat → Rat} : ∀ {r : Nat}, (∀ i, i < r → p i < n) → (∀ i k, i < k → k < r → p i < p k) → qsum (fun k => g (p k)) r = qsum (fun j => if ∃ k, k < r ∧ p k = j then g j else 0) n
  | 0, _, _ => by
    show (0 : Rat) = _
    rw [qsum_zero (fun j _ => if_neg (fun ⟨k, hk, _⟩ => by omega))]
  | r + 1, h1, h2 => by
    show qsum (fun k => g (p k)) r + g (p r) = _
    rw [qsum_pick (fun i hi => h1 i (by omega)) (fun i k h3 h4 => h2 i k h3 (by omega))]
    have e : qsum (fun j => if j = p r then g j else 0) n = g (p r) := by
      rw [qsum_one (h1 r (by omega)) (fun j _ hj => if_neg hj), if_pos rfl]
    rw [← e, ← qsum_add]
    refine qsum_congr (fun j _ => ?_)
    by_cases c1 : j = p r
    · have c2 : ¬ ∃ k, k < r ∧ p k = j := fun ⟨k, hk, e⟩ => by have := h2 k r hk (by omega); omega
      rw [if_neg c2, if_pos c1, if_pos ⟨r, by omega, c1.symm⟩]
      grind
    · rw [if_neg c1]
      by_cases c2 : ∃ k, k < r ∧ p k = j
      · rw [if_pos c2, if_pos (by obtain ⟨k, hk, e⟩ := c2; exact ⟨k, by omega, e⟩)]
        grind
      · rw [if_neg c2, if_neg (fun ⟨k, hk, e⟩ => by
          rcases Nat.eq_or_lt_of_le (Nat.le_of_lt_succ hk) with g | g
          · exact c1 (by rw [← e, g])
          · exact c2 ⟨k, g, e⟩)]
        grind
/-- pivots' columns p and free columns q are all columns, each once -/
def parts2 (n r f : Nat) (p q : Nat → Nat) : Prop := (∀ i, i < r → p i < n) ∧ (∀ i k, i < k → k < r → p i < p k) ∧ (∀ i, i < f → q i < n) ∧ (∀ i k, i < k → k < f → q i < q k) ∧ (∀ j, j < n → (∃ k, k < r ∧ p k = j) ∨ ∃ k, k < f ∧ q k = j) ∧ ∀ i k, i < r → k < f → p i ≠ q k
theorem qsum_parts {n r f : Nat} {p q : Nat → Nat} (h : parts2 n r f p q) (g : Nat → Rat) : qsum g n = qsum (fun k => g (p k)) r + qsum (fun k => g (q k)) f := by
  obtain ⟨h1, h2, h3, h4, h5, h6⟩ := h
  rw [qsum_pick h1 h2, qsum_pick h3 h4, ← qsum_add]
  refine qsum_congr (fun j hj => ?_)
  by_cases c : ∃ k, k < r ∧ p k = j
  · have c2 : ¬ ∃ k, k < f ∧ q k = j := fun ⟨k, hk, e⟩ => by
      obtain ⟨k', hk', e'⟩ := c
      exact h6 k' k hk' hk (by rw [e, e'])
    rw [if_pos c, if_neg c2]
    grind
  · have c2 : ∃ k, k < f ∧ q k = j := by
      rcases h5 j hj with g | g
      · exact absurd g c
      · exact g
    rw [if_neg c, if_pos c2]
    grind
/-- v is sent to 0 by the rows of A -/
def inKer (A : qmat) (m n : Nat) (v : Nat → Rat) : Prop := ∀ i, i < m → qsum (fun j => A i j * v j) n = 0
theorem inKer_rows {A B : qmat} {m s n : Nat} {v : Nat → Rat} (h : rowsIn A m B s n) (hv : inKer B s n v) : inKer A m n v := by
  intro i hi
  obtain ⟨c, hc⟩ := h i hi
  have e : qsum (fun j => A i j * v j) n = qsum (fun j => qsum (fun k => c k * (B k j * v j)) s) n := qsum_congr (fun j hj => by
    rw [hc j hj, show ∀ x y : Rat, x * y = y * x from fun x y => by grind, qsum_mul]
    exact qsum_congr (fun k _ => by grind))
  rw [e, qsum_comm]
  refine qsum_zero (fun k hk => ?_)
  rw [← qsum_mul, hv k hk]
  grind
/-- the rows of the kernel, one a free column -/
def kerM (E : qmat) (r : Nat) (p q : Nat → Nat) (K : qmat) (f n : Nat) : Prop := (∀ i, i < f → ∀ k, k < f → K i (q k) = if k = i then 1 else 0) ∧ ∀ i, i < f → ∀ k, k < r → K i (p k) = -E k (q i)
theorem ker_span {E K : qmat} {n r f : Nat} {p q : Nat → Nat} (hE : rref E n r p) (hp : parts2 n r f p q) (hK : kerM E r p q K f n) {v : Nat → Rat} (hv : inKer E r n v) : ∃ c : Nat → Rat, ∀ j, j < n → v j = qsum (fun k => c k * K k j) f := by
  refine ⟨fun k => v (q k), fun j hj => ?_⟩
  rcases hp.2.2.2.2.1 j hj with ⟨k, hk, e⟩ | ⟨k, hk, e⟩
  · -- a pivot's column
    have h := hv k hk
    rw [qsum_parts hp, qsum_one hk (fun i hi hne => by rw [hE.2.2.2.2 k i hk hi (fun e => hne e.symm)]; grind), hE.2.2.2.1 k hk] at h
    rw [← e]
    have e2 : qsum (fun i => v (q i) * K i (p k)) f = -qsum (fun i => E k (q i) * v (q i)) f := by
      rw [show ∀ x : Rat, -x = (-1) * x from fun x => by grind, qsum_mul]
      exact qsum_congr (fun i hi => by rw [hK.2 i hi k hk]; grind)
    rw [e2]
    grind
  · rw [← e, qsum_one hk (fun i hi hne => by rw [hK.1 i hi k hk, if_neg (fun e => hne e.symm)]; grind), hK.1 k hk k hk, if_pos rfl]
    grind
theorem ker_in {E K : qmat} {n r f : Nat} {p q : Nat → Nat} (hE : rref E n r p) (hp : parts2 n r f p q) (hK : kerM E r p q K f n) {i : Nat} (hi : i < f) : inKer E r n (K i) := by
  intro k hk
  rw [qsum_parts hp, qsum_one hk (fun l hl hne => by rw [hE.2.2.2.2 k l hk hl (fun e => hne e.symm)]; grind), hE.2.2.2.1 k hk, hK.2 i hi k hk, qsum_one hi (fun l hl hne => by rw [hK.1 i hi l hl, if_neg hne]; grind), hK.1 i hi i hi, if_pos rfl]
  grind
/-- two bases of one kernel -/
theorem ker_same {A E E' K K' : qmat} {m n r r' f f' : Nat} {p q p' q' : Nat → Nat} (hE : rref E n r p) (hE' : rref E' n r' p') (h1 : rowsIn A m E r n) (h2 : rowsIn E r A m n) (h1' : rowsIn A m E' r' n) (h2' : rowsIn E' r' A m n) (hp : parts2 n r f p q) (hp' : parts2 n r' f' p' q') (hK : kerM E r p q K f n) (hK' : kerM E' r' p' q' K' f' n) : rowsIn K f K' f' n := fun i hi => ker_span hE' hp' hK' (inKer_rows h2' (inKer_rows h1 (ker_in hE hp hK hi)))
