/-! ===== both eliminations meet; Cramer's rule; putting back ===== -/
theorem joint_step {A B : qmat} {m r p c : Nat} (h : ∀ i, r ≤ i → i < m → ∀ j, B i j = A i j) (hp : r ≤ p) (hpm : p < m) : ∀ i, r + 1 ≤ i → i < m → ∀ j, fw B r p c i j = gj A r p c i j := by
  intro i hi him j
  have e : ∀ j, rswap B r p i j = A (if i = p then r else i) j := fun j => by
    show B (if i = r then p else if i = p then r else i) j = _
    rw [if_neg (by omega)]
    exact h _ (by split <;> omega) (by split <;> omega) j
  unfold fw
  rw [if_neg (by omega), gj_o A (by omega), e, e, h p hp hpm, h p hp hpm]
theorem cramer {A E : qmat} {r i j : Nat} {g : Nat → Nat} (hi : i < r) (h : ∀ a, a < r → A a j = qsum (fun k => E k j * A a (g k)) r) : det r (fun a b => A a (if b = i then j else g b)) = E i j * det r (fun a b => A a (g b)) := by
  rw [← det_T r (fun a b => A a (if b = i then j else g b)), ← det_T r (fun a b => A a (g b))]
  have e1 : det r (fun b a => A a (if b = i then j else g b)) = det r (rput (fun b a => A a (g b)) i (fun a => qsum (fun k => E k j * A a (g k)) r)) := by
    refine det_congr (fun b _ a ha => ?_)
    by_cases c : b = i
    · subst c
      rw [rput_at, if_pos rfl, h a ha]
    · rw [rput_ne _ _ _ c, if_neg c]
  rw [e1, det_linsum (u := fun k a => A a (g k)) hi, qsum_one hi (fun k hk hne => ?_)]
  · have : rput (fun b a => A a (g b)) i (fun a => A a (g i)) = fun b a => A a (g b) := rput_self (fun b a => A a (g b)) i
    rw [this]
  · have : det r (rput (fun b a => A a (g b)) i (fun a => A a (g k))) = 0 := det_same hi hk (fun e => hne e.symm) (fun a _ => by rw [rput_at, rput_ne _ _ _ hne])
    rw [this]
    grind
/-- a row of the row space, by its cells in the pivots' columns -/
theorem rref_expand {E : qmat} {n r : Nat} {p : Nat → Nat} (hE : rref E n r p) {v : Nat → Rat} (h : ∃ c : Nat → Rat, ∀ j, j < n → v j = qsum (fun k => c k * E k j) r) {j : Nat} (hj : j < n) : v j = qsum (fun k => v (p k) * E k j) r := by
  obtain ⟨c, hc⟩ := h
  rw [hc j hj]
  exact qsum_congr (fun k hk => by rw [rref_coef hE hc hk])
/-- the sum from k = lo on -/
theorem qsum_from {f : Nat → Rat} {lo : Nat} : ∀ {n : Nat}, lo ≤ n → (∀ k, k < lo → f k = 0) → qsum f n = qsum (fun k => f (lo + k)) (n - lo)
  | 0, h, _ => by
    have e : lo = 0 := by omega
    subst e
    rfl
  | n + 1, h, hz => by
    by_cases c : lo = n + 1
    · rw [c, Nat.sub_self, qsum_zero (fun k hk => hz k (by omega))]
      rfl
    · show qsum f n + f n = _
      rw [qsum_from (by omega) hz, show n + 1 - lo = n - lo + 1 by omega]
      show _ = qsum _ (n - lo) + f (lo + (n - lo))
      rw [show lo + (n - lo) = n by omega]
/-- one step of putting back -/
theorem back_step {r i : Nat} {G E : qmat} {p : Nat → Nat} {j : Nat} {L : Rat} (hi : i < r) (h0 : G i (p i) ≠ 0) (hz : ∀ k, k < i → G i (p k) = 0) (hG : G i j = qsum (fun k => G i (p k) * E k j) r) : (L * G i j - qsum (fun k => G i (p (i + 1 + k)) * (L * E (i + 1 + k) j)) (r - (i + 1))) / G i (p i) = L * E i j := by
  have e1 : G i j = G i (p i) * E i j + qsum (fun k => G i (p (i + 1 + k)) * E (i + 1 + k) j) (r - (i + 1)) := by
    rw [hG, qsum_from (lo := i) (by omega) (fun k hk => by rw [hz k hk]; grind), show r - i = r - (i + 1) + 1 by omega, qsum_head]
    rw [Nat.add_zero]
    congr 1
    exact qsum_congr (fun k _ => by rw [show i + (k + 1) = i + 1 + k by omega])
  have e2 : qsum (fun k => G i (p (i + 1 + k)) * (L * E (i + 1 + k) j)) (r - (i + 1)) = L * qsum (fun k => G i (p (i + 1 + k)) * E (i + 1 + k) j) (r - (i + 1)) := by
    rw [qsum_mul]
    exact qsum_congr (fun k _ => by grind)
  rw [e2, e1]
  generalize qsum (fun k => G i (p (i + 1 + k)) * E (i + 1 + k) j) (r - (i + 1)) = s
  grind
