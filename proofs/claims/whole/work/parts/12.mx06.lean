/-! ===== the Smith form is the only one ===== -/
/-- T is made of S by whole combinations of rows and of columns -/
def madeOf (T S : qmat) (m n : Nat) : Prop := ∃ U V : qmat, (∀ i a, isZ (U i a)) ∧ (∀ b j, isZ (V b j)) ∧ ∀ i, i < m → ∀ j, j < n → T i j = qsum (fun a => U i a * qsum (fun b => S a b * V b j) n) m
theorem madeOf_minor {T S : qmat} {m n k : Nat} {d : Int} (h : madeOf T S m n) (hd : ∀ f g : Nat → Nat, (∀ i, i < k → f i < m) → (∀ i, i < k → g i < n) → gdiv d (det k (fun i j => S (f i) (g j)))) {f g : Nat → Nat} (hf : ∀ i, i < k → f i < m) (hg : ∀ i, i < k → g i < n) : gdiv d (det k (fun i j => T (f i) (g j))) := by
  obtain ⟨U, V, hU, hV, hT⟩ := h
  refine minor_rows (S := fun a j => qsum (fun b => S a b * V b j) n) (U := U) (m := m) (mT := m) (fun i _ l _ => hU i l) (fun i hi j hj => hT i hi (g j) (hg j hj)) (fun f' hf' => ?_) hf
  have e1 : det k (fun i j => qsum (fun b => S (f' i) b * V b (g j)) n) = det k (fun j i => qsum (fun b => V b (g j) * S (f' i) b) n) := by
    rw [← det_T]
    exact det_congr (fun i _ j _ => qsum_congr (fun b _ => by grind))
  rw [e1]
  refine minor_rows (S := fun b a => S a b) (T := fun j a => qsum (fun b => V b j * S a b) n) (U := fun j b => V b j) (m := n) (mT := n) (g := f') (f := g) (fun i _ l _ => hV l i) (fun i _ j _ => rfl) (fun g' hg' => ?_) hg
  rw [show (fun i j => S (f' j) (g' i)) = fun i j => (fun a b => S (f' a) (g' b)) j i from rfl, det_T]
  exact hd f' g' hf' hg'
theorem zprod_zero {s : Nat → Int} (hs : ∀ i j, i ≤ j → s i ∣ s j) : ∀ {k : Nat}, zprod s k = 0 → s k = 0
  | 0, h => absurd h (show ¬ (1 : Int) = 0 by decide)
  | k + 1, h => by
    have h' : zprod s k * s k = 0 := h
    rcases Int.mul_eq_zero.mp h' with g | g
    · have := zprod_zero hs g
      have d := hs k (k + 1) (by omega)
      rw [this] at d
      exact Int.zero_dvd.mp d
    · have d := hs k (k + 1) (by omega)
      rw [g] at d
      exact Int.zero_dvd.mp d
theorem zprod_nonneg {s : Nat → Int} (h : ∀ i, 0 ≤ s i) : ∀ k, 0 ≤ zprod s k
  | 0 => show (0 : Int) ≤ 1 by decide
  | k + 1 => Int.mul_nonneg (zprod_nonneg h k) (h k)
theorem gdiv_int {a b : Int} (h : gdiv a (b : Rat)) : a ∣ b := by
  obtain ⟨z, hz⟩ := h
  rw [← Rat.intCast_mul] at hz
  exact ⟨z, Rat.intCast_inj.mp hz⟩
theorem smith_unique {s t : Nat → Int} {m n : Nat} (hs : ∀ i j, i ≤ j → s i ∣ s j) (ht : ∀ i j, i ≤ j → t i ∣ t j) (s0 : ∀ i, 0 ≤ s i) (t0 : ∀ i, 0 ≤ t i) (h1 : madeOf (diagM t) (diagM s) m n) (h2 : madeOf (diagM s) (diagM t) m n) : ∀ k, k < m → k < n → s k = t k := by
  have dv : ∀ {s t : Nat → Int}, (∀ i j, i ≤ j → s i ∣ s j) → madeOf (diagM t) (diagM s) m n → ∀ k, k ≤ m → k ≤ n → zprod s k ∣ zprod t k := fun {s t} hs h k hm hn => by
    refine gdiv_int ?_
    rw [← diag_lead]
    exact madeOf_minor h (fun f g _ _ => diag_minor hs k f g) (f := fun i => i) (g := fun i => i) (fun i hi => by omega) (fun i hi => by omega)
  have pe : ∀ k, k ≤ m → k ≤ n → zprod s k = zprod t k := fun k hm hn => Int.dvd_antisymm (zprod_nonneg s0 k) (zprod_nonneg t0 k) (dv hs h1 k hm hn) (dv ht h2 k hm hn)
  intro k hm hn
  have e0 := pe k (by omega) (by omega)
  have e1 : zprod s k * s k = zprod t k * t k := pe (k + 1) (by omega) (by omega)
  by_cases c : zprod s k = 0
  · rw [zprod_zero hs c, zprod_zero ht (by rw [← e0]; exact c)]
  · rw [← e0] at e1
    exact Int.eq_of_mul_eq_mul_left c e1
