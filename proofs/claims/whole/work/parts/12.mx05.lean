/-! ===== minors, and the Smith form that is the only one ===== -/
/-- the whole number g divides q -/
def gdiv (g : Int) (q : Rat) : Prop := ∃ z : Int, q = (g : Rat) * (z : Rat)
theorem gdiv_zero (g : Int) : gdiv g 0 := ⟨0, by simp⟩
theorem gdiv_add {g : Int} {a b : Rat} (ha : gdiv g a) (hb : gdiv g b) : gdiv g (a + b) := by
  obtain ⟨x, rfl⟩ := ha
  obtain ⟨y, rfl⟩ := hb
  exact ⟨x + y, by rw [Rat.intCast_add]; grind⟩
theorem gdiv_mul {g : Int} {a b : Rat} (ha : isZ a) (hb : gdiv g b) : gdiv g (a * b) := by
  obtain ⟨x, rfl⟩ := ha
  obtain ⟨y, rfl⟩ := hb
  exact ⟨x * y, by rw [Rat.intCast_mul]; grind⟩
theorem gdiv_sum {g : Int} {f : Nat → Rat} : ∀ {n : Nat}, (∀ i, i < n → gdiv g (f i)) → gdiv g (qsum f n)
  | 0, _ => gdiv_zero g
  | n + 1, h => gdiv_add (gdiv_sum (fun i hi => h i (by omega))) (h n (Nat.lt_succ_self n))
/-- rows that are whole combinations: their minors -/
theorem minor_rows {S T : qmat} {m k : Nat} {U : qmat} {d : Int} {mT : Nat} (hU : ∀ i, i < mT → ∀ l, l < m → isZ (U i l)) {g : Nat → Nat} (hT : ∀ i, i < mT → ∀ j, j < k → T i (g j) = qsum (fun l => U i l * S l (g j)) m) (h : ∀ f : Nat → Nat, (∀ i, i < k → f i < m) → gdiv d (det k (fun i j => S (f i) (g j)))) {f : Nat → Nat} (hf : ∀ i, i < k → f i < mT) : gdiv d (det k (fun i j => T (f i) (g j))) := by
  have step : ∀ e t, k = t + e → ∀ f' : Nat → Nat, (∀ i, i < t → f' i < m) → gdiv d (det k (fun i j => if i < t then S (f' i) (g j) else T (f i) (g j))) := by
    intro e
    induction e with
    | zero =>
      intro t ht f' hf'
      have : det k (fun i j => if i < t then S (f' i) (g j) else T (f i) (g j)) = det k (fun i j => S (f' i) (g j)) := det_congr (fun i hi j hj => if_pos (by omega))
      rw [this]
      exact h f' (fun i hi => hf' i (by omega))
    | succ e ih =>
      intro t ht f' hf'
      have e1 : det k (fun i j => if i < t then S (f' i) (g j) else T (f i) (g j)) = det k (rput (fun i j => if i < t then S (f' i) (g j) else T (f i) (g j)) t (fun j => qsum (fun l => U (f t) l * S l (g j)) m)) := by
        refine det_congr (fun i hi j hj => ?_)
        by_cases c : i = t
        · subst c
          rw [rput_at, if_neg (by omega)]
          exact hT (f i) (hf i hi) j hj
        · rw [rput_ne _ _ _ c]
      rw [e1, det_linsum (by omega)]
      refine gdiv_sum (fun l hl => gdiv_mul (hU (f t) (hf t (by omega)) l hl) ?_)
      have e2 : det k (rput (fun i j => if i < t then S (f' i) (g j) else T (f i) (g j)) t (fun j => S l (g j))) = det k (fun i j => if i < t + 1 then S ((fun x => if x = t then l else f' x) i) (g j) else T (f i) (g j)) := by
        refine det_congr (fun i hi j hj => ?_)
        by_cases c : i = t
        · subst c
          rw [rput_at, if_pos (by omega)]
          show _ = S (if i = i then l else f' i) (g j)
          rw [if_pos rfl]
        · rw [rput_ne _ _ _ c]
          show _ = if i < t + 1 then S (if i = t then l else f' i) (g j) else T (f i) (g j)
          rw [if_neg c]
          by_cases c2 : i < t
          · rw [if_pos c2, if_pos (by omega)]
          · rw [if_neg c2, if_neg (by omega)]
      rw [e2]
      refine ih (t + 1) (by omega) _ (fun i hi => ?_)
      show (if i = t then l else f' i) < m
      split
      · exact hl
      · exact hf' i (by omega)
  have := step k 0 (by omega) (fun _ => 0) (fun i hi => by omega)
  have e0 : det k (fun i j => if i < 0 then S 0 (g j) else T (f i) (g j)) = det k (fun i j => T (f i) (g j)) := det_congr (fun i hi j hj => if_neg (by omega))
  rw [← e0]
  exact this
/-- no k numbers below j, all of them different, where j < k -/
theorem pigeon : ∀ (k : Nat) {f : Nat → Nat} {j : Nat}, (∀ a b, a < k → b < k → f a = f b → a = b) → (∀ a, a < k → f a < j) → k ≤ j
  | 0, _, _, _, _ => Nat.zero_le _
  | k + 1, f, j, hi, hb => by
    cases j with
    | zero => have := hb 0 (by omega); omega
    | succ j =>
      -- bring j out of the way
      have := pigeon k (f := fun a => if f a = j then f k else f a) (j := j) (fun a b ha hb' e => by
        have h1 : (if f a = j then f k else f a) = (if f b = j then f k else f b) := e
        by_cases c1 : f a = j
        · by_cases c2 : f b = j
          · exact hi a b (by omega) (by omega) (by rw [c1, c2])
          · rw [if_pos c1, if_neg c2] at h1
            have := hi k b (by omega) (by omega) h1
            omega
        · rw [if_neg c1] at h1
          by_cases c2 : f b = j
          · rw [if_pos c2] at h1
            have := hi a k (by omega) (by omega) h1
            omega
          · rw [if_neg c2] at h1
            exact hi a b (by omega) (by omega) h1) (fun a ha => by
        show (if f a = j then f k else f a) < j
        have h2 := hb a (by omega)
        have h3 := hb k (by omega)
        split
        · rename_i c
          rcases Nat.lt_or_ge (f k) j with g | g
          · exact g
          · have := hi a k (by omega) (by omega) (by omega); omega
        · omega)
      omega
def zprod (s : Nat → Int) : Nat → Int
  | 0 => 1
  | n + 1 => zprod s n * s n
theorem zprod_skp (s : Nat → Int) {i : Nat} : ∀ {n : Nat}, i < n + 1 → zprod s (n + 1) = s i * zprod (fun r => s (skp i r)) n
  | 0, h => by
    have e : i = 0 := by omega
    subst e
    show 1 * s 0 = s 0 * 1
    omega
  | n + 1, h => by
    show zprod s (n + 1) * s (n + 1) = s i * (zprod (fun r => s (skp i r)) n * s (skp i n))
    by_cases c : i = n + 1
    · subst c
      have e : ∀ m, m ≤ n + 1 → zprod (fun r => s (skp (n + 1) r)) m = zprod s m := by
        intro m
        induction m with
        | zero => intro _; rfl
        | succ m ih =>
          intro hm
          show zprod _ m * s (skp (n + 1) m) = zprod s m * s m
          rw [ih (by omega), show skp (n + 1) m = m by unfold skp; rw [if_pos (by omega)]]
      rw [e n (by omega), show skp (n + 1) n = n by unfold skp; rw [if_pos (by omega)]]
      show zprod s n * s n * s (n + 1) = s (n + 1) * (zprod s n * s n)
      rw [Int.mul_comm]
    · rw [zprod_skp s (show i < n + 1 by omega), show skp i n = n + 1 by unfold skp; rw [if_neg (by omega)], Int.mul_assoc]
/-- a chain of divisors: any k of its numbers have the first k as a divisor -/
theorem chain_div {s : Nat → Int} (hs : ∀ i j, i ≤ j → s i ∣ s j) : ∀ (k : Nat) {f : Nat → Nat}, (∀ a b, a < k → b < k → f a = f b → a = b) → zprod s k ∣ zprod (fun i => s (f i)) k
  | 0, _, _ => ⟨1, rfl⟩
  | k + 1, f, hi => by
    have hex : ∃ a, a < k + 1 ∧ k ≤ f a := Classical.byContradiction (fun hn => by
      have := pigeon (k + 1) (j := k) hi (fun a ha => by
        rcases Nat.lt_or_ge (f a) k with g | g
        · exact g
        · exact absurd ⟨a, ha, g⟩ hn)
      omega)
    obtain ⟨a, ha, hk⟩ := hex
    rw [zprod_skp (fun i => s (f i)) ha]
    have ih := chain_div hs k (f := fun r => f (skp a r)) (fun x y hx hy e => by
      have := hi (skp a x) (skp a y) (skp_lt hx) (skp_lt hy) e
      unfold skp at this
      split at this <;> split at this <;> omega)
    show zprod s k * s k ∣ _
    rw [Int.mul_comm]
    exact Int.mul_dvd_mul (hs k (f a) hk) ih
theorem det_scale : ∀ {k : Nat} {a : Nat → Rat} {P : qmat}, det k (fun i j => a i * P i j) = qprod a k * det k P := by
  intro k a P
  have step : ∀ t, t ≤ k → det k (fun i j => if i < t then a i * P i j else P i j) = qprod a t * det k P := by
    intro t
    induction t with
    | zero =>
      intro _
      have : det k (fun i j => if i < 0 then a i * P i j else P i j) = det k P := det_congr (fun i hi j hj => if_neg (by omega))
      rw [this]
      show _ = 1 * _
      grind
    | succ t ih =>
      intro ht
      have e1 : det k (fun i j => if i < t + 1 then a i * P i j else P i j) = det k (rput (fun i j => if i < t then a i * P i j else P i j) t (fun j => a t * P t j + 0 * P t j)) := by
        refine det_congr (fun i hi j hj => ?_)
        by_cases c : i = t
        · subst c
          rw [rput_at, if_pos (by omega)]
          grind
        · rw [rput_ne _ _ _ c]
          by_cases c2 : i < t
          · rw [if_pos c2, if_pos (by omega)]
          · rw [if_neg c2, if_neg (by omega)]
      have e2 : rput (fun i j => if i < t then a i * P i j else P i j) t (P t) = fun i j => if i < t then a i * P i j else P i j := by
        funext i j
        by_cases c : i = t
        · subst c
          rw [rput_at, if_neg (by omega)]
        · rw [rput_ne _ _ _ c]
      rw [e1, det_lin (by omega), e2, ih (by omega)]
      show _ = qprod a t * a t * _
      grind
  have := step k (Nat.le_refl k)
  rw [← this]
  exact det_congr (fun i hi j hj => by rw [if_pos hi])
theorem qprod_cast (s : Nat → Int) : ∀ k, qprod (fun i => (s i : Rat)) k = ((zprod s k : Int) : Rat)
  | 0 => rfl
  | k + 1 => by
    show qprod _ k * (s k : Rat) = ((zprod s k * s k : Int) : Rat)
    rw [qprod_cast s k, Rat.intCast_mul]
def diagM (s : Nat → Int) : qmat := fun i j => if i = j then (s i : Rat) else 0
theorem isZ_ind (p : Prop) [Decidable p] : isZ (if p then 1 else 0) := by
  split
  · exact ⟨1, rfl⟩
  · exact ⟨0, rfl⟩
theorem diag_minor {s : Nat → Int} (hs : ∀ i j, i ≤ j → s i ∣ s j) (k : Nat) (f g : Nat → Nat) : gdiv (zprod s k) (det k (fun i j => diagM s (f i) (g j))) := by
  have e : (fun i j => diagM s (f i) (g j)) = fun i j => (s (f i) : Rat) * (if f i = g j then 1 else 0) := by
    funext i j
    unfold diagM
    split <;> grind
  rw [e, det_scale (a := fun i => (s (f i) : Rat))]
  by_cases hi : ∀ a b, a < k → b < k → f a = f b → a = b
  · obtain ⟨c, hc⟩ := chain_div hs k hi
    obtain ⟨z, hz⟩ := isZ_det (n := k) (M := fun i j => if f i = g j then 1 else 0) (fun i _ j _ => isZ_ind _)
    refine ⟨c * z, ?_⟩
    rw [qprod_cast (fun i => s (f i)), hc, hz, Rat.intCast_mul, Rat.intCast_mul]
    grind
  · have : ∃ a b, a < k ∧ b < k ∧ f a = f b ∧ a ≠ b := Classical.byContradiction (fun hn => hi (fun a b ha hb e => Classical.byContradiction (fun c => hn ⟨a, b, ha, hb, e, c⟩)))
    obtain ⟨a, b, ha, hb, e, c⟩ := this
    have z : det k (fun i j => if f i = g j then (1 : Rat) else 0) = 0 := det_same ha hb c (fun j _ => by rw [e])
    rw [z]
    exact ⟨0, by simp⟩
theorem diag_lead (s : Nat → Int) (k : Nat) : det k (diagM s) = ((zprod s k : Int) : Rat) := by
  rw [det_tri (fun i _ j hj => by unfold diagM; rw [if_neg (by omega)]), ← qprod_cast]
  congr 1
  funext i
  unfold diagM
  rw [if_pos rfl]
