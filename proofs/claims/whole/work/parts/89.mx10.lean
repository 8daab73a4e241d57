/-! ===== both eliminations meet; Cramer's rule; putting back ===== -/
theorem joint_step {A B : qmat} {m r p c : Nat} (h : ∀ i, r ≤ i → i < m → ∀ j, B i j = A i j) (hp : r ≤ p) (hpm : p < m) : ∀ i, r + 1 ≤ i → i < m → ∀ j, fw B r p c i j = gj A r p c i j := by
  intro i hi him j
  have e : ∀ j, rswap B r p i j = A (if i = p then r else i) j := fun j => by
    show B (if i = r then p else if i = p then r else i) j = _
    rw [if_neg (by omega)]
    exact h _ (by split <;> omega) (by split <;> omega) j
  unfold fw
  rw [if_neg (by omega), gj_o A (by omega), e, e, h p hp hpm, h p hp hpm]
theorem cramer {A E : qmat} {r i j : Nat} {g : Nat → Nat} (hi : i < r) (h : ∀ a, a < r → A a j = qsum (fun k => E k j * A a (g k)) r) : det r (fun a b => A a (if b = i then j else g b)) = E i j * det r (fun a b => A a (g b)) := by
  rw [← det_T r (fun a b => A a (if b = i then j else g b)), ← det_T r (fun a b => A a (g b))]
  have e1 : det r (fun b a => A a (if b = i then j else g b)) = det r (rput (fun b a => A a (g b)) i (fun a => qsum (fun k => E k j * A a (g k)) r)) := by
    refine det_congr (fun b _ a ha => ?_)
    by_cases c : b = i
    · subst c
      rw [rput_at, if_pos rfl, h a ha]
    · rw [rput_ne _ _ _ c, if_neg c]
  rw [e1, det_linsum (u := fun k a => A a (g k)) hi, qsum_one hi (fun k hk hne => ?_)]
  · have : rput (fun b a => A a (g b)) i (fun a => A a (g i)) = fun b a => A a (g b) := rput_self (fun b a => A a (g b)) i
    rw [this]
  · have : det r (rput (fun b a => A a (g b)) i (fun a => A a (g k))) = 0 := det_same hi hk (fun e => hne e.symm) (fun a _ => by rw [rput_at, rput_ne _ _ _ hne])
    rw [this]
    grind
/-- a row of the row space, by its cells in the pivots' columns -/
theorem rref_expand {E : qmat} {n r : Nat} {p : Nat → Nat} (hE : rref E n r p) {v : Nat → Rat} (h : ∃ c : Nat → Rat, ∀ j, j < n → v j = qsum (fun k => c k * E k j) r) {j : Nat} (hj : j < n) : v j = qsum (fun k => v (p k) * E k j) r := by
  obtain ⟨c, hc⟩ := h
  rw [hc j hj]
  exact qsum_congr (fun k hk => by rw [rref_coef hE hc hk])
/-- the sum from k = lo on -/
theorem qsum_from {f : Nat → Rat} {lo : Nat} : ∀ {n : Nat}, lo ≤ n → (∀ k, k < lo → f k = 0) → qsum f n = qsum (fun k => f (lo + k)) (n - lo)
  | 0, h, _ => by
    have e : lo = 0 := by omega
    subst e
    rfl
  | n + 1, h, hz => by
    by_cases c : lo = n + 1
    · rw [c, Nat.sub_self, qsum_zero (fun k hk => hz k (by omega))]
      rfl
    · show qsum f n + f n = _
      rw [qsum_from (by omega) hz, show n + 1 - lo = n - lo + 1 by omega]
      show _ = qsum _ (n - lo) + f (lo + (n - lo))
      rw [show lo + (n - lo) = n by omega]
/-- one step of putting back -/
theorem back_step {r i : Nat} {G E : qmat} {p : Nat → Nat} {j : Nat} {L : Rat} (hi : i < r) (h0 : G i (p i) ≠ 0) (hz : ∀ k, k < i → G i (p k) = 0) (hG : G i j = qsum (fun k => G i (p k) * E k j) r) : (L * G i j - qsum (fun k => G i (p (i + 1 + k)) * (L * E (i + 1 + k) j)) (r - (i + 1))) / G i (p i) = L * E i j := by
  have e1 : G i j = G i (p i) * E i j + qsum (fun k => G i (p (i + 1 + k)) * E (i + 1 + k) j) (r - (i + 1)) := by
    rw [hG, qsum_from (lo := i) (by omega) (fun k hk => by rw [hz k hk]; grind), show r - i = r - (i + 1) + 1 by omega, qsum_head]
    rw [Nat.add_zero]
    congr 1
    exact qsum_congr (fun k _ => by rw [show i + (k + 1) = i + 1 + k by omega])
  have e2 : qsum (fun k => G i (p (i + 1 + k)) * (L * E (i + 1 + k) j)) (r - (i + 1)) = L * qsum (fun k => G i (p (i + 1 + k)) * E (i + 1 + k) j) (r - (i + 1)) := by
    rw [qsum_mul]
    exact qsum_congr (fun k _ => by grind)
  rw [e2, e1]
  generalize qsum (fun k => G i (p (i + 1 + k)) * E (i + 1 + k) j) (r - (i + 1)) = s
  grind
/-! ===== determinants that are 0; rows in another order; rows of a lattice ===== -/
theorem det_hole : ∀ {c n : Nat} {M : qmat}, c < n → (∀ i, c ≤ i → i < n → ∀ j, j ≤ c → M i j = 0) → det n M = 0
  | _, 0, _, h, _ => by omega
  | 0, n + 1, M, _, h => by
    rw [det_succ]
    exact qsum_zero (fun i hi => by rw [h i (by omega) hi 0 (by omega)]; grind)
  | c + 1, n + 1, M, hc, h => by
    rw [det_succ]
    refine qsum_zero (fun i hi => ?_)
    by_cases g : c + 1 ≤ i
    · rw [h i g hi 0 (by omega)]; grind
    · have : det n (fun r k => M (skp i r) (k + 1)) = 0 := det_hole (c := c) (by omega) (fun r h1 h2 j hj => by
        show M (skp i r) (j + 1) = 0
        unfold skp
        rw [if_neg (by omega)]
        exact h (r + 1) (by omega) (by omega) (j + 1) (by omega))
      rw [this]
      grind
/-- one of k different numbers below k is t -/
theorem pigeon_hit {k : Nat} {f : Nat → Nat} (hi : ∀ a b, a < k → b < k → f a = f b → a = b) (hb : ∀ a, a < k → f a < k) {t : Nat} (ht : t < k) : ∃ a, a < k ∧ f a = t := Classical.byContradiction (fun hn => by
  have := pigeon k (f := fun a => if f a = k - 1 then t else f a) (j := k - 1) (fun a b ha hb' e => by
    have e' : (if f a = k - 1 then t else f a) = (if f b = k - 1 then t else f b) := e
    by_cases c1 : f a = k - 1
    · by_cases c2 : f b = k - 1
      · exact hi a b ha hb' (by omega)
      · rw [if_pos c1, if_neg c2] at e'
        exact absurd ⟨b, hb', e'.symm⟩ hn
    · rw [if_neg c1] at e'
      by_cases c2 : f b = k - 1
      · rw [if_pos c2] at e'
        exact absurd ⟨a, ha, e'⟩ hn
      · rw [if_neg c2] at e'
        exact hi a b ha hb' e') (fun a ha => by
    show (if f a = k - 1 then t else f a) < k - 1
    have := hb a ha
    split
    · rename_i c
      rcases Nat.lt_or_ge t (k - 1) with g | g
      · exact g
      · exact absurd ⟨a, ha, by omega⟩ hn
    · omega)
  omega)
theorem det_perm {k : Nat} {M : qmat} {f : Nat → Nat} (hi : ∀ a b, a < k → b < k → f a = f b → a = b) (hb : ∀ a, a < k → f a < k) : det k (fun i => M (f i)) = det k M ∨ det k (fun i => M (f i)) = -det k M := by
  have step : ∀ e t, k = t + e → ∀ f : Nat → Nat, (∀ a b, a < k → b < k → f a = f b → a = b) → (∀ a, a < k → f a < k) → (∀ a, a < t → f a = a) → det k (fun i => M (f i)) = det k M ∨ det k (fun i => M (f i)) = -det k M := by
    intro e
    induction e with
    | zero =>
      intro t ht f _ _ hf
      exact Or.inl (det_congr (fun i hi j _ => by rw [hf i (by omega)]))
    | succ e ih =>
      intro t ht f hi hb hf
      obtain ⟨a, ha, hat⟩ := pigeon_hit hi hb (show t < k by omega)
      by_cases c : a = t
      · exact ih (t + 1) (by omega) f hi hb (fun x hx => by
          by_cases g : x = t
          · rw [g, ← c, hat, c]
          · exact hf x (by omega))
      · have hta : t < a := by
          rcases Nat.lt_or_ge a t with g | g
          · have := hf a g; omega
          · omega
        have sw := det_swap (n := k) (M := fun i => M (f i)) (i := t) (k := a) (by omega) ha (by omega)
        have r := ih (t + 1) (by omega) (fun x => f (if x = t then a else if x = a then t else x)) (fun x y hx hy e => by
          have := hi _ _ (show (if x = t then a else if x = a then t else x) < k by split <;> (try split) <;> omega) (show (if y = t then a else if y = a then t else y) < k by split <;> (try split) <;> omega) e
          split at this <;> split at this <;> (try split at this) <;> (try split at this) <;> omega) (fun x hx => hb _ (by split <;> (try split) <;> omega)) (fun x hx => by
          by_cases g : x = t
          · rw [if_pos g, hat, g]
          · rw [if_neg g, if_neg (by omega)]; exact hf x (by omega))
        have e1 : det k (rswap (fun i => M (f i)) t a) = det k (fun i => M ((fun x => f (if x = t then a else if x = a then t else x)) i)) := rfl
        rw [← e1, sw] at r
        rcases r with r | r
        · exact Or.inr (by grind)
        · exact Or.inl (by grind)
  exact step k 0 (by omega) f hi hb (fun a ha => by omega)
/-- rows that are whole combinations of k rows: the determinant of these divides theirs -/
theorem det_rows {k : Nat} {S T U : qmat} {d : Int} (hU : ∀ i, i < k → ∀ l, l < k → isZ (U i l)) (hT : ∀ i, i < k → ∀ j, j < k → T i j = qsum (fun l => U i l * S l j) k) (hd : det k S = (d : Rat)) : gdiv d (det k T) := by
  have := minor_rows (S := S) (T := T) (m := k) (k := k) (U := U) (d := d) (mT := k) (g := fun j => j) hU hT (fun f hf => ?_) (f := fun i => i) (fun i hi => hi)
  · exact this
  · by_cases c : ∀ a b, a < k → b < k → f a = f b → a = b
    · rcases det_perm (M := S) c hf with e | e
      · rw [show det k (fun i j => S (f i) j) = det k S from e, hd]
        exact ⟨1, by simp⟩
      · rw [show det k (fun i j => S (f i) j) = -det k S from e, hd]
        exact ⟨-1, by grind⟩
    · have : ∃ a b, a < k ∧ b < k ∧ f a = f b ∧ a ≠ b := Classical.byContradiction (fun hn => c (fun a b ha hb e => Classical.byContradiction (fun g => hn ⟨a, b, ha, hb, e, g⟩)))
      obtain ⟨a, b, ha, hb, e, g⟩ := this
      have z : det k (fun i j => S (f i) j) = 0 := det_same ha hb g (fun j _ => by rw [e])
      rw [z]
      exact gdiv_zero d
/-! ===== determinants of whole matrices ===== -/
def zq (P : imat) : qmat := fun i j => (P i j : Rat)
theorem isum_cast {f : Nat → Int} : ∀ {n : Nat}, ((isum f n : Int) : Rat) = qsum (fun i => (f i : Rat)) n
  | 0 => rfl
  | n + 1 => by
    show ((isum f n + f n : Int) : Rat) = qsum _ n + _
    rw [Rat.intCast_add, isum_cast]
theorem isZ_zq (P : imat) (i j : Nat) : isZ (zq P i j) := ⟨P i j, rfl⟩
/-- the determinant times a unit row is in the lattice -/
theorem det_in {k : Nat} {P : imat} {D : Int} (hD : det k (zq P) = (D : Rat)) {j : Nat} (hj : j < k) : inZ (fun x => if x = j then D else 0) P k k := by
  have hc : ∀ i, ∃ z : Int, det k (rput (fun a b => zq P b a) j (qunit i)) = (z : Rat) := fun i => isZ_cof (fun a _ b _ => isZ_zq P a b)
  refine ⟨fun i => Classical.choose (hc i), fun x hx => ?_⟩
  have h := det_adjug (M := zq P) hj x hx
  apply Rat.intCast_inj.mp
  rw [isum_cast]
  have e : qsum (fun i => ((Classical.choose (hc i) * P i x : Int) : Rat)) k = qsum (fun i => det k (rput (fun a b => zq P b a) j (qunit i)) * zq P i x) k := qsum_congr (fun i _ => by
    rw [Rat.intCast_mul, ← Classical.choose_spec (hc i)]
    rfl)
  rw [e, h]
  show (((if x = j then D else 0) : Int) : Rat) = _
  by_cases c : x = j
  · rw [if_pos c, if_pos c]; exact hD.symm
  · rw [if_neg c, if_neg c]; rfl
/-- rows of a lattice of k rows: its determinant divides theirs -/
theorem det_lat {k : Nat} {S T : imat} {D E : Int} (hS : det k (zq S) = (D : Rat)) (hT : det k (zq T) = (E : Rat)) (h : rowsZ T k S k k) : D ∣ E := by
  have hc : ∀ i, ∃ c : Nat → Int, i < k → ∀ j, j < k → T i j = isum (fun l => c l * S l j) k := fun i => by
    by_cases g : i < k
    · obtain ⟨c, hc⟩ := h i g; exact ⟨c, fun _ => hc⟩
    · exact ⟨fun _ => 0, fun g' => absurd g' g⟩
  have := det_rows (k := k) (S := zq S) (T := zq T) (U := fun i l => ((Classical.choose (hc i) l : Int) : Rat)) (d := D) (fun i _ l _ => ⟨_, rfl⟩) (fun i hi j hj => by
    show ((T i j : Int) : Rat) = _
    rw [Classical.choose_spec (hc i) hi j hj, isum_cast]
    exact qsum_congr (fun l _ => by rw [Rat.intCast_mul]; rfl)) hS
  rw [hT] at this
  exact gdiv_int this
theorem det_upper {k : Nat} {P : imat} (h : ∀ i, i < k → ∀ j, j < i → P i j = 0) : det k (zq P) = ((zprod (fun i => P i i) k : Int) : Rat) := by
  rw [det_tri (fun i hi j hj => by show ((P i j : Int) : Rat) = 0; rw [h i hi j hj]; rfl), ← qprod_cast]
  rfl
/-! ===== a lattice with all multiples of d has a Hermite form ===== -/
theorem lat_min {B : imat} {s n t : Nat} {d : Int} (hd : 0 < d) (h : inZ (fun j => if j = t then d else 0) B s n) : ∃ w : Nat → Int, inZ w B s n ∧ (∀ j, j < t → w j = 0) ∧ 0 < w t ∧ ∀ v, inZ v B s n → (∀ j, j < t → v j = 0) → w t ∣ v t := by
  have main : ∀ m : Nat, ∀ w : Nat → Int, inZ w B s n → (∀ j, j < t → w j = 0) → 0 < w t → w t ≤ (m : Int) → ∃ w : Nat → Int, inZ w B s n ∧ (∀ j, j < t → w j = 0) ∧ 0 < w t ∧ ∀ v, inZ v B s n → (∀ j, j < t → v j = 0) → w t ∣ v t := by
    intro m
    induction m with
    | zero => intro w _ _ h1 h2; omega
    | succ m ih =>
      intro w hw hz hp hm
      by_cases c : ∀ v, inZ v B s n → (∀ j, j < t → v j = 0) → w t ∣ v t
      · exact ⟨w, hw, hz, hp, c⟩
      · have ⟨v, hv, hvz, hnd⟩ : ∃ v, inZ v B s n ∧ (∀ j, j < t → v j = 0) ∧ ¬ w t ∣ v t := Classical.byContradiction (fun hn => c (fun v a b => Classical.byContradiction (fun g => hn ⟨v, a, b, g⟩)))
        have hm1 := Int.emod_lt_of_pos (v t) hp
        have hm0 := Int.emod_nonneg (v t) (show w t ≠ 0 by omega)
        have hne : v t % w t ≠ 0 := fun e => hnd (Int.dvd_of_emod_eq_zero e)
        have hed := Int.mul_ediv_add_emod (v t) (w t)
        have e1 : v t + -(v t / w t) * w t = v t % w t := by rw [Int.neg_mul, Int.mul_comm (v t / w t)]; omega
        refine ih (fun j => v j + -(v t / w t) * w j) (inZ_add hv (inZ_smul _ hw)) (fun j hj => ?_) ?_ ?_
        · show v j + -(v t / w t) * w j = 0
          rw [hvz j hj, hz j hj, Int.mul_zero, Int.add_zero]
        · show 0 < v t + -(v t / w t) * w t
          rw [e1]; omega
        · show v t + -(v t / w t) * w t ≤ _
          rw [e1]; omega
  exact main d.toNat _ h (fun j hj => if_neg (by omega)) (by rw [if_pos rfl]; exact hd) (by rw [if_pos rfl]; omega)
theorem herm_exists {B : imat} {s n : Nat} {d : Int} (hd : 0 < d) (h : ∀ k, k < n → inZ (fun j => if j = k then d else 0) B s n) : ∃ T : imat, hermF T n n (fun i => i) ∧ rowsZ T n B s n ∧ rowsZ B s T n n ∧ ∀ t, t < n → ∀ v, inZ v B s n → (∀ j, j < t → v j = 0) → T t t ∣ v t := by
  have hw : ∀ t, ∃ w : Nat → Int, t < n → inZ w B s n ∧ (∀ j, j < t → w j = 0) ∧ 0 < w t ∧ ∀ v, inZ v B s n → (∀ j, j < t → v j = 0) → w t ∣ v t := fun t => by
    by_cases c : t < n
    · obtain ⟨w, hw⟩ := lat_min hd (h t c); exact ⟨w, fun _ => hw⟩
    · exact ⟨fun _ => 0, fun g => absurd g c⟩
  have ⟨W, hW⟩ : ∃ W : imat, ∀ t, t < n → inZ (W t) B s n ∧ (∀ j, j < t → W t j = 0) ∧ 0 < W t t ∧ ∀ v, inZ v B s n → (∀ j, j < t → v j = 0) → W t t ∣ v t := ⟨fun t => Classical.choose (hw t), fun t => Classical.choose_spec (hw t)⟩
  -- less of what stands above a pivot
  have red : ∀ e i k, n = k + e → i < k → ∀ v, inZ v B s n → ∃ u : Nat → Int, inZ u B s n ∧ (∀ j, j < k → u j = v j) ∧ ∀ j, k ≤ j → j < n → 0 ≤ u j ∧ u j < W j j := by
    intro e
    induction e with
    | zero => intro i k hk _ v hv; exact ⟨v, hv, fun j _ => rfl, fun j h1 h2 => by omega⟩
    | succ e ih =>
      intro i k hk hik v hv
      obtain ⟨w1, w2, w3, w4⟩ := hW k (by omega)
      have hv2 : inZ (fun j => v j + -(v k / W k k) * W k j) B s n := inZ_add hv (inZ_smul _ w1)
      obtain ⟨u, u1, u2, u3⟩ := ih i (k + 1) (by omega) (by omega) _ hv2
      refine ⟨u, u1, fun j hj => ?_, fun j h1 h2 => ?_⟩
      · rw [u2 j (by omega), w2 j hj, Int.mul_zero, Int.add_zero]
      · by_cases c : j = k
        · subst c
          rw [u2 j (by omega)]
          have hed := Int.mul_ediv_add_emod (v j) (W j j)
          have e1 : v j + -(v j / W j j) * W j j = v j % W j j := by rw [Int.neg_mul, Int.mul_comm (v j / W j j)]; omega
          rw [e1]
          exact ⟨Int.emod_nonneg _ (by omega), Int.emod_lt_of_pos _ w3⟩
        · exact u3 j (by omega) h2
  have hT : ∀ i, ∃ u : Nat → Int, i < n → inZ u B s n ∧ (∀ j, j < i + 1 → u j = W i j) ∧ ∀ j, i + 1 ≤ j → j < n → 0 ≤ u j ∧ u j < W j j := fun i => by
    by_cases c : i < n
    · obtain ⟨u, hu⟩ := red (n - (i + 1)) i (i + 1) (by omega) (by omega) (W i) (hW i c).1; exact ⟨u, fun _ => hu⟩
    · exact ⟨fun _ => 0, fun g => absurd g c⟩
  have ⟨T, hT⟩ : ∃ T : imat, ∀ i, i < n → inZ (T i) B s n ∧ (∀ j, j < i + 1 → T i j = W i j) ∧ ∀ j, i + 1 ≤ j → j < n → 0 ≤ T i j ∧ T i j < W j j := ⟨fun i => Classical.choose (hT i), fun i => Classical.choose_spec (hT i)⟩
  have dg : ∀ i, i < n → T i i = W i i := fun i hi => (hT i hi).2.1 i (by omega)
  have lo : ∀ i, i < n → ∀ j, j < i → T i j = 0 := fun i hi j hj => by rw [(hT i hi).2.1 j (by omega)]; exact (hW i hi).2.1 j hj
  have hdv : ∀ t, t < n → ∀ v, inZ v B s n → (∀ j, j < t → v j = 0) → T t t ∣ v t := fun t ht v hv hz => by rw [dg t ht]; exact (hW t ht).2.2.2 v hv hz
  refine ⟨T, ⟨⟨fun i hi => hi, fun i k h _ => h, lo, fun i hi => ?_⟩, fun i k hik hk => ?_⟩, fun i hi => (hT i hi).1, ?_, hdv⟩
  · show 0 < T i i
    rw [dg i hi]; exact (hW i hi).2.2.1
  · show 0 ≤ T i k ∧ T i k < T k k
    rw [dg k hk]
    exact (hT i (by omega)).2.2 k (by omega) hk
  · -- what is in the lattice with 0 before t
    have out : ∀ e t, n = t + e → ∀ v, inZ v B s n → (∀ j, j < t → v j = 0) → inZ v T n n := by
      intro e
      induction e with
      | zero => intro t ht v _ hz; exact inZ_congr inZ_zero (fun j hj => hz j (by omega))
      | succ e ih =>
        intro t ht v hv hz
        obtain ⟨q, hq⟩ := hdv t (by omega) v hv hz
        have r := ih (t + 1) (by omega) (fun j => v j + -q * T t j) (inZ_add hv (inZ_smul _ (hT t (by omega)).1)) (fun j hj => by
          by_cases c : j = t
          · subst c; show v j + -q * T j j = 0; rw [hq, Int.neg_mul, Int.mul_comm]; omega
          · show v j + -q * T t j = 0; rw [hz j (by omega), lo t (by omega) j (by omega), Int.mul_zero, Int.add_zero])
        refine inZ_congr (inZ_add r (inZ_smul q (inZ_row (show t < n by omega)))) (fun j _ => ?_)
        rw [Int.neg_mul]
        omega
    exact fun i hi => out n 0 (by omega) (B i) (inZ_row hi) (fun j hj => by omega)
/-! ===== the Hermite form by remainders: one column ===== -/
/-- v is made of the rows lo to hi - 1 of C and of multiples of R, from column t on; before it is 0 -/
def genZ (C : imat) (lo hi : Nat) (R : Int) (t n : Nat) (v : Nat → Int) : Prop := (∀ j, j < t → j < n → v j = 0) ∧ ∃ c z : Nat → Int, ∀ j, t ≤ j → j < n → v j = isum (fun i => c i * C (lo + i) j) (hi - lo) + R * z j
def tailD (T : imat) (n t : Nat) : Int := zprod (fun i => T (t + i) (t + i)) (n - t)
theorem zprod_congr {f g : Nat → Int} : ∀ {n : Nat}, (∀ i, i < n → f i = g i) → zprod f n = zprod g n
  | 0, _ => rfl
  | n + 1, h => by
    show zprod f n * f n = zprod g n * g n
    rw [zprod_congr (fun i hi => h i (by omega)), h n (Nat.lt_succ_self n)]
theorem zprod_head (f : Nat → Int) : ∀ n, zprod f (n + 1) = f 0 * zprod (fun i => f (i + 1)) n := fun n => by
  rw [zprod_skp f (i := 0) (by omega)]
  congr 1
theorem tailD_step {T : imat} {n t : Nat} (ht : t < n) : tailD T n t = T t t * tailD T n (t + 1) := by
  unfold tailD
  rw [show n - t = n - (t + 1) + 1 by omega, zprod_head]
  congr 1
  exact zprod_congr (fun i _ => by rw [show t + (i + 1) = t + 1 + i by omega])
theorem tailD_pos {T : imat} {n : Nat} (h : ∀ i, i < n → 0 < T i i) (t : Nat) : 0 < tailD T n t := by
  unfold tailD
  have : ∀ m, m ≤ n - t → 0 < zprod (fun i => T (t + i) (t + i)) m := by
    intro m
    induction m with
    | zero => intro _; exact (show (0 : Int) < 1 by decide)
    | succ m ih => intro hm; exact Int.mul_pos (ih (by omega)) (h (t + m) (by omega))
  exact this _ (Nat.le_refl _)
/-- multiples of the product of the last pivots are in -/
theorem tail_in {B T : imat} {s n t k : Nat} (hT : hermF T n n (fun i => i)) (h : rowsZ T n B s n) (htk : t ≤ k) (hk : k < n) {R : Int} (hR : tailD T n t ∣ R) : inZ (fun j => if j = k then R else 0) B s n := by
  have lo : ∀ i, i < n → ∀ j, j < i → T i j = 0 := hT.1.2.2.1
  have hd := det_upper (k := n - t) (P := fun i j => T (t + i) (t + j)) (fun i hi j hj => lo (t + i) (by omega) (t + j) (by omega))
  obtain ⟨c, hc⟩ := det_in hd (j := k - t) (by omega)
  obtain ⟨q, hq⟩ := hR
  -- the combination of the rows t and on
  have h1 : inZ (fun j => isum (fun i => c i * T (t + i) j) (n - t)) T n n := inZ_sum (fun i hi => inZ_smul (c i) (inZ_row (show t + i < n by omega)))
  refine inZ_trans (inZ_congr (inZ_smul q h1) (fun j hj => ?_)) h
  by_cases g : j < t
  · rw [if_neg (by omega), isum_zero (fun i hi => by rw [lo (t + i) (by omega) j (by omega), Int.mul_zero]), Int.mul_zero]
  · have := hc (j - t) (by omega)
    dsimp only at this
    rw [show t + (j - t) = j by omega] at this
    rw [← this]
    by_cases e : j = k
    · rw [if_pos e, if_pos (by omega), hq, Int.mul_comm]
      rfl
    · rw [if_neg e, if_neg (by omega), Int.mul_zero]
theorem isum_head (f : Nat → Int) : ∀ n, isum f (n + 1) = f 0 + isum (fun i => f (i + 1)) n
  | 0 => by show 0 + f 0 = f 0 + 0; omega
  | n + 1 => by
    show isum f (n + 1) + f (n + 1) = f 0 + (isum (fun i => f (i + 1)) n + f (n + 1))
    rw [isum_head f n]
    omega
section COL
variable {B C T : imat} {s n t : Nat} {R : Int}
/-- what the rows t and on, and R, make is in the lattice with 0 before t, and all of that -/
def colInv (B C : imat) (s n t : Nat) (R : Int) : Prop := ∀ v : Nat → Int, (inZ v B s n ∧ ∀ j, j < t → v j = 0) ↔ (∀ j, j < t → v j = 0) ∧ genZ C t s R t n v
theorem col_row (h : colInv B C s n t R) (ht : t ≤ n) {i : Nat} (h1 : t ≤ i) (h2 : i < s) : inZ (fun j => if j < t then 0 else C i j) B s n := by
  refine ((h _).mpr ⟨fun j hj => if_pos hj, ⟨fun j hj _ => if_pos hj, fun k => if k = i - t then 1 else 0, fun _ => 0, fun j hj _ => ?_⟩⟩).1
  dsimp only
  rw [if_neg (by omega), isum_one (k := i - t) (by omega) (fun k _ hk => by rw [if_neg hk, Int.zero_mul]), if_pos rfl, show t + (i - t) = i by omega]
  omega
theorem col_R (h : colInv B C s n t R) {k : Nat} (h1 : t ≤ k) (h2 : k < n) : inZ (fun j => if j = k then R else 0) B s n := by
  refine ((h _).mpr ⟨fun j hj => if_neg (by omega), ⟨fun j hj _ => if_neg (by omega), fun _ => 0, fun j => if j = k then 1 else 0, fun j hj _ => ?_⟩⟩).1
  dsimp only
  rw [isum_zero (fun _ _ => Int.zero_mul _)]
  by_cases e : j = k
  · rw [if_pos e, if_pos e]; omega
  · rw [if_neg e, if_neg e]; omega
/-- the pivot of the form is the greatest common divisor of the cell and R -/
theorem col_pivot (hT : hermF T n n (fun i => i)) (hTB : rowsZ T n B s n) (hdv : ∀ t, t < n → ∀ v, inZ v B s n → (∀ j, j < t → v j = 0) → T t t ∣ v t) (h : colInv B C s n t R) (ht : t < n) (hts : t < s) (hR : 0 < R) (hc : ∀ i, t < i → i < s → C i t = 0) {g u : Int} (hg : 0 < g) (hgR : g ∣ R) (hga : g ∣ C t t) (hu : R ∣ u * C t t - g) : T t t = g := by
  have hp : 0 < T t t := hT.1.2.2.2 t ht
  have hz : ∀ j, j < t → T t j = 0 := hT.1.2.2.1 t ht
  obtain ⟨-, -, c, z, hcz⟩ := (h (T t)).mp ⟨hTB t ht, hz⟩
  have e1 := hcz t (Nat.le_refl t) ht
  rw [isum_one (k := 0) (by omega) (fun i _ hi => by rw [hc (t + i) (by omega) (by omega), Int.mul_zero]), Nat.add_zero] at e1
  have d1 : g ∣ T t t := by
    rw [e1]
    exact Int.dvd_add (Int.dvd_mul_of_dvd_right hga) (Int.dvd_mul_of_dvd_left hgR)
  have d2 : T t t ∣ g := by
    obtain ⟨q, hq⟩ := hu
    have := hdv t ht _ (inZ_add (inZ_smul u (col_row h (Nat.le_of_lt ht) (Nat.le_refl t) hts)) (inZ_smul (-q) (col_R h (Nat.le_refl t) ht))) (fun j hj => by rw [if_pos hj, if_neg (by omega)]; omega)
    rw [if_neg (by omega), if_pos rfl] at this
    have e2 : u * C t t + -q * R = g := by rw [Int.neg_mul, Int.mul_comm q]; omega
    rw [e2] at this
    exact this
  exact Int.dvd_antisymm (by omega) (by omega) d2 d1
/-- the next column: its modulus is R over the pivot -/
theorem col_next (hT : hermF T n n (fun i => i)) (hTB : rowsZ T n B s n) (h : colInv B C s n t R) (ht : t < n) (hts : t < s) (hc : ∀ i, t < i → i < s → C i t = 0) {g R' : Int} (hTg : T t t = g) (hg : 0 < g) (hRR : R = g * R') (hR' : 0 < R') (hga : g ∣ C t t) (hgr : ∀ a b : Int, a * C t t + b * R = 0 → R' ∣ a) (hD : tailD T n t ∣ R) : tailD T n (t + 1) ∣ R' ∧ colInv B C s n (t + 1) R' := by
  have d1 : tailD T n (t + 1) ∣ R' := by
    rw [tailD_step ht, hTg, hRR] at hD
    exact Int.dvd_of_mul_dvd_mul_left (by omega) hD
  refine ⟨d1, fun v => ⟨fun ⟨h1, h2⟩ => ⟨h2, fun j hj _ => h2 j hj, ?_⟩, fun ⟨h2, _, c, z, hcz⟩ => ⟨?_, h2⟩⟩⟩
  · obtain ⟨-, -, c, z, hcz⟩ := (h v).mp ⟨h1, fun j hj => h2 j (by omega)⟩
    have e1 := hcz t (Nat.le_refl t) ht
    rw [h2 t (by omega), isum_one (k := 0) (by omega) (fun i _ hi => by rw [hc (t + i) (by omega) (by omega), Int.mul_zero]), Nat.add_zero] at e1
    obtain ⟨q, hq⟩ := hgr (c 0) (z t) (by rw [Int.mul_comm (z t)]; exact e1.symm)
    refine ⟨fun i => c (i + 1), fun j => q * C t j + g * z j, fun j hj hjn => ?_⟩
    rw [hcz j (by omega) hjn, show s - t = s - (t + 1) + 1 by omega, isum_head, Nat.add_zero, hq, hRR]
    have e2 : isum (fun i => c (i + 1) * C (t + (i + 1)) j) (s - (t + 1)) = isum (fun i => c (i + 1) * C (t + 1 + i) j) (s - (t + 1)) := isum_congr (fun i _ => by rw [show t + (i + 1) = t + 1 + i by omega])
    rw [e2]
    generalize isum (fun i => c (i + 1) * C (t + 1 + i) j) (s - (t + 1)) = w
    grind
  · have a1 : inZ (fun j => isum (fun i => c i * (if j < t then 0 else C (t + 1 + i) j)) (s - (t + 1))) B s n := inZ_sum (fun i hi => inZ_smul (c i) (col_row h (Nat.le_of_lt ht) (by omega) (by omega)))
    have a2 : inZ (fun j => isum (fun k => z k * (if t < k then (if j = k then R' else 0) else 0)) n) B s n := inZ_sum (fun k hk => by
      by_cases e : t < k
      · exact inZ_congr (inZ_smul (z k) (tail_in hT hTB (show t + 1 ≤ k by omega) hk d1)) (fun j _ => by rw [if_pos e])
      · exact inZ_congr inZ_zero (fun j _ => by rw [if_neg e, Int.mul_zero]))
    refine inZ_congr (inZ_add a1 a2) (fun j hj => ?_)
    by_cases e : j < t + 1
    · rw [h2 j e, isum_zero (fun i hi => by
        by_cases e2 : j < t
        · rw [if_pos e2, Int.mul_zero]
        · rw [if_neg e2, show j = t by omega, hc (t + 1 + i) (by omega) (by omega), Int.mul_zero]), isum_zero (fun k _ => by
        by_cases e2 : t < k
        · rw [if_pos e2, if_neg (by omega), Int.mul_zero]
        · rw [if_neg e2, Int.mul_zero])]
      omega
    · rw [hcz j (by omega) hj, isum_one (k := j) hj (fun k _ hk => by
        by_cases e2 : t < k
        · rw [if_pos e2, if_neg (fun e => hk e.symm), Int.mul_zero]
        · rw [if_neg e2, Int.mul_zero]), if_pos (show t < j by omega), if_pos rfl, Int.mul_comm R']
      congr 1
      exact isum_congr (fun i _ => by rw [if_neg (by omega)])
end COL
/-! ===== whole matrices that are made of each other by rows and columns ===== -/
def madeZ (T S : imat) (m n : Nat) : Prop := ∃ U V : imat, ∀ i, i < m → ∀ j, j < n → T i j = isum (fun a => U i a * isum (fun b => S a b * V b j) n) m
theorem isum_mulr {f : Nat → Int} {c : Int} {n : Nat} : isum f n * c = isum (fun i => f i * c) n := by
  rw [Int.mul_comm, isum_mul]
  exact isum_congr (fun i _ => Int.mul_comm _ _)
theorem madeZ_rows {T S : imat} {m n : Nat} (h : rowsZ T m S m n) : madeZ T S m n := by
  have hc : ∀ i, ∃ c : Nat → Int, i < m → ∀ j, j < n → T i j = isum (fun k => c k * S k j) m := fun i => by
    by_cases g : i < m
    · obtain ⟨c, hc⟩ := h i g; exact ⟨c, fun _ => hc⟩
    · exact ⟨fun _ => 0, fun g' => absurd g' g⟩
  refine ⟨fun i => Classical.choose (hc i), fun b j => if b = j then 1 else 0, fun i hi j hj => ?_⟩
  rw [Classical.choose_spec (hc i) hi j hj]
  refine isum_congr (fun k _ => ?_)
  dsimp only
  rw [isum_one hj (fun b _ hb => by rw [if_neg hb, Int.mul_zero]), if_pos rfl, Int.mul_one]
theorem madeZ_turn {T S : imat} {m n : Nat} (h : madeZ T S m n) : madeZ (fun i j => T j i) (fun i j => S j i) n m := by
  obtain ⟨U, V, h⟩ := h
  refine ⟨fun i a => V a i, fun b j => U j b, fun i hi j hj => ?_⟩
  show T j i = _
  rw [h j hj i hi]
  have e1 : ∀ a, a < m → U j a * isum (fun b => S a b * V b i) n = isum (fun b => U j a * (S a b * V b i)) n := fun a _ => isum_mul
  have e2 : ∀ a, a < n → V a i * isum (fun b => S b a * U j b) m = isum (fun b => V a i * (S b a * U j b)) m := fun a _ => isum_mul
  rw [isum_congr e1, isum_congr e2, isum_comm]
  exact isum_congr (fun a _ => isum_congr (fun b _ => by grind))
theorem madeZ_trans {A B C : imat} {m n : Nat} (h1 : madeZ A B m n) (h2 : madeZ B C m n) : madeZ A C m n := by
  obtain ⟨U, V, h⟩ := h1
  obtain ⟨W, Y, g⟩ := h2
  refine ⟨fun i x => isum (fun a => U i a * W a x) m, fun y j => isum (fun b => Y y b * V b j) n, fun i hi j hj => ?_⟩
  rw [h i hi j hj]
  -- all sums outside
  have e1 : ∀ a, a < m → U i a * isum (fun b => B a b * V b j) n = isum (fun x => U i a * W a x * isum (fun y => C x y * isum (fun b => Y y b * V b j) n) n) m := by
    intro a ha
    have f1 : ∀ b, b < n → B a b * V b j = isum (fun x => W a x * isum (fun y => C x y * Y y b * V b j) n) m := fun b hb => by
      rw [g a ha b hb, isum_mulr]
      refine isum_congr (fun x _ => ?_)
      rw [Int.mul_assoc, isum_mulr]
    rw [isum_congr f1, isum_comm, isum_mul]
    refine isum_congr (fun x _ => ?_)
    have f2 : isum (fun b => W a x * isum (fun y => C x y * Y y b * V b j) n) n = W a x * isum (fun y => C x y * isum (fun b => Y y b * V b j) n) n := by
      rw [← isum_mul, isum_comm]
      congr 1
      refine isum_congr (fun y _ => ?_)
      rw [isum_mul]
      exact isum_congr (fun b _ => by rw [Int.mul_assoc])
    rw [f2, Int.mul_assoc]
  rw [isum_congr e1, isum_comm]
  refine isum_congr (fun x _ => ?_)
  rw [isum_mulr]
theorem madeZ_refl (A : imat) (m n : Nat) : madeZ A A m n := madeZ_rows rowsZ_refl
theorem madeZ_cast {T S : imat} {m n : Nat} (h : madeZ T S m n) : madeOf (zq T) (zq S) m n := by
  obtain ⟨U, V, h⟩ := h
  refine ⟨zq U, zq V, fun i a => ⟨U i a, rfl⟩, fun b j => ⟨V b j, rfl⟩, fun i hi j hj => ?_⟩
  show ((T i j : Int) : Rat) = _
  rw [h i hi j hj, isum_cast]
  refine qsum_congr (fun a _ => ?_)
  rw [Rat.intCast_mul, isum_cast]
  congr 1
  exact qsum_congr (fun b _ => by rw [Rat.intCast_mul]; rfl)
def eqvZ (A B : imat) (m n : Nat) : Prop := madeZ A B m n ∧ madeZ B A m n
theorem eqvZ.trans {A B C : imat} {m n : Nat} (h1 : eqvZ A B m n) (h2 : eqvZ B C m n) : eqvZ A C m n := ⟨madeZ_trans h1.1 h2.1, madeZ_trans h2.2 h1.2⟩
theorem eqvZ.symm {A B : imat} {m n : Nat} (h : eqvZ A B m n) : eqvZ B A m n := ⟨h.2, h.1⟩
theorem eqvZ.turn {A B : imat} {m n : Nat} (h : eqvZ A B m n) : eqvZ (fun i j => A j i) (fun i j => B j i) n m := ⟨madeZ_turn h.1, madeZ_turn h.2⟩
theorem eqvZ.pair {A A' : imat} {m n x y : Nat} {a b c e : Int} (hx : x < m) (hy : y < m) (hxy : x ≠ y) (ho : ∀ i, i < m → i ≠ x → i ≠ y → ∀ j, j < n → A' i j = A i j) (h1 : ∀ j, j < n → A' x j = a * A x j + b * A y j) (h2 : ∀ j, j < n → A' y j = c * A x j + e * A y j) (hu : a * e - b * c = 1) : eqvZ A' A m n := by
  obtain ⟨p, q⟩ := rowsZ_pair hx hy hxy ho h1 h2 hu
  exact ⟨madeZ_rows p, madeZ_rows q⟩
theorem madeZ_congr {T T' S S' : imat} {m n : Nat} (h : madeZ T S m n) (h1 : ∀ i, i < m → ∀ j, j < n → T' i j = T i j) (h2 : ∀ i, i < m → ∀ j, j < n → S i j = S' i j) : madeZ T' S' m n := by
  obtain ⟨U, V, h⟩ := h
  refine ⟨U, V, fun i hi j hj => ?_⟩
  rw [h1 i hi j hj, h i hi j hj]
  refine isum_congr (fun a ha => ?_)
  congr 1
  exact isum_congr (fun b hb => by rw [h2 a ha b hb])
/-- two Smith forms of one matrix are the same -/
theorem smith_same {A : imat} {m n : Nat} {s t : Nat → Int} (hs : ∀ i j, i ≤ j → s i ∣ s j) (ht : ∀ i j, i ≤ j → t i ∣ t j) (s0 : ∀ i, 0 ≤ s i) (t0 : ∀ i, 0 ≤ t i) (h1 : eqvZ (fun i j => if i = j then s i else 0) A m n) (h2 : eqvZ (fun i j => if i = j then t i else 0) A m n) : ∀ k, k < m → k < n → s k = t k := by
  have h := h2.trans h1.symm
  have e : ∀ s : Nat → Int, zq (fun i j => if i = j then s i else 0) = diagM s := fun s => by
    funext i j
    show (((if i = j then s i else 0) : Int) : Rat) = _
    unfold diagM
    split <;> rfl
  have a := madeZ_cast h.1
  have b := madeZ_cast h.2
  rw [e, e] at a b
  exact smith_unique hs ht s0 t0 a b
/-! ===== every whole matrix has a Smith form ===== -/
theorem eqvZ.rows {A A' : imat} {m n : Nat} (h1 : rowsZ A' m A m n) (h2 : rowsZ A m A' m n) : eqvZ A' A m n := ⟨madeZ_rows h1, madeZ_rows h2⟩
theorem eqvZ.refl (A : imat) (m n : Nat) : eqvZ A A m n := ⟨madeZ_refl A m n, madeZ_refl A m n⟩
theorem eqvZ.congr {A B A' B' : imat} {m n : Nat} (h : eqvZ A B m n) (h1 : ∀ i, i < m → ∀ j, j < n → A' i j = A i j) (h2 : ∀ i, i < m → ∀ j, j < n → B i j = B' i j) : eqvZ A' B' m n := ⟨madeZ_congr h.1 h1 h2, madeZ_congr h.2 (fun i hi j hj => (h2 i hi j hj).symm) (fun i hi j hj => (h1 i hi j hj).symm)⟩
/-- multiples of row 0 come to the other rows -/
theorem eqvZ.addrows (A : imat) {m n : Nat} (q : Nat → Int) : eqvZ (fun i j => if i = 0 then A 0 j else A i j + q i * A 0 j) A (m + 1) n := by
  refine eqvZ.rows (fun i hi => ?_) (fun i hi => ?_)
  · by_cases c : i = 0
    · exact inZ_congr (inZ_row (show 0 < m + 1 by omega)) (fun j _ => by rw [if_pos c])
    · exact inZ_congr (inZ_add (inZ_row hi) (inZ_smul (q i) (inZ_row (show 0 < m + 1 by omega)))) (fun j _ => by rw [if_neg c])
  · by_cases c : i = 0
    · subst c
      exact inZ_congr (inZ_row (B := fun i j => if i = 0 then A 0 j else A i j + q i * A 0 j) (show 0 < m + 1 by omega)) (fun j _ => by rw [if_pos rfl])
    · refine inZ_congr (inZ_add (inZ_row (B := fun i j => if i = 0 then A 0 j else A i j + q i * A 0 j) hi) (inZ_smul (-(q i)) (inZ_row (B := fun i j => if i = 0 then A 0 j else A i j + q i * A 0 j) (show 0 < m + 1 by omega)))) (fun j _ => ?_)
      try dsimp only
      rw [if_neg c, if_pos rfl, Int.neg_mul]
      omega
theorem eqvZ.addcols (A : imat) {m n : Nat} (q : Nat → Int) : eqvZ (fun i j => if j = 0 then A i 0 else A i j + q j * A i 0) A m (n + 1) := by
  have := (eqvZ.addrows (fun i j => A j i) (m := n) (n := m) q).turn
  exact this
theorem eqvZ.swaprows (A : imat) {m n x : Nat} (hx : x < m + 1) : eqvZ (fun i j => if i = 0 then A x j else if i = x then A 0 j else A i j) A (m + 1) n := by
  refine eqvZ.rows (fun i hi => ?_) (fun i hi => ?_)
  · by_cases c : i = 0
    · exact inZ_congr (inZ_row hx) (fun j _ => by rw [if_pos c])
    · by_cases c2 : i = x
      · exact inZ_congr (inZ_row (show 0 < m + 1 by omega)) (fun j _ => by rw [if_neg c, if_pos c2])
      · exact inZ_congr (inZ_row hi) (fun j _ => by rw [if_neg c, if_neg c2])
  · by_cases c : i = 0
    · subst c
      refine inZ_congr (inZ_row (B := fun i j => if i = 0 then A x j else if i = x then A 0 j else A i j) hx) (fun j _ => ?_)
      try dsimp only
      by_cases c3 : x = 0
      · rw [if_pos c3, c3]
      · rw [if_neg c3, if_pos rfl]
    · by_cases c2 : i = x
      · subst c2
        exact inZ_congr (inZ_row (B := fun k j => if k = 0 then A i j else if k = i then A 0 j else A k j) (show 0 < m + 1 by omega)) (fun j _ => by (try dsimp only); rw [if_pos rfl])
      · exact inZ_congr (inZ_row (B := fun i j => if i = 0 then A x j else if i = x then A 0 j else A i j) hi) (fun j _ => by (try dsimp only); rw [if_neg c, if_neg c2])
theorem eqvZ.swapcols (A : imat) {m n x : Nat} (hx : x < n + 1) : eqvZ (fun i j => if j = 0 then A i x else if j = x then A i 0 else A i j) A m (n + 1) := (eqvZ.swaprows (fun i j => A j i) (m := n) (n := m) hx).turn
theorem eqvZ.neg0 (A : imat) {m n : Nat} : eqvZ (fun i j => if i = 0 then -A 0 j else A i j) A (m + 1) n := by
  refine eqvZ.rows (fun i hi => ?_) (fun i hi => ?_)
  · by_cases c : i = 0
    · exact inZ_congr (inZ_smul (-1) (inZ_row (show 0 < m + 1 by omega))) (fun j _ => by rw [if_pos c]; omega)
    · exact inZ_congr (inZ_row hi) (fun j _ => by rw [if_neg c])
  · by_cases c : i = 0
    · subst c
      exact inZ_congr (inZ_smul (-1) (inZ_row (B := fun i j => if i = 0 then -A 0 j else A i j) (show 0 < m + 1 by omega))) (fun j _ => by rw [if_pos rfl]; omega)
    · exact inZ_congr (inZ_row (B := fun i j => if i = 0 then -A 0 j else A i j) hi) (fun j _ => by (try dsimp only); rw [if_neg c])
def blockZ (g : Int) (T : imat) : imat := fun i j => if i = 0 then (if j = 0 then g else 0) else if j = 0 then 0 else T (i - 1) (j - 1)
theorem madeZ_block {T S : imat} {m n : Nat} (g : Int) (h : madeZ T S m n) : madeZ (blockZ g T) (blockZ g S) (m + 1) (n + 1) := by
  obtain ⟨U, V, h⟩ := h
  refine ⟨blockZ 1 U, blockZ 1 V, fun i hi j hj => ?_⟩
  have col : ∀ a, isum (fun b => blockZ g S a b * blockZ 1 V b j) (n + 1) = if a = 0 then (if j = 0 then g else 0) else if j = 0 then 0 else isum (fun b => S (a - 1) b * V b (j - 1)) n := by
    intro a
    rw [isum_head]
    by_cases c : a = 0
    · rw [if_pos c, isum_zero (fun b _ => by unfold blockZ; rw [if_pos c, if_neg (by omega), Int.zero_mul])]
      unfold blockZ
      rw [if_pos c, if_pos rfl, if_pos rfl]
      split <;> omega
    · rw [if_neg c]
      have e0 : blockZ g S a 0 = 0 := by unfold blockZ; rw [if_neg c, if_pos rfl]
      rw [e0, Int.zero_mul, Int.zero_add]
      by_cases c2 : j = 0
      · rw [if_pos c2]
        exact isum_zero (fun b _ => by
          have : blockZ 1 V (b + 1) j = 0 := by unfold blockZ; rw [if_neg (by omega), if_pos c2]
          rw [this, Int.mul_zero])
      · rw [if_neg c2]
        refine isum_congr (fun b _ => ?_)
        unfold blockZ
        rw [if_neg c, if_neg (by omega), if_neg (by omega), if_neg c2, Nat.add_sub_cancel]
  have e : isum (fun a => blockZ 1 U i a * isum (fun b => blockZ g S a b * blockZ 1 V b j) (n + 1)) (m + 1) = isum (fun a => blockZ 1 U i a * (if a = 0 then (if j = 0 then g else 0) else if j = 0 then 0 else isum (fun b => S (a - 1) b * V b (j - 1)) n)) (m + 1) := isum_congr (fun a _ => by rw [col a])
  rw [e, isum_head, if_pos rfl]
  by_cases c : i = 0
  · rw [isum_zero (fun a _ => by
      have : blockZ 1 U i (a + 1) = 0 := by unfold blockZ; rw [if_pos c, if_neg (by omega)]
      rw [this, Int.zero_mul])]
    unfold blockZ
    rw [if_pos c, if_pos c, if_pos rfl]
    omega
  · have e0 : blockZ 1 U i 0 = 0 := by unfold blockZ; rw [if_neg c, if_pos rfl]
    rw [e0, Int.zero_mul, Int.zero_add]
    by_cases c2 : j = 0
    · rw [isum_zero (fun a _ => by rw [if_neg (by omega), if_pos c2, Int.mul_zero])]
      unfold blockZ
      rw [if_neg c, if_pos c2]
    · have : blockZ g T i j = T (i - 1) (j - 1) := by unfold blockZ; rw [if_neg c, if_neg c2]
      rw [this, h (i - 1) (by omega) (j - 1) (by omega)]
      refine isum_congr (fun a _ => ?_)
      rw [if_neg (by omega), if_neg c2, Nat.add_sub_cancel]
      unfold blockZ
      rw [if_neg c, if_neg (by omega), Nat.add_sub_cancel]
theorem eqvZ.block {T S : imat} {m n : Nat} (g : Int) (h : eqvZ T S m n) : eqvZ (blockZ g T) (blockZ g S) (m + 1) (n + 1) := ⟨madeZ_block g h.1, madeZ_block g h.2⟩
/-- a number that divides all cells goes on dividing them -/
theorem madeZ_dvd {T S : imat} {m n : Nat} {g : Int} (h : madeZ T S m n) (hg : ∀ i, i < m → ∀ j, j < n → g ∣ S i j) : ∀ i, i < m → ∀ j, j < n → g ∣ T i j := by
  obtain ⟨U, V, h⟩ := h
  have hs : ∀ {f : Nat → Int} {k : Nat}, (∀ i, i < k → g ∣ f i) → g ∣ isum f k := fun {f k} => by
    induction k with
    | zero => intro _; exact ⟨0, by show (0 : Int) = g * 0; omega⟩
    | succ k ih => intro hk; exact Int.dvd_add (ih (fun i hi => hk i (by omega))) (hk k (by omega))
  intro i hi j hj
  rw [h i hi j hj]
  exact hs (fun a ha => Int.dvd_mul_of_dvd_right (hs (fun b hb => Int.dvd_mul_of_dvd_left (hg a ha b hb))))
theorem smith_exists : ∀ (m n : Nat) (A : imat), ∃ s : Nat → Int, (∀ i j, i ≤ j → s i ∣ s j) ∧ (∀ i, 0 ≤ s i) ∧ (∀ i, m ≤ i ∨ n ≤ i → s i = 0) ∧ eqvZ (fun i j => if i = j then s i else 0) A m n
  | 0, n, A => ⟨fun _ => 0, fun _ _ _ => ⟨0, rfl⟩, fun _ => Int.le_refl 0, fun _ _ => rfl, (eqvZ.refl A 0 n).congr (fun i hi => by omega) (fun i hi => by omega)⟩
  | m + 1, 0, A => ⟨fun _ => 0, fun _ _ _ => ⟨0, rfl⟩, fun _ => Int.le_refl 0, fun _ _ => rfl, (eqvZ.refl A (m + 1) 0).congr (fun i _ j hj => by omega) (fun i _ j hj => by omega)⟩
  | m + 1, n + 1, A => by
    by_cases hz : ∀ i, i < m + 1 → ∀ j, j < n + 1 → A i j = 0
    · exact ⟨fun _ => 0, fun _ _ _ => ⟨0, rfl⟩, fun _ => Int.le_refl 0, fun _ _ => rfl, (eqvZ.refl A _ _).congr (fun i hi j hj => by rw [hz i hi j hj]; split <;> rfl) (fun _ _ _ _ => rfl)⟩
    · -- the least size of a cell in all matrices of the kind
      have h0 : ∃ (N : imat) (i j : Nat), eqvZ N A (m + 1) (n + 1) ∧ i < m + 1 ∧ j < n + 1 ∧ N i j ≠ 0 := Classical.byContradiction (fun hn => hz (fun i hi j hj => Classical.byContradiction (fun c => hn ⟨A, i, j, eqvZ.refl A _ _, hi, hj, c⟩)))
      have hmin : ∃ (N : imat) (i j : Nat), eqvZ N A (m + 1) (n + 1) ∧ i < m + 1 ∧ j < n + 1 ∧ N i j ≠ 0 ∧ ∀ (N' : imat) (i' j' : Nat), eqvZ N' A (m + 1) (n + 1) → i' < m + 1 → j' < n + 1 → N' i' j' ≠ 0 → (N i j).natAbs ≤ (N' i' j').natAbs := by
        obtain ⟨N, i, j, a1, a2, a3, a4⟩ := h0
        have : ∀ k : Nat, ∀ (N : imat) (i j : Nat), eqvZ N A (m + 1) (n + 1) → i < m + 1 → j < n + 1 → N i j ≠ 0 → (N i j).natAbs ≤ k → ∃ (N : imat) (i j : Nat), eqvZ N A (m + 1) (n + 1) ∧ i < m + 1 ∧ j < n + 1 ∧ N i j ≠ 0 ∧ ∀ (N' : imat) (i' j' : Nat), eqvZ N' A (m + 1) (n + 1) → i' < m + 1 → j' < n + 1 → N' i' j' ≠ 0 → (N i j).natAbs ≤ (N' i' j').natAbs := by
          intro k
          induction k with
          | zero => intro N i j _ _ _ h1 h2; omega
          | succ k ih =>
            intro N i j b1 b2 b3 b4 b5
            by_cases c : ∀ (N' : imat) (i' j' : Nat), eqvZ N' A (m + 1) (n + 1) → i' < m + 1 → j' < n + 1 → N' i' j' ≠ 0 → (N i j).natAbs ≤ (N' i' j').natAbs
            · exact ⟨N, i, j, b1, b2, b3, b4, c⟩
            · have ⟨N', i', j', d1, d2, d3, d4, d5⟩ : ∃ (N' : imat) (i' j' : Nat), eqvZ N' A (m + 1) (n + 1) ∧ i' < m + 1 ∧ j' < n + 1 ∧ N' i' j' ≠ 0 ∧ ¬ (N i j).natAbs ≤ (N' i' j').natAbs := Classical.byContradiction (fun hn => c (fun N' i' j' d1 d2 d3 d4 => Classical.byContradiction (fun d5 => hn ⟨N', i', j', d1, d2, d3, d4, d5⟩)))
              exact ih N' i' j' d1 d2 d3 d4 (by omega)
        exact this _ N i j a1 a2 a3 a4 (Nat.le_refl _)
      obtain ⟨N0, i0, j0, a1, a2, a3, a4, least⟩ := hmin
      -- bring it to the corner, with its size
      have ⟨N, g, b1, b2, b3, b4⟩ : ∃ (N : imat) (g : Int), eqvZ N A (m + 1) (n + 1) ∧ N 0 0 = g ∧ 0 < g ∧ g.natAbs = (N0 i0 j0).natAbs := by
        have c1 := (eqvZ.swaprows N0 (m := m) (n := n + 1) a2).trans a1
        have c2 := (eqvZ.swapcols (fun i j => if i = 0 then N0 i0 j else if i = i0 then N0 0 j else N0 i j) (m := m + 1) (n := n) a3).trans c1
        rcases Int.lt_or_gt_of_ne a4 with c | c
        · exact ⟨_, -N0 i0 j0, (eqvZ.neg0 _).trans c2, by simp, by omega, by omega⟩
        · exact ⟨_, N0 i0 j0, c2, by simp, by omega, rfl⟩
      have least' : ∀ (N' : imat) (i' j' : Nat), eqvZ N' A (m + 1) (n + 1) → i' < m + 1 → j' < n + 1 → N' i' j' ≠ 0 → g.natAbs ≤ (N' i' j').natAbs := fun N' i' j' h1 h2 h3 h4 => by rw [b4]; exact least N' i' j' h1 h2 h3 h4
      have em : ∀ x : Int, x + -(x / g) * g = x % g := fun x => by
        have := Int.mul_ediv_add_emod x g
        rw [Int.neg_mul, Int.mul_comm (x / g)]; omega
      -- no rest can stand in such a matrix
      have rest : ∀ (N' : imat) (i' j' : Nat) (x : Int), eqvZ N' A (m + 1) (n + 1) → i' < m + 1 → j' < n + 1 → N' i' j' = x % g → x % g = 0 := fun N' i' j' x h1 h2 h3 h4 => Classical.byContradiction (fun h5 => by
        have := least' N' i' j' h1 h2 h3 (by rw [h4]; exact h5)
        have p1 := Int.emod_lt_of_pos x b3
        have p2 := Int.emod_nonneg x (show g ≠ 0 by omega)
        rw [h4] at this
        omega)
      have r1 := (eqvZ.addrows N (m := m) (n := n + 1) (fun i => -(N i 0 / g))).trans b1
      have z1 : ∀ i, 0 < i → i < m + 1 → N i 0 + -(N i 0 / g) * N 0 0 = 0 := fun i h1 h2 => by
        rw [b2, em]
        exact rest _ i 0 (N i 0) r1 h2 (by omega) (by (try dsimp only); rw [if_neg (by omega), b2, em])
      obtain ⟨N1, hN1⟩ : ∃ N1 : imat, N1 = fun i j => if i = 0 then N 0 j else N i j + -(N i 0 / g) * N 0 j := ⟨_, rfl⟩
      rw [← hN1] at r1
      have c00 : N1 0 0 = g := by rw [hN1]; simp [b2]
      have ci0 : ∀ i, 0 < i → i < m + 1 → N1 i 0 = 0 := fun i h1 h2 => by rw [hN1]; (try dsimp only); rw [if_neg (by omega)]; exact z1 i h1 h2
      have r2 := (eqvZ.addcols N1 (m := m + 1) (n := n) (fun j => -(N1 0 j / g))).trans r1
      obtain ⟨N2, hN2⟩ : ∃ N2 : imat, N2 = fun i j => if j = 0 then N1 i 0 else N1 i j + -(N1 0 j / g) * N1 i 0 := ⟨_, rfl⟩
      rw [← hN2] at r2
      have d00 : N2 0 0 = g := by rw [hN2]; simp [c00]
      have di0 : ∀ i, 0 < i → i < m + 1 → N2 i 0 = 0 := fun i h1 h2 => by rw [hN2]; (try dsimp only); rw [if_pos rfl]; exact ci0 i h1 h2
      have d0j : ∀ j, 0 < j → j < n + 1 → N2 0 j = 0 := fun j h1 h2 => by
        have e : N2 0 j = N1 0 j % g := by rw [hN2]; (try dsimp only); rw [if_neg (by omega), c00, em]
        rw [e]
        exact rest N2 0 j (N1 0 j) r2 (by omega) h2 e
      have dv : ∀ i, 0 < i → i < m + 1 → ∀ j, 0 < j → j < n + 1 → g ∣ N2 i j := fun i h1 h2 j h3 h4 => by
        have p1 : eqvZ (fun x y => if x = 0 then N2 0 y + N2 i y else N2 x y) N2 (m + 1) (n + 1) := eqvZ.pair (a := 1) (b := 1) (c := 0) (e := 1) (show 0 < m + 1 by omega) h2 (by omega) (fun x _ h5 _ y _ => by rw [if_neg h5]) (fun y _ => by rw [if_pos rfl]; omega) (fun y _ => by rw [if_neg (by omega)]; omega) (by omega)
        have p2 := ((eqvZ.addcols (fun x y => if x = 0 then N2 0 y + N2 i y else N2 x y) (m := m + 1) (n := n) (fun y => -(N2 i y / g))).trans p1).trans r2
        refine Int.dvd_of_emod_eq_zero (rest _ 0 j (N2 i j) p2 (by omega) h4 ?_)
        try dsimp only
        rw [if_neg (by omega), if_pos rfl, if_pos rfl, d0j j h3 h4, d00, di0 i h1 h2, Int.add_zero, Int.zero_add, em]
      -- the rest of it
      obtain ⟨s, s1, s2, s3, s4⟩ := smith_exists m n (fun i j => N2 (i + 1) (j + 1))
      have hgs : ∀ i, g ∣ s i := fun i => by
        by_cases c : m ≤ i ∨ n ≤ i
        · rw [s3 i c]; exact ⟨0, by omega⟩
        · have := madeZ_dvd s4.1 (g := g) (fun a ha b hb => dv (a + 1) (by omega) (by omega) (b + 1) (by omega) (by omega)) i (by omega) i (by omega)
          rw [if_pos rfl] at this
          exact this
      refine ⟨fun i => if i = 0 then g else s (i - 1), fun i j hij => ?_, fun i => ?_, fun i hi => ?_, ?_⟩
      · show (if i = 0 then g else s (i - 1)) ∣ (if j = 0 then g else s (j - 1))
        by_cases c : i = 0
        · rw [if_pos c]
          split
          · exact ⟨1, by omega⟩
          · exact hgs _
        · rw [if_neg c, if_neg (by omega)]
          exact s1 _ _ (by omega)
      · show 0 ≤ (if i = 0 then g else s (i - 1))
        split
        · omega
        · exact s2 _
      · show (if i = 0 then g else s (i - 1)) = 0
        rw [if_neg (by omega)]
        exact s3 _ (by omega)
      · refine eqvZ.trans ((eqvZ.block g s4).congr (fun i hi j hj => ?_) (fun i hi j hj => ?_)) r2
        · unfold blockZ
          by_cases c : i = 0
          · rw [if_pos c]
            by_cases c2 : j = 0
            · rw [if_pos c2, if_pos (by omega)]; simp [c]
            · rw [if_neg c2, if_neg (by omega)]
          · rw [if_neg c]
            by_cases c2 : j = 0
            · rw [if_pos c2, if_neg (by omega)]
            · rw [if_neg c2]
              by_cases c3 : i = j
              · rw [if_pos c3]
                try dsimp only
                rw [if_neg c, if_pos (by omega)]
              · rw [if_neg c3]
                try dsimp only
                rw [if_neg (by omega)]
        · unfold blockZ
          by_cases c : i = 0
          · rw [if_pos c, c]
            by_cases c2 : j = 0
            · rw [if_pos c2, c2, d00]
            · rw [if_neg c2, d0j j (by omega) hj]
          · rw [if_neg c]
            by_cases c2 : j = 0
            · rw [if_pos c2, c2, di0 i (by omega) hi]
            · rw [if_neg c2]
              show N2 (i - 1 + 1) (j - 1 + 1) = N2 i j
              rw [show i - 1 + 1 = i by omega, show j - 1 + 1 = j by omega]
