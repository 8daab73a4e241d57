/-! ===== a lattice with all multiples of d has a Hermite form ===== -/
theorem lat_min {B : imat} {s n t : Nat} {d : Int} (hd : 0 < d) (h : inZ (fun j => if j = t then d else 0) B s n) : ∃ w : Nat → Int, inZ w B s n ∧ (∀ j, j < t → w j = 0) ∧ 0 < w t ∧ ∀ v, inZ v B s n → (∀ j, j < t → v j = 0) → w t ∣ v t := by
  have main : ∀ m : Nat, ∀ w : Nat → Int, inZ w B s n → (∀ j, j < t → w j = 0) → 0 < w t → w t ≤ (m : Int) → ∃ w : Nat → Int, inZ w B s n ∧ (∀ j, j < t → w j = 0) ∧ 0 < w t ∧ ∀ v, inZ v B s n → (∀ j, j < t → v j = 0) → w t ∣ v t := by
    intro m
    induction m with
    | zero => intro w _ _ h1 h2; omega
    | succ m ih =>
      intro w hw hz hp hm
      by_cases c : ∀ v, inZ v B s n → (∀ j, j < t → v j = 0) → w t ∣ v t
      · exact ⟨w, hw, hz, hp, c⟩
      · have ⟨v, hv, hvz, hnd⟩ : ∃ v, inZ v B s n ∧ (∀ j, j < t → v j = 0) ∧ ¬ w t ∣ v t := Classical.byContradiction (fun hn => c (fun v a b => Classical.byContradiction (fun g => hn ⟨v, a, b, g⟩)))
        have hm1 := Int.emod_lt_of_pos (v t) hp
        have hm0 := Int.emod_nonneg (v t) (show w t ≠ 0 by omega)
        have hne : v t % w t ≠ 0 := fun e => hnd (Int.dvd_of_emod_eq_zero e)
        have hed := Int.mul_ediv_add_emod (v t) (w t)
        have e1 : v t + -(v t / w t) * w t = v t % w t := by rw [Int.neg_mul, Int.mul_comm (v t / w t)]; omega
        refine ih (fun j => v j + -(v t / w t) * w j) (inZ_add hv (inZ_smul _ hw)) (fun j hj => ?_) ?_ ?_
        · show v j + -(v t / w t) * w j = 0
          rw [hvz j hj, hz j hj, Int.mul_zero, Int.add_zero]
        · show 0 < v t + -(v t / w t) * w t
          rw [e1]; omega
        · show v t + -(v t / w t) * w t ≤ _
          rw [e1]; omega
  exact main d.toNat _ h (fun j hj => if_neg (by omega)) (by rw [if_pos rfl]; exact hd) (by rw [if_pos rfl]; omega)
theorem herm_exists {B : imat} {s n : Nat} {d : Int} (hd : 0 < d) (h : ∀ k, k < n → inZ (fun j => if j = k then d else 0) B s n) : ∃ T : imat, hermF T n n (fun i => i) ∧ rowsZ T n B s n ∧ rowsZ B s T n n ∧ ∀ t, t < n → ∀ v, inZ v B s n → (∀ j, j < t → v j = 0) → T t t ∣ v t := by
  have hw : ∀ t, ∃ w : Nat → Int, t < n → inZ w B s n ∧ (∀ j, j < t → w j = 0) ∧ 0 < w t ∧ ∀ v, inZ v B s n → (∀ j, j < t → v j = 0) → w t ∣ v t := fun t => by
    by_cases c : t < n
    · obtain ⟨w, hw⟩ := lat_min hd (h t c); exact ⟨w, fun _ => hw⟩
    · exact ⟨fun _ => 0, fun g => absurd g c⟩
  have ⟨W, hW⟩ : ∃ W : imat, ∀ t, t < n → inZ (W t) B s n ∧ (∀ j, j < t → W t j = 0) ∧ 0 < W t t ∧ ∀ v, inZ v B s n → (∀ j, j < t → v j = 0) → W t t ∣ v t := ⟨fun t => Classical.choose (hw t), fun t => Classical.choose_spec (hw t)⟩
  -- less of what stands above a pivot
  have red : ∀ e i k, n = k + e → i < k → ∀ v, inZ v B s n → ∃ u : Nat → Int, inZ u B s n ∧ (∀ j, j < k → u j = v j) ∧ ∀ j, k ≤ j → j < n → 0 ≤ u j ∧ u j < W j j := by
    intro e
    induction e with
    | zero => intro i k hk _ v hv; exact ⟨v, hv, fun j _ => rfl, fun j h1 h2 => by omega⟩
    | succ e ih =>
      intro i k hk hik v hv
      obtain ⟨w1, w2, w3, w4⟩ := hW k (by omega)
      have hv2 : inZ (fun j => v j + -(v k / W k k) * W k j) B s n := inZ_add hv (inZ_smul _ w1)
      obtain ⟨u, u1, u2, u3⟩ := ih i (k + 1) (by omega) (by omega) _ hv2
      refine ⟨u, u1, fun j hj => ?_, fun j h1 h2 => ?_⟩
      · rw [u2 j (by omega), w2 j hj, Int.mul_zero, Int.add_zero]
      · by_cases c : j = k
        · subst c
          rw [u2 j (by omega)]
          have hed := Int.mul_ediv_add_emod (v j) (W j j)
          have e1 : v j + -(v j / W j j) * W j j = v j % W j j := by rw [Int.neg_mul, Int.mul_comm (v j / W j j)]; omega
          rw [e1]
          exact ⟨Int.emod_nonneg _ (by omega), Int.emod_lt_of_pos _ w3⟩
        · exact u3 j (by omega) h2
  have hT : ∀ i, ∃ u : Nat → Int, i < n → inZ u B s n ∧ (∀ j, j < i + 1 → u j = W i j) ∧ ∀ j, i + 1 ≤ j → j < n → 0 ≤ u j ∧ u j < W j j := fun i => by
    by_cases c : i < n
    · obtain ⟨u, hu⟩ := red (n - (i + 1)) i (i + 1) (by omega) (by omega) (W i) (hW i c).1; exact ⟨u, fun _ => hu⟩
    · exact ⟨fun _ => 0, fun g => absurd g c⟩
  have ⟨T, hT⟩ : ∃ T : imat, ∀ i, i < n → inZ (T i) B s n ∧ (∀ j, j < i + 1 → T i j = W i j) ∧ ∀ j, i + 1 ≤ j → j < n → 0 ≤ T i j ∧ T i j < W j j := ⟨fun i => Classical.choose (hT i), fun i => Classical.choose_spec (hT i)⟩
  have dg : ∀ i, i < n → T i i = W i i := fun i hi => (hT i hi).2.1 i (by omega)
  have lo : ∀ i, i < n → ∀ j, j < i → T i j = 0 := fun i hi j hj => by rw [(hT i hi).2.1 j (by omega)]; exact (hW i hi).2.1 j hj
  have hdv : ∀ t, t < n → ∀ v, inZ v B s n → (∀ j, j < t → v j = 0) → T t t ∣ v t := fun t ht v hv hz => by rw [dg t ht]; exact (hW t ht).2.2.2 v hv hz
  refine ⟨T, ⟨⟨fun i hi => hi, fun i k h _ => h, lo, fun i hi => ?_⟩, fun i k hik hk => ?_⟩, fun i hi => (hT i hi).1, ?_, hdv⟩
  · show 0 < T i i
    rw [dg i hi]; exact (hW i hi).2.2.1
  · show 0 ≤ T i k ∧ T i k < T k k
    rw [dg k hk]
    exact (hT i (by omega)).2.2 k (by omega) hk
  · -- what is in the lattice with 0 before t
    have out : ∀ e t, n = t + e → ∀ v, inZ v B s n → (∀ j, j < t → v j = 0) → inZ v T n n := by
      intro e
      induction e with
      | zero => intro t ht v _ hz; exact inZ_congr inZ_zero (fun j hj => hz j (by omega))
      | succ e ih =>
        intro t ht v hv hz
        obtain ⟨q, hq⟩ := hdv t (by omega) v hv hz
        have r := ih (t + 1) (by omega) (fun j => v j + -q * T t j) (inZ_add hv (inZ_smul _ (hT t (by omega)).1)) (fun j hj => by
          by_cases c : j = t
          · subst c; show v j + -q * T j j = 0; rw [hq, Int.neg_mul, Int.mul_comm]; omega
          · show v j + -q * T t j = 0; rw [hz j (by omega), lo t (by omega) j (by omega), Int.mul_zero, Int.add_zero])
        refine inZ_congr (inZ_add r (inZ_smul q (inZ_row (show t < n by omega)))) (fun j _ => ?_)
        rw [Int.neg_mul]
        omega
    exact fun i hi => out n 0 (by omega) (B i) (inZ_row hi) (fun j hj => by omega)
