/-! ===== rank of the turned matrix; the part of full rank ===== -/
theorem det_span_zero {k s : Nat} {S T U : qmat} (hT : ∀ i, i < k → ∀ j, j < k → T i j = qsum (fun l => U i l * S l j) s) (h0 : ∀ f : Nat → Nat, (∀ i, i < k → f i < s) → det k (fun i j => S (f i) j) = 0) : det k T = 0 := by
  have main : ∀ t, t ≤ k → ∀ f : Nat → Nat, (∀ i, i < k → f i < s) → det k (fun i j => if i < t then qsum (fun l => U i l * S l j) s else S (f i) j) = 0 := by
    intro t
    induction t with
    | zero =>
      intro _ f hf
      rw [← h0 f hf]
      exact det_congr (fun i _ j _ => if_neg (by omega))
    | succ t ih =>
      intro ht f hf
      have e : det k (fun i j => if i < t + 1 then qsum (fun l => U i l * S l j) s else S (f i) j) = det k (rput (fun i j => if i < t then qsum (fun l => U i l * S l j) s else S (f i) j) t (fun j => qsum (fun l => U t l * S l j) s)) := by
        refine det_congr (fun i _ j _ => ?_)
        by_cases c : i = t
        · rw [c, rput_at, if_pos (by omega)]
        · rw [rput_ne _ _ _ c]
          by_cases c2 : i < t
          · rw [if_pos c2, if_pos (by omega)]
          · rw [if_neg c2, if_neg (by omega)]
      rw [e, det_linsum (u := fun l j => S l j) (by omega)]
      refine qsum_zero (fun l hl => ?_)
      have e2 : det k (rput (fun i j => if i < t then qsum (fun l => U i l * S l j) s else S (f i) j) t (fun j => S l j)) = 0 := by
        rw [← ih (by omega) (fun i => if i = t then l else f i) (fun i hi => by split; exact hl; exact hf i hi)]
        refine det_congr (fun i _ j _ => ?_)
        by_cases c : i = t
        · rw [c, rput_at, if_neg (by omega), if_pos rfl]
        · rw [rput_ne _ _ _ c, if_neg c]
      rw [e2]
      grind
  by_cases hs : s = 0
  · -- no rows: T is 0
    by_cases hk : k = 0
    · subst hk hs
      exact h0 (fun i => i) (fun i hi => by omega)
    · have hz : ∀ j, j < k → T 0 j = 0 := fun j hj => by rw [hT 0 (by omega) j hj, hs]; rfl
      have e : det k T = det k (rput T 0 (fun j => 0 * T 0 j + 0 * T 0 j)) := det_congr (fun i hi j hj => by
        by_cases c : i = 0
        · rw [c, rput_at, hz j hj]; grind
        · rw [rput_ne _ _ _ c])
      rw [e, det_lin (by omega)]
      grind
  · have := main k (Nat.le_refl _) (fun _ => 0) (fun _ _ => by omega)
    rw [← this]
    exact det_congr (fun i hi j hj => by rw [if_pos hi, hT i hi j hj])
/-- rows made of fewer rows: no determinant -/
theorem det_few {k s : Nat} {S T U : qmat} (hks : s < k) (hT : ∀ i, i < k → ∀ j, j < k → T i j = qsum (fun l => U i l * S l j) s) : det k T = 0 := by
  refine det_span_zero hT (fun f hf => ?_)
  obtain ⟨a, b, ha, hb, e, g⟩ : ∃ a b, a < k ∧ b < k ∧ f a = f b ∧ a ≠ b := Classical.byContradiction (fun hn => by
    obtain ⟨a, ha, e⟩ := pigeon_hit (k := k) (f := f) (fun a b ha hb e => Classical.byContradiction (fun g => hn ⟨a, b, ha, hb, e, g⟩)) (fun a ha => by have := hf a ha; omega) hks
    have := hf a ha
    omega)
  exact det_same ha hb g (fun j _ => by rw [e])
theorem det_prod_ne {k : Nat} {C E T : qmat} (hT : ∀ i, i < k → ∀ j, j < k → T i j = qsum (fun l => C i l * E l j) k) (h0 : det k T ≠ 0) : det k C ≠ 0 := fun hc => h0 (by
  rw [← det_T k T]
  refine det_span_zero (s := k) (S := fun l i => C i l) (U := fun j l => E l j) (fun i hi j hj => ?_) (fun f hf => ?_)
  · rw [hT j hj i hi]
    exact qsum_congr (fun l _ => by grind)
  · have hct : det k (fun l i => C i l) = 0 := by rw [det_T k C]; exact hc
    by_cases c : ∀ a b, a < k → b < k → f a = f b → a = b
    · rcases det_perm (M := fun l i => C i l) c hf with e | e
      · exact e.trans hct
      · refine e.trans ?_
        rw [hct]; grind
    · have : ∃ a b, a < k ∧ b < k ∧ f a = f b ∧ a ≠ b := Classical.byContradiction (fun hn => c (fun a b ha hb e => Classical.byContradiction (fun g => hn ⟨a, b, ha, hb, e, g⟩)))
      obtain ⟨a, b, ha, hb, e, g⟩ := this
      exact det_same ha hb g (fun j _ => by rw [e]))
/-- a minor that is not 0 is no larger than the rank -/
theorem minor_le {A E : qmat} {m n r k : Nat} {x y : Nat → Nat} (h : rowsIn A m E r n) (hx : ∀ i, i < k → x i < m) (hy : ∀ i, i < k → y i < n) (hd : det k (fun a b => A (x a) (y b)) ≠ 0) : k ≤ r := by
  rcases Nat.lt_or_ge r k with g | g
  · exfalso
    apply hd
    have hc : ∃ U : qmat, ∀ i, i < k → ∀ j, j < n → A (x i) j = qsum (fun l => U i l * E l j) r := ⟨fun i l => if hi : i < k then (h (x i) (hx i hi)).choose l else 0, fun i hi j hj => by
      have := (h (x i) (hx i hi)).choose_spec j hj
      rw [this]
      exact qsum_congr (fun l _ => by dsimp only; rw [dif_pos hi])⟩
    obtain ⟨U, hU⟩ := hc
    exact det_few (S := fun l j => E l (y j)) (U := U) g (fun i hi j hj => hU i hi (y j) (hy j hj))
  · exact g
theorem det_swapT {k : Nat} {A : qmat} {x y : Nat → Nat} : det k (fun a b => A (y b) (x a)) = det k (fun a b => A (y a) (x b)) := (det_T k (fun a b => A (y a) (x b)))
section RK
variable {A A1 A2 : qmat} {m n r1 r2 : Nat} {x1 x2 g1 g2 : Nat → Nat}
/-- the elimination of the turned matrix has as many pivots; its columns are rows of full rank -/
theorem rank_turn (h1 : GI (fun i j => A j i) (fun _ => 1) A1 n m r1 x1 g1) (hg1 : gjinv A1 n m r1 g1) (hr1 : rowsIn (fun i j => A j i) n A1 n m) (h2 : GI A (fun _ => 1) A2 m n r2 x2 g2) (hg2 : gjinv A2 m n r2 g2) (hr2 : rowsIn A m A2 m n) (hcut : ∀ {A B : qmat} {m s r n : Nat}, rowsIn A m B s n → r ≤ s → (∀ i, r ≤ i → i < s → ∀ j, j < n → B i j = 0) → rowsIn A m B r n) : r1 = r2 ∧ det r2 (fun a b => A (g1 a) (g2 b)) ≠ 0 := by
  have c1 := hcut hr1 hg1.1 (fun i a b j hj => hg1.2.2.2.2.2.2 i a b j hj)
  have c2 := hcut hr2 hg2.1 (fun i a b j hj => hg2.2.2.2.2.2.2 i a b j hj)
  have d1 := h1.2.2.2.2
  have d2 := h2.2.2.2.2
  have e1 : r1 ≤ r2 := minor_le (A := A) (x := g1) (y := x1) c2 (fun i hi => hg1.2.1 i hi) (fun i hi => h1.2.1 i (by have := hg1.1; omega)) (by rw [← det_swapT]; exact d1)
  have e2 : r2 ≤ r1 := minor_le (A := fun i j => A j i) (x := g2) (y := x2) c1 (fun i hi => hg2.2.1 i hi) (fun i hi => h2.2.1 i (by have := hg2.1; omega)) (by
    have := det_T r2 (fun a b => A (x2 a) (g2 b))
    rw [← this] at d2
    exact d2)
  have e : r1 = r2 := by omega
  refine ⟨e, ?_⟩
  subst e
  -- the rows g1 at the columns x1 are the rows at the pivots' columns times the echelon form
  have hT : ∀ i, i < r1 → ∀ j, j < r1 → A (g1 i) (x1 j) = qsum (fun l => A (g1 i) (g2 l) * A2 l (x1 j)) r1 := fun i hi j hj => rref_expand (gjinv_rref hg2) (v := A (g1 i)) (c2 _ (hg1.2.1 i hi)) (h1.2.1 j (by have := hg1.1; omega))
  exact det_prod_ne (T := fun a b => A (g1 a) (x1 b)) (E := fun l j => A2 l (x1 j)) hT (by rw [← det_swapT]; exact d1)
end RK
