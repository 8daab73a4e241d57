/-! ===== determinants of whole matrices ===== -/
def zq (P : imat) : qmat := fun i j => (P i j : Rat)
theorem isum_cast {f : Nat → Int} : ∀ {n : Nat}, ((isum f n : Int) : Rat) = qsum (fun i => (f i : Rat)) n
  | 0 => rfl
  | n + 1 => by
    show ((isum f n + f n : Int) : Rat) = qsum _ n + _
    rw [Rat.intCast_add, isum_cast]
theorem isZ_zq (P : imat) (i j : Nat) : isZ (zq P i j) := ⟨P i j, rfl⟩
/-- the determinant times a unit row is in the lattice -/
theorem det_in {k : Nat} {P : imat} {D : Int} (hD : det k (zq P) = (D : Rat)) {j : Nat} (hj : j < k) : inZ (fun x => if x = j then D else 0) P k k := by
  have hc : ∀ i, ∃ z : Int, det k (rput (fun a b => zq P b a) j (qunit i)) = (z : Rat) := fun i => isZ_cof (fun a _ b _ => isZ_zq P a b)
  refine ⟨fun i => Classical.choose (hc i), fun x hx => ?_⟩
  have h := det_adjug (M := zq P) hj x hx
  apply Rat.intCast_inj.mp
  rw [isum_cast]
  have e : qsum (fun i => ((Classical.choose (hc i) * P i x : Int) : Rat)) k = qsum (fun i => det k (rput (fun a b => zq P b a) j (qunit i)) * zq P i x) k := qsum_congr (fun i _ => by
    rw [Rat.intCast_mul, ← Classical.choose_spec (hc i)]
    rfl)
  rw [e, h]
  show (((if x = j then D else 0) : Int) : Rat) = _
  by_cases c : x = j
  · rw [if_pos c, if_pos c]; exact hD.symm
  · rw [if_neg c, if_neg c]; rfl
/-- rows of a lattice of k rows: its determinant divides theirs -/
theorem det_lat {k : Nat} {S T : imat} {D E : Int} (hS : det k (zq S) = (D : Rat)) (hT : det k (zq T) = (E : Rat)) (h : rowsZ T k S k k) : D ∣ E := by
  have hc : ∀ i, ∃ c : Nat → Int, i < k → ∀ j, j < k → T i j = isum (fun l => c l * S l j) k := fun i => by
    by_cases g : i < k
    · obtain ⟨c, hc⟩ := h i g; exact ⟨c, fun _ => hc⟩
    · exact ⟨fun _ => 0, fun g' => absurd g' g⟩
  have := det_rows (k := k) (S := zq S) (T := zq T) (U := fun i l => ((Classical.choose (hc i) l : Int) : Rat)) (d := D) (fun i _ l _ => ⟨_, rfl⟩) (fun i hi j hj => by
    show ((T i j : Int) : Rat) = _
    rw [Classical.choose_spec (hc i) hi j hj, isum_cast]
    exact qsum_congr (fun l _ => by rw [Rat.intCast_mul]; rfl)) hS
  rw [hT] at this
  exact gdiv_int this
theorem det_upper {k : Nat} {P : imat} (h : ∀ i, i < k → ∀ j, j < i → P i j = 0) : det k (zq P) = ((zprod (fun i => P i i) k : Int) : Rat) := by
  rw [det_tri (fun i hi j hj => by show ((P i j : Int) : Rat) = 0; rw [h i hi j hj]; rfl), ← qprod_cast]
  rfl
