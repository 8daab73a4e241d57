/-! ===== the Hermite form out of its pivots' columns and the echelon form ===== -/
theorem herm_build {b T : imat} {E : qmat} {m n r : Nat} {p : Nat → Nat} (hE : rref E n r p) (hb : rowsIn (zq b) m E r n) (hT : hermF T r r (fun i => i)) (h1 : rowsZ T r (fun i k => b i (p k)) m r) (h2 : rowsZ (fun i k => b i (p k)) m T r r) : ∃ H : imat, (∀ i, i < r → ∀ j, j < n → ((H i j : Int) : Rat) = qsum (fun k => ((T i k : Int) : Rat) * E k j) r) ∧ hermF H n r p ∧ rowsZ H r b m n ∧ rowsZ b m H r n := by
  have hc : ∀ i, ∃ c : Nat → Int, i < r → ∀ k, k < r → T i k = isum (fun l => c l * b l (p k)) m := fun i => by
    by_cases g : i < r
    · obtain ⟨c, hc⟩ := h1 i g; exact ⟨c, fun _ => hc⟩
    · exact ⟨fun _ => 0, fun g' => absurd g' g⟩
  have ⟨C, hC⟩ : ∃ C : imat, ∀ i, i < r → ∀ k, k < r → T i k = isum (fun l => C i l * b l (p k)) m := ⟨fun i => Classical.choose (hc i), fun i => Classical.choose_spec (hc i)⟩
  -- a row of b by its cells in the pivots' columns
  have hbx : ∀ l, l < m → ∀ j, j < n → ((b l j : Int) : Rat) = qsum (fun k => ((b l (p k) : Int) : Rat) * E k j) r := fun l hl j hj => rref_expand hE (v := fun j => ((b l j : Int) : Rat)) (hb l hl) hj
  have val : ∀ i, i < r → ∀ j, j < n → ((isum (fun l => C i l * b l j) m : Int) : Rat) = qsum (fun k => ((T i k : Int) : Rat) * E k j) r := fun i hi j hj => by
    rw [isum_cast]
    have e1 : qsum (fun l => ((C i l * b l j : Int) : Rat)) m = qsum (fun l => qsum (fun k => (C i l : Rat) * ((b l (p k) : Int) : Rat) * E k j) r) m := qsum_congr (fun l hl => by
      rw [Rat.intCast_mul, hbx l hl j hj, qsum_mul]
      exact qsum_congr (fun k _ => by grind))
    rw [e1, qsum_comm]
    refine qsum_congr (fun k hk => ?_)
    rw [hC i hi k hk, isum_cast]
    rw [show ∀ x y : Rat, x * y = y * x from fun x y => by grind, qsum_mul]
    exact qsum_congr (fun l _ => by rw [Rat.intCast_mul]; grind)
  have piv : ∀ i, i < r → ∀ k, k < r → isum (fun l => C i l * b l (p k)) m = T i k := fun i hi k hk => (hC i hi k hk).symm
  refine ⟨fun i j => isum (fun l => C i l * b l j) m, val, ⟨⟨hE.1, hE.2.1, fun i hi j hj => ?_, fun i hi => ?_⟩, fun i k hik hk => ?_⟩, fun i hi => ⟨C i, fun j _ => rfl⟩, fun l hl => ?_⟩
  · have hjn : j < n := Nat.lt_trans hj (hE.1 i hi)
    have e := val i hi j hjn
    rw [qsum_zero (fun k hk => by
      rcases Nat.lt_or_ge k i with g | g
      · have : T i k = 0 := hT.1.2.2.1 i hi k g
        rw [this]
        show ((0 : Int) : Rat) * _ = 0
        rw [show ((0 : Int) : Rat) = 0 from rfl]
        grind
      · have : j < p k := by
          rcases Nat.eq_or_lt_of_le g with e | e
          · rw [← e]; exact hj
          · exact Nat.lt_trans hj (hE.2.1 i k e hk)
        rw [hE.2.2.1 k hk j this]
        grind)] at e
    exact Rat.intCast_inj.mp e
  · show 0 < isum (fun l => C i l * b l (p i)) m
    rw [piv i hi i hi]
    exact hT.1.2.2.2 i hi
  · show 0 ≤ isum (fun l => C i l * b l (p k)) m ∧ isum (fun l => C i l * b l (p k)) m < isum (fun l => C k l * b l (p k)) m
    rw [piv i (by omega) k hk, piv k hk k hk]
    exact hT.2 i k hik hk
  · obtain ⟨e, he⟩ := h2 l hl
    refine ⟨e, fun j hj => Rat.intCast_inj.mp ?_⟩
    rw [hbx l hl j hj, isum_cast]
    have e1 : qsum (fun i => ((e i * isum (fun l => C i l * b l j) m : Int) : Rat)) r = qsum (fun i => qsum (fun k => (e i : Rat) * ((T i k : Int) : Rat) * E k j) r) r := qsum_congr (fun i hi => by
      rw [Rat.intCast_mul, val i hi j hj, qsum_mul]
      exact qsum_congr (fun k _ => by grind))
    rw [e1, qsum_comm]
    refine qsum_congr (fun k hk => ?_)
    have := he k hk
    dsimp only at this
    rw [this, isum_cast]
    rw [show ∀ x y : Rat, x * y = y * x from fun x y => by grind, qsum_mul]
    exact qsum_congr (fun i _ => by rw [Rat.intCast_mul]; grind)
