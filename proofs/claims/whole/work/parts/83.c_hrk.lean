/-! ===== the rank by both forms; sizes of whole matrices by their weight ===== -/
theorem rowsZ_rowsIn {A B : imat} {r s n : Nat} (h : rowsZ A r B s n) : rowsIn (zq A) r (zq B) s n := fun i hi => by
  obtain ⟨c, hc⟩ := h i hi
  refine ⟨fun k => (c k : Rat), fun j hj => ?_⟩
  show ((A i j : Int) : Rat) = _
  rw [hc j hj, isum_cast]
  exact qsum_congr (fun k _ => by rw [Rat.intCast_mul]; rfl)
theorem qprod_ne {f : Nat → Rat} : ∀ {n : Nat}, (∀ i, i < n → f i ≠ 0) → qprod f n ≠ 0
  | 0, _ => by show (1 : Rat) ≠ 0; decide
  | n + 1, h => fun e => by
    rcases Rat.mul_eq_zero.mp (show qprod f n * f n = 0 from e) with g | g
    · exact qprod_ne (fun i hi => h i (by omega)) g
    · exact h n (by omega) g
theorem stairs_minor {H : imat} {n r : Nat} {g : Nat → Nat} (h : stairs H n r g) : det r (fun a b => zq H a (g b)) ≠ 0 := by
  rw [det_tri (fun i hi j hj => by
    show ((H i (g j) : Int) : Rat) = 0
    rw [h.2.2.1 i hi (g j) (h.2.1 j i hj hi)]; rfl)]
  exact qprod_ne (fun i hi e => by
    have h1 := Rat.intCast_inj.mp (show ((H i (g i) : Int) : Rat) = ((0 : Int) : Rat) from e)
    have := h.2.2.2 i hi
    omega)
theorem rref_minor {E : qmat} {n r : Nat} {p : Nat → Nat} (h : rref E n r p) : det r (fun a b => E a (p b)) ≠ 0 := by
  rw [det_tri (fun i hi j hj => h.2.2.2.2 i j hi (by omega) (by omega))]
  exact qprod_ne (fun i hi => by rw [h.2.2.2.1 i hi]; decide)
theorem herm_rank {H Bz : imat} {A A' : qmat} {m n r rk : Nat} {g p : Nat → Nat} (hH : hermF H n r g) (h1 : rowsZ H r Bz m n) (h2 : rowsZ Bz m H r n) (hg : gjinv A' m n rk p) (a1 : rowsIn A' m A m n) (a2 : rowsIn A m A' m n) (hA : ∀ i, i < m → ∀ j, j < n → A i j = zq Bz i j) : rk = r := by
  have b1 : rowsIn (zq Bz) m A' rk n := fun i hi => by
    obtain ⟨c, hc⟩ := rowsIn_cut a2 hg.1 (fun i a b j hj => hg.2.2.2.2.2.2 i a b j hj) i hi
    exact ⟨c, fun j hj => by rw [← hA i hi j hj]; exact hc j hj⟩
  have b2 : rowsIn A' rk (zq Bz) m n := fun i hi => by
    obtain ⟨c, hc⟩ := a1 i (Nat.lt_of_lt_of_le hi hg.1)
    exact ⟨c, fun j hj => by rw [hc j hj]; exact qsum_congr (fun k hk => by rw [hA k hk j hj])⟩
  have c1 := minor_le (k := r) (x := fun i => i) (y := g) (rowsIn_trans (rowsZ_rowsIn h1) b1) (fun i hi => hi) (fun i hi => hH.1.1 i hi) (stairs_minor hH.1)
  have c2 := minor_le (k := rk) (x := fun i => i) (y := p) (rowsIn_trans b2 (rowsZ_rowsIn h2)) (fun i hi => hi) (fun i hi => hg.2.1 i hi) (rref_minor (gjinv_rref hg))
  omega
theorem hsz_of {Bz : imat} {m n b0 s : Nat} (hm : 1 ≤ m) (hn : 1 ≤ n) (hb : 1 ≤ b0) (hB : ∀ i, i < m → ∀ j, j < n → (Bz i j).natAbs ≤ b0) (hs : (min m n * b0) ^ min m n < 32768 ^ s) : HSZ Bz m n s s := by
  have hz : ∀ i, i < m → ∀ j, j < n → zle b0 (zq Bz i j) := fun i hi j hj => ⟨Bz i j, rfl, hB i hi j hj⟩
  have one : ∀ i : Nat, zle 1 ((fun _ => (1 : Rat)) i) ∧ (fun _ : Nat => (1 : Rat)) i ≠ 0 := fun _ => ⟨⟨1, rfl, Nat.le_refl _⟩, by show (1 : Rat) ≠ 0; decide⟩
  have pw : ∀ r, r ≤ m → r ≤ n → (r * b0) ^ r ≤ (min m n * b0) ^ min m n := fun r h1 h2 => by
    refine Nat.le_trans (Nat.pow_le_pow_left (Nat.mul_le_mul_right _ (show r ≤ min m n by omega)) r) (Nat.pow_le_pow_right (Nat.mul_pos (by omega) hb) (by omega))
  refine ⟨?_, ?_, fun r g1 g2 h1 h2 x1 x2 => ?_⟩
  · exact ESZ.of (b := b0) (wb := 1) (K := min n m) (fun i hi j hj => hz j hj i hi) (fun i _ => one i) rfl hb (Nat.le_refl _) (by rw [Nat.mul_one, Nat.min_comm]; exact hs)
  · exact ESZ.of (b := b0) (wb := 1) (K := min m n) hz (fun i _ => one i) rfl hb (Nat.le_refl _) (by rw [Nat.mul_one]; exact hs)
  · have hzr : ∀ i, i < r → ∀ j, j < r → zle b0 (zq Bz (g1 i) (g2 j)) := fun i hi j hj => hz _ (x1 i hi) _ (x2 j hj)
    have hlt : (r * b0) ^ r < 32768 ^ s := Nat.lt_of_le_of_lt (pw r h1 h2) hs
    refine ⟨ESZ.of (b := b0) (wb := 1) (K := r) hzr (fun i _ => one i) (Nat.min_self r).symm hb (Nat.le_refl _) (by rw [Nat.mul_one]; exact hlt), fun B E c x g u ω z hd hc => ?_, fun z hz' => ?_⟩
    · rcases Nat.eq_zero_or_pos r with e | e
      · subst e
        have e2 : c = 0 := by omega
        subst e2
        have hu : u = 1 := hd.2.2.1
        rw [hu]
        have h0 : 1 < 32768 ^ s := by
          rcases Nat.eq_zero_or_pos s with e3 | e3
          · exfalso
            rw [e3, Nat.pow_zero] at hs
            have := Nat.pow_pos (n := min m n) (show 0 < min m n * b0 from Nat.mul_pos (by omega) hb)
            omega
          · exact Nat.one_lt_pow (by omega) (by decide)
        exact ⟨h0, h0⟩
      · obtain ⟨r1, r2⟩ := hd.size hc hzr hb (Nat.le_refl _) e
        rw [Nat.one_pow] at r2
        have h3 : 1 ≤ (r * b0) ^ r := Nat.pow_pos (Nat.mul_pos e hb)
        exact ⟨ZB.of_le r1 hlt, ZB.of_le (b := (r * b0) ^ r) (show ((u.den : Nat) : Int).natAbs ≤ _ from Nat.le_trans r2 h3) hlt⟩
    · obtain ⟨y, hy1, hy2⟩ := zle_det (K := r) (n := r) (Nat.le_refl _) hzr
      rw [hz'] at hy1
      have := Rat.intCast_inj.mp hy1
      rw [this]
      omega
theorem ns_16 : ∀ r, r ≤ 16 → nsum (thG r 134) r ≤ 1112720 := by decide
theorem rowD_one {q : Nat → Rat} {m n i : Nat} (h : allWhole q (m * n)) (hi : i < m) : rowD q n i 1 = 1 := by
  have h1 : rowD q n i 1 ∣ 1 := lcmf_least (Int.dvd_refl _) (fun j hj => by rw [h _ (cell_lt hi hj)]; exact Int.dvd_refl _)
  have h2 := rowD_pos (q := q) (n := n) (i := i) (z := 1) (by decide)
  have h3 := Int.le_of_dvd (by decide) h1
  omega
/-- whole cells by their weight -/
theorem wgt_whole {q : Nat → Rat} {m n : Nat} (hf : fitC q (m * n)) (hm : 1 ≤ m) (hn : 1 ≤ n) (hw : allWhole q (m * n)) (hh : ¬ heavy1 q m n) : ∃ (b0 : Nat), 1 ≤ b0 ∧ (∀ i, i < m → ∀ j, j < n → q (i * n + j) = (((q (i * n + j)).num : Int) : Rat) ∧ (q (i * n + j)).num.natAbs ≤ b0) ∧ (min m n * b0) ^ min m n ≤ 2 ^ 2000 := by
  obtain ⟨b0, w1, w2, w3, w4⟩ := wgt_one hf hm hn hh
  refine ⟨b0, w1, fun i hi j hj => ?_, w4⟩
  have hd := hw _ (cell_lt hi hj)
  have hq : q (i * n + j) = (((q (i * n + j)).num : Int) : Rat) := by
    have := (Rat.num_divInt_den (q (i * n + j))).symm
    rw [Rat.divInt_eq_div, hd] at this
    refine this.trans ?_
    show (((q (i * n + j)).num : Int) : Rat) / 1 = _
    generalize (((q (i * n + j)).num : Int) : Rat) = x
    grind
  refine ⟨hq, ?_⟩
  obtain ⟨z, hz1, hz2⟩ := w2 i hi j hj
  rw [rowD_one hw hi, show ((1 : Int) : Rat) = 1 from rfl, Rat.one_mul, hq] at hz1
  have := Rat.intCast_inj.mp hz1
  rw [this]
  exact hz2
