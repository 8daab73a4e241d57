/-! ===== a matrix of fractions as COMMON and whole cells: when it is normal, and its weight in bits and limbs ===== -/
def HAS (V : Nat → Int) (b r c : Nat) (q : Nat → Rat) : Prop := V (b + 256) ≠ 0 ∧ ∀ i j, i < r → j < c → ((V (b + (16 * i + j)) : Int) : Rat) = q (i * c + j) * ((V (b + 256) : Int) : Rat)
def NRM (V : Nat → Int) (b r c : Nat) (q : Nat → Rat) : Prop := 0 < V (b + 256) ∧ HAS V b r c q ∧ CDV V b c 0 r 0 1
theorem rat_ne {z : Int} (h : z ≠ 0) : ((z : Int) : Rat) ≠ 0 := fun e => h (Rat.intCast_inj.mp (by rw [e]; rfl))
theorem int_pos_of_mul {a b : Int} (ha : 0 < a) (h : 0 < a * b) : 0 < b := by
  rcases (show 0 < b ∨ b ≤ 0 by omega) with g | g
  · exact g
  · have := Int.mul_nonpos_of_nonneg_of_nonpos (Int.le_of_lt ha) g
    omega
theorem cdv_lcm {V : Nat → Int} {b c i0 i1 : Nat} {gg D : Int} {q : Nat → Rat} (h0 : 0 < V (b + 256)) (hq : ∀ i j, i0 ≤ i → i < i1 → j < c → ((V (b + (16 * i + j)) : Int) : Rat) = q (i * c + j) * ((V (b + 256) : Int) : Rat)) (hg : CDV V b c i0 i1 0 gg) (hD : 0 < D) (h1 : ∀ i j, i0 ≤ i → i < i1 → j < c → ((q (i * c + j)).den : Int) ∣ D) (h2 : ∀ F : Int, (∀ i j, i0 ≤ i → i < i1 → j < c → ((q (i * c + j)).den : Int) ∣ F) → D ∣ F) : D * gg = V (b + 256) := by
  obtain ⟨g1, ⟨C1, hC1⟩, g3, g4⟩ := hg
  have cell : ∀ i j, i0 ≤ i → i < i1 → j < c → ∃ v1 : Int, V (b + (16 * i + j)) = gg * v1 ∧ q (i * c + j) * (C1 : Rat) = (v1 : Rat) := fun i j a x y => by
    obtain ⟨v1, hv⟩ := g3 i j a ⟨y, Or.inl x⟩
    refine ⟨v1, hv, ?_⟩
    have e := hq i j a x y
    rw [hv, hC1, Rat.intCast_mul, Rat.intCast_mul] at e
    have n := rat_ne (show gg ≠ 0 by omega)
    grind
  obtain ⟨e, he⟩ := h2 C1 (fun i j a x y => by
    obtain ⟨v1, _, hv⟩ := cell i j a x y
    exact den_dvd hv)
  have hdv : e * gg ∣ gg := by
    refine g4 (e * gg) ?_ (fun i' j' a x => ?_)
    · exact ⟨D, by rw [hC1, he, Int.mul_comm e gg, Int.mul_assoc, Int.mul_comm D e]⟩
    · unfold thru at x
      obtain ⟨v1, hv, hw⟩ := cell i' j' a (by omega) x.1
      have hc := cell_times (h1 i' j' a (by omega) x.1)
      rw [he, Rat.intCast_mul] at hw
      obtain ⟨u, hu⟩ : ∃ u : Int, D / ((q (i' * c + j')).den : Int) * (q (i' * c + j')).num = u := ⟨_, rfl⟩
      rw [hu] at hc
      refine ⟨u, ?_⟩
      rw [hv]
      have : v1 = e * u := by
        apply Rat.intCast_inj.mp
        rw [Rat.intCast_mul]
        grind
      rw [this, Int.mul_comm e gg, Int.mul_assoc]
  obtain ⟨f, hf⟩ := hdv
  have he1 : 0 < C1 := int_pos_of_mul g1 (by rw [← hC1]; exact h0)
  have he2 : 0 < e := int_pos_of_mul hD (by rw [← he]; exact he1)
  have hone : e ∣ 1 := by
    refine ⟨f, ?_⟩
    have : gg * 1 = gg * (e * f) := by rw [Int.mul_one, ← Int.mul_assoc, Int.mul_comm gg e]; exact hf
    exact Int.eq_of_mul_eq_mul_left (by omega) this
  have e1 : e = 1 := by
    have := Int.le_of_dvd (by decide) hone
    omega
  rw [hC1, he, e1, Int.mul_one, Int.mul_comm]
theorem den_pos_int (q : Rat) : 0 < (q.den : Int) := by have := q.den_pos; omega
theorem dense_lt {i j r c : Nat} (hi : i < r) (hj : j < c) : i * c + j < r * c := by
  have : (i + 1) * c ≤ r * c := Nat.mul_le_mul_right _ hi
  rw [Nat.succ_mul] at this
  omega
theorem dense_of {t r c : Nat} (ht : t < r * c) : ∃ i j, i < r ∧ j < c ∧ t = i * c + j := by
  have hc : 0 < c := by
    rcases Nat.eq_zero_or_pos c with e | e
    · rw [e, Nat.mul_zero] at ht; omega
    · exact e
  refine ⟨t / c, t % c, Nat.div_lt_of_lt_mul (by rw [Nat.mul_comm]; exact ht), Nat.mod_lt _ hc, ?_⟩
  rw [Nat.mul_comm]
  exact (Nat.div_add_mod t c).symm
theorem NRM.lcm {V : Nat → Int} {b r c : Nat} {q : Nat → Rat} (h : NRM V b r c q) : V (b + 256) = lcmf 1 (fun t => (q t).den) (r * c) := by
  have e := cdv_lcm (D := lcmf 1 (fun t => (q t).den) (r * c)) h.1 (fun i j _ x y => h.2.1.2 i j x y) h.2.2 (lcmf_pos (by decide) (fun t _ => (q t).den_pos)) (fun i j _ x y => lcmf_dvd' (f := fun t => (q t).den) (dense_lt x y)) (fun F hF => lcmf_least ⟨F, (Int.one_mul F).symm⟩ (fun t ht => by
    obtain ⟨i, j, hi, hj, et⟩ := dense_of ht
    rw [et]
    exact hF i j (Nat.zero_le _) hi hj))
  rw [Int.mul_one] at e
  exact e.symm
theorem NRM.cell {V : Nat → Int} {b r c : Nat} {q : Nat → Rat} (h : NRM V b r c q) {i j : Nat} (hi : i < r) (hj : j < c) : V (b + (16 * i + j)) = lcmf 1 (fun t => (q t).den) (r * c) / ((q (i * c + j)).den : Int) * (q (i * c + j)).num := by
  apply Rat.intCast_inj.mp
  rw [h.2.1.2 i j hi hj, h.lcm, ← cell_times (lcmf_dvd' (f := fun t => (q t).den) (dense_lt hi hj)), Rat.mul_comm]
theorem nsum_append {f : Nat → Nat} {a : Nat} : ∀ {n : Nat}, nsum f (a + n) = nsum f a + nsum (fun j => f (a + j)) n
  | 0 => rfl
  | n + 1 => by
    show nsum f (a + n) + f (a + n) = nsum f a + (nsum (fun j => f (a + j)) n + f (a + n))
    rw [nsum_append, Nat.add_assoc]
theorem nsum_cong {f g : Nat → Nat} : ∀ {n : Nat}, (∀ i, i < n → f i = g i) → nsum f n = nsum g n
  | 0, _ => rfl
  | n + 1, h => by
    show nsum f n + f n = nsum g n + g n
    rw [nsum_cong (fun i hi => h i (by omega)), h n (by omega)]
theorem nsum_grid {F : Nat → Nat} {f : Nat → Nat → Nat} {c : Nat} : ∀ {r : Nat}, (∀ i j, i < r → j < c → F (i * c + j) = f i j) → nsum F (r * c) = nsum (fun i => nsum (fun j => f i j) c) r
  | 0, _ => by rw [Nat.zero_mul]; rfl
  | r + 1, h => by
    rw [Nat.succ_mul, nsum_append]
    show _ = nsum (fun i => nsum (fun j => f i j) c) r + nsum (fun j => f r j) c
    rw [nsum_grid (fun i j hi hj => h i j (by omega) hj), nsum_cong (fun j hj => h r j (by omega) hj)]
theorem blen_mono {a b : Int} (h : a.natAbs ≤ b.natAbs) : blen a ≤ blen b := by
  by_cases e : a = 0
  · rw [e]; exact Nat.zero_le _
  · rcases Nat.lt_or_ge (blen b) (blen a) with g | g
    · exfalso
      have h1 := blen_pow b
      have h2 : 2 ^ (blen a - 1) ≤ a.natAbs := by
        unfold blen
        rw [if_neg e, Nat.add_sub_cancel]
        exact Nat.log2_self_le (by omega)
      have h3 : 2 ^ blen b ≤ 2 ^ (blen a - 1) := Nat.pow_le_pow_right (by decide) (by omega)
      omega
    · exact g
theorem lcmf_step {z : Int} {f : Nat → Nat} : ∀ {n k : Nat}, k ≤ n → lcmf z f k ∣ lcmf z f n
  | 0, k, h => by rw [show k = 0 by omega]; exact Int.dvd_refl _
  | n + 1, k, h => by
    by_cases e : k = n + 1
    · rw [e]; exact Int.dvd_refl _
    · exact Int.dvd_trans (lcmf_step (show k ≤ n by omega)) (Int.dvd_lcm_left ..)
/-- the draft is too long where the fractions don't fit -/
theorem NRM.fit {V : Nat → Int} {b r c : Nat} {q : Nat → Rat} (h : NRM V b r c q) (hr : r ≤ 16) (hc : c ≤ 16) : FIT r c q ↔ ¬ LNG V b r c := by
  have hl := h.lcm
  have hD0 : 0 < lcmf 1 (fun t => (q t).den) (r * c) := lcmf_pos (by decide) (fun t _ => (q t).den_pos)
  have hsum : limbC q (r * c) = lc (V (b + 256)) + nsum (fun i => nsum (fun j => lc (V (b + (16 * i + j)))) c) r := by
    unfold limbC
    rw [hl]
    show lc _ + _ = _
    rw [nsum_grid (f := fun i j => lc (V (b + (16 * i + j))))]
    intro i j hi hj
    rw [h.cell hi hj]
    rfl
  constructor
  · rintro ⟨_, _, ⟨f1, f2⟩, f3⟩ hL
    rcases hL with hL | ⟨i, j, hi, hj, hL⟩ | hL
    · have := f1 (r * c) (Nat.le_refl _)
      rw [← hl] at this
      omega
    · have := f2 (i * c + j) (dense_lt hi hj)
      rw [← h.cell hi hj] at this
      omega
    · rw [hsum] at f3; omega
  · intro hL
    have n1 : blen (V (b + 256)) ≤ 4000 := by
      rcases Nat.lt_or_ge 4000 (blen (V (b + 256))) with g | g
      · exact absurd (Or.inl g) hL
      · exact g
    refine ⟨hr, hc, ⟨fun k hk => ?_, fun t ht => ?_⟩, ?_⟩
    · rw [hl] at n1
      refine Nat.le_trans (blen_mono ?_) n1
      have hd : lcmf 1 (fun t => (q t).den) k ∣ lcmf 1 (fun t => (q t).den) (r * c) := lcmf_step hk
      exact Nat.le_of_dvd (by omega) (Int.natAbs_dvd_natAbs.mpr hd)
    · obtain ⟨i, j, hi, hj, et⟩ := dense_of ht
      rw [et, ← h.cell hi hj]
      rcases Nat.lt_or_ge 4000 (blen (V (b + (16 * i + j)))) with g | g
      · exact absurd (Or.inr (Or.inl ⟨i, j, hi, hj, g⟩)) hL
      · exact g
    · rw [hsum]
      rcases Nat.lt_or_ge 20000 (lc (V (b + 256)) + nsum (fun i => nsum (fun j => lc (V (b + (16 * i + j)))) c) r) with g | g
      · exact absurd (Or.inr (Or.inr g)) hL
      · exact g
theorem LNG.not {V : Nat → Int} {b r c : Nat} (h : ¬ LNG V b r c) : lc (V (b + 256)) ≤ 125 ∧ ∀ i j, i < r → j < c → lc (V (b + (16 * i + j))) ≤ 125 := by
  refine ⟨lc_bits ?_, fun i j hi hj => lc_bits ?_⟩
  · rcases Nat.lt_or_ge 4000 (blen (V (b + 256))) with g | g
    · exact absurd (Or.inl g) h
    · exact g
  · rcases Nat.lt_or_ge 4000 (blen (V (b + (16 * i + j)))) with g | g
    · exact absurd (Or.inr (Or.inl ⟨i, j, hi, hj, g⟩)) h
    · exact g
/-- divided by what all share -/
theorem NRM.of {V V' : Nat → Int} {b b' r c : Nat} {q : Nat → Rat} {gg : Int} (h0 : 0 < V (b + 256)) (hq : ∀ i j, i < r → j < c → ((V (b + (16 * i + j)) : Int) : Rat) = q (i * c + j) * ((V (b + 256) : Int) : Rat)) (hg : CDV V b c 0 r 0 gg) (h1 : V' (b' + 256) * gg = V (b + 256)) (h2 : ∀ i j, i < r → j < c → V' (b' + (16 * i + j)) * gg = V (b + (16 * i + j))) : NRM V' b' r c q := by
  have g1 := hg.1
  have ng := rat_ne (show gg ≠ 0 by omega)
  have p1 : 0 < V' (b' + 256) := int_pos_of_mul g1 (by rw [Int.mul_comm, h1]; exact h0)
  refine ⟨p1, ⟨by omega, fun i j hi hj => ?_⟩, by decide, ⟨_, (Int.one_mul _).symm⟩, fun _ _ _ _ => ⟨_, (Int.one_mul _).symm⟩, fun x x1 x2 => ?_⟩
  · have e := hq i j hi hj
    rw [← h1, ← h2 i j hi hj, Rat.intCast_mul, Rat.intCast_mul] at e
    grind
  · have hd : x * gg ∣ gg := hg.2.2.2 (x * gg) (by rw [← h1]; exact Int.mul_dvd_mul_right gg x1) (fun i' j' _ t => by
      unfold thru at t
      rw [← h2 i' j' (by omega) t.1]
      exact Int.mul_dvd_mul_right gg (x2 i' j' (Nat.zero_le _) ⟨t.1, Or.inl (by omega)⟩))
    obtain ⟨f, hf⟩ := hd
    refine ⟨f, ?_⟩
    have : gg * 1 = gg * (x * f) := by rw [Int.mul_one, ← Int.mul_assoc, Int.mul_comm gg x]; exact hf
    exact Int.eq_of_mul_eq_mul_left (by omega) this
theorem NRM.congr {V V' : Nat → Int} {b b' r c : Nat} {q q' : Nat → Rat} (h : NRM V b r c q) (h1 : V' (b' + 256) = V (b + 256)) (h2 : ∀ i j, i < r → j < c → V' (b' + (16 * i + j)) = V (b + (16 * i + j))) (h3 : ∀ t, t < r * c → q' t = q t) : NRM V' b' r c q' := by
  have := NRM.of (V' := V') (b' := b') (gg := 1) h.1 h.2.1.2 h.2.2 (by rw [Int.mul_one]; exact h1) (fun i j hi hj => by rw [Int.mul_one]; exact h2 i j hi hj)
  exact ⟨this.1, ⟨this.2.1.1, fun i j hi hj => by rw [h3 _ (dense_lt hi hj)]; exact this.2.1.2 i j hi hj⟩, this.2.2⟩
