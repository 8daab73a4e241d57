/-! ===== what was loaded, and the weight: the class's grid and the reference's words for it ===== -/
theorem rowD_lcm {q : Nat → Rat} {c i : Nat} {F : Int} (h : ∀ j, j < c → ((q (i * c + j)).den : Int) ∣ F) : rowD q c i 1 ∣ F := lcmf_least (f := fun j => (q (i * c + j)).den) ⟨_, (Int.one_mul _).symm⟩ h
section LNK
variable {V V' : Nat → Int} {b r c bk i : Nat} {g : Nat → Nat} {q : Nat → Rat}
theorem cdv_row (h : NRM V b r c q) (hi : i < r) {gg : Int} (hg : CDV V b c i (i + 1) 0 gg) : rowD q c i 1 * gg = V (b + 256) := by
  refine cdv_lcm (q := q) h.1 (fun x j a y z => h.2.1.2 x j (by omega) z) hg (rowD_pos (by decide)) (fun x j a y z => ?_) (fun F hF => rowD_lcm (fun j hj => hF i j (Nat.le_refl _) (by omega) hj))
  rw [show x = i by omega]
  exact rowD_dvd z
/-- a cell of row i made whole -/
theorem cell_whole (h : NRM V b r c q) (hi : i < r) {j : Nat} (hj : j < c) {gg x : Int} (hg : CDV V b c i (i + 1) 0 gg) (hx : x * gg = V (b + (16 * i + j))) : x = rowD q c i 1 / ((q (i * c + j)).den : Int) * (q (i * c + j)).num ∧ ((x : Int) : Rat) = ((rowD q c i 1 : Int) : Rat) * q (i * c + j) := by
  have e1 := cdv_row h hi hg
  have e2 := h.2.1.2 i j hi hj
  have n := rat_ne (show gg ≠ 0 by have := hg.1; omega)
  have e3 : ((x : Int) : Rat) = ((rowD q c i 1 : Int) : Rat) * q (i * c + j) := by
    rw [← hx, ← e1, Rat.intCast_mul, Rat.intCast_mul] at e2
    grind
  refine ⟨?_, e3⟩
  apply Rat.intCast_inj.mp
  rw [e3]
  exact cell_times (rowD_dvd hj)
theorem rowd_fac (h : NRM V b r c q) (hi : i < r) (hR : ROWD V V' b c bk g i) : V' (17 + i) = rowD q c i 1 := by
  obtain ⟨gg, h1, h2, _⟩ := hR
  have e := cdv_row h hi h1
  have := h1.1
  exact Int.eq_of_mul_eq_mul_right (by omega) (h2.trans e.symm)
theorem rowd_cell (h : NRM V b r c q) (hi : i < r) (hR : ROWD V V' b c bk g i) {j : Nat} (hj : j < c) : gz V' g i (bcol bk c j) = rowD q c i 1 / ((q (i * c + j)).den : Int) * (q (i * c + j)).num ∧ ((gz V' g i (bcol bk c j) : Int) : Rat) = ((rowD q c i 1 : Int) : Rat) * q (i * c + j) := by
  obtain ⟨gg, h1, _, h3⟩ := hR
  exact cell_whole h hi hj h1 (h3 j hj hj).1
theorem bcol_bcol {bk c j : Nat} (hj : j < c) : bcol bk c (bcol bk c j) = j := by
  unfold bcol
  split <;> omega
theorem nmax_eq {f h : Nat → Nat} {n : Nat} (e1 : ∀ i, i < n → ∃ k, k < n ∧ f i = h k) (e2 : ∀ i, i < n → ∃ k, k < n ∧ h i = f k) : nmax f n = nmax h n := by
  refine Nat.le_antisymm (nmax_le (fun i hi => ?_)) (nmax_le (fun i hi => ?_))
  · obtain ⟨k, hk, e⟩ := e1 i hi
    rw [e]; exact nmax_ge hk
  · obtain ⟨k, hk, e⟩ := e2 i hi
    rw [e]; exact nmax_ge hk
theorem nmax_cong {f h : Nat → Nat} {n : Nat} (e : ∀ i, i < n → f i = h i) : nmax f n = nmax h n := nmax_eq (fun i hi => ⟨i, hi, e i hi⟩) (fun i hi => ⟨i, hi, (e i hi).symm⟩)
theorem glong_eq (h : NRM V b r c q) (hR : ∀ i, i < r → ROWD V V' b c bk g i) : glong (gz V' g) r c = nmax (fun k => rowL q c k (rowD q c k 1)) r := by
  refine nmax_cong (fun i hi => ?_)
  refine nmax_eq (fun j hj => ⟨bcol bk c j, bcol_lt hj, ?_⟩) (fun j hj => ⟨bcol bk c j, bcol_lt hj, ?_⟩)
  · have := (rowd_cell h hi (hR i hi) (j := bcol bk c j) (bcol_lt hj)).1
    rw [bcol_bcol hj] at this
    rw [this]
  · rw [(rowd_cell h hi (hR i hi) hj).1]
theorem hvy_of {k b : Nat} (hk : 1 ≤ k) (hb : 2000 < b) : hvy k b := by
  unfold hvy
  have : 1 * (b + lgc k) ≤ k * (b + lgc k) := Nat.mul_le_mul_right _ hk
  omega
theorem toow_heavy (h : NRM V b r c q) (h1r : 1 ≤ r) (h1c : 1 ≤ c) (hT : TOOW V b r c) : heavy1 q r c := by
  obtain ⟨i, j, gg, x, hi, hj, hg, hx, hb⟩ := hT
  refine hvy_of (by omega) (Nat.lt_of_lt_of_le hb ?_)
  rw [(cell_whole h hi hj hg hx).1]
  exact Nat.le_trans (nmax_ge (f := fun j => blen (rowD q c i 1 / ((q (i * c + j)).den : Int) * (q (i * c + j)).num)) hj) (nmax_ge (f := fun k => rowL q c k (rowD q c k 1)) hi)
theorem glong_bound {Z : imat} {m w : Nat} : ∀ x, x < m → ∀ y, y < w → (Z x y).natAbs ≤ 2 ^ glong Z m w := fun x hx y hy => by
  refine Nat.le_of_lt (Nat.lt_of_lt_of_le (blen_pow _) (Nat.pow_le_pow_right (by decide) ?_))
  exact Nat.le_trans (nmax_ge (f := fun j => blen (Z x j)) hy) (nmax_ge (f := fun i => nmax (fun j => blen (Z i j)) w) hx)
end LNK
/-- rows in another order, each times a number that isn't 0 -/
theorem rows_scaled {A Q : qmat} {m n : Nat} {σ τ : Nat → Nat} {f : Nat → Rat} (hp : PMT σ τ m) (hA : ∀ i, i < m → ∀ j, j < n → A i j = f (σ i) * Q (σ i) j) (hf : ∀ i, i < m → f i ≠ 0) : rowsIn A m Q m n ∧ rowsIn Q m A m n := by
  constructor
  · intro i hi
    refine ⟨fun k => if k = σ i then f (σ i) else 0, fun j hj => ?_⟩
    rw [qsum_one (hp.1 i hi).1 (fun x _ hx => by dsimp only; rw [if_neg hx]; grind)]
    dsimp only
    rw [if_pos rfl, hA i hi j hj]
  · intro i hi
    obtain ⟨h1, h2⟩ := hp.2 i hi
    refine ⟨fun k => if k = τ i then 1 / f i else 0, fun j hj => ?_⟩
    rw [qsum_one h1 (fun x _ hx => by dsimp only; rw [if_neg hx]; grind)]
    dsimp only
    rw [if_pos rfl, hA _ h1 j hj, h2]
    have := hf i hi
    grind
