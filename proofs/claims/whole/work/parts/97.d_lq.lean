/-! ===== lines made of each other, up to a modulus ===== -/
def rz (V : Nat → Int) (s : Nat → Nat) (ls ps : Nat) : imat := fun i p => V (rp s ls ps i p)
/-- U and U' undo each other -/
def invZ (U U' : imat) (n : Nat) : Prop := (∀ i, i < n → ∀ j, j < n → isum (fun k => U i k * U' k j) n = if i = j then 1 else 0) ∧ ∀ i, i < n → ∀ j, j < n → isum (fun k => U' i k * U k j) n = if i = j then 1 else 0
theorem isum_delta {W : Nat → Int} {n i : Nat} (hi : i < n) : isum (fun k => (if i = k then (1 : Int) else 0) * W k) n = W i := by
  rw [isum_one hi (fun k _ hk => by rw [if_neg (Ne.symm hk), Int.zero_mul]), if_pos rfl, Int.one_mul]
theorem invZ.refl (n : Nat) : invZ (fun i k => if i = k then 1 else 0) (fun i k => if i = k then 1 else 0) n := ⟨fun i hi j _ => isum_delta (W := fun k => if k = j then 1 else 0) hi, fun i hi j _ => isum_delta (W := fun k => if k = j then 1 else 0) hi⟩
theorem invZ.symm {U U' : imat} {n : Nat} (h : invZ U U' n) : invZ U' U n := ⟨h.2, h.1⟩
theorem mul3 {A B : imat} {W : Nat → Int} {n i : Nat} : isum (fun k => isum (fun l => A i l * B l k) n * W k) n = isum (fun l => A i l * isum (fun k => B l k * W k) n) n := by
  have e1 : isum (fun k => isum (fun l => A i l * B l k) n * W k) n = isum (fun k => isum (fun l => A i l * B l k * W k) n) n := isum_congr (fun k _ => isum_mulr)
  rw [e1, isum_comm]
  refine isum_congr (fun l _ => ?_)
  rw [isum_mul]
  exact isum_congr (fun k _ => by rw [Int.mul_assoc])
theorem invZ.trans {U U' W W' : imat} {n : Nat} (h1 : invZ U U' n) (h2 : invZ W W' n) : invZ (fun i k => isum (fun l => W i l * U l k) n) (fun i k => isum (fun l => U' i l * W' l k) n) n := by
  refine ⟨fun i hi j hj => ?_, fun i hi j hj => ?_⟩
  · rw [mul3]
    rw [← h2.1 i hi j hj]
    refine isum_congr (fun l hl => ?_)
    congr 1
    have e : isum (fun k => U l k * isum (fun x => U' k x * W' x j) n) n = isum (fun k => isum (fun x => U l x * U' x k) n * W' k j) n := (mul3 (W := fun k => W' k j)).symm
    rw [e]
    have e2 : isum (fun k => isum (fun x => U l x * U' x k) n * W' k j) n = isum (fun k => (if l = k then (1 : Int) else 0) * W' k j) n := isum_congr (fun k hk => by rw [h1.1 l hl k hk])
    rw [e2, isum_delta hl]
  · rw [mul3]
    rw [← h1.2 i hi j hj]
    refine isum_congr (fun l hl => ?_)
    congr 1
    have e : isum (fun k => W' l k * isum (fun x => W k x * U x j) n) n = isum (fun k => isum (fun x => W' l x * W x k) n * U k j) n := (mul3 (W := fun k => U k j)).symm
    rw [e]
    have e2 : isum (fun k => isum (fun x => W' l x * W x k) n * U k j) n = isum (fun k => (if l = k then (1 : Int) else 0) * U k j) n := isum_congr (fun k hk => by rw [h2.2 l hl k hk])
    rw [e2, isum_delta hl]
def pairU (x y : Nat) (a b c e : Int) : imat := fun i k => if i = x then (if k = x then a else if k = y then b else 0) else if i = y then (if k = x then c else if k = y then e else 0) else if i = k then 1 else 0
theorem isum_pick2 {W : Nat → Int} {n x y : Nat} {a b : Int} (hx : x < n) (hy : y < n) (hxy : x ≠ y) : isum (fun k => (if k = x then a else if k = y then b else 0) * W k) n = a * W x + b * W y := by
  have e : isum (fun k => (if k = x then a else if k = y then b else 0) * W k) n = isum (fun k => (if k = x then a * W x else 0) + (if k = y then b * W y else 0)) n := isum_congr (fun k _ => by
    by_cases c : k = x
    · rw [if_pos c, if_pos c, if_neg (by omega), c, Int.add_zero]
    · by_cases c2 : k = y
      · rw [if_neg c, if_pos c2, if_neg c, if_pos c2, c2, Int.zero_add]
      · rw [if_neg c, if_neg c2, if_neg c, if_neg c2, Int.zero_mul, Int.zero_add])
  rw [e, isum_add, isum_one hx (fun k _ h => if_neg h), isum_one hy (fun k _ h => if_neg h), if_pos rfl, if_pos rfl]
theorem pairU_mul {W : Nat → Int} {n x y i : Nat} {a b c e : Int} (hx : x < n) (hy : y < n) (hxy : x ≠ y) (hi : i < n) : isum (fun k => pairU x y a b c e i k * W k) n = if i = x then a * W x + b * W y else if i = y then c * W x + e * W y else W i := by
  unfold pairU
  by_cases c1 : i = x
  · rw [if_pos c1]
    have : isum (fun k => (if i = x then (if k = x then a else if k = y then b else 0) else if i = y then (if k = x then c else if k = y then e else 0) else if i = k then 1 else 0) * W k) n = isum (fun k => (if k = x then a else if k = y then b else 0) * W k) n := isum_congr (fun k _ => by rw [if_pos c1])
    rw [this, isum_pick2 hx hy hxy]
  · rw [if_neg c1]
    by_cases c2 : i = y
    · rw [if_pos c2]
      have : isum (fun k => (if i = x then (if k = x then a else if k = y then b else 0) else if i = y then (if k = x then c else if k = y then e else 0) else if i = k then 1 else 0) * W k) n = isum (fun k => (if k = x then c else if k = y then e else 0) * W k) n := isum_congr (fun k _ => by rw [if_neg c1, if_pos c2])
      rw [this, isum_pick2 hx hy hxy]
    · rw [if_neg c2]
      have : isum (fun k => (if i = x then (if k = x then a else if k = y then b else 0) else if i = y then (if k = x then c else if k = y then e else 0) else if i = k then 1 else 0) * W k) n = isum (fun k => (if i = k then (1 : Int) else 0) * W k) n := isum_congr (fun k _ => by rw [if_neg c1, if_neg c2])
      rw [this, isum_delta hi]
theorem pair_inv1 {n x y : Nat} {a b c e a' b' c' e' : Int} (hx : x < n) (hy : y < n) (hxy : x ≠ y) (h1 : a * a' + b * c' = 1) (h2 : a * b' + b * e' = 0) (h3 : c * a' + e * c' = 0) (h4 : c * b' + e * e' = 1) {i j : Nat} (hi : i < n) : isum (fun k => pairU x y a b c e i k * pairU x y a' b' c' e' k j) n = if i = j then 1 else 0 := by
  rw [pairU_mul (W := fun k => pairU x y a' b' c' e' k j) hx hy hxy hi]
  have px : pairU x y a' b' c' e' x j = if j = x then a' else if j = y then b' else 0 := by unfold pairU; rw [if_pos rfl]
  have py : pairU x y a' b' c' e' y j = if j = x then c' else if j = y then e' else 0 := by unfold pairU; rw [if_neg (Ne.symm hxy), if_pos rfl]
  by_cases c1 : i = x
  · rw [if_pos c1, px, py, c1]
    by_cases j1 : j = x
    · rw [if_pos j1, if_pos j1, if_pos j1.symm, h1]
    · rw [if_neg j1, if_neg j1, if_neg (Ne.symm j1)]
      by_cases j2 : j = y
      · rw [if_pos j2, if_pos j2, h2]
      · rw [if_neg j2, if_neg j2]; omega
  · rw [if_neg c1]
    by_cases c2 : i = y
    · rw [if_pos c2, px, py, c2]
      by_cases j1 : j = x
      · rw [if_pos j1, if_pos j1, if_neg (by omega), h3]
      · rw [if_neg j1, if_neg j1]
        by_cases j2 : j = y
        · rw [if_pos j2, if_pos j2, if_pos j2.symm, h4]
        · rw [if_neg j2, if_neg j2, if_neg (Ne.symm j2)]; omega
    · rw [if_neg c2]
      unfold pairU
      rw [if_neg c1, if_neg c2]
/-- the lines from t on, at the places from t on, are made of each other by steps that can be taken back, up to the modulus -/
def LQE (Z Z' : imat) (t ln pl : Nat) (m : Int) : Prop := ∃ U U' z : imat, invZ U U' (ln - t) ∧ ∀ i, i < ln - t → ∀ p, t ≤ p → p < pl → Z' (t + i) p = isum (fun k => U i k * Z (t + k) p) (ln - t) + m * z i p
section LQS
variable {Z Z' Z'' : imat} {t ln pl : Nat} {m : Int}
theorem LQE.refl (Z : imat) : LQE Z Z t ln pl m := ⟨_, _, fun _ _ => 0, invZ.refl _, fun i hi p _ _ => by rw [isum_delta (W := fun k => Z (t + k) p) hi]; show _ = _ + m * 0; omega⟩
theorem LQE.congr (h : LQE Z Z' t ln pl m) (h1 : ∀ i p, t ≤ i → i < ln → t ≤ p → p < pl → Z'' i p = Z' i p) : LQE Z Z'' t ln pl m := by
  obtain ⟨U, U', z, hU, h⟩ := h
  exact ⟨U, U', z, hU, fun i hi p h2 h3 => by rw [h1 _ _ (by omega) (by omega) h2 h3]; exact h i hi p h2 h3⟩
theorem LQE.trans (h1 : LQE Z Z' t ln pl m) (h2 : LQE Z' Z'' t ln pl m) : LQE Z Z'' t ln pl m := by
  obtain ⟨U, U', z, hU, h1⟩ := h1
  obtain ⟨W, W', y, hW, h2⟩ := h2
  refine ⟨_, _, fun i p => isum (fun k => W i k * z k p) (ln - t) + y i p, hU.trans hW, fun i hi p p1 p2 => ?_⟩
  rw [h2 i hi p p1 p2, mul3 (W := fun k => Z (t + k) p)]
  have e : isum (fun k => W i k * Z' (t + k) p) (ln - t) = isum (fun k => W i k * isum (fun l => U k l * Z (t + l) p) (ln - t)) (ln - t) + m * isum (fun k => W i k * z k p) (ln - t) := by
    rw [isum_mul, ← isum_add]
    refine isum_congr (fun k hk => ?_)
    rw [h1 k hk p p1 p2, Int.mul_add]
    congr 1
    rw [Int.mul_left_comm]
  rw [e, Int.mul_add, Int.add_assoc]
theorem LQE.symm (h : LQE Z Z' t ln pl m) : LQE Z' Z t ln pl m := by
  obtain ⟨U, U', z, hU, h⟩ := h
  refine ⟨U', U, fun i p => -isum (fun k => U' i k * z k p) (ln - t), hU.symm, fun i hi p p1 p2 => ?_⟩
  have e : isum (fun k => U' i k * Z' (t + k) p) (ln - t) = isum (fun k => U' i k * isum (fun l => U k l * Z (t + l) p) (ln - t)) (ln - t) + m * isum (fun k => U' i k * z k p) (ln - t) := by
    rw [isum_mul, ← isum_add]
    refine isum_congr (fun k hk => ?_)
    rw [h k hk p p1 p2, Int.mul_add]
    congr 1
    rw [Int.mul_left_comm]
  have e2 : isum (fun k => U' i k * isum (fun l => U k l * Z (t + l) p) (ln - t)) (ln - t) = Z (t + i) p := by
    rw [← mul3 (W := fun k => Z (t + k) p)]
    have : isum (fun k => isum (fun l => U' i l * U l k) (ln - t) * Z (t + k) p) (ln - t) = isum (fun k => (if i = k then (1 : Int) else 0) * Z (t + k) p) (ln - t) := isum_congr (fun k hk => by rw [hU.2 i hi k hk])
    rw [this, isum_delta (W := fun k => Z (t + k) p) hi]
  rw [e, e2, Int.mul_neg]
  omega
/-- two lines x, y made anew of each other -/
theorem LQE.pair {x y : Nat} {a b c e a' b' c' e' : Int} (hx1 : t ≤ x) (hx : x < ln) (hy1 : t ≤ y) (hy : y < ln) (hxy : x ≠ y) (h1 : a * a' + b * c' = 1) (h2 : a * b' + b * e' = 0) (h3 : c * a' + e * c' = 0) (h4 : c * b' + e * e' = 1) (k1 : a' * a + b' * c = 1) (k2 : a' * b + b' * e = 0) (k3 : c' * a + e' * c = 0) (k4 : c' * b + e' * e = 1) (ho : ∀ i, t ≤ i → i < ln → i ≠ x → i ≠ y → ∀ p, t ≤ p → p < pl → Z' i p = Z i p) (hZx : ∀ p, t ≤ p → p < pl → ∃ z : Int, Z' x p = a * Z x p + b * Z y p + m * z) (hZy : ∀ p, t ≤ p → p < pl → ∃ z : Int, Z' y p = c * Z x p + e * Z y p + m * z) : LQE Z Z' t ln pl m := by
  refine ⟨pairU (x - t) (y - t) a b c e, pairU (x - t) (y - t) a' b' c' e', fun i p => if hp : t ≤ p ∧ p < pl then (if i = x - t then (hZx p hp.1 hp.2).choose else if i = y - t then (hZy p hp.1 hp.2).choose else 0) else 0, ⟨fun i hi j _ => pair_inv1 (by omega) (by omega) (by omega) h1 h2 h3 h4 hi, fun i hi j _ => pair_inv1 (by omega) (by omega) (by omega) k1 k2 k3 k4 hi⟩, fun i hi p p1 p2 => ?_⟩
  rw [pairU_mul (W := fun k => Z (t + k) p) (by omega) (by omega) (by omega) hi]
  dsimp only
  rw [dif_pos ⟨p1, p2⟩]
  rw [show t + (x - t) = x by omega, show t + (y - t) = y by omega]
  by_cases c1 : i = x - t
  · rw [if_pos c1, if_pos c1, show t + i = x by omega]
    exact (hZx p p1 p2).choose_spec
  · rw [if_neg c1, if_neg c1]
    by_cases c2 : i = y - t
    · rw [if_pos c2, if_pos c2, show t + i = y by omega]
      exact (hZy p p1 p2).choose_spec
    · rw [if_neg c2, if_neg c2, Int.mul_zero, Int.add_zero]
      exact ho _ (by omega) (by omega) (by omega) (by omega) p p1 p2
theorem emod_form (a m : Int) : ∃ z : Int, a % m = a + m * z := ⟨-(a / m), by
  have := Int.mul_ediv_add_emod a m
  rw [Int.mul_neg]
  omega⟩
end LQS
