/-! ===== the determinant by Bareiss ===== -/
theorem sgn1_sq (sw : Nat) : sgn1 sw * sgn1 sw = 1 := by
  unfold sgn1
  split <;> grind
theorem rise_id {p : Nat → Nat} {m : Nat} (h1 : ∀ i, i < m → p i < m) (h2 : ∀ i k, i < k → k < m → p i < p k) : ∀ i, i < m → p i = i := by
  have lo : ∀ i, i < m → i ≤ p i := by
    intro i
    induction i with
    | zero => intro _; omega
    | succ i ih => intro hi; have := ih (by omega); have := h2 i (i + 1) (by omega) hi; omega
  have up : ∀ k i, i + k + 1 = m → p i ≤ i := by
    intro k
    induction k with
    | zero => intro i e; have := h1 i (by omega); omega
    | succ k ih => intro i e; have := ih (i + 1) (by omega); have := h2 i (i + 1) (by omega) (by omega); omega
  intro i hi
  have := lo i hi
  have := up (m - 1 - i) i (by omega)
  omega
theorem BAR.dtm {Az Z : imat} {m rk sw : Nat} {p : Nat → Nat} {L : Int} {A B E : qmat} (h : BAR Az Z m m m rk sw p L A B E) : det m (fun a b => ((Az a b : Int) : Rat)) = if rk = m then sgn1 sw * ((L : Int) : Rat) else 0 := by
  have h7 := h.2.2.2.2.2.2.1.2 (fun b => b)
  have hs := sgn1_sq sw
  by_cases e : rk = m
  · rw [if_pos e]
    have hl := h.lastdet (Nat.le_refl _)
    have hp := rise_id (p := p) (m := m) (fun i hi => h.2.1.2.1 i (by omega)) (fun i k a b => h.2.1.2.2.1 i k a (by omega))
    rw [e] at hl
    have hd : det m (fun a b => A a (p b)) = det m (fun a b => A a b) := det_congr (fun i _ j hj => by rw [hp j hj])
    rw [hd, h7] at hl
    rw [hl]
    grind
  · rw [if_neg e]
    have hr := h.1.1
    have hz := h.bz
    have hA := h.rowsA hz
    have h0 : det m (fun a b => A a b) = 0 := by
      refine det_few (s := rk) (S := E) (U := fun i l => if hi : i < m then (hA i hi).choose l else 0) (by omega) (fun i hi j hj => ?_)
      have := (hA i hi).choose_spec j hj
      rw [this]
      refine qsum_congr (fun k _ => ?_)
      rw [dif_pos hi]
    rw [h0] at h7
    grind
theorem least_chain {a b x y u x' y' : Int} (h : least a b x y) (h' : least x (y * u) x' y') : least a (b * u) x' y' := by
  obtain ⟨h1, h2, _⟩ := h
  obtain ⟨k1, k2, k3⟩ := h'
  refine ⟨k1, ?_, k3⟩
  have : y * (x' * (b * u)) = y * (a * y') := by
    have e1 : y * (x' * (b * u)) = (x' * (y * u)) * b := by grind
    rw [e1, k2]
    have e2 : x * y' * b = (x * b) * y' := by grind
    rw [e2, h2]
    grind
  exact Int.eq_of_mul_eq_mul_left (by omega) this
theorem least_nrm {V : Nat → Int} {b : Nat} {q : Rat} (h : V (b + 256) = (q.den : Int)) (h2 : V (b + (16 * 0 + 0)) = q.num) : NRM V b 1 1 (fun _ => q) := by
  have hd := den_pos_int q
  refine NRM.oflcm (by rw [h]; exact hd) (fun i j hi hj => ?_) (fun F hF => ?_)
  · rw [show i = 0 by omega, show j = 0 by omega, h2, h]
    have e := (Rat.num_divInt_den q).symm
    rw [Rat.divInt_eq_div] at e
    have n := rat_ne (show (q.den : Int) ≠ 0 by omega)
    generalize ((q.num : Int) : Rat) = x at *
    generalize (((q.den : Nat) : Int) : Rat) = y at *
    rw [e]
    grind
  · rw [h]
    exact hF 0 0 (by omega) (by omega)
/-- the lower part only grows -/
theorem fit_den {q : Rat} (h : FIT 1 1 (fun _ => q)) : blen (q.den : Int) ≤ 4000 := by
  have := h.2.2.1.1 1 (by omega)
  have e : lcmf 1 (fun _ => q.den) 1 = (q.den : Int) := by
    show (Int.lcm 1 (q.den : Int) : Int) = _
    rw [Int.lcm, show Int.natAbs 1 = 1 from rfl, Nat.lcm_one_left]
    omega
  rw [e] at this
  exact this
theorem det_long {a b x y W : Int} {q : Rat} (h : least a b x y) (hb : b ≠ 0) (hq : ((a : Int) : Rat) = q * (((b * W : Int)) : Rat)) (hlong : 4000 < blen y) : ¬ FIT 1 1 (fun _ => q) := fun hf => by
  have h1 := fit_den hf
  have nb := rat_ne hb
  obtain ⟨n1, n2⟩ := least_rat (q := q * ((W : Int) : Rat)) h hb (by rw [hq, Rat.intCast_mul]; grind)
  have hd : ((q * ((W : Int) : Rat)).den : Int) ∣ (q.den : Int) := by
    refine den_dvd (w := q.num * W) ?_
    have e := (Rat.num_divInt_den q).symm
    rw [Rat.divInt_eq_div] at e
    have n := rat_ne (show (q.den : Int) ≠ 0 by have := den_pos_int q; omega)
    rw [Rat.intCast_mul]
    generalize ((q.num : Int) : Rat) = xx at *
    generalize (((q.den : Nat) : Int) : Rat) = yy at *
    rw [e]
    grind
  rw [n2] at hd
  have := Nat.le_of_dvd (by have := den_pos_int q; omega) (Int.natAbs_dvd_natAbs.mpr hd)
  have := blen_mono (a := y) (b := (q.den : Int)) this
  omega
theorem zprod_split (F : Nat → Int) (a : Nat) : ∀ n, zprod F (a + n) = zprod F a * zprod (fun k => F (a + k)) n
  | 0 => (Int.mul_one _).symm
  | n + 1 => by
    show zprod F (a + n) * F (a + n) = zprod F a * (zprod (fun k => F (a + k)) n * F (a + n))
    rw [zprod_split F a n, Int.mul_assoc]
