/-! ===== what stays while the Smith form is reckoned (printed by wip/gen/mxU.py) ===== -/
def SMK (Z : imat) (s : Nat → Int) (r t rr cc : Nat) (R : Int) : Prop := eqvZ (dia (fun i => if i < r - t then s (t + i) else R)) (stk (fun i j => Z (t + i) (t + j)) R (rr - t)) (rr + cc - t) (cc - t) ∧ zprod (fun i => s (t + i)) (r - t) ∣ R
theorem dvd_zprod {f : Nat → Int} {i : Nat} : ∀ {n : Nat}, i < n → f i ∣ zprod f n
  | 0, h => by omega
  | n + 1, h => by
    show f i ∣ zprod f n * f n
    by_cases c : i = n
    · rw [c]; exact Int.dvd_mul_left _ _
    · exact Int.dvd_trans (dvd_zprod (by omega)) (Int.dvd_mul_right _ _)
section SMKS
variable {Z Z' : imat} {s : Nat → Int} {r t rr cc : Nat} {R : Int}
theorem SMK.lq (h : SMK Z s r t rr cc R) (htr : t ≤ rr) (htc : t ≤ cc) (q : LQE Z Z' t rr cc R) : SMK Z' s r t rr cc R := by
  obtain ⟨U, U', z, hU, e⟩ := q
  have e1 : EI (fun i j => isum (fun k => U i k * Z (t + k) (t + j)) (rr - t)) (fun i j => Z (t + i) (t + j)) (rr - t) (cc - t) := EI.rows hU (fun _ _ _ _ => rfl)
  have e2 := e1.stack (N := rr + cc - t) R (by omega)
  have e3 : eqvZ (stk (fun i j => Z' (t + i) (t + j)) R (rr - t)) (stk (fun i j => isum (fun k => U i k * Z (t + k) (t + j)) (rr - t)) R (rr - t)) (rr + cc - t) (cc - t) := stk_mod (by omega) (fun i hi j hj => ⟨z i (t + j), by rw [e i hi (t + j) (by omega) (by omega)]; omega⟩)
  exact ⟨h.1.trans (e3.trans e2).symm, h.2⟩
theorem SMK.lqT (h : SMK Z s r t rr cc R) (htr : t ≤ rr) (htc : t ≤ cc) (q : LQE (fun i j => Z j i) (fun i j => Z' j i) t cc rr R) : SMK Z' s r t rr cc R := by
  obtain ⟨U, U', z, hU, e⟩ := q
  have e1 : EI (fun i j => isum (fun k => U i k * Z (t + j) (t + k)) (cc - t)) (fun i j => Z (t + j) (t + i)) (cc - t) (rr - t) := EI.rows hU (fun _ _ _ _ => rfl)
  have e2 := e1.turn.stack (N := rr + cc - t) R (by omega)
  have e3 : eqvZ (stk (fun i j => Z' (t + i) (t + j)) R (rr - t)) (stk (fun i j => isum (fun k => U j k * Z (t + i) (t + k)) (cc - t)) R (rr - t)) (rr + cc - t) (cc - t) := stk_mod (by omega) (fun i hi j hj => ⟨z j (t + i), by have := e j hj (t + i) (by omega) (by omega); dsimp only at this; rw [this]; omega⟩)
  exact ⟨h.1.trans (e3.trans e2).symm, h.2⟩
theorem stk_row0 {C : imat} {m n N : Nat} (hm : 0 < m) (hN : m + n ≤ N) (h0 : ∀ j, 0 < j → j < n → C 0 j = 0) : inZ (fun j => if j = 0 then C 0 0 else 0) (stk C R m) N n := inZ_congr (inZ_row (B := stk C R m) (k := 0) (by omega)) (fun j hj => by
  unfold stk
  rw [if_pos hm]
  by_cases c : j = 0
  · rw [if_pos c, c]
  · rw [if_neg c, h0 j (by omega) hj])
theorem SMK.join (h : SMK Z s r t rr cc R) (htr : t < rr) (htc : t < cc) (h0 : ∀ p, t < p → p < cc → Z t p = 0) (hg : Z' t t = gI (Z t t) R) (ho : ∀ i p, t ≤ i → i < rr → t ≤ p → p < cc → i ≠ t ∨ p ≠ t → Z' i p = Z i p) : SMK Z' s r t rr cc R := by
  refine ⟨h.1.trans (eqvZ.symm ?_), h.2⟩
  have z0 : ∀ j, 0 < j → j < cc - t → (fun i j => Z (t + i) (t + j)) 0 j = 0 := fun j h1 h2 => h0 (t + j) (by omega) (by omega)
  have z0' : ∀ j, 0 < j → j < cc - t → (fun i j => Z' (t + i) (t + j)) 0 j = 0 := fun j h1 h2 => by
    show Z' (t + 0) (t + j) = 0
    rw [ho (t + 0) (t + j) (by omega) (by omega) (by omega) (by omega) (by omega)]
    exact z0 j h1 h2
  have same : ∀ i j, 0 < i → j < cc - t → stk (fun i j => Z' (t + i) (t + j)) R (rr - t) i j = stk (fun i j => Z (t + i) (t + j)) R (rr - t) i j := fun i j h1 h2 => by
    unfold stk
    by_cases c : i < rr - t
    · rw [if_pos c, if_pos c]
      exact ho _ _ (by omega) (by omega) (by omega) (by omega) (by omega)
    · rw [if_neg c, if_neg c]
  have u1 := stk_row0 (R := R) (C := fun i j => Z (t + i) (t + j)) (m := rr - t) (n := cc - t) (N := rr + cc - t) (by omega) (by omega) z0
  have u2 := stk_row0 (R := R) (C := fun i j => Z' (t + i) (t + j)) (m := rr - t) (n := cc - t) (N := rr + cc - t) (by omega) (by omega) z0'
  (try dsimp only at u1 u2)
  rw [Nat.add_zero] at u1 u2
  have cor : ∀ (Y : imat) (j : Nat), (∀ j, 0 < j → j < cc - t → Y (t + 0) (t + j) = 0) → j < cc - t → stk (fun i j => Y (t + i) (t + j)) R (rr - t) 0 j = if j = 0 then Y t t else 0 := fun Y j hy hj => by
    unfold stk
    rw [if_pos (by omega)]
    by_cases c : j = 0
    · rw [if_pos c, c]; rfl
    · rw [if_neg c]; exact hy j (by omega) hj
  refine eqvZ.rows (fun i hi => ?_) (fun i hi => ?_)
  · by_cases c : i = 0
    · obtain ⟨u, v, e⟩ := gI_bez (Z t t) R
      refine inZ_congr (v := stk (fun i j => Z' (t + i) (t + j)) R (rr - t) i) (inZ_unit2 (u := u) (v := v) u1 (stk_low (k := 0) (by omega) (by omega))) (fun j hj => ?_)
      rw [c, cor Z' j z0' hj, hg, e]
    · exact inZ_congr (v := stk (fun i j => Z' (t + i) (t + j)) R (rr - t) i) (inZ_row (B := stk (fun i j => Z (t + i) (t + j)) R (rr - t)) hi) (fun j hj => same i j (by omega) hj)
  · by_cases c : i = 0
    · refine inZ_congr (v := stk (fun i j => Z (t + i) (t + j)) R (rr - t) i) (inZ_unit u2 (y := Z t t) (by rw [hg]; exact gI_l _ _)) (fun j hj => ?_)
      rw [c, cor Z j z0 hj]
    · exact inZ_congr (v := stk (fun i j => Z (t + i) (t + j)) R (rr - t) i) (inZ_row (B := stk (fun i j => Z' (t + i) (t + j)) R (rr - t)) hi) (fun j hj => (same i j (by omega) hj).symm)
theorem SMK.fact (h : SMK Z s r t rr cc R) {i : Nat} (hi : i < r - t) : s (t + i) ∣ R := Int.dvd_trans (dvd_zprod (f := fun i => s (t + i)) hi) h.2
theorem SMK.step {g R' : Int} (h : SMK Z s r t rr cc R) (hs : ∀ i j, i ≤ j → s i ∣ s j) (s0 : ∀ i, 0 ≤ s i) (hR : 0 < R) (htr : t < rr) (htc : t < cc) (ht : t < r) (hg : Z t t = g) (hg0 : 0 < g) (hRg : R = R' * g) (h0 : ∀ p, t < p → p < cc → Z t p = 0) (h1 : ∀ i, t < i → i < rr → Z i t = 0) (hd : ∀ i p, t < i → i < rr → t < p → p < cc → g ∣ Z i p) (hm : ∀ i p, t < i → i < rr → t < p → p < cc → R' ∣ Z' i p - Z i p) : s t = g ∧ SMK Z' s r (t + 1) rr cc R' := by
  obtain ⟨m, em⟩ : ∃ m, rr - t = m + 1 := ⟨rr - t - 1, by omega⟩
  obtain ⟨n, en⟩ : ∃ n, cc - t = n + 1 := ⟨cc - t - 1, by omega⟩
  obtain ⟨N, eN⟩ : ∃ N, rr + cc - t = N + 1 := ⟨rr + cc - t - 1, by omega⟩
  have hgR : g ∣ R := ⟨R', by rw [hRg, Int.mul_comm]⟩
  have hRR : R' ∣ R := ⟨g, hRg⟩
  have R0 : 0 < R' := by
    rcases (show 0 < R' ∨ R' ≤ 0 by omega) with c | c
    · exact c
    · have := Int.mul_nonpos_of_nonpos_of_nonneg c (Int.le_of_lt hg0)
      omega
  have k1 := h.1
  rw [em, en, eN] at k1
  have k2 : eqvZ (dia (fun i => if i < r - t then s (t + i) else R)) (stk (blockZ g (fun i j => Z (t + 1 + i) (t + 1 + j))) R (m + 1)) (N + 1) (n + 1) := k1.congr (fun _ _ _ _ => rfl) (fun i hi j hj => by
    unfold stk blockZ
    try dsimp only
    by_cases c : i < m + 1
    · rw [if_pos c, if_pos c]
      by_cases c1 : i = 0
      · rw [if_pos c1, c1, Nat.add_zero]
        by_cases c2 : j = 0
        · rw [if_pos c2, c2]; exact hg
        · rw [if_neg c2]; exact h0 _ (by omega) (by omega)
      · rw [if_neg c1]
        by_cases c2 : j = 0
        · rw [if_pos c2, c2]; exact h1 _ (by omega) (by omega)
        · rw [if_neg c2, show t + 1 + (i - 1) = t + i by omega, show t + 1 + (j - 1) = t + j by omega]
    · rw [if_neg c, if_neg c])
  have ch : ∀ i j, i ≤ j → (fun i => if i < r - t then s (t + i) else R) i ∣ (fun i => if i < r - t then s (t + i) else R) j := fun i j hij => by
    dsimp only
    by_cases c : j < r - t
    · rw [if_pos c, if_pos (by omega)]; exact hs _ _ (by omega)
    · rw [if_neg c]
      by_cases c2 : i < r - t
      · rw [if_pos c2]; exact h.fact c2
      · rw [if_neg c2]; exact Int.dvd_refl _
  have nn : ∀ i, 0 ≤ (fun i => if i < r - t then s (t + i) else R) i := fun i => by
    dsimp only
    split
    · exact s0 _
    · omega
  obtain ⟨e0, k3⟩ := stk_step (by omega) ch nn hg0 hgR (fun i hi j hj => hd _ _ (by omega) (by omega) (by omega) (by omega)) k2
  (try dsimp only at e0 k3)
  rw [if_pos (by omega), Nat.add_zero] at e0
  have k4 := stk_less (R' := R') (by omega) (fun i j hij => ch (i + 1) (j + 1) (by omega)) (fun i => nn (i + 1)) hRR k3
  have hz : zprod (fun i => s (t + 1 + i)) (r - (t + 1)) ∣ R' := by
    obtain ⟨z, hz⟩ := h.2
    rw [show r - t = (r - (t + 1)) + 1 by omega, zprod_head, Nat.add_zero, e0, hRg] at hz
    refine ⟨z, Int.eq_of_mul_eq_mul_left (show g ≠ 0 by omega) ?_⟩
    rw [Int.mul_comm g R', hz, Int.mul_assoc]
    congr 2
    exact zprod_congr (fun i _ => by rw [show t + (i + 1) = t + 1 + i by omega])
  refine ⟨e0, ?_, hz⟩
  rw [show rr - (t + 1) = m by omega, show cc - (t + 1) = n by omega, show rr + cc - (t + 1) = N by omega]
  refine eqvZ.trans (k4.congr (fun i hi j hj => ?_) (fun _ _ _ _ => rfl)) (eqvZ.symm (stk_mod (by omega) (fun i hi j hj => hm _ _ (by omega) (by omega) (by omega) (by omega))))
  unfold dia
  by_cases c : i = j
  · rw [if_pos c, if_pos c]
    try dsimp only
    by_cases c2 : i < r - (t + 1)
    · rw [if_pos c2, if_pos (by omega), show t + (i + 1) = t + 1 + i by omega]
      exact (gI_of (s0 _) (Int.dvd_trans (dvd_zprod (f := fun i => s (t + 1 + i)) c2) hz)).symm
    · rw [if_neg c2, if_neg (by omega)]
      exact (gI_of' (by omega) hRR).symm
  · rw [if_neg c, if_neg c]
end SMKS
theorem zq_dia (s : Nat → Int) : zq (fun i j => if i = j then s i else 0) = diagM s := by
  funext i j
  show (((if i = j then s i else 0) : Int) : Rat) = _
  unfold diagM
  split <;> rfl
theorem bar_smith {Bz Z : imat} {rr cc rk sw : Nat} {p : Nat → Nat} {L : Int} {A B E : qmat} (h : BAR Bz Z rr cc cc rk sw p L A B E) : ∃ s : Nat → Int, (∀ i j, i ≤ j → s i ∣ s j) ∧ (∀ i, 0 ≤ s i) ∧ eqvZ (fun a b => if a = b then s a else 0) Bz rr cc ∧ (∀ j, j < min rr cc → (s j = 0 ↔ rk ≤ j)) ∧ rk ≤ min rr cc ∧ ∀ Z' : imat, (∀ i, i < rr → ∀ j, j < cc → ((L.natAbs : Nat) : Int) ∣ Z' i j - Bz i j) → SMK Z' s rk 0 rr cc ((L.natAbs : Nat) : Int) := by
  have hrr := h.1.1
  have hrf := h.rrf (Nat.le_refl _)
  have hL := h.lastdet (Nat.le_refl _)
  have hL0 := h.ne
  obtain ⟨σ', τ', h6, h6a⟩ := h.2.2.2.2.2.1
  have hP : det rk (zq (fun a b => Bz (σ' a) (p b))) = ((L : Int) : Rat) := by
    rw [hL]
    exact det_congr (fun a ha b _ => (h6a a (by omega) (p b)).symm)
  have hA := rows_scaled (A := A) (Q := zq Bz) (n := cc) (f := fun _ => 1) h6 (fun i hi j _ => by rw [h6a i hi j]; show _ = 1 * _; rw [Rat.one_mul]; rfl) (fun _ _ => by decide)
  have hsp := rowsIn_trans hA.2 (h.rowsA h.bz)
  have hrc : rk ≤ cc := by
    have hri := hrf.2.1
    have hb := hrf.1
    have : ∀ k, k < rk → k ≤ p k := fun k => by
      induction k with
      | zero => intro _; omega
      | succ k ih =>
        intro hk
        have a := ih (by omega)
        have b := hri k (k + 1) (by omega) hk
        omega
    by_cases c : rk = 0
    · omega
    · have a := this (rk - 1) (by omega)
      have b := hb (rk - 1) (by omega)
      omega
  obtain ⟨s, s1, s2, s3, s4⟩ := smith_inv rr cc Bz
  have hdv : zprod s rk ∣ L := by
    have m1 := madeZ_cast s4.eqv.2
    rw [zq_dia] at m1
    have := madeOf_minor (k := rk) (d := zprod s rk) m1 (fun f g _ _ => diag_minor s1 rk f g) (f := σ') (g := p) (fun i hi => (h6.1 i (by omega)).1) (fun i hi => hrf.1 i hi)
    have e : det rk (fun i j => zq Bz (σ' i) (p j)) = ((L : Int) : Rat) := hP
    rw [e] at this
    exact gdiv_int this
  have hpn : zprod s rk ≠ 0 := fun e => by
    rw [e] at hdv
    obtain ⟨z, hz⟩ := hdv
    omega
  have hne : ∀ j, j < rk → s j ≠ 0 := fun j hj e => by
    have := dvd_zprod (f := s) hj
    rw [e] at this
    obtain ⟨z, hz⟩ := this
    omega
  have hze : rk < min rr cc → s rk = 0 := fun hlt => by
    have m1 := madeZ_cast s4.eqv.1
    rw [zq_dia] at m1
    have := madeOf_minor (k := rk + 1) (d := 0) m1 (fun f g hf hg => by
      have hU : ∀ i, ∃ c : Nat → Rat, i < rk + 1 → ∀ j, j < cc → zq Bz (f i) j = qsum (fun k => c k * E k j) rk := fun i => by
        by_cases c : i < rk + 1
        · obtain ⟨c, hc⟩ := hsp (f i) (hf i (by omega)); exact ⟨c, fun _ => hc⟩
        · exact ⟨fun _ => 0, fun x => absurd x c⟩
      have := det_few (k := rk + 1) (s := rk) (S := fun l j => E l (g j)) (T := fun i j => zq Bz (f i) (g j)) (U := fun i => Classical.choose (hU i)) (by omega) (fun i hi j hj => Classical.choose_spec (hU i) hi (g j) (hg j hj))
      rw [this]
      exact ⟨0, by grind⟩) (f := fun i => i) (g := fun i => i) (fun i hi => by omega) (fun i hi => by omega)
    have e : det (rk + 1) (fun i j => diagM s i j) = ((zprod s (rk + 1) : Int) : Rat) := diag_lead s (rk + 1)
    rw [e] at this
    have z := gdiv_int this
    have z2 : zprod s rk * s rk = 0 := by
      obtain ⟨y, hy⟩ := z
      have : zprod s (rk + 1) = zprod s rk * s rk := rfl
      omega
    rcases Int.mul_eq_zero.mp z2 with g | g
    · exact absurd g hpn
    · exact g
  refine ⟨s, s1, s2, s4.eqv, fun j hj => ⟨fun e => ?_, fun e => ?_⟩, by omega, fun Z' hZ => ?_⟩
  · rcases Nat.lt_or_ge j rk with c | c
    · exact absurd e (hne j c)
    · exact c
  · have := s1 rk j e
    rw [hze (by omega)] at this
    obtain ⟨z, hz⟩ := this
    omega
  · have hdn : zprod s rk ∣ ((L.natAbs : Nat) : Int) := Int.dvd_natAbs.mpr hdv
    refine ⟨?_, ?_⟩
    · rw [Nat.sub_zero, Nat.sub_zero, Nat.sub_zero]
      have k1 := ((stk_dia (c := s) (R := ((L.natAbs : Nat) : Int)) (m := rr) (n := cc) (N := rr + cc) (Nat.le_refl _) (fun i hi => s3 i (Or.inl hi))).trans (s4.stack ((L.natAbs : Nat) : Int) (Nat.le_refl _))).trans (stk_mod (Nat.le_refl _) (fun i hi j hj => hZ i hi j hj)).symm
      refine k1.congr (fun i hi j hj => ?_) (fun i hi j hj => ?_)
      · unfold dia
        by_cases c : i = j
        · rw [if_pos c, if_pos c]
          try dsimp only
          rw [Nat.zero_add]
          by_cases c2 : i < rk
          · rw [if_pos c2]
            exact (gI_of (s2 _) (Int.dvd_trans (dvd_zprod c2) hdn)).symm
          · rw [if_neg c2]
            have : s i = 0 := by
              by_cases c3 : i < rr
              · have a := s1 rk i (by omega)
                rw [hze (by omega)] at a
                obtain ⟨z, hz⟩ := a
                omega
              · exact s3 i (Or.inl (by omega))
            rw [this]
            exact (gI_of' (by omega) ⟨0, by omega⟩).symm
        · rw [if_neg c, if_neg c]
      · unfold stk
        try dsimp only
        rw [Nat.zero_add, Nat.zero_add]
    · rw [Nat.sub_zero, zprod_congr (fun i _ => by rw [Nat.zero_add])]
      exact hdn
