/-! ===== the Hermite form by remainders: what the lines keep ===== -/
section TRI
variable {B C C' T : imat} {s n t : Nat} {R : Int}
theorem genZ.lq {v : Nat → Int} (h : LQE C C' t s n R) (hv : genZ C' t s R t n v) : genZ C t s R t n v := by
  obtain ⟨U, U', y, _, hU⟩ := h
  obtain ⟨h0, c, z, hz⟩ := hv
  refine ⟨h0, fun k => isum (fun i => c i * U i k) (s - t), fun j => isum (fun i => c i * y i j) (s - t) + z j, fun j h1 h2 => ?_⟩
  rw [hz j h1 h2]
  have e1 : isum (fun i => c i * C' (t + i) j) (s - t) = isum (fun i => c i * isum (fun k => U i k * C (t + k) j) (s - t)) (s - t) + R * isum (fun i => c i * y i j) (s - t) := by
    rw [isum_mul, ← isum_add]
    refine isum_congr (fun i hi => ?_)
    rw [hU i hi j h1 h2, Int.mul_add]
    congr 1
    rw [Int.mul_left_comm]
  have e2 : isum (fun k => isum (fun i => c i * U i k) (s - t) * C (t + k) j) (s - t) = isum (fun i => c i * isum (fun k => U i k * C (t + k) j) (s - t)) (s - t) := mul3 (A := fun _ i => c i) (B := U) (W := fun k => C (t + k) j) (i := 0)
  rw [e1, e2, Int.mul_add, Int.add_assoc]
theorem colInv.lq (h : colInv B C s n t R) (hq : LQE C C' t s n R) : colInv B C' s n t R := fun v => (h v).trans ⟨fun ⟨a, b⟩ => ⟨a, b.lq hq.symm⟩, fun ⟨a, b⟩ => ⟨a, b.lq hq⟩⟩
theorem LQE.mod {ln pl : Nat} {m : Int} (h : ∀ i p, t ≤ i → i < ln → t ≤ p → p < pl → m ∣ C' i p - C i p) : LQE C C' t ln pl m := by
  refine ⟨_, _, fun i p => if hp : i < ln - t ∧ t ≤ p ∧ p < pl then (h (t + i) p (by omega) (by omega) hp.2.1 hp.2.2).choose else 0, invZ.refl _, fun i hi p p1 p2 => ?_⟩
  rw [isum_delta (W := fun k => C (t + k) p) hi]
  dsimp only
  rw [dif_pos ⟨hi, p1, p2⟩]
  have := (h (t + i) p (by omega) (by omega) p1 p2).choose_spec
  omega
theorem emod_dvd (a m : Int) : m ∣ a % m - a := ⟨-(a / m), by
  have := Int.mul_ediv_add_emod a m
  rw [Int.mul_neg]
  omega⟩
/-- the next column, with the lines kept by the next modulus -/
theorem tri_next (hT : hermF T n n (fun i => i)) (hTB : rowsZ T n B s n) (hdv : ∀ t, t < n → ∀ v, inZ v B s n → (∀ j, j < t → v j = 0) → T t t ∣ v t) (h : colInv B C s n t R) (ht : t < n) (hts : t < s) (hR : 0 < R) (hc : ∀ i, t < i → i < s → C i t = 0) {g u k R' : Int} (hg : g = (Nat.gcd (C t t).natAbs R.natAbs : Nat)) (hbz : g = u * C t t + k * R) (hRR : R = R' * g) (hD : tailD T n t ∣ R) (hC' : ∀ i p, t < i → i < s → t < p → p < n → R' ∣ C' i p - C i p) : T t t = g ∧ tailD T n (t + 1) ∣ R' ∧ 0 < R' ∧ colInv B C' s n (t + 1) R' ∧ inZ (fun j => if j < t then 0 else if j = t then g else u * C t j) B s n := by
  have hgp : 0 < g := by rw [hg]; have : 0 < Nat.gcd (C t t).natAbs R.natAbs := Nat.gcd_pos_of_pos_right _ (by omega); omega
  have hgR : g ∣ R := ⟨R', by rw [hRR, Int.mul_comm]⟩
  have hga : g ∣ C t t := by rw [hg]; exact Int.ofNat_dvd_left.mpr (Nat.gcd_dvd_left ..)
  have hTg := col_pivot hT hTB hdv h ht hts hR hc hgp hgR hga (u := u) ⟨-k, by rw [Int.mul_neg, Int.mul_comm R k]; omega⟩
  have hR' : 0 < R' := by
    rcases (show 0 < R' ∨ R' ≤ 0 by omega) with z | z
    · exact z
    · have := Int.mul_nonpos_of_nonpos_of_nonneg z (Int.le_of_lt hgp)
      omega
  have hgr : ∀ a b : Int, a * C t t + b * R = 0 → R' ∣ a := fun a b e => by
    obtain ⟨x, hx⟩ := hga
    have e1 : u * x + k * R' = 1 := by
      have : g * (u * x + k * R') = g * 1 := by
        rw [Int.mul_one]
        have h5 := hbz
        rw [hx, hRR] at h5
        have h6 : g * (u * x + k * R') = u * (g * x) + k * (R' * g) := by grind
        rw [h6]; exact h5.symm
      exact Int.eq_of_mul_eq_mul_left (by omega) this
    have e2 : a * x + b * R' = 0 := by
      have : g * (a * x + b * R') = g * 0 := by
        rw [Int.mul_zero]
        have h6 : g * (a * x + b * R') = a * (g * x) + b * (R' * g) := by grind
        rw [h6, ← hx, ← hRR]; exact e
      exact Int.eq_of_mul_eq_mul_left (by omega) this
    refine ⟨a * k - b * u, ?_⟩
    have h7 : a = a * (u * x + k * R') - u * (a * x + b * R') + R' * 0 := by rw [e1, e2]; omega
    have h8 : a * (u * x + k * R') - u * (a * x + b * R') + R' * 0 = R' * (a * k - b * u) := by grind
    rw [← h8]; exact h7
  obtain ⟨d1, d2⟩ := col_next hT hTB h ht hts hc hTg hgp (by rw [hRR, Int.mul_comm]) hR' hga hgr hD
  refine ⟨hTg, d1, hR', d2.lq (LQE.mod (fun i p h1 h2 h3 h4 => hC' i p (by omega) h2 (by omega) h4)), ?_⟩
  refine inZ_congr (inZ_add (inZ_smul u (col_row h (Nat.le_of_lt ht) (Nat.le_refl t) hts)) (inZ_smul k (col_R h (Nat.le_refl t) ht))) (fun j hj => ?_)
  by_cases c : j < t
  · rw [if_pos c, if_pos c, if_neg (by omega)]; omega
  · rw [if_neg c, if_neg c]
    by_cases c2 : j = t
    · rw [if_pos c2, if_pos c2, c2]; exact hbz
    · rw [if_neg c2, if_neg c2]; omega
theorem small_dvd {a b : Int} (h : a ∣ b) (hl : b.natAbs < a.natAbs) : b = 0 := by
  rcases Nat.eq_zero_or_pos b.natAbs with e | e
  · omega
  · have := Nat.le_of_dvd e (Int.natAbs_dvd_natAbs.mpr h)
    omega
theorem herm_match {H : imat} (hT : hermF T n n (fun i => i)) (hTB : rowsZ T n B s n) (hdv : ∀ t, t < n → ∀ v, inZ v B s n → (∀ j, j < t → v j = 0) → T t t ∣ v t) (hH : ∀ i, i < n → inZ (fun j => if j < i then 0 else H i j) B s n) (hd : ∀ i, i < n → H i i = T i i) (hr : ∀ i p, i < p → p < n → 0 ≤ H i p ∧ H i p < T p p) : ∀ i j, i ≤ j → j < n → H i j = T i j := by
  have lo : ∀ i, i < n → ∀ j, j < i → T i j = 0 := hT.1.2.2.1
  have key : ∀ i, i < n → ∀ p, p < n → ∀ j, j ≤ p → (if j < i then 0 else H i j) - T i j = 0 := by
    intro i hi p
    induction p with
    | zero =>
      intro _ j hj
      rw [show j = 0 by omega]
      by_cases c : 0 < i
      · rw [if_pos c, lo i hi 0 c]; rfl
      · rw [if_neg c, show i = 0 by omega, hd 0 (by omega)]; omega
    | succ p ih =>
      intro hp j hj
      by_cases e : j ≤ p
      · exact ih (by omega) j e
      · have ej : j = p + 1 := by omega
        rw [ej]
        rcases Nat.lt_trichotomy (p + 1) i with c | c | c
        · rw [if_pos c, lo i hi _ c]; rfl
        · rw [if_neg (by omega), c, hd i hi]; omega
        · have hv := hdv (p + 1) hp _ (inZ_add (hH i hi) (inZ_smul (-1) (hTB i hi))) (fun j hj => by
            have := ih (by omega) j (by omega)
            omega)
          rw [if_neg (by omega)] at hv ⊢
          have h1 := hr i (p + 1) c hp
          have h2 : 0 ≤ T i (p + 1) ∧ T i (p + 1) < T (p + 1) (p + 1) := hT.2 i (p + 1) c hp
          have h3 : T (p + 1) (p + 1) ∣ H i (p + 1) - T i (p + 1) := by
            have e9 : H i (p + 1) - T i (p + 1) = H i (p + 1) + -1 * T i (p + 1) := by omega
            rw [e9]; exact hv
          exact small_dvd h3 (by omega)
  intro i j hij hj
  have := key i (by omega) j hj j (Nat.le_refl _)
  rw [if_neg (by omega)] at this
  omega
end TRI
