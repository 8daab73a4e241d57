/-! ===== the Hermite form by remainders: one column ===== -/
/-- v is made of the rows lo to hi - 1 of C and of multiples of R, from column t on; before it is 0 -/
def genZ (C : imat) (lo hi : Nat) (R : Int) (t n : Nat) (v : Nat → Int) : Prop := (∀ j, j < t → j < n → v j = 0) ∧ ∃ c z : Nat → Int, ∀ j, t ≤ j → j < n → v j = isum (fun i => c i * C (lo + i) j) (hi - lo) + R * z j
def tailD (T : imat) (n t : Nat) : Int := zprod (fun i => T (t + i) (t + i)) (n - t)
theorem zprod_congr {f g : Nat → Int} : ∀ {n : Nat}, (∀ i, i < n → f i = g i) → zprod f n = zprod g n
  | 0, _ => rfl
  | n + 1, h => by
    show zprod f n * f n = zprod g n * g n
    rw [zprod_congr (fun i hi => h i (by omega)), h n (Nat.lt_succ_self n)]
theorem zprod_head (f : Nat → Int) : ∀ n, zprod f (n + 1) = f 0 * zprod (fun i => f (i + 1)) n := fun n => by
  rw [zprod_skp f (i := 0) (by omega)]
  congr 1
theorem tailD_step {T : imat} {n t : Nat} (ht : t < n) : tailD T n t = T t t * tailD T n (t + 1) := by
  unfold tailD
  rw [show n - t = n - (t + 1) + 1 by omega, zprod_head]
  congr 1
  exact zprod_congr (fun i _ => by rw [show t + (i + 1) = t + 1 + i by omega])
theorem tailD_pos {T : imat} {n : Nat} (h : ∀ i, i < n → 0 < T i i) (t : Nat) : 0 < tailD T n t := by
  unfold tailD
  have : ∀ m, m ≤ n - t → 0 < zprod (fun i => T (t + i) (t + i)) m := by
    intro m
    induction m with
    | zero => intro _; exact (show (0 : Int) < 1 by decide)
    | succ m ih => intro hm; exact Int.mul_pos (ih (by omega)) (h (t + m) (by omega))
  exact this _ (Nat.le_refl _)
/-- multiples of the product of the last pivots are in -/
theorem tail_in {B T : imat} {s n t k : Nat} (hT : hermF T n n (fun i => i)) (h : rowsZ T n B s n) (htk : t ≤ k) (hk : k < n) {R : Int} (hR : tailD T n t ∣ R) : inZ (fun j => if j = k then R else 0) B s n := by
  have lo : ∀ i, i < n → ∀ j, j < i → T i j = 0 := hT.1.2.2.1
  have hd := det_upper (k := n - t) (P := fun i j => T (t + i) (t + j)) (fun i hi j hj => lo (t + i) (by omega) (t + j) (by omega))
  obtain ⟨c, hc⟩ := det_in hd (j := k - t) (by omega)
  obtain ⟨q, hq⟩ := hR
  -- the combination of the rows t and on
  have h1 : inZ (fun j => isum (fun i => c i * T (t + i) j) (n - t)) T n n := inZ_sum (fun i hi => inZ_smul (c i) (inZ_row (show t + i < n by omega)))
  refine inZ_trans (inZ_congr (inZ_smul q h1) (fun j hj => ?_)) h
  by_cases g : j < t
  · rw [if_neg (by omega), isum_zero (fun i hi => by rw [lo (t + i) (by omega) j (by omega), Int.mul_zero]), Int.mul_zero]
  · have := hc (j - t) (by omega)
    dsimp only at this
    rw [show t + (j - t) = j by omega] at this
    rw [← this]
    by_cases e : j = k
    · rw [if_pos e, if_pos (by omega), hq, Int.mul_comm]
      rfl
    · rw [if_neg e, if_neg (by omega), Int.mul_zero]
theorem isum_head (f : Nat → Int) : ∀ n, isum f (n + 1) = f 0 + isum (fun i => f (i + 1)) n
  | 0 => by show 0 + f 0 = f 0 + 0; omega
  | n + 1 => by
    show isum f (n + 1) + f (n + 1) = f 0 + (isum (fun i => f (i + 1)) n + f (n + 1))
    rw [isum_head f n]
    omega
section COL
variable {B C T : imat} {s n t : Nat} {R : Int}
/-- what the rows t and on, and R, make is in the lattice with 0 before t, and all of that -/
def colInv (B C : imat) (s n t : Nat) (R : Int) : Prop := ∀ v : Nat → Int, (inZ v B s n ∧ ∀ j, j < t → v j = 0) ↔ (∀ j, j < t → v j = 0) ∧ genZ C t s R t n v
theorem col_row (h : colInv B C s n t R) (ht : t ≤ n) {i : Nat} (h1 : t ≤ i) (h2 : i < s) : inZ (fun j => if j < t then 0 else C i j) B s n := by
  refine ((h _).mpr ⟨fun j hj => if_pos hj, ⟨fun j hj _ => if_pos hj, fun k => if k = i - t then 1 else 0, fun _ => 0, fun j hj _ => ?_⟩⟩).1
  dsimp only
  rw [if_neg (by omega), isum_one (k := i - t) (by omega) (fun k _ hk => by rw [if_neg hk, Int.zero_mul]), if_pos rfl, show t + (i - t) = i by omega]
  omega
theorem col_R (h : colInv B C s n t R) {k : Nat} (h1 : t ≤ k) (h2 : k < n) : inZ (fun j => if j = k then R else 0) B s n := by
  refine ((h _).mpr ⟨fun j hj => if_neg (by omega), ⟨fun j hj _ => if_neg (by omega), fun _ => 0, fun j => if j = k then 1 else 0, fun j hj _ => ?_⟩⟩).1
  dsimp only
  rw [isum_zero (fun _ _ => Int.zero_mul _)]
  by_cases e : j = k
  · rw [if_pos e, if_pos e]; omega
  · rw [if_neg e, if_neg e]; omega
/-- the pivot of the form is the greatest common divisor of the cell and R -/
theorem col_pivot (hT : hermF T n n (fun i => i)) (hTB : rowsZ T n B s n) (hdv : ∀ t, t < n → ∀ v, inZ v B s n → (∀ j, j < t → v j = 0) → T t t ∣ v t) (h : colInv B C s n t R) (ht : t < n) (hts : t < s) (hR : 0 < R) (hc : ∀ i, t < i → i < s → C i t = 0) {g u : Int} (hg : 0 < g) (hgR : g ∣ R) (hga : g ∣ C t t) (hu : R ∣ u * C t t - g) : T t t = g := by
  have hp : 0 < T t t := hT.1.2.2.2 t ht
  have hz : ∀ j, j < t → T t j = 0 := hT.1.2.2.1 t ht
  obtain ⟨-, -, c, z, hcz⟩ := (h (T t)).mp ⟨hTB t ht, hz⟩
  have e1 := hcz t (Nat.le_refl t) ht
  rw [isum_one (k := 0) (by omega) (fun i _ hi => by rw [hc (t + i) (by omega) (by omega), Int.mul_zero]), Nat.add_zero] at e1
  have d1 : g ∣ T t t := by
    rw [e1]
    exact Int.dvd_add (Int.dvd_mul_of_dvd_right hga) (Int.dvd_mul_of_dvd_left hgR)
  have d2 : T t t ∣ g := by
    obtain ⟨q, hq⟩ := hu
    have := hdv t ht _ (inZ_add (inZ_smul u (col_row h (Nat.le_of_lt ht) (Nat.le_refl t) hts)) (inZ_smul (-q) (col_R h (Nat.le_refl t) ht))) (fun j hj => by rw [if_pos hj, if_neg (by omega)]; omega)
    rw [if_neg (by omega), if_pos rfl] at this
    have e2 : u * C t t + -q * R = g := by rw [Int.neg_mul, Int.mul_comm q]; omega
    rw [e2] at this
    exact this
  exact Int.dvd_antisymm (by omega) (by omega) d2 d1
/-- the next column: its modulus is R over the pivot -/
theorem col_next (hT : hermF T n n (fun i => i)) (hTB : rowsZ T n B s n) (h : colInv B C s n t R) (ht : t < n) (hts : t < s) (hc : ∀ i, t < i → i < s → C i t = 0) {g R' : Int} (hTg : T t t = g) (hg : 0 < g) (hRR : R = g * R') (hR' : 0 < R') (hga : g ∣ C t t) (hgr : ∀ a b : Int, a * C t t + b * R = 0 → R' ∣ a) (hD : tailD T n t ∣ R) : tailD T n (t + 1) ∣ R' ∧ colInv B C s n (t + 1) R' := by
  have d1 : tailD T n (t + 1) ∣ R' := by
    rw [tailD_step ht, hTg, hRR] at hD
    exact Int.dvd_of_mul_dvd_mul_left (by omega) hD
  refine ⟨d1, fun v => ⟨fun ⟨h1, h2⟩ => ⟨h2, fun j hj _ => h2 j hj, ?_⟩, fun ⟨h2, _, c, z, hcz⟩ => ⟨?_, h2⟩⟩⟩
  · obtain ⟨-, -, c, z, hcz⟩ := (h v).mp ⟨h1, fun j hj => h2 j (by omega)⟩
    have e1 := hcz t (Nat.le_refl t) ht
    rw [h2 t (by omega), isum_one (k := 0) (by omega) (fun i _ hi => by rw [hc (t + i) (by omega) (by omega), Int.mul_zero]), Nat.add_zero] at e1
    obtain ⟨q, hq⟩ := hgr (c 0) (z t) (by rw [Int.mul_comm (z t)]; exact e1.symm)
    refine ⟨fun i => c (i + 1), fun j => q * C t j + g * z j, fun j hj hjn => ?_⟩
    rw [hcz j (by omega) hjn, show s - t = s - (t + 1) + 1 by omega, isum_head, Nat.add_zero, hq, hRR]
    have e2 : isum (fun i => c (i + 1) * C (t + (i + 1)) j) (s - (t + 1)) = isum (fun i => c (i + 1) * C (t + 1 + i) j) (s - (t + 1)) := isum_congr (fun i _ => by rw [show t + (i + 1) = t + 1 + i by omega])
    rw [e2]
    generalize isum (fun i => c (i + 1) * C (t + 1 + i) j) (s - (t + 1)) = w
    grind
  · have a1 : inZ (fun j => isum (fun i => c i * (if j < t then 0 else C (t + 1 + i) j)) (s - (t + 1))) B s n := inZ_sum (fun i hi => inZ_smul (c i) (col_row h (Nat.le_of_lt ht) (by omega) (by omega)))
    have a2 : inZ (fun j => isum (fun k => z k * (if t < k then (if j = k then R' else 0) else 0)) n) B s n := inZ_sum (fun k hk => by
      by_cases e : t < k
      · exact inZ_congr (inZ_smul (z k) (tail_in hT hTB (show t + 1 ≤ k by omega) hk d1)) (fun j _ => by rw [if_pos e])
      · exact inZ_congr inZ_zero (fun j _ => by rw [if_neg e, Int.mul_zero]))
    refine inZ_congr (inZ_add a1 a2) (fun j hj => ?_)
    by_cases e : j < t + 1
    · rw [h2 j e, isum_zero (fun i hi => by
        by_cases e2 : j < t
        · rw [if_pos e2, Int.mul_zero]
        · rw [if_neg e2, show j = t by omega, hc (t + 1 + i) (by omega) (by omega), Int.mul_zero]), isum_zero (fun k _ => by
        by_cases e2 : t < k
        · rw [if_pos e2, if_neg (by omega), Int.mul_zero]
        · rw [if_neg e2, Int.mul_zero])]
      omega
    · rw [hcz j (by omega) hj, isum_one (k := j) hj (fun k _ hk => by
        by_cases e2 : t < k
        · rw [if_pos e2, if_neg (fun e => hk e.symm), Int.mul_zero]
        · rw [if_neg e2, Int.mul_zero]), if_pos (show t < j by omega), if_pos rfl, Int.mul_comm R']
      congr 1
      exact isum_congr (fun i _ => by rw [if_neg (by omega)])
end COL
