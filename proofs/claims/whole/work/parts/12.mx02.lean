/-! ===== whole numbers: sums, lattices of rows, the Hermite form that is the only one ===== -/
def isum (f : Nat → Int) : Nat → Int
  | 0 => 0
  | n + 1 => isum f n + f n
theorem isum_congr {f g : Nat → Int} : ∀ {n : Nat}, (∀ i, i < n → f i = g i) → isum f n = isum g n
  | 0, _ => rfl
  | n + 1, h => by
    show isum f n + f n = isum g n + g n
    rw [isum_congr (fun i hi => h i (by omega)), h n (Nat.lt_succ_self n)]
theorem isum_zero {f : Nat → Int} : ∀ {n : Nat}, (∀ i, i < n → f i = 0) → isum f n = 0
  | 0, _ => rfl
  | n + 1, h => by
    show isum f n + f n = 0
    rw [isum_zero (fun i hi => h i (by omega)), h n (Nat.lt_succ_self n)]
    rfl
theorem isum_one {f : Nat → Int} {k : Nat} : ∀ {n : Nat}, k < n → (∀ i, i < n → i ≠ k → f i = 0) → isum f n = f k
  | 0, h, _ => by omega
  | n + 1, hk, h => by
    show isum f n + f n = f k
    by_cases e : k = n
    · subst e
      rw [isum_zero (fun i hi => h i (by omega) (by omega))]
      omega
    · rw [isum_one (show k < n by omega) (fun i hi hne => h i (by omega) hne), h n (Nat.lt_succ_self n) (fun h => e h.symm)]
      omega
theorem isum_two {f : Nat → Int} {k l : Nat} {n : Nat} (hk : k < n) (hl : l < n) (hkl : k < l) (h : ∀ i, i < n → i ≠ k → i ≠ l → f i = 0) : isum f n = f k + f l := by
  induction n with
  | zero => omega
  | succ n ih =>
    show isum f n + f n = f k + f l
    by_cases e : l = n
    · subst e
      rw [isum_one hkl (fun i hi hne => h i (by omega) hne (by omega))]
    · rw [ih (by omega) (by omega) (fun i hi => h i (by omega)), h n (Nat.lt_succ_self n) (by omega) (fun h => e h.symm)]
      omega
theorem isum_add {f g : Nat → Int} : ∀ {n : Nat}, isum (fun i => f i + g i) n = isum f n + isum g n
  | 0 => rfl
  | n + 1 => by
    show isum (fun i => f i + g i) n + (f n + g n) = isum f n + f n + (isum g n + g n)
    rw [isum_add]
    omega
theorem isum_mul {f : Nat → Int} {c : Int} : ∀ {n : Nat}, c * isum f n = isum (fun i => c * f i) n
  | 0 => by show c * 0 = 0; omega
  | n + 1 => by
    show c * (isum f n + f n) = isum (fun i => c * f i) n + c * f n
    rw [← isum_mul, Int.mul_add]
theorem isum_comm {f : Nat → Nat → Int} {m : Nat} : ∀ {n : Nat}, isum (fun i => isum (fun j => f i j) m) n = isum (fun j => isum (fun i => f i j) n) m
  | 0 => by
    show (0 : Int) = isum (fun j => (0 : Int)) m
    rw [isum_zero (fun i _ => rfl)]
  | n + 1 => by
    show isum (fun i => isum (fun j => f i j) m) n + isum (fun j => f n j) m = isum (fun j => isum (fun i => f i j) n + f n j) m
    rw [isum_comm, isum_add]
abbrev imat := Nat → Nat → Int
/-- each of the first r rows of A is a whole combination of the first s rows of B -/
def rowsZ (A : imat) (r : Nat) (B : imat) (s n : Nat) : Prop := ∀ i, i < r → ∃ c : Nat → Int, ∀ j, j < n → A i j = isum (fun k => c k * B k j) s
theorem rowsZ_refl {A : imat} {r n : Nat} : rowsZ A r A r n := fun i hi => ⟨fun k => if k = i then 1 else 0, fun j _ => by
  rw [isum_one hi (fun k _ hk => by simp [hk])]
  simp⟩
theorem rowsZ_trans {A B C : imat} {r s t n : Nat} (h1 : rowsZ A r B s n) (h2 : rowsZ B s C t n) : rowsZ A r C t n := by
  intro i hi
  obtain ⟨c, hc⟩ := h1 i hi
  refine ⟨fun l => isum (fun k => c k * (if h : k < s then Classical.choose (h2 k h) l else 0)) s, fun j hj => ?_⟩
  rw [hc j hj]
  have e1 : ∀ k, k < s → c k * B k j = isum (fun l => c k * ((if h : k < s then Classical.choose (h2 k h) l else 0) * C l j)) t := fun k hk => by
    rw [(Classical.choose_spec (h2 k hk)) j hj, isum_mul]
    exact isum_congr (fun l _ => by rw [dif_pos hk])
  rw [isum_congr e1, isum_comm]
  refine isum_congr (fun l _ => ?_)
  rw [Int.mul_comm, isum_mul]
  exact isum_congr (fun k _ => by grind)
/-- rows of which each begins further right than the one before -/
def stairs (H : imat) (n rk : Nat) (p : Nat → Nat) : Prop :=
  (∀ i, i < rk → p i < n) ∧ (∀ i k, i < k → k < rk → p i < p k) ∧ (∀ i, i < rk → ∀ j, j < p i → H i j = 0) ∧ (∀ i, i < rk → 0 < H i (p i))
def hermF (H : imat) (n rk : Nat) (p : Nat → Nat) : Prop := stairs H n rk p ∧ ∀ i k, i < k → k < rk → 0 ≤ H i (p k) ∧ H i (p k) < H k (p k)
theorem stairs_first {F : imat} {n s : Nat} {p : Nat → Nat} (h : stairs F n s p) {v c : Nat → Int} (hv : ∀ j, j < n → v j = isum (fun k => c k * F k j) s) {k : Nat} (hk : k < s) (hz : ∀ i, i < k → c i = 0) : v (p k) = c k * F k (p k) ∧ ∀ j, j < p k → v j = 0 := by
  refine ⟨?_, fun j hj => ?_⟩
  · rw [hv (p k) (h.1 k hk)]
    refine isum_one hk (fun i hi hne => ?_)
    rcases Nat.lt_or_ge i k with g | g
    · rw [hz i g, Int.zero_mul]
    · rw [h.2.2.1 i hi (p k) (h.2.1 k i (by omega) hi), Int.mul_zero]
  · rw [hv j (Nat.lt_trans hj (h.1 k hk))]
    refine isum_zero (fun i hi => ?_)
    rcases Nat.lt_or_ge i k with g | g
    · rw [hz i g, Int.zero_mul]
    · have : j < p i := by
        rcases Nat.eq_or_lt_of_le g with e | e
        · rw [← e]; exact hj
        · exact Nat.lt_trans hj (h.2.1 k i e hi)
      rw [h.2.2.1 i hi j this, Int.mul_zero]
theorem stairs_lead {F : imat} {n s : Nat} {p : Nat → Nat} (h : stairs F n s p) {v c : Nat → Int} (hv : ∀ j, j < n → v j = isum (fun k => c k * F k j) s) {l : Nat} (hl : l < n) (h0 : ∀ j, j < l → v j = 0) (h1 : v l ≠ 0) : ∃ k, k < s ∧ p k = l ∧ ∀ i, i < k → c i = 0 := by
  have hex : ∃ k, k < s ∧ c k ≠ 0 := Classical.byContradiction (fun hn => h1 (by
    rw [hv l hl]
    exact isum_zero (fun i hi => by
      have : c i = 0 := Classical.byContradiction (fun g => hn ⟨i, hi, g⟩)
      rw [this, Int.zero_mul])))
  have hmin : ∃ k, k < s ∧ c k ≠ 0 ∧ ∀ i, i < k → c i = 0 := by
    obtain ⟨k, hk, hc⟩ := hex
    induction k using Nat.strongRecOn with
    | ind k ih =>
      by_cases g : ∃ i, i < k ∧ c i ≠ 0
      · obtain ⟨i, hi, gi⟩ := g
        exact ih i hi (by omega) gi
      · exact ⟨k, hk, hc, fun i hi => Classical.byContradiction (fun gi => g ⟨i, hi, gi⟩)⟩
  obtain ⟨k, hk, hc, hz⟩ := hmin
  refine ⟨k, hk, ?_, hz⟩
  obtain ⟨e1, e2⟩ := stairs_first h hv hk hz
  have hp := h.2.2.2 k hk
  rcases Nat.lt_trichotomy (p k) l with g | g | g
  · have := e1.symm.trans (h0 _ g)
    rcases Int.mul_eq_zero.mp this with q | q
    · exact absurd q hc
    · omega
  · exact g
  · exact absurd (e2 l g) h1
theorem herm_unique {E F : imat} {n r s : Nat} {p q : Nat → Nat} (hE : hermF E n r p) (hF : hermF F n s q) (h1 : rowsZ E r F s n) (h2 : rowsZ F s E r n) : r = s ∧ (∀ i, i < r → p i = q i) ∧ ∀ i, i < r → ∀ j, j < n → E i j = F i j := by
  have g1 : ∀ i, i < r → ∃ k, k < s ∧ q k = p i := fun i hi => by
    obtain ⟨c, hc⟩ := h1 i hi
    obtain ⟨k, a, b, -⟩ := stairs_lead hF.1 hc (hE.1.1 i hi) (hE.1.2.2.1 i hi) (by have := hE.1.2.2.2 i hi; omega)
    exact ⟨k, a, b⟩
  have g2 : ∀ i, i < s → ∃ k, k < r ∧ p k = q i := fun i hi => by
    obtain ⟨c, hc⟩ := h2 i hi
    obtain ⟨k, a, b, -⟩ := stairs_lead hE.1 hc (hF.1.1 i hi) (hF.1.2.2.1 i hi) (by have := hF.1.2.2.2 i hi; omega)
    exact ⟨k, a, b⟩
  obtain ⟨e, hp⟩ := rising_eq hE.1.2.1 hF.1.2.1 g1 g2
  subst e
  -- what a row of the one is in the other
  have inj : ∀ i k, i < r → k < r → q i = q k → i = k := fun i k hi hk e => by
    rcases Nat.lt_trichotomy i k with g | g | g
    · have := hF.1.2.1 i k g hk; omega
    · exact g
    · have := hF.1.2.1 k i g hi; omega
  have one : ∀ {A B : imat} {p q : Nat → Nat}, hermF A n r p → hermF B n r q → (∀ i, i < r → p i = q i) → (∀ i k, i < r → k < r → q i = q k → i = k) → rowsZ A r B r n → ∀ i, i < r → ∃ c : Nat → Int, (∀ j, j < n → A i j = isum (fun k => c k * B k j) r) ∧ (∀ k, k < i → c k = 0) ∧ A i (q i) = c i * B i (q i) := by
    intro A B p q hA hB hpq hin h i hi
    obtain ⟨c, hc⟩ := h i hi
    obtain ⟨k, a, b, hz⟩ := stairs_lead hB.1 hc (hA.1.1 i hi) (hA.1.2.2.1 i hi) (by have := hA.1.2.2.2 i hi; omega)
    have : k = i := hin k i a hi (by rw [b, hpq i hi])
    subst this
    exact ⟨c, hc, hz, (stairs_first hB.1 hc a hz).1⟩
  have injp : ∀ i k, i < r → k < r → p i = p k → i = k := fun i k hi hk e => inj i k hi hk (by rw [← hp i hi, ← hp k hk]; exact e)
  have diag : ∀ i, i < r → E i (q i) = F i (q i) := fun i hi => by
    obtain ⟨c, -, -, e1⟩ := one hE hF hp inj h1 i hi
    obtain ⟨b, -, -, e2⟩ := one hF hE (fun i hi => (hp i hi).symm) injp h2 i hi
    rw [hp i hi] at e2
    have a1 := hF.1.2.2.2 i hi
    have a2 := hE.1.2.2.2 i hi
    rw [hp i hi] at a2
    exact Int.dvd_antisymm (by omega) (by omega) ⟨b i, by rw [Int.mul_comm]; exact e2⟩ ⟨c i, by rw [Int.mul_comm]; exact e1⟩
  refine ⟨rfl, hp, fun i hi j hj => ?_⟩
  obtain ⟨c, hc, hz, e1⟩ := one hE hF hp inj h1 i hi
  have ci : c i = 1 := by
    have a1 := hF.1.2.2.2 i hi
    rw [diag i hi] at e1
    have : (c i - 1) * F i (q i) = 0 := by rw [Int.sub_mul, Int.one_mul]; omega
    rcases Int.mul_eq_zero.mp this with g | g <;> omega
  have ck : ∀ d k, k = i + 1 + d → k < r → c k = 0 := by
    intro d
    induction d using Nat.strongRecOn with
    | ind d ih =>
      intro k hk hkr
      have e2 : E i (q k) = F i (q k) + c k * F k (q k) := by
        rw [hc (q k) (hF.1.1 k hkr), isum_two (k := i) (l := k) (by omega) hkr (by omega) (fun l hl h3 h4 => ?_), ci, Int.one_mul]
        rcases Nat.lt_or_ge l i with g | g
        · rw [hz l g, Int.zero_mul]
        · rcases Nat.lt_or_ge l k with g2 | g2
          · rw [ih (l - i - 1) (by omega) l (by omega) hl, Int.zero_mul]
          · rw [hF.1.2.2.1 l hl (q k) (hF.1.2.1 k l (by omega) hl), Int.mul_zero]
      obtain ⟨b1, b2⟩ := hF.2 i k (by omega) hkr
      obtain ⟨b3, b4⟩ := hE.2 i k (by omega) hkr
      rw [hp k hkr] at b3 b4
      rw [diag k hkr] at b4
      have a1 := hF.1.2.2.2 k hkr
      rcases Int.lt_trichotomy (c k) 0 with g | g | g
      · have : c k * F k (q k) ≤ -1 * F k (q k) := Int.mul_le_mul_of_nonneg_right (by omega) (by omega)
        omega
      · exact g
      · have : 1 * F k (q k) ≤ c k * F k (q k) := Int.mul_le_mul_of_nonneg_right (by omega) (by omega)
        omega
  rw [hc j hj, isum_one hi (fun k hk hne => ?_), ci, Int.one_mul]
  rcases Nat.lt_or_ge k i with g | g
  · rw [hz k g, Int.zero_mul]
  · rw [ck (k - i - 1) k (by omega) hk, Int.zero_mul]
