/-! ===== sums, rows as combinations, the reduced form that is the only one ===== -/
def qsum (f : Nat → Rat) : Nat → Rat
  | 0 => 0
  | n + 1 => qsum f n + f n
theorem qsum_congr {f g : Nat → Rat} : ∀ {n : Nat}, (∀ i, i < n → f i = g i) → qsum f n = qsum g n
  | 0, _ => rfl
  | n + 1, h => by
    show qsum f n + f n = qsum g n + g n
    rw [qsum_congr (fun i hi => h i (by omega)), h n (Nat.lt_succ_self n)]
theorem qsum_zero {f : Nat → Rat} : ∀ {n : Nat}, (∀ i, i < n → f i = 0) → qsum f n = 0
  | 0, _ => rfl
  | n + 1, h => by
    show qsum f n + f n = 0
    rw [qsum_zero (fun i hi => h i (by omega)), h n (Nat.lt_succ_self n)]
    grind
theorem qsum_one {f : Nat → Rat} {k : Nat} : ∀ {n : Nat}, k < n → (∀ i, i < n → i ≠ k → f i = 0) → qsum f n = f k
  | 0, h, _ => by omega
  | n + 1, hk, h => by
    show qsum f n + f n = f k
    by_cases e : k = n
    · subst e
      rw [qsum_zero (fun i hi => h i (by omega) (by omega))]
      grind
    · rw [qsum_one (show k < n by omega) (fun i hi hne => h i (by omega) hne), h n (Nat.lt_succ_self n) (fun h => e h.symm)]
      grind
theorem qsum_add {f g : Nat → Rat} : ∀ {n : Nat}, qsum (fun i => f i + g i) n = qsum f n + qsum g n
  | 0 => by show (0 : Rat) = 0 + 0; grind
  | n + 1 => by
    show qsum (fun i => f i + g i) n + (f n + g n) = qsum f n + f n + (qsum g n + g n)
    rw [qsum_add]
    grind
theorem qsum_mul {f : Nat → Rat} {c : Rat} : ∀ {n : Nat}, c * qsum f n = qsum (fun i => c * f i) n
  | 0 => by show c * 0 = 0; grind
  | n + 1 => by
    show c * (qsum f n + f n) = qsum (fun i => c * f i) n + c * f n
    rw [← qsum_mul]
    grind
theorem qsum_comm {f : Nat → Nat → Rat} {m : Nat} : ∀ {n : Nat}, qsum (fun i => qsum (fun j => f i j) m) n = qsum (fun j => qsum (fun i => f i j) n) m
  | 0 => by
    show (0 : Rat) = qsum (fun j => (0 : Rat)) m
    rw [qsum_zero (fun i _ => rfl)]
  | n + 1 => by
    show qsum (fun i => qsum (fun j => f i j) m) n + qsum (fun j => f n j) m = qsum (fun j => qsum (fun i => f i j) n + f n j) m
    rw [qsum_comm, qsum_add]
abbrev qmat := Nat → Nat → Rat
/-- a reduced echelon form: its rows below rk, its pivots p -/
def rref (E : qmat) (n rk : Nat) (p : Nat → Nat) : Prop :=
  (∀ i, i < rk → p i < n) ∧ (∀ i k, i < k → k < rk → p i < p k) ∧ (∀ i, i < rk → ∀ j, j < p i → E i j = 0) ∧ (∀ i, i < rk → E i (p i) = 1) ∧ (∀ i k, i < rk → k < rk → i ≠ k → E i (p k) = 0)
/-- each of the first r rows of A is a combination of the first s rows of B -/
def rowsIn (A : qmat) (r : Nat) (B : qmat) (s n : Nat) : Prop := ∀ i, i < r → ∃ c : Nat → Rat, ∀ j, j < n → A i j = qsum (fun k => c k * B k j) s
theorem rowsIn_refl {A : qmat} {r n : Nat} : rowsIn A r A r n := fun i hi => ⟨fun k => if k = i then 1 else 0, fun j _ => by
  rw [qsum_one hi (fun k _ hk => by simp [hk])]
  simp⟩
theorem rowsIn_trans {A B C : qmat} {r s t n : Nat} (h1 : rowsIn A r B s n) (h2 : rowsIn B s C t n) : rowsIn A r C t n := by
  intro i hi
  obtain ⟨c, hc⟩ := h1 i hi
  refine ⟨fun l => qsum (fun k => c k * (if h : k < s then Classical.choose (h2 k h) l else 0)) s, fun j hj => ?_⟩
  rw [hc j hj]
  have e1 : ∀ k, k < s → c k * B k j = qsum (fun l => c k * ((if h : k < s then Classical.choose (h2 k h) l else 0) * C l j)) t := fun k hk => by
    rw [(Classical.choose_spec (h2 k hk)) j hj, qsum_mul]
    exact qsum_congr (fun l _ => by rw [dif_pos hk])
  rw [qsum_congr e1, qsum_comm]
  refine qsum_congr (fun l _ => ?_)
  rw [show ∀ x y : Rat, x * y = y * x from fun x y => by grind]
  rw [qsum_mul]
  exact qsum_congr (fun k _ => by grind)
theorem rref_coef {F : qmat} {n s : Nat} {p : Nat → Nat} (h : rref F n s p) {v c : Nat → Rat} (hv : ∀ j, j < n → v j = qsum (fun k => c k * F k j) s) {k : Nat} (hk : k < s) : v (p k) = c k := by
  rw [hv (p k) (h.1 k hk), qsum_one hk (fun i hi hne => by rw [h.2.2.2.2 i k hi hk hne]; grind), h.2.2.2.1 k hk]
  grind
theorem rref_lead {F : qmat} {n s : Nat} {p : Nat → Nat} (h : rref F n s p) {v c : Nat → Rat} (hv : ∀ j, j < n → v j = qsum (fun k => c k * F k j) s) {l : Nat} (hl : l < n) (h0 : ∀ j, j < l → v j = 0) (h1 : v l ≠ 0) : ∃ k, k < s ∧ p k = l := by
  -- the first k with c k <> 0
  have hex : ∃ k, k < s ∧ c k ≠ 0 := Classical.byContradiction (fun hn => h1 (by
    rw [hv l hl]
    exact qsum_zero (fun i hi => by
      have : c i = 0 := Classical.byContradiction (fun g => hn ⟨i, hi, g⟩)
      rw [this]; grind)))
  have hmin : ∃ k, k < s ∧ c k ≠ 0 ∧ ∀ i, i < k → c i = 0 := by
    obtain ⟨k, hk, hc⟩ := hex
    induction k using Nat.strongRecOn with
    | ind k ih =>
      by_cases g : ∃ i, i < k ∧ c i ≠ 0
      · obtain ⟨i, hi, gi⟩ := g
        exact ih i hi (by omega) gi
      · exact ⟨k, hk, hc, fun i hi => Classical.byContradiction (fun gi => g ⟨i, hi, gi⟩)⟩
  obtain ⟨k, hk, hc, hz⟩ := hmin
  refine ⟨k, hk, ?_⟩
  have e1 := rref_coef h hv hk
  rcases Nat.lt_trichotomy (p k) l with g | g | g
  · exact absurd (e1.symm.trans (h0 _ g)) hc
  · exact g
  · refine absurd ?_ h1
    rw [hv l hl]
    refine qsum_zero (fun i hi => ?_)
    rcases Nat.lt_or_ge i k with g2 | g2
    · rw [hz i g2]; grind
    · have : l < p i := by
        rcases Nat.eq_or_lt_of_le g2 with e | e
        · rw [← e]; exact g
        · exact Nat.lt_trans g (h.2.1 k i e hi)
      rw [h.2.2.1 i hi l this]; grind
/-- two rising lists with the same members are the same -/
theorem rising_le {p q : Nat → Nat} {r s : Nat} (hp : ∀ i k, i < k → k < r → p i < p k) (hq : ∀ i k, i < k → k < s → q i < q k) (h : ∀ i, i < r → ∃ k, k < s ∧ q k = p i) : ∀ i, i < r → i < s ∧ ∃ k, i ≤ k ∧ k < s ∧ q k = p i := by
  intro i
  induction i with
  | zero => intro hi; obtain ⟨k, h1, h2⟩ := h 0 hi; exact ⟨by omega, k, by omega, h1, h2⟩
  | succ i ih =>
    intro hi
    obtain ⟨g1, k, g2, g3, g4⟩ := ih (by omega)
    obtain ⟨l, h1, h2⟩ := h (i + 1) hi
    have h3 := hp i (i + 1) (by omega) hi
    have : k < l := by
      rcases Nat.lt_or_ge k l with g | g
      · exact g
      · rcases Nat.eq_or_lt_of_le g with e | e
        · subst e; omega
        · have := hq l k e g3; omega
    exact ⟨by omega, l, by omega, h1, h2⟩
theorem rising_eq {p q : Nat → Nat} {r s : Nat} (hp : ∀ i k, i < k → k < r → p i < p k) (hq : ∀ i k, i < k → k < s → q i < q k) (h : ∀ i, i < r → ∃ k, k < s ∧ q k = p i) (h' : ∀ i, i < s → ∃ k, k < r ∧ p k = q i) : r = s ∧ ∀ i, i < r → p i = q i := by
  have a := rising_le hp hq h
  have b := rising_le hq hp h'
  have e : r = s := by
    rcases Nat.lt_trichotomy r s with g | g | g
    · have := (b r g).1; omega
    · exact g
    · have := (a s g).1; omega
  subst e
  have mono : ∀ {p : Nat → Nat}, (∀ i k, i < k → k < r → p i < p k) → ∀ i k, i ≤ k → k < r → p i ≤ p k := fun hp i k h1 h2 => by
    rcases Nat.eq_or_lt_of_le h1 with e | e
    · rw [e]; exact Nat.le_refl _
    · exact Nat.le_of_lt (hp i k e h2)
  refine ⟨rfl, fun i hi => ?_⟩
  obtain ⟨-, k, h1, h2, h3⟩ := a i hi
  obtain ⟨-, l, h4, h5, h6⟩ := b i hi
  have := mono hq i k h1 h2
  have := mono hp i l h4 h5
  omega
theorem rref_unique {E F : qmat} {n r s : Nat} {p q : Nat → Nat} (hE : rref E n r p) (hF : rref F n s q) (h1 : rowsIn E r F s n) (h2 : rowsIn F s E r n) : r = s ∧ (∀ i, i < r → p i = q i) ∧ ∀ i, i < r → ∀ j, j < n → E i j = F i j := by
  have g1 : ∀ i, i < r → ∃ k, k < s ∧ q k = p i := fun i hi => by
    obtain ⟨c, hc⟩ := h1 i hi
    exact rref_lead hF hc (hE.1 i hi) (hE.2.2.1 i hi) (by rw [hE.2.2.2.1 i hi]; decide)
  have g2 : ∀ i, i < s → ∃ k, k < r ∧ p k = q i := fun i hi => by
    obtain ⟨c, hc⟩ := h2 i hi
    exact rref_lead hE hc (hF.1 i hi) (hF.2.2.1 i hi) (by rw [hF.2.2.2.1 i hi]; decide)
  obtain ⟨e, hp⟩ := rising_eq hE.2.1 hF.2.1 g1 g2
  subst e
  refine ⟨rfl, hp, fun i hi j hj => ?_⟩
  obtain ⟨c, hc⟩ := h1 i hi
  have hcoef : ∀ k, k < r → c k = if k = i then 1 else 0 := fun k hk => by
    rw [← rref_coef hF hc hk, ← hp k hk]
    by_cases g : k = i
    · subst g; rw [if_pos rfl]; exact hE.2.2.2.1 k hk
    · rw [if_neg g]; exact hE.2.2.2.2 i k hi hk (fun e => g e.symm)
  rw [hc j hj, qsum_one hi (fun k hk hne => by rw [hcoef k hk, if_neg hne]; grind), hcoef i hi, if_pos rfl]
  grind
