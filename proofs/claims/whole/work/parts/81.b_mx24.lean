/-! ===== the kernel: its free columns, its elimination's sizes ===== -/
theorem qsum_inj {p : Nat → Nat} {n : Nat} {g : Nat → Rat} : ∀ {r : Nat}, (∀ i, i < r → p i < n) → (∀ i k, i < r → k < r → p i = p k → i = k) → qsum (fun k => g (p k)) r = qsum (fun j => if ∃ k, k < r ∧ p k = j then g j else 0) n
  | 0, _, _ => by
    show (0 : Rat) = _
    rw [qsum_zero (fun j _ => if_neg (fun ⟨k, hk, _⟩ => by omega))]
  | r + 1, h1, h2 => by
    show qsum (fun k => g (p k)) r + g (p r) = _
    rw [qsum_inj (fun i hi => h1 i (by omega)) (fun i k h3 h4 => h2 i k (by omega) (by omega))]
    have e : qsum (fun j => if j = p r then g j else 0) n = g (p r) := by
      rw [qsum_one (h1 r (by omega)) (fun j _ hj => if_neg hj), if_pos rfl]
    rw [← e, ← qsum_add]
    refine qsum_congr (fun j _ => ?_)
    by_cases c1 : j = p r
    · have c2 : ¬ ∃ k, k < r ∧ p k = j := fun ⟨k, hk, e⟩ => by have := h2 k r (by omega) (by omega) (by rw [e, c1]); omega
      rw [if_neg c2, if_pos c1, if_pos ⟨r, by omega, c1.symm⟩]
      grind
    · rw [if_neg c1]
      by_cases c2 : ∃ k, k < r ∧ p k = j
      · rw [if_pos c2, if_pos (by obtain ⟨k, hk, e⟩ := c2; exact ⟨k, by omega, e⟩)]
        grind
      · rw [if_neg c2, if_neg (fun ⟨k, hk, e⟩ => by
          rcases Nat.eq_or_lt_of_le (Nat.le_of_lt_succ hk) with g | g
          · exact c1 (by rw [← e, g])
          · exact c2 ⟨k, g, e⟩)]
        grind
/-- a sum over one place and the places b -/
theorem qsum_supp {F : Nat → Rat} {n r a : Nat} {b : Nat → Nat} (ha : a < n) (hb : ∀ k, k < r → b k < n) (hi : ∀ i k, i < r → k < r → b i = b k → i = k) (hab : ∀ k, k < r → a ≠ b k) (h0 : ∀ j, j < n → j ≠ a → (∀ k, k < r → j ≠ b k) → F j = 0) : qsum F n = F a + qsum (fun k => F (b k)) r := by
  have e1 : F a = qsum (fun j => if j = a then F j else 0) n := by rw [qsum_one ha (fun j _ hj => if_neg hj), if_pos rfl]
  rw [e1, qsum_inj hb hi, ← qsum_add]
  refine qsum_congr (fun j hj => ?_)
  by_cases c1 : j = a
  · rw [if_pos c1, if_neg (fun ⟨k, hk, e⟩ => hab k hk (by rw [e, c1]))]
    grind
  · rw [if_neg c1]
    by_cases c2 : ∃ k, k < r ∧ b k = j
    · rw [if_pos c2]; grind
    · rw [if_neg c2, h0 j hj c1 (fun k hk e => c2 ⟨k, hk, e.symm⟩)]
      grind
/-- kernel vectors K, each 1 at its own place x, else only at the places b -/
def KI (W : qmat) (r n f : Nat) (K : qmat) : Prop := ∃ x b : Nat → Nat, (∀ i, i < f → x i < n) ∧ (∀ k, k < r → b k < n) ∧ (∀ i k, i < f → k < f → x i = x k → i = k) ∧ (∀ i k, i < r → k < r → b i = b k → i = k) ∧ (∀ i k, i < f → k < r → x i ≠ b k) ∧ (∀ i, i < f → K i (x i) = 1) ∧ (∀ i, i < f → ∀ j, j < n → j ≠ x i → (∀ k, k < r → j ≠ b k) → K i j = 0) ∧ (∀ i, i < f → ∀ a, a < r → qsum (fun j => W a j * K i j) n = 0) ∧ det r (fun a c => W a (b c)) ≠ 0
theorem KI_cramer {W K : qmat} {r n i k : Nat} {a : Nat} {b : Nat → Nat} (ha : a < n) (hb : ∀ k, k < r → b k < n) (hi : ∀ i k, i < r → k < r → b i = b k → i = k) (hab : ∀ k, k < r → a ≠ b k) (h1 : K i a = 1) (h0 : ∀ j, j < n → j ≠ a → (∀ k, k < r → j ≠ b k) → K i j = 0) (hk0 : ∀ l, l < r → qsum (fun j => W l j * K i j) n = 0) (hk : k < r) : det r (fun l c => W l (if c = k then a else b c)) = -K i (b k) * det r (fun l c => W l (b c)) := by
  refine cramer (A := W) (E := fun k' _ => -K i (b k')) (g := b) (j := a) hk (fun l hl => ?_)
  have h := hk0 l hl
  rw [qsum_supp (a := a) ha hb hi hab (fun j hj e1 e2 => by rw [h0 j hj e1 e2]; grind), h1] at h
  have e : qsum (fun k' => -K i (b k') * W l (b k')) r = -qsum (fun k' => W l (b k') * K i (b k')) r := by
    rw [show ∀ x : Rat, -x = (-1) * x from fun x => by grind, qsum_mul]
    exact qsum_congr (fun k' _ => by grind)
  rw [e]
  grind
theorem clo_inj {r p i k : Nat} (h : clo r p i = clo r p k) : i = k := by
  unfold clo at h
  split at h <;> split at h <;> (try split at h) <;> (try split at h) <;> omega
theorem clo_p {r p i : Nat} (h : clo r p i = p) : i = r := by
  unfold clo at h
  split at h
  · assumption
  · split at h <;> omega
theorem KI.step {W K : qmat} {r n f rk p c : Nat} (h : KI W r n f K) (hr : rk ≤ p) (hp : p < f) (hc : c < n) (h0 : K p c ≠ 0) : KI W r n f (gj K rk p c) := by
  obtain ⟨x, b, h1, h2, h3, h4, h5, h6, h7, h8, h9⟩ := h
  have hrk : rk < f := by omega
  have row : ∀ i, i ≠ rk → ∀ j, gj K rk p c i j = K (clo rk p i) j - K (clo rk p i) c / K p c * K p j := fun i hi j => by
    rw [gj_o K hi, show clo rk p i = (if i = p then rk else i) from if_neg hi]
  have rowr : ∀ j, gj K rk p c rk j = K p j / K p c := fun j => gj_r K rk p c j
  have hne : ∀ i, i ≠ rk → clo rk p i ≠ p := fun i hi e => hi (clo_p e)
  have hker : ∀ i, i < f → ∀ a, a < r → qsum (fun j => W a j * gj K rk p c i j) n = 0 := fun i hi a ha => by
    by_cases e : i = rk
    · rw [e, qsum_congr (g := fun j => 1 / K p c * (W a j * K p j)) (fun j _ => by rw [rowr]; grind), ← qsum_mul, h8 p hp a ha]
      grind
    · have hl := clo_lt (r := rk) (p := p) hrk hp hi
      rw [qsum_congr (g := fun j => W a j * K (clo rk p i) j + -(K (clo rk p i) c / K p c) * (W a j * K p j)) (fun j _ => by rw [row i e]; grind), qsum_add, ← qsum_mul, h8 p hp a ha, h8 _ hl a ha]
      grind
  by_cases cx : c = x p
  · -- the column is the row's own
    refine ⟨fun i => if i = rk then c else x (clo rk p i), b, fun i hi => ?_, h2, fun i k hi hk e => ?_, h4, fun i k hi hk => ?_, fun i hi => ?_, fun i hi j hj e1 e2 => ?_, hker, h9⟩
    · dsimp only; split
      · exact hc
      · exact h1 _ (clo_lt hrk hp hi)
    · dsimp only at e
      by_cases e1 : i = rk
      · by_cases e2 : k = rk
        · omega
        · rw [if_pos e1, if_neg e2, cx] at e
          exact absurd (h3 _ _ hp (clo_lt hrk hp hk) e).symm (hne k e2)
      · by_cases e2 : k = rk
        · rw [if_neg e1, if_pos e2, cx] at e
          exact absurd (h3 _ _ (clo_lt hrk hp hi) hp e) (hne i e1)
        · rw [if_neg e1, if_neg e2] at e
          exact clo_inj (h3 _ _ (clo_lt hrk hp hi) (clo_lt hrk hp hk) e)
    · dsimp only; split
      · rw [cx]; exact h5 p k hp hk
      · exact h5 _ k (clo_lt hrk hp hi) hk
    · dsimp only
      by_cases e : i = rk
      · rw [if_pos e, e, rowr]; grind
      · rw [if_neg e, row i e, h6 _ (clo_lt hrk hp hi), h7 p hp _ (h1 _ (clo_lt hrk hp hi)) (fun e1 => hne i e (h3 _ _ (clo_lt hrk hp hi) hp e1)) (fun k hk => h5 _ k (clo_lt hrk hp hi) hk)]
        grind
    · dsimp only at e1
      by_cases e : i = rk
      · rw [if_pos e, cx] at e1
        rw [e, rowr, h7 p hp j hj e1 e2]; grind
      · rw [if_neg e] at e1
        rw [row i e, h7 _ (clo_lt hrk hp hi) j hj e1 e2]
        by_cases e3 : j = c
        · have : K (clo rk p i) c = 0 := by rw [← e3]; exact h7 _ (clo_lt hrk hp hi) j hj e1 e2
          rw [this]; grind
        · rw [h7 p hp j hj (by rw [← cx]; exact e3) e2]; grind
  · -- the column is one of b
    obtain ⟨k0, hk0, ek⟩ : ∃ k0, k0 < r ∧ c = b k0 := Classical.byContradiction (fun hn => h0 (h7 p hp c hc cx (fun k hk e => hn ⟨k, hk, e⟩)))
    have hcr := KI_cramer (W := W) (K := K) (i := p) (k := k0) (h1 p hp) h2 h4 (fun k hk => h5 p k hp hk) (h6 p hp) (h7 p hp) (h8 p hp) hk0
    have hcb : ∀ i, i < f → x i ≠ c := fun i hi => by rw [ek]; exact h5 i k0 hi hk0
    refine ⟨fun i => if i = rk then c else x (clo rk p i), fun k => if k = k0 then x p else b k, fun i hi => ?_, fun k hk => ?_, fun i k hi hk e => ?_, fun i k hi hk e => ?_, fun i k hi hk => ?_, fun i hi => ?_, fun i hi j hj e1 e2 => ?_, hker, ?_⟩
    · dsimp only; split
      · exact hc
      · exact h1 _ (clo_lt hrk hp hi)
    · dsimp only; split
      · exact h1 p hp
      · exact h2 k hk
    · dsimp only at e
      by_cases e1 : i = rk
      · by_cases e2 : k = rk
        · omega
        · rw [if_pos e1, if_neg e2] at e
          exact absurd e.symm (hcb _ (clo_lt hrk hp hk))
      · by_cases e2 : k = rk
        · rw [if_neg e1, if_pos e2] at e
          exact absurd e (hcb _ (clo_lt hrk hp hi))
        · rw [if_neg e1, if_neg e2] at e
          exact clo_inj (h3 _ _ (clo_lt hrk hp hi) (clo_lt hrk hp hk) e)
    · dsimp only at e
      by_cases e1 : i = k0
      · by_cases e2 : k = k0
        · omega
        · rw [if_pos e1, if_neg e2] at e
          exact absurd e (h5 p k hp hk)
      · by_cases e2 : k = k0
        · rw [if_neg e1, if_pos e2] at e
          exact absurd e.symm (h5 p i hp hi)
        · rw [if_neg e1, if_neg e2] at e
          exact h4 i k hi hk e
    · dsimp only
      by_cases e1 : i = rk
      · rw [if_pos e1]
        by_cases e2 : k = k0
        · rw [if_pos e2]; exact fun e => hcb p hp e.symm
        · rw [if_neg e2, ek]; exact fun e => e2 (h4 k0 k hk0 hk e).symm
      · rw [if_neg e1]
        by_cases e2 : k = k0
        · rw [if_pos e2]; exact fun e => hne i e1 (h3 _ _ (clo_lt hrk hp hi) hp e)
        · rw [if_neg e2]; exact h5 _ k (clo_lt hrk hp hi) hk
    · dsimp only
      by_cases e : i = rk
      · rw [if_pos e, e, rowr]; grind
      · rw [if_neg e, row i e, h6 _ (clo_lt hrk hp hi), h7 p hp _ (h1 _ (clo_lt hrk hp hi)) (fun e1 => hne i e (h3 _ _ (clo_lt hrk hp hi) hp e1)) (fun k hk => h5 _ k (clo_lt hrk hp hi) hk)]
        grind
    · dsimp only at e1 e2
      have hjx : j ≠ x p := by have := e2 k0 hk0; rw [if_pos rfl] at this; exact this
      have hjb : j ≠ c → ∀ k, k < r → j ≠ b k := fun hjc k hk e3 => by
        by_cases e4 : k = k0
        · exact hjc (by rw [e3, e4, ek])
        · have := e2 k hk; rw [if_neg e4] at this; exact this e3
      by_cases e : i = rk
      · rw [if_pos e] at e1
        rw [e, rowr, h7 p hp j hj hjx (hjb e1)]; grind
      · rw [if_neg e] at e1
        by_cases e3 : j = c
        · rw [e3, row i e]; grind
        · rw [row i e, h7 _ (clo_lt hrk hp hi) j hj e1 (hjb e3), h7 p hp j hj hjx (hjb e3)]; grind
    · have e9 : det r (fun a c' => W a (if c' = k0 then x p else b c')) ≠ 0 := by
        rw [hcr, ← ek]
        have : K p c ≠ 0 := h0
        grind
      exact e9
theorem KI.size {W K : qmat} {r n f B : Nat} (h : KI W r n f K) (hB : ∀ y : Nat → Nat, (∀ k, k < r → y k < n) → zle B (det r (fun a c => W a (y c)))) (hB1 : 1 ≤ B) {i j : Nat} (hi : i < f) (hj : j < n) : qle B (K i j) := by
  obtain ⟨x, b, h1, h2, h3, h4, h5, h6, h7, h8, h9⟩ := h
  by_cases c1 : j = x i
  · rw [c1, h6 i hi]; exact ⟨hB1, hB1⟩
  · by_cases c2 : ∃ k, k < r ∧ j = b k
    · obtain ⟨k, hk, e⟩ := c2
      have hcr := KI_cramer (W := W) (K := K) (i := i) (k := k) (h1 i hi) h2 h4 (fun k hk => h5 i k hi hk) (h6 i hi) (h7 i hi) (h8 i hi) hk
      have z1 := hB (fun c => if c = k then x i else b c) (fun c hc => by split; exact h1 i hi; exact h2 c hc)
      obtain ⟨z, e1, e2⟩ := z1
      rw [e]
      exact qle_ratio (p := -det r (fun a c => W a (if c = k then x i else b c))) ⟨-z, by rw [Rat.intCast_neg, ← e1], by omega⟩ (hB b h2) h9 (by rw [hcr]; grind)
    · rw [h7 i hi j hj c1 (fun k hk e => c2 ⟨k, hk, e⟩)]
      exact qle_zero hB1
theorem KI.factor {W K : qmat} {r n f B : Nat} (h : KI W r n f K) (hB : ∀ y : Nat → Nat, (∀ k, k < r → y k < n) → zle B (det r (fun a c => W a (y c)))) (hB1 : 1 ≤ B) {o p c : Nat} (ho : o < f) (hp : p < f) (hc : c < n) (h0 : K p c ≠ 0) : qle B (K o c / K p c) := by
  have hsz := h.size hB hB1 ho hc
  obtain ⟨x, b, h1, h2, h3, h4, h5, h6, h7, h8, h9⟩ := h
  by_cases c1 : c = x p
  · have : K p c = 1 := by rw [c1]; exact h6 p hp
    rw [this, show K o c / 1 = K o c by grind]
    exact hsz
  · obtain ⟨k, hk, e⟩ : ∃ k, k < r ∧ c = b k := Classical.byContradiction (fun hn => h0 (h7 p hp c hc c1 (fun k hk e => hn ⟨k, hk, e⟩)))
    have g1 := KI_cramer (W := W) (K := K) (i := o) (k := k) (h1 o ho) h2 h4 (fun k hk => h5 o k ho hk) (h6 o ho) (h7 o ho) (h8 o ho) hk
    have g2 := KI_cramer (W := W) (K := K) (i := p) (k := k) (h1 p hp) h2 h4 (fun k hk => h5 p k hp hk) (h6 p hp) (h7 p hp) (h8 p hp) hk
    rw [← e] at g1 g2
    exact qle_ratio (hB (fun c' => if c' = k then x o else b c') (fun c' hc' => by split; exact h1 o ho; exact h2 c' hc')) (hB (fun c' => if c' = k then x p else b c') (fun c' hc' => by split; exact h1 p hp; exact h2 c' hc')) (by rw [g2]; grind) (by rw [g1, g2]; grind)
/-- the free columns -/
theorem free_enum {p : Nat → Nat} {r : Nat} (hp : ∀ i k, i < k → k < r → p i < p k) : ∀ n : Nat, ∃ (f r' : Nat) (q : Nat → Nat), f + r' = n ∧ r' ≤ r ∧ (∀ k, k < r' → p k < n) ∧ (∀ k, r' ≤ k → k < r → n ≤ p k) ∧ (∀ i, i < f → q i < n) ∧ (∀ i k, i < k → k < f → q i < q k) ∧ (∀ j, j < n → (∃ k, k < r ∧ p k = j) ∨ ∃ k, k < f ∧ q k = j) ∧ ∀ i k, i < r → k < f → p i ≠ q k
  | 0 => ⟨0, 0, fun i => i, rfl, Nat.zero_le _, fun k h => by omega, fun k _ _ => Nat.zero_le _, fun i h => by omega, fun i k _ h => by omega, fun j h => by omega, fun i k _ h => by omega⟩
  | n + 1 => by
    obtain ⟨f, r', q, e1, e2, e3, e4, e5, e6, e7, e8⟩ := free_enum hp n
    by_cases c : r' < r ∧ p r' = n
    · refine ⟨f, r' + 1, q, by omega, by omega, fun k hk => ?_, fun k h1 h2 => ?_, fun i hi => by have := e5 i hi; omega, e6, fun j hj => ?_, e8⟩
      · by_cases e : k = r'
        · rw [e, c.2]; omega
        · have := e3 k (by omega); omega
      · have := hp r' k (by omega) h2; omega
      · by_cases e : j = n
        · exact Or.inl ⟨r', c.1, by rw [e, c.2]⟩
        · exact e7 j (by omega)
    · have hnp : ∀ k, k < r → p k ≠ n := fun k hk e => by
        by_cases c1 : k < r'
        · have := e3 k c1; omega
        · by_cases c2 : k = r'
          · exact c ⟨by omega, by rw [← c2]; exact e⟩
          · have h1 := e4 r' (Nat.le_refl _) (by omega)
            have h2 := hp r' k (by omega) hk
            omega
      refine ⟨f + 1, r', fun i => if i = f then n else q i, by omega, e2, fun k hk => by have := e3 k hk; omega, fun k h1 h2 => by have := e4 k h1 h2; have := hnp k h2; omega, fun i hi => ?_, fun i k h1 h2 => ?_, fun j hj => ?_, fun i k hi hk => ?_⟩
      · dsimp only; split
        · omega
        · have := e5 i (by omega); omega
      · dsimp only
        rw [if_neg (by omega)]
        split
        · exact e5 i (by omega)
        · exact e6 i k h1 (by omega)
      · by_cases e : j = n
        · exact Or.inr ⟨f, by omega, by dsimp only; rw [if_pos rfl, e]⟩
        · rcases e7 j (by omega) with g | ⟨k, hk, g⟩
          · exact Or.inl g
          · exact Or.inr ⟨k, by omega, by dsimp only; rw [if_neg (by omega)]; exact g⟩
      · dsimp only; split
        · exact hnp i hi
        · exact e8 i k hi (by omega)
theorem free_parts {p : Nat → Nat} {r n : Nat} (hp : ∀ i k, i < k → k < r → p i < p k) (hn : ∀ i, i < r → p i < n) : ∃ f q, f + r = n ∧ parts2 n r f p q := by
  obtain ⟨f, r', q, e1, e2, e3, e4, e5, e6, e7, e8⟩ := free_enum hp n
  have : r' = r := by
    rcases Nat.lt_or_ge r' r with g | g
    · have h1 := e4 r' (Nat.le_refl _) g
      have h2 := hn r' g
      omega
    · omega
  exact ⟨f, q, by omega, hn, hp, e5, e6, e7, e8⟩
/-- the reference's rows of the kernel -/
def kerF (E : qmat) (r : Nat) (p q : Nat → Nat) : qmat := fun i j => (if j = q i then 1 else 0) - qsum (fun k => if p k = j then E k (q i) else 0) r
theorem kerF_pivot {E : qmat} {n r f : Nat} {p q : Nat → Nat} (hp : parts2 n r f p q) {i k : Nat} (hi : i < f) (hk : k < r) : kerF E r p q i (p k) = -E k (q i) := by
  unfold kerF
  rw [if_neg (hp.2.2.2.2.2 k i hk hi), qsum_one hk (fun l hl hne => if_neg (fun e => hne (by
    rcases Nat.lt_trichotomy l k with g | g | g
    · have := hp.2.1 l k g hk; omega
    · exact g
    · have := hp.2.1 k l g hl; omega))), if_pos rfl]
  grind
theorem kerF_free {E : qmat} {n r f : Nat} {p q : Nat → Nat} (hp : parts2 n r f p q) {i j : Nat} (hj : ∀ k, k < r → p k ≠ j) : kerF E r p q i j = if j = q i then 1 else 0 := by
  unfold kerF
  rw [qsum_zero (fun l hl => if_neg (hj l hl))]
  grind
theorem kerF_ker {E : qmat} {n r f : Nat} {p q : Nat → Nat} (hp : parts2 n r f p q) : kerM E r p q (kerF E r p q) f n := by
  refine ⟨fun i hi k hk => ?_, fun i hi k hk => kerF_pivot hp hi hk⟩
  rw [kerF_free hp (fun l hl => hp.2.2.2.2.2 l k hl hk)]
  by_cases e : k = i
  · rw [if_pos e, if_pos (by rw [e])]
  · rw [if_neg e, if_neg (fun e1 => e (by
      rcases Nat.lt_trichotomy k i with g | g | g
      · have := hp.2.2.2.1 k i g hi; omega
      · exact g
      · have := hp.2.2.2.1 i k g hk; omega))]
theorem KI_start {E W : qmat} {n r f : Nat} {p q : Nat → Nat} (hE : rref E n r p) (hp : parts2 n r f p q) (hW : rowsIn W r E r n) (hd : det r (fun a c => W a (p c)) ≠ 0) : KI W r n f (kerF E r p q) := by
  have hK := kerF_ker (E := E) hp
  refine ⟨q, p, hp.2.2.1, hp.1, fun i k hi hk e => ?_, fun i k hi hk e => ?_, fun i k hi hk e => hp.2.2.2.2.2 k i hk hi e.symm, fun i hi => by rw [hK.1 i hi i hi, if_pos rfl], fun i hi j hj e1 e2 => ?_, fun i hi a ha => inKer_rows hW (ker_in hE hp hK hi) a ha, hd⟩
  · rcases Nat.lt_trichotomy i k with g | g | g
    · have := hp.2.2.2.1 i k g hk; omega
    · exact g
    · have := hp.2.2.2.1 k i g hi; omega
  · rcases Nat.lt_trichotomy i k with g | g | g
    · have := hp.2.1 i k g hk; omega
    · exact g
    · have := hp.2.1 k i g hi; omega
  · rw [kerF_free hp (fun k hk e => e2 k hk e.symm), if_neg e1]
