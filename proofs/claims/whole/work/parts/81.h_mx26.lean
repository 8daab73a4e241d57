/-! ===== the reference's triangle: rows, modulo d ===== -/
theorem rowsZ_rows {A A' : imat} {s r n : Nat} (h : ∀ i, i < r → ∃ k, k < s ∧ ∀ j, j < n → A' i j = A k j) : rowsZ A' r A s n := by
  intro i hi
  obtain ⟨k, hk, e⟩ := h i hi
  exact inZ_congr (inZ_row hk) e
def rdm (d : Int) (c k : Nat) (x : Int) : Int := if k = c then x else x % d
/-- the rows c and i behind a step, as far as column k -/
def trow (Z : imat) (d : Int) (c i : Nat) (one two : Nat → Int) (k : Nat) : imat := fun a b => if c ≤ b ∧ b < k then (if a = c then rdm d c b (one b) else if a = i then rdm d c b (two b) else Z a b) else Z a b
theorem trow_start (Z : imat) (d : Int) (c i : Nat) (one two : Nat → Int) : trow Z d c i one two c = Z := by
  funext a b
  exact if_neg (by omega)
theorem trow_next (Z : imat) (d : Int) {c i : Nat} (one two : Nat → Int) {k : Nat} (hk : c ≤ k) (hci : c ≠ i) : trow Z d c i one two (k + 1) = (fun a b => if a = i ∧ b = k then rdm d c k (two k) else (fun a b => if a = c ∧ b = k then rdm d c k (one k) else trow Z d c i one two k a b) a b) := by
  funext a b
  unfold trow
  dsimp only
  by_cases e : b = k
  · subst e
    rw [if_pos ⟨hk, by omega⟩]
    by_cases e1 : a = c
    · rw [if_pos e1, if_neg (by omega), if_pos ⟨e1, rfl⟩]
    · rw [if_neg e1]
      by_cases e2 : a = i
      · rw [if_pos e2, if_pos ⟨e2, rfl⟩]
      · rw [if_neg e2, if_neg (fun h => e2 h.1), if_neg (fun h => e1 h.1), if_neg (by omega)]
  · have r1 : ¬ (a = i ∧ b = k) := fun h => e h.2
    have r2 : ¬ (a = c ∧ b = k) := fun h => e h.2
    rw [if_neg r1, if_neg r2]
    by_cases e1 : c ≤ b ∧ b < k
    · have e2 : c ≤ b ∧ b < k + 1 := ⟨e1.1, by omega⟩
      rw [if_pos e1, if_pos e2]
    · have e2 : ¬ (c ≤ b ∧ b < k + 1) := by omega
      rw [if_neg e1, if_neg e2]
/-- the first half of triangle: columns before c are done, column c up to row i -/
def T1I (Z0 Z : imat) (d : Int) (B m n c i : Nat) : Prop :=
  (rowsZ Z (m + n) Z0 (m + n) n ∧ rowsZ Z0 (m + n) Z (m + n) n) ∧
  (∀ c', c' < c → (0 < Z c' c' ∧ Z c' c' ≤ d ∧ ∀ k, c' < k → k < n → 0 ≤ Z c' k ∧ Z c' k < d) ∧ ∀ i', c' < i' → i' < m + n → Z i' c' = 0) ∧
  (∀ i', c < i' → i' < i → Z i' c = 0) ∧
  (m + c < i → 0 < Z c c ∧ Z c c ≤ d ∧ ∀ k, c < k → k < n → 0 ≤ Z c k ∧ Z c k < d) ∧
  (∀ k, c ≤ k → k < n → (k = c → i ≤ m + c) → ∀ j, j < n → Z (m + k) j = if j = k then d else 0) ∧
  ∀ a b, a < m + n → b < n → (Z a b).natAbs ≤ B
section T1
variable {Z0 Z : imat} {d : Int} {B m n c i : Nat}
theorem T1I_start (hm : 1 ≤ m) (hd : ∀ k, k < n → ∀ j, j < n → Z (m + k) j = if j = k then d else 0) (hB : ∀ a b, a < m + n → b < n → (Z a b).natAbs ≤ B) : T1I Z Z d B m n 0 1 := ⟨⟨rowsZ_refl, rowsZ_refl⟩, fun c' h => by omega, fun i' h1 h2 => by omega, fun h => by omega, fun k _ hk _ => hd k hk, hB⟩
theorem T1I.skip (h : T1I Z0 Z d B m n c i) (hcn : c < n) (hnm : n ≤ m) (hd : 0 < d) (hx : Z i c = 0) : T1I Z0 Z d B m n c (i + 1) := by
  obtain ⟨h1, h2, h3, h4, h5, h6⟩ := h
  have hne : i ≠ m + c := fun e => by
    have := h5 c (Nat.le_refl _) hcn (fun _ => by omega) c hcn
    rw [if_pos rfl, ← e, hx] at this
    omega
  refine ⟨h1, h2, fun i' a1 a2 => ?_, fun a => h4 (by omega), fun k a1 a2 a3 => h5 k a1 a2 (fun e => by have := a3 e; omega), h6⟩
  by_cases e : i' = i
  · rw [e]; exact hx
  · exact h3 i' a1 (by omega)
theorem T1I.next (h : T1I Z0 Z d B m n c (m + n)) (hcn : c < n) (hnm : n ≤ m) : T1I Z0 Z d B m n (c + 1) (c + 2) := by
  obtain ⟨h1, h2, h3, h4, h5, h6⟩ := h
  refine ⟨h1, fun c' hc' => ?_, fun i' a1 a2 => by omega, fun a => by omega, fun k a1 a2 a3 => h5 k (by omega) a2 (fun e => by omega), h6⟩
  by_cases e : c' = c
  · rw [e]; exact ⟨h4 (by omega), fun i' a1 a2 => h3 i' a1 a2⟩
  · exact h2 c' (by omega)
theorem T1I.row (h : T1I Z0 Z d B m n c i) (hcn : c < n) (hci : c < i) (him : i < m + n) (hnm : n ≤ m) (hd : 0 < d) (hdB : d.natAbs ≤ B) (hx : Z i c ≠ 0) {one two : Nat → Int} (ho : ∀ k, k < c → one k = 0 ∧ two k = 0) (h0 : 0 < one c ∨ (one c = Z i c ∧ i < m + c) ) (h01 : m + c ≤ i → one c ≤ d) (h0B : (one c).natAbs ≤ B) (ht : two c = 0) (hl : rowsZ (fun a b => if a = c then one b else if a = i then two b else Z a b) (m + n) Z (m + n) n ∧ rowsZ Z (m + n) (fun a b => if a = c then one b else if a = i then two b else Z a b) (m + n) n) : T1I Z0 (trow Z d c i one two n) d B m n c (i + 1) := by
  obtain ⟨h1, h2, h3, h4, h5, h6⟩ := h
  have hzc : ∀ j, j < c → Z c j = 0 := fun j hj => (h2 j hj).2 c hj (by omega)
  have hzi : ∀ j, j < c → Z i j = 0 := fun j hj => (h2 j hj).2 i (by omega) him
  have hne : ∀ k, c < k → k < n → i ≠ m + k := fun k a1 a2 e => by
    have := h5 k (by omega) a2 (fun e' => by omega) c hcn
    rw [if_neg (by omega), ← e] at this
    exact hx this
  -- what the cells are
  have tC : ∀ b, b < n → trow Z d c i one two n c b = if b < c then 0 else rdm d c b (one b) := fun b hb => by
    unfold trow
    by_cases e : c ≤ b ∧ b < n
    · rw [if_pos e, if_pos rfl, if_neg (by omega)]
    · rw [if_neg e, if_pos (by omega), hzc b (by omega)]
  have tI : ∀ b, b < n → trow Z d c i one two n i b = if b < c then 0 else rdm d c b (two b) := fun b hb => by
    unfold trow
    by_cases e : c ≤ b ∧ b < n
    · rw [if_pos e, if_neg (by omega), if_pos rfl, if_neg (by omega)]
    · rw [if_neg e, if_pos (by omega), hzi b (by omega)]
  have tO : ∀ a b, a ≠ c → a ≠ i → trow Z d c i one two n a b = Z a b := fun a b a1 a2 => by
    unfold trow
    rw [if_neg a1, if_neg a2]
    split <;> rfl
  have tL : ∀ a b, b < c → trow Z d c i one two n a b = Z a b := fun a b hb => by
    unfold trow
    rw [if_neg (by omega)]
  have hmod : ∀ x : Int, 0 ≤ x % d ∧ x % d < d := fun x => ⟨Int.emod_nonneg _ (by omega), Int.emod_lt_of_pos _ hd⟩
  have hCk : ∀ k, c < k → k < n → 0 ≤ trow Z d c i one two n c k ∧ trow Z d c i one two n c k < d := fun k a1 a2 => by
    rw [tC k a2, if_neg (by omega)]
    unfold rdm
    rw [if_neg (by omega)]
    exact hmod _
  have hCc : trow Z d c i one two n c c = one c := by
    rw [tC c hcn, if_neg (by omega)]
    exact if_pos rfl
  have hIc : trow Z d c i one two n i c = 0 := by
    rw [tI c hcn, if_neg (by omega)]
    unfold rdm
    rw [if_pos rfl, ht]
  -- the lattice
  have hrow : ∀ k, c < k → k < n → ∀ X : imat, (∀ j, j < n → X (m + k) j = Z (m + k) j) → inZ (fun j => if j = k then d else 0) X (m + n) n := fun k a1 a2 X hX => inZ_congr (inZ_row (show m + k < m + n by omega)) (fun j hj => by rw [hX j hj, h5 k (by omega) a2 (fun e => by omega) j hj])
  have hdv : ∀ a, a < m + n → ∀ j, c + 1 ≤ j → j < n → d ∣ trow Z d c i one two n a j - (if a = c then one j else if a = i then two j else Z a j) := fun a ha j a1 a2 => by
    by_cases e1 : a = c
    · rw [e1, tC j a2, if_neg (by omega), if_pos rfl]
      unfold rdm
      rw [if_neg (by omega), Int.emod_def]
      exact ⟨-(one j / d), by grind⟩
    · by_cases e2 : a = i
      · rw [e2, tI j a2, if_neg (by omega), if_neg (by omega), if_pos rfl]
        unfold rdm
        rw [if_neg (by omega), Int.emod_def]
        exact ⟨-(two j / d), by grind⟩
      · rw [tO a j e1 e2, if_neg e1, if_neg e2, Int.sub_self]
        exact Int.dvd_zero d
  have heq : ∀ a, a < m + n → ∀ j, j < c + 1 → trow Z d c i one two n a j = (if a = c then one j else if a = i then two j else Z a j) := fun a ha j a1 => by
    by_cases e1 : a = c
    · rw [e1, if_pos rfl]
      by_cases e3 : j = c
      · rw [e3, hCc]
      · rw [tC j (by omega), if_pos (by omega), (ho j (by omega)).1]
    · by_cases e2 : a = i
      · rw [e2, if_neg (by omega), if_pos rfl]
        by_cases e3 : j = c
        · rw [e3, hIc, ht]
        · rw [tI j (by omega), if_pos (by omega), (ho j (by omega)).2]
      · rw [tO a j e1 e2, if_neg e1, if_neg e2]
  have l1 : rowsZ (trow Z d c i one two n) (m + n) (fun a b => if a = c then one b else if a = i then two b else Z a b) (m + n) n := rowsZ_mod (lo := c + 1) (fun k a1 a2 => hrow k (by omega) a2 _ (fun j _ => by rw [if_neg (by omega), if_neg (fun e => hne k (by omega) a2 e.symm)])) heq hdv
  have l2 : rowsZ (fun a b => if a = c then one b else if a = i then two b else Z a b) (m + n) (trow Z d c i one two n) (m + n) n := rowsZ_mod (lo := c + 1) (fun k a1 a2 => hrow k (by omega) a2 _ (fun j _ => tO _ _ (by omega) (fun e => hne k (by omega) a2 e.symm))) (fun a ha j hj => (heq a ha j hj).symm) (fun a ha j a1 a2 => by
    obtain ⟨y, hy⟩ := hdv a ha j a1 a2
    exact ⟨-y, by rw [Int.mul_neg, ← hy]; omega⟩)
  refine ⟨⟨rowsZ_trans (rowsZ_trans l1 hl.1) h1.1, rowsZ_trans h1.2 (rowsZ_trans hl.2 l2)⟩, fun c' hc' => ?_, fun i' a1 a2 => ?_, fun a => ?_, fun k a1 a2 a3 j hj => ?_, fun a b ha hb => ?_⟩
  · obtain ⟨⟨g1, g2, g3⟩, g4⟩ := h2 c' hc'
    refine ⟨⟨by rw [tL _ _ hc']; exact g1, by rw [tL _ _ hc']; exact g2, fun k a1 a2 => by rw [tO c' k (by omega) (by omega)]; exact g3 k a1 a2⟩, fun i' a1 a2 => by rw [tL _ _ hc']; exact g4 i' a1 a2⟩
  · by_cases e : i' = i
    · rw [e]; exact hIc
    · rw [tO i' c (by omega) e]; exact h3 i' a1 (by omega)
  · rw [hCc]
    refine ⟨?_, h01 (by omega), hCk⟩
    rcases h0 with g | g
    · exact g
    · omega
  · have : m + k ≠ i := by
      by_cases e : k = c
      · have := a3 e; omega
      · exact fun e' => hne k (by omega) a2 e'.symm
    rw [tO _ _ (by omega) this]
    exact h5 k a1 a2 (fun e => by have := a3 e; omega) j hj
  · by_cases e1 : a = c
    · by_cases e2 : b = c
      · rw [e1, e2, hCc]; exact h0B
      · by_cases e3 : b < c
        · rw [tL _ _ e3]; exact h6 a b ha hb
        · have := hCk b (by omega) hb
          rw [e1]; omega
    · by_cases e2 : a = i
      · by_cases e3 : b < c
        · rw [tL _ _ e3]; exact h6 a b ha hb
        · by_cases e4 : b = c
          · rw [e2, e4, hIc]; omega
          · rw [e2, tI b hb, if_neg (by omega)]
            unfold rdm
            rw [if_neg e4]
            have := hmod (two b)
            omega
      · rw [tO a b e1 e2]; exact h6 a b ha hb
/-- a step over a pivot -/
theorem T1I.pivot (h : T1I Z0 Z d B m n c i) (hcn : c < n) (hci : c < i) (him : i < m + n) (hnm : n ≤ m) (hd : 0 < d) (hdB : d.natAbs ≤ B) (hx : Z i c ≠ 0) {g u v pg xg : Int} (hg : 0 < g) (hgp : pg * g = Z c c) (hgx : xg * g = Z i c) (hgl : g = u * Z c c + v * Z i c) : T1I Z0 (trow Z d c i (fun k => u * Z c k + v * Z i k) (fun k => pg * Z i k - xg * Z c k) n) d B m n c (i + 1) := by
  have hzc : ∀ j, j < c → Z c j = 0 := fun j hj => (h.2.1 j hj).2 c hj (by omega)
  have hzi : ∀ j, j < c → Z i j = 0 := fun j hj => (h.2.1 j hj).2 i (by omega) him
  have hgx' : g.natAbs ≤ (Z i c).natAbs := Nat.le_of_dvd (by omega) (Int.natAbs_dvd_natAbs.mpr ⟨xg, by rw [← hgx, Int.mul_comm]⟩)
  have hB := h.2.2.2.2.2 i c him hcn
  refine h.row hcn hci him hnm hd hdB hx (fun k hk => by (try dsimp only); rw [hzc k hk, hzi k hk]; omega) (Or.inl (by (try dsimp only); rw [← hgl]; exact hg)) (fun hm => ?_) (by (try dsimp only); rw [← hgl]; omega) (by (try dsimp only); rw [← hgp, ← hgx]; grind) ?_
  · try dsimp only
    rw [← hgl]
    rcases Nat.eq_or_lt_of_le hm with e | e
    · have := h.2.2.2.2.1 c (Nat.le_refl _) hcn (fun _ => by omega) c hcn
      rw [if_pos rfl, e] at this
      omega
    · obtain ⟨a1, a2, -⟩ := h.2.2.2.1 e
      have a3 : g.natAbs ≤ (Z c c).natAbs := Nat.le_of_dvd (by omega) (Int.natAbs_dvd_natAbs.mpr ⟨pg, by rw [← hgp, Int.mul_comm]⟩)
      omega
  · have hu : u * pg - v * (-xg) = 1 := by
      have : (u * pg - v * (-xg)) * g = 1 * g := by
        rw [Int.one_mul]
        conv => rhs; rw [hgl, ← hgp, ← hgx]
        grind
      exact Int.eq_of_mul_eq_mul_right (by omega) this
    exact rowsZ_pair (x := c) (y := i) (a := u) (b := v) (c := -xg) (e := pg) (by omega) him (by omega) (fun a _ a1 a2 j _ => by (try dsimp only); rw [if_neg a1, if_neg a2]) (fun j _ => by (try dsimp only); rw [if_pos rfl]) (fun j _ => by (try dsimp only); rw [if_neg (by omega), if_pos rfl]; grind) hu
/-- a step where the pivot's place is empty -/
theorem T1I.swap (h : T1I Z0 Z d B m n c i) (hcn : c < n) (hci : c < i) (him : i < m + n) (hnm : n ≤ m) (hd : 0 < d) (hdB : d.natAbs ≤ B) (hx : Z i c ≠ 0) (hp : Z c c = 0) : T1I Z0 (trow Z d c i (fun k => 0 * Z c k + 1 * Z i k) (fun k => Z c k) n) d B m n c (i + 1) := by
  have hzc : ∀ j, j < c → Z c j = 0 := fun j hj => (h.2.1 j hj).2 c hj (by omega)
  have hzi : ∀ j, j < c → Z i j = 0 := fun j hj => (h.2.1 j hj).2 i (by omega) him
  have hB := h.2.2.2.2.2 i c him hcn
  have hmi : i ≤ m + c := by
    rcases Nat.lt_or_ge (m + c) i with e | e
    · have := (h.2.2.2.1 e).1; omega
    · exact e
  have hmc : i = m + c → Z i c = d := fun e => by
    have := h.2.2.2.2.1 c (Nat.le_refl _) hcn (fun _ => by omega) c hcn
    rw [if_pos rfl, ← e] at this
    exact this
  refine h.row hcn hci him hnm hd hdB hx (fun k hk => by (try dsimp only); rw [hzc k hk, hzi k hk]; omega) ?_ (fun hm => by (try dsimp only); have := hmc (by omega); omega) (by (try dsimp only); omega) hp ⟨rowsZ_rows (fun a ha => ?_), rowsZ_rows (fun a ha => ?_)⟩
  · try dsimp only
    by_cases e : i = m + c
    · have := hmc e; exact Or.inl (by omega)
    · exact Or.inr ⟨by omega, by omega⟩
  · by_cases e1 : a = c
    · exact ⟨i, him, fun j _ => by (try dsimp only); rw [if_pos e1]; omega⟩
    · by_cases e2 : a = i
      · exact ⟨c, by omega, fun j _ => by (try dsimp only); rw [if_neg e1, if_pos e2]⟩
      · exact ⟨a, ha, fun j _ => by (try dsimp only); rw [if_neg e1, if_neg e2]⟩
  · by_cases e1 : a = c
    · exact ⟨i, him, fun j _ => by (try dsimp only); rw [if_neg (by omega), if_pos rfl, e1]⟩
    · by_cases e2 : a = i
      · exact ⟨c, by omega, fun j _ => by (try dsimp only); rw [if_pos rfl, e2]; omega⟩
      · exact ⟨a, ha, fun j _ => by (try dsimp only); rw [if_neg e1, if_neg e2]⟩
end T1
/-! ===== the second half of triangle ===== -/
/-- columns before c are reduced, column c as far as row i -/
def T2I (Zs Z : imat) (d : Int) (n c i : Nat) : Prop :=
  (rowsZ Z n Zs n n ∧ rowsZ Zs n Z n n) ∧ (∀ a, a < n → 0 < Z a a ∧ Z a a ≤ d) ∧ (∀ a b, b < a → a < n → Z a b = 0) ∧ (∀ b, b < c → b < n → ∀ a, a < b → 0 ≤ Z a b ∧ Z a b < Z b b) ∧ (∀ a, a < i → a < c → 0 ≤ Z a c ∧ Z a c < Z c c) ∧ (∀ a k, c ≤ a → a < k → k < n → 0 ≤ Z a k ∧ Z a k < d) ∧ ∀ a k, a < c → k < n → (Z a k).natAbs < (d.natAbs + 1) ^ (if a < i then c + 1 - a else c - a)
theorem inZ_cut {Z : imat} {v : Nat → Int} {s r n : Nat} (h : inZ v Z s n) (hr : r ≤ s) (h0 : ∀ i, r ≤ i → i < s → ∀ j, j < n → Z i j = 0) : inZ v Z r n := by
  obtain ⟨c, hc⟩ := h
  refine ⟨c, fun j hj => ?_⟩
  rw [hc j hj]
  have main : ∀ s, r ≤ s → (∀ i, r ≤ i → i < s → Z i j = 0) → isum (fun k => c k * Z k j) s = isum (fun k => c k * Z k j) r := by
    intro s
    induction s with
    | zero => intro h1 _; rw [show r = 0 by omega]
    | succ s ih =>
      intro h1 h2
      by_cases e : r = s + 1
      · rw [e]
      · show isum (fun k => c k * Z k j) s + c s * Z s j = _
        rw [ih (by omega) (fun i a b => h2 i a (by omega)), h2 s (by omega) (by omega), Int.mul_zero, Int.add_zero]
  exact main s hr (fun i a b => h0 i a b j hj)
section T2
variable {Z0 Zs Z : imat} {d : Int} {B m n c i : Nat}
/-- behind the first half only the first n rows are left -/
theorem T1I.done (h : T1I Z0 Z d B m n n i) : rowsZ Z n Z0 (m + n) n ∧ rowsZ Z0 (m + n) Z n n := by
  obtain ⟨h1, h2, -⟩ := h
  exact ⟨fun a ha => h1.1 a (by omega), fun a ha => inZ_cut (h1.2 a ha) (by omega) (fun k k1 k2 j hj => (h2 j hj).2 k (by omega) k2)⟩
theorem T2I_start (h : T1I Z0 Z d B m n n i) (hd : 0 < d) : T2I Z Z d n 1 0 := by
  obtain ⟨-, h2, -⟩ := h
  refine ⟨⟨rowsZ_refl, rowsZ_refl⟩, fun a ha => ⟨(h2 a ha).1.1, (h2 a ha).1.2.1⟩, fun a b hb ha => (h2 b (by omega)).2 a hb (by omega), fun b hb _ a ha => by omega, fun a ha _ => by omega, fun a k _ hak hk => (h2 a (by omega)).1.2.2 k hak hk, fun a k ha hk => ?_⟩
  have e : a = 0 := by omega
  subst e
  rw [if_neg (by omega), Nat.sub_zero, Nat.pow_one]
  by_cases c1 : k = 0
  · have := (h2 0 (by omega)).1
    rw [c1]; omega
  · have := (h2 0 (by omega)).1.2.2 k (by omega) hk
    omega
theorem T2I.next (h : T2I Zs Z d n c c) (hc : c < n) : T2I Zs Z d n (c + 1) 0 := by
  obtain ⟨h1, h2, h3, h4, h5, h6, h7⟩ := h
  refine ⟨h1, h2, h3, fun b hb hbn a ha => ?_, fun a ha => by omega, fun a k a1 a2 a3 => h6 a k (by omega) a2 a3, fun a k ha hk => ?_⟩
  · by_cases e : b = c
    · rw [e] at ha ⊢; exact h5 a ha ha
    · exact h4 b (by omega) hbn a ha
  · rw [if_neg (by omega)]
    by_cases e : a = c
    · rw [e, show c + 1 - c = 1 by omega, Nat.pow_one]
      have := h2 c hc
      by_cases e1 : k = c
      · rw [e1]; omega
      · by_cases e2 : k < c
        · rw [h3 c k e2 hc]; omega
        · have := h6 c k (Nat.le_refl _) (by omega) hk
          omega
    · have := h7 a k (by omega) hk
      rw [if_pos (by omega)] at this
      exact this
theorem T2I.row (h : T2I Zs Z d n c i) (hc : c < n) (hi : i < c) {q : Int} (hq : q = Z i c / Z c c) {Z' : imat} (hZ : ∀ a b, b < n → Z' a b = if a = i ∧ c ≤ b then Z i b - q * Z c b else Z a b) : T2I Zs Z' d n c (i + 1) := by
  obtain ⟨h1, h2, h3, h4, h5, h6, h7⟩ := h
  have hO : ∀ a b, a ≠ i → b < n → Z' a b = Z a b := fun a b ha hb => by rw [hZ a b hb, if_neg (fun e => ha e.1)]
  have hI : ∀ b, b < n → Z' i b = Z i b - q * Z c b := fun b hb => by
    rw [hZ i b hb]
    by_cases e : c ≤ b
    · rw [if_pos ⟨rfl, e⟩]
    · rw [if_neg (fun e1 => e e1.2), h3 c b (by omega) hc]; omega
  have hL : ∀ b, b < c → Z' i b = Z i b := fun b hb => by rw [hI b (by omega), h3 c b hb hc]; omega
  have hp := (h2 c hc).1
  have hmod : Z' i c = Z i c % Z c c := by rw [hI c hc, hq, Int.emod_def, Int.mul_comm]
  have hlat := rowsZ_pair (A := Z) (A' := Z') (s := n) (n := n) (x := i) (y := c) (a := 1) (b := -q) (c := 0) (e := 1) (by omega) hc (by omega) (fun a _ a1 _ j hj => hO a j a1 hj) (fun j hj => by rw [hI j hj]; grind) (fun j hj => by rw [hO c j (by omega) hj]; grind) (by omega)
  have hqa : q.natAbs ≤ (Z i c).natAbs := by
    have e1 := Int.mul_ediv_add_emod (Z i c) (Z c c)
    have e2 := Int.emod_nonneg (Z i c) (show Z c c ≠ 0 by omega)
    rw [hq]
    rcases (show 0 ≤ Z i c ∨ Z i c < 0 by omega) with g | g
    · have a1 : 0 ≤ Z i c / Z c c := Int.ediv_nonneg g (by omega)
      have a2 : Z i c / Z c c ≤ Z i c := Int.ediv_le_self _ g
      omega
    · have a1 : Z i c / Z c c < 0 := Int.ediv_neg_of_neg_of_pos g hp
      have a2 : Z i c ≤ Z i c / Z c c := by
        have e3 := Int.emod_lt_of_pos (Z i c) hp
        have h6 : (Z c c - 1) * (Z i c / Z c c + 1) ≤ 0 := Int.mul_nonpos_of_nonneg_of_nonpos (by omega) (by omega)
        have h7 : (Z c c - 1) * (Z i c / Z c c + 1) = Z c c * (Z i c / Z c c) + Z c c - (Z i c / Z c c) - 1 := by grind
        omega
      omega
  refine ⟨⟨rowsZ_trans hlat.1 h1.1, rowsZ_trans h1.2 hlat.2⟩, fun a ha => ?_, fun a b hb ha => ?_, fun b hb hbn a ha => ?_, fun a ha hac => ?_, fun a k a1 a2 a3 => ?_, fun a k ha hk => ?_⟩
  · by_cases e : a = i
    · rw [e, hL i hi]; exact h2 i (by omega)
    · rw [hO a a e ha]; exact h2 a ha
  · by_cases e : a = i
    · rw [e, hL b (by omega), h3 i b (by omega) (by omega)]
    · rw [hO a b e (by omega)]; exact h3 a b hb ha
  · have hbb : Z' b b = Z b b := by
      by_cases e : b = i
      · rw [e, hL i hi]
      · exact hO b b e hbn
    rw [hbb]
    by_cases e : a = i
    · rw [e, hL b hb]; rw [← e]; exact h4 b hb hbn a ha
    · rw [hO a b e hbn]; exact h4 b hb hbn a ha
  · rw [hO c c (by omega) hc]
    by_cases e : a = i
    · rw [e, hmod]
      exact ⟨Int.emod_nonneg _ (by omega), Int.emod_lt_of_pos _ hp⟩
    · rw [hO a c e hc]; exact h5 a (by omega) hac
  · rw [hO a k (by omega) a3]; exact h6 a k a1 a2 a3
  · by_cases e : a = i
    · rw [e, if_pos (by omega), hI k hk]
      have b1 := h7 i k hi hk
      have b2 := h7 i c hi hc
      rw [if_neg (by omega)] at b1 b2
      have b3 : (Z c k).natAbs ≤ d.natAbs := by
        have := h2 c hc
        by_cases e1 : k = c
        · rw [e1]; omega
        · by_cases e2 : k < c
          · rw [h3 c k e2 hc]; omega
          · have := h6 c k (Nat.le_refl _) (by omega) hk
            omega
      have b4 : (q * Z c k).natAbs ≤ ((d.natAbs + 1) ^ (c - i) - 1) * d.natAbs := by
        rw [Int.natAbs_mul]
        exact Nat.mul_le_mul (by omega) b3
      have b5 : 1 ≤ (d.natAbs + 1) ^ (c - i) := Nat.pow_pos (by omega)
      rw [show c + 1 - i = c - i + 1 by omega, Nat.pow_succ]
      have b6 : (Z i k - q * Z c k).natAbs ≤ (Z i k).natAbs + (q * Z c k).natAbs := by omega
      have b7 : ((d.natAbs + 1) ^ (c - i) - 1) * d.natAbs + ((d.natAbs + 1) ^ (c - i) - 1) < (d.natAbs + 1) ^ (c - i) * (d.natAbs + 1) := by
        generalize (d.natAbs + 1) ^ (c - i) = y at b5
        generalize d.natAbs = x
        obtain ⟨z, rfl⟩ : ∃ z, y = z + 1 := ⟨y - 1, by omega⟩
        rw [Nat.add_sub_cancel, Nat.add_mul, Nat.mul_add]
        omega
      omega
    · rw [hO a k e hk]
      have := h7 a k ha hk
      by_cases e1 : a < i
      · rw [if_pos e1] at this
        rw [if_pos (by omega)]; exact this
      · rw [if_neg e1] at this
        rw [if_neg (by omega)]; exact this
theorem T2I.done (h : T2I Zs Z d n n i) : hermF Z n n (fun i => i) := by
  obtain ⟨h1, h2, h3, h4, h5, h6, h7⟩ := h
  exact ⟨⟨fun i hi => hi, fun i k hik _ => hik, fun i hi j hj => h3 i j hj hi, fun i hi => (h2 i hi).1⟩, fun i k hik hk => h4 k hk hk i hik⟩
end T2
