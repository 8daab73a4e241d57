/-! ===== elimination without fractions: each cell is a determinant ===== -/
/-- rows that only took multiples of rows above them -/
theorem det_lower {k : Nat} {M N : qmat} {x : qmat} (h : ∀ i, i < k → ∀ j, j < k → N i j = M i j + qsum (fun l => x i l * M l j) i) : det k N = det k M := by
  have step : ∀ e t, k = t + e → det k (fun i j => if i < t then M i j else N i j) = det k M := by
    intro e
    induction e with
    | zero => intro t ht; exact det_congr (fun i hi j hj => by rw [if_pos (by omega)])
    | succ e ih =>
      intro t ht
      rw [← ih (t + 1) (by omega)]
      have e1 : det k (fun i j => if i < t then M i j else N i j) = det k (rput (fun i j => if i < t + 1 then M i j else N i j) t (fun j => 1 * M t j + 1 * qsum (fun l => x t l * M l j) t)) := by
        refine det_congr (fun i hi j hj => ?_)
        by_cases c : i = t
        · subst c
          rw [rput_at, if_neg (by omega), h i hi j hj]
          grind
        · rw [rput_ne _ _ _ c]
          by_cases c2 : i < t
          · rw [if_pos c2, if_pos (by omega)]
          · rw [if_neg c2, if_neg (by omega)]
      rw [e1, det_lin (by omega), det_linsum (by omega)]
      have e2 : rput (fun i j => if i < t + 1 then M i j else N i j) t (fun j => M t j) = fun i j => if i < t + 1 then M i j else N i j := by
        funext i j
        by_cases c : i = t
        · subst c
          rw [rput_at, if_pos (by omega)]
        · rw [rput_ne _ _ _ c]
      have e3 : qsum (fun i => x t i * det k (rput (fun i j => if i < t + 1 then M i j else N i j) t (M i))) t = 0 := qsum_zero (fun l hl => by
        have : det k (rput (fun i j => if i < t + 1 then M i j else N i j) t (M l)) = 0 := det_same (i := t) (k := l) (by omega) (by omega) (by omega) (fun j _ => by rw [rput_at, rput_ne _ _ _ (by omega), if_pos (by omega)])
        rw [this]
        grind)
      rw [e2, e3]
      grind
  have := step k 0 (by omega)
  rw [← this]
  exact det_congr (fun i hi j hj => by rw [if_neg (by omega)])
/-- whole, and at most b in size -/
def zle (b : Nat) (q : Rat) : Prop := ∃ z : Int, q = (z : Rat) ∧ z.natAbs ≤ b
theorem zle_add {a b : Nat} {p q : Rat} (hp : zle a p) (hq : zle b q) : zle (a + b) (p + q) := by
  obtain ⟨x, rfl, hx⟩ := hp
  obtain ⟨y, rfl, hy⟩ := hq
  exact ⟨x + y, by rw [Rat.intCast_add], by omega⟩
theorem zle_mul {a b : Nat} {p q : Rat} (hp : zle a p) (hq : zle b q) : zle (a * b) (p * q) := by
  obtain ⟨x, rfl, hx⟩ := hp
  obtain ⟨y, rfl, hy⟩ := hq
  exact ⟨x * y, by rw [Rat.intCast_mul], by rw [Int.natAbs_mul]; exact Nat.mul_le_mul hx hy⟩
theorem zle_sum {b : Nat} {f : Nat → Rat} : ∀ {n : Nat}, (∀ i, i < n → zle b (f i)) → zle (n * b) (qsum f n)
  | 0, _ => ⟨0, rfl, by omega⟩
  | n + 1, h => by
    have := zle_add (zle_sum (n := n) (fun i hi => h i (by omega))) (h n (Nat.lt_succ_self n))
    rw [show (n + 1) * b = n * b + b by rw [Nat.succ_mul]]
    exact this
theorem zle_sgq (i : Nat) : zle 1 (sgq i) := by
  unfold sgq
  split
  · exact ⟨1, rfl, by decide⟩
  · exact ⟨-1, by decide, by decide⟩
theorem zle_mono {a b : Nat} {q : Rat} (h : zle a q) (hab : a ≤ b) : zle b q := by
  obtain ⟨z, e, hz⟩ := h
  exact ⟨z, e, by omega⟩
theorem zle_det {K b : Nat} : ∀ {n : Nat} {M : qmat}, n ≤ K → (∀ i, i < n → ∀ j, j < n → zle b (M i j)) → zle ((K * b) ^ n) (det n M)
  | 0, _, _, _ => ⟨1, rfl, by rw [Nat.pow_zero]; decide⟩
  | n + 1, M, hK, h => by
    have := zle_sum (n := n + 1) (fun i hi => zle_mul (zle_mul (zle_sgq i) (h i hi 0 (by omega))) (zle_det (K := K) (b := b) (M := fun r c => M (skp i r) (c + 1)) (by omega) (fun r hr c hc => h _ (skp_lt hr) _ (by omega))))
    refine zle_mono this ?_
    rw [Nat.pow_succ, Nat.one_mul, ← Nat.mul_assoc, Nat.mul_comm ((K * b) ^ n)]
    exact Nat.mul_le_mul_right _ (Nat.mul_le_mul_right _ hK)
/-- one step: rows r and p change places, the rows below r lose their cell in column c -/
def fw (B : qmat) (r p c : Nat) : qmat := fun i k => if i ≤ r then rswap B r p i k else rswap B r p i k - rswap B r p i c / B p c * B p k
/-- B came of A by swaps of rows and multiples of the pivots' rows; the pivots stand in the columns g -/
def fwinv (A B : qmat) (m r : Nat) (g : Nat → Nat) : Prop :=
  r ≤ m ∧ (∃ x : qmat, ∀ i, i < m → ∀ j, B i j = A i j + qsum (fun l => x i l * A l j) (min i r)) ∧ (∀ i, i < m → ∀ l, l < r → l < i → B i (g l) = 0) ∧ ∀ l, l < r → B l (g l) ≠ 0
theorem fwinv_start (A : qmat) (m : Nat) (g : Nat → Nat) : fwinv A A m 0 g := ⟨Nat.zero_le m, ⟨fun _ _ => 0, fun i _ j => by rw [Nat.min_eq_right (Nat.zero_le i)]; show _ = _ + 0; grind⟩, fun i _ l h => by omega, fun l h => by omega⟩
/-- the bordered minor -/
def bmin (A : qmat) (r : Nat) (g : Nat → Nat) (i k : Nat) : Rat := det (r + 1) (fun a b => A (if a < r then a else i) (if b < r then g b else k))
theorem fwinv_minor {A B : qmat} {m r : Nat} {g : Nat → Nat} (h : fwinv A B m r g) {i k : Nat} (hr : r ≤ i) (hi : i < m) : bmin A r g i k = qprod (fun l => B l (g l)) r * B i k := by
  obtain ⟨h1, ⟨x, hx⟩, h3, h4⟩ := h
  have e : det (r + 1) (fun a b => B (if a < r then a else i) (if b < r then g b else k)) = bmin A r g i k := by
    unfold bmin
    refine det_lower (x := fun a l => x (if a < r then a else i) l) (fun a ha b hb => ?_)
    by_cases c : a < r
    · rw [if_pos c, hx a (by omega), Nat.min_eq_left (by omega)]
      congr 1
      exact qsum_congr (fun l hl => by rw [if_pos (show l < r by omega)])
    · rw [if_neg c, hx i hi, Nat.min_eq_right (by omega), show a = r by omega]
      congr 1
      exact qsum_congr (fun l hl => by rw [if_pos hl])
  rw [← e, det_tri (fun a ha b hb => ?_)]
  · show qprod _ r * B (if r < r then r else i) (if r < r then g r else k) = _
    rw [if_neg (by omega), if_neg (by omega)]
    congr 1
    have : ∀ n, n ≤ r → qprod (fun i_1 => B (if i_1 < r then i_1 else i) (if i_1 < r then g i_1 else k)) n = qprod (fun l => B l (g l)) n := by
      intro n
      induction n with
      | zero => intro _; rfl
      | succ n ih =>
        intro hn
        show qprod _ n * B (if n < r then n else i) (if n < r then g n else k) = qprod _ n * B n (g n)
        rw [ih (by omega), if_pos (by omega), if_pos (by omega)]
    exact this r (Nat.le_refl r)
  · have hb' : b < r := by omega
    rw [if_pos hb']
    by_cases c : a < r
    · rw [if_pos c]; exact h3 a (by omega) b hb' hb
    · rw [if_neg c]; exact h3 i hi b hb' (by omega)
theorem rswap_lt {A : qmat} {r p l : Nat} (h1 : l < r) (h2 : r ≤ p) : rswap A r p l = A l := by
  unfold rswap
  rw [if_neg (by omega), if_neg (by omega)]
theorem fwinv_step {A B : qmat} {m r p c : Nat} {g : Nat → Nat} (h : fwinv A B m r g) (hp : r ≤ p) (hpm : p < m) (h0 : B p c ≠ 0) (hz : ∀ i, r ≤ i → i < m → ∀ l, l < r → B i (g l) = 0) : fwinv (rswap A r p) (fw B r p c) m (r + 1) (fun l => if l = r then c else g l) := by
  obtain ⟨h1, ⟨x, hx⟩, h3, h4⟩ := h
  have sB : ∀ i, i < m → ∀ j, rswap B r p i j = rswap A r p i j + qsum (fun l => x (if i = r then p else if i = p then r else i) l * rswap A r p l j) (min i r) := by
    intro i hi j
    show B (if i = r then p else if i = p then r else i) j = A (if i = r then p else if i = p then r else i) j + _
    generalize hq : (if i = r then p else if i = p then r else i) = q
    have hqm : q < m := by rw [← hq]; split <;> (try split) <;> omega
    have hmin : min q r = min i r := by rw [← hq]; split <;> (try split) <;> omega
    rw [hx q hqm j, hmin]
    congr 1
    exact qsum_congr (fun l hl => by rw [rswap_lt (by omega) hp])
  have sr : rswap B r p r = B p := by unfold rswap; rw [if_pos rfl]
  have ⟨X, X1, X2, X3⟩ : ∃ X : qmat, (∀ i l, i ≤ r → X i l = x (if i = r then p else if i = p then r else i) l) ∧ (∀ i l, r < i → l ≠ r → X i l = x (if i = r then p else if i = p then r else i) l - rswap B r p i c / B p c * x p l) ∧ ∀ i, r < i → X i r = -(rswap B r p i c / B p c) :=
    ⟨fun i l => if i ≤ r then x (if i = r then p else if i = p then r else i) l else if l = r then -(rswap B r p i c / B p c) else x (if i = r then p else if i = p then r else i) l - rswap B r p i c / B p c * x p l, fun i l h => if_pos h, fun i l h1 h2 => by dsimp only; rw [if_neg (show ¬ i ≤ r by omega), if_neg h2], fun i h => by dsimp only; rw [if_neg (show ¬ i ≤ r by omega), if_pos rfl]⟩
  refine ⟨by omega, ⟨X, fun i hi j => ?_⟩, fun i hi l hl hli => ?_, fun l hl => ?_⟩
  · by_cases ci : i ≤ r
    · show (if i ≤ r then rswap B r p i j else _) = _
      rw [if_pos ci, sB i hi j, show min i (r + 1) = min i r by omega]
      congr 1
      exact qsum_congr (fun l hl => by rw [X1 i l ci])
    · show (if i ≤ r then _ else rswap B r p i j - rswap B r p i c / B p c * B p j) = _
      rw [if_neg ci, sB i hi j, show min i (r + 1) = r + 1 by omega, show min i r = r by omega]
      have hp2 := sB r (by omega) j
      rw [sr, if_pos rfl, Nat.min_self] at hp2
      rw [hp2]
      show _ = _ + (qsum (fun l => X i l * rswap A r p l j) r + X i r * rswap A r p r j)
      have e1 : qsum (fun l => X i l * rswap A r p l j) r = qsum (fun l => x (if i = r then p else if i = p then r else i) l * rswap A r p l j) r + -(rswap B r p i c / B p c) * qsum (fun l => x p l * rswap A r p l j) r := by
        rw [qsum_mul, ← qsum_add]
        refine qsum_congr (fun l hl => ?_)
        rw [X2 i l (by omega) (by omega)]
        generalize (if i = r then p else if i = p then r else i) = q
        grind
      rw [e1, X3 i (by omega)]
      generalize qsum (fun l => x (if i = r then p else if i = p then r else i) l * rswap A r p l j) r = u
      generalize qsum (fun l => x p l * rswap A r p l j) r = v
      grind
  · show fw B r p c i (if l = r then c else g l) = 0
    unfold fw
    by_cases cl : l = r
    · rw [if_pos cl, if_neg (by omega)]
      grind
    · rw [if_neg cl]
      by_cases ci : i ≤ r
      · rw [if_pos ci]
        by_cases c2 : i = r
        · rw [c2, sr]; exact hz p hp hpm l (by omega)
        · rw [rswap_lt (by omega) hp]; exact h3 i hi l (by omega) hli
      · rw [if_neg ci, hz p hp hpm l (by omega)]
        have : rswap B r p i (g l) = 0 := by
          show B (if i = r then p else if i = p then r else i) (g l) = 0
          exact hz _ (by split <;> (try split) <;> omega) (by split <;> (try split) <;> omega) l (by omega)
        rw [this]
        grind
  · show fw B r p c l (if l = r then c else g l) ≠ 0
    unfold fw
    rw [if_pos (by omega)]
    by_cases cl : l = r
    · rw [if_pos cl, cl, sr]; exact h0
    · rw [if_neg cl, rswap_lt (by omega) hp]; exact h4 l (by omega)
/-- the rule by which the cells are reckoned: with the last pivot as divisor it goes through -/
theorem bareiss_rule {B : qmat} {r p c i k : Nat} {P : Rat} (hP : P ≠ 0) (h0 : B p c ≠ 0) (hi : r < i) : P * B p c * fw B r p c i k = ((P * B p c) * (P * rswap B r p i k) - (P * rswap B r p i c) * (P * B p k)) / P := by
  unfold fw
  rw [if_neg (by omega)]
  grind
