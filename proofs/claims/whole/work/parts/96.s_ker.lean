/-! ===== the kernel by the columns backwards: an echelon form as it stands ===== -/
theorem parts2_ex {p : Nat → Nat} : ∀ {n r : Nat}, (∀ i, i < r → p i < n) → (∀ i k, i < k → k < r → p i < p k) → ∃ q f, parts2 n r f p q ∧ f + r = n
  | 0, r, h1, h2 => by
    have : r = 0 := by
      rcases Nat.eq_zero_or_pos r with e | e
      · exact e
      · have := h1 0 e; omega
    subst this
    exact ⟨fun _ => 0, 0, ⟨fun i h => by omega, fun i k _ h => by omega, fun i h => by omega, fun i k _ h => by omega, fun j h => by omega, fun i k h => by omega⟩, rfl⟩
  | n + 1, r, h1, h2 => by
    by_cases e : ∃ k, k < r ∧ p k = n
    · obtain ⟨k, hk, ek⟩ := e
      have kr : k + 1 = r := by
        rcases Nat.lt_or_ge (k + 1) r with g | g
        · have := h2 k (k + 1) (by omega) g
          have := h1 (k + 1) g
          omega
        · omega
      obtain ⟨q, f, ⟨a1, a2, a3, a4, a5, a6⟩, hf⟩ := parts2_ex (n := n) (r := k) (fun i hi => by have := h2 i k hi (by omega); omega) (fun i l a b => h2 i l a (by omega))
      refine ⟨q, f, ⟨h1, h2, fun i hi => by have := a3 i hi; omega, a4, fun j hj => ?_, fun i l hi hl e => ?_⟩, by omega⟩
      · by_cases c : j = n
        · exact Or.inl ⟨k, hk, by omega⟩
        · rcases a5 j (by omega) with ⟨l, hl, el⟩ | g
          · exact Or.inl ⟨l, by omega, el⟩
          · exact Or.inr g
      · by_cases c : i = k
        · have := a3 l hl
          rw [c] at e
          omega
        · exact a6 i l (by omega) hl e
    · obtain ⟨q, f, ⟨a1, a2, a3, a4, a5, a6⟩, hf⟩ := parts2_ex (n := n) (r := r) (fun i hi => by have := h1 i hi; have : p i ≠ n := fun e' => e ⟨i, hi, e'⟩; omega) h2
      refine ⟨fun i => if i = f then n else q i, f + 1, ⟨h1, h2, fun i hi => ?_, fun i l a b => ?_, fun j hj => ?_, fun i l hi hl e' => ?_⟩, by omega⟩
      · dsimp only
        split
        · omega
        · have := a3 i (by omega); omega
      · dsimp only
        rw [if_neg (by omega)]
        split
        · exact a3 i (by omega)
        · exact a4 i l a (by omega)
      · by_cases c : j = n
        · exact Or.inr ⟨f, by omega, by dsimp only; rw [if_pos rfl, c]⟩
        · rcases a5 j (by omega) with g | ⟨l, hl, el⟩
          · exact Or.inl g
          · exact Or.inr ⟨l, by omega, by dsimp only; rw [if_neg (by omega)]; exact el⟩
      · dsimp only at e'
        by_cases c : l = f
        · rw [if_pos c] at e'
          exact e ⟨i, hi, e'⟩
        · rw [if_neg c] at e'
          exact a6 i l hi (by omega) e'
theorem qsum_rev (f : Nat → Rat) : ∀ n, qsum f n = qsum (fun x => f (n - 1 - x)) n
  | 0 => rfl
  | n + 1 => by
    rw [qsum_head (fun x => f (n + 1 - 1 - x)) n]
    show qsum f n + f n = _
    rw [qsum_rev f n, show n + 1 - 1 - 0 = n by omega]
    have e : qsum (fun i => f (n + 1 - 1 - (i + 1))) n = qsum (fun x => f (n - 1 - x)) n := qsum_congr (fun x _ => by rw [show n + 1 - 1 - (x + 1) = n - 1 - x by omega])
    rw [e]
    grind
/-- the kernel's rows and columns turned back -/
def kerR (E : qmat) (r : Nat) (p q : Nat → Nat) (f n : Nat) : qmat := fun a y => kerF E r p q (f - 1 - a) (n - 1 - y)
theorem kerR_kerE {A Ar E : qmat} {m n r f : Nat} {p q : Nat → Nat} (hr : ∀ i, i < m → ∀ x, x < n → Ar i x = A i (n - 1 - x)) (hE : rref E n r p) (h1 : rowsIn Ar m E r n) (h2 : rowsIn E r Ar m n) (hp : parts2 n r f p q) : kerE A (kerR E r p q f n) m n f (fun a => n - 1 - q (f - 1 - a)) := by
  obtain ⟨a1, a2, a3, a4, a5, a6⟩ := id hp
  have hK := kerF_ker (E := E) hp
  have ker : ∀ w : Nat → Rat, inKer A m n w ↔ inKer Ar m n (fun x => w (n - 1 - x)) := fun w => by
    have e : ∀ i, i < m → qsum (fun j => A i j * w j) n = qsum (fun x => Ar i x * w (n - 1 - x)) n := fun i hi => by
      rw [qsum_rev]
      exact qsum_congr (fun x hx => by rw [hr i hi x hx])
    constructor
    · intro h i hi
      rw [← e i hi]; exact h i hi
    · intro h i hi
      rw [e i hi]; exact h i hi
  refine ⟨⟨fun i hi => ?_, fun i k hik hk => ?_, fun i hi j hj => ?_, fun i hi => ?_, fun i k hi hk hne => ?_⟩, fun i hi => ?_, fun w hw => ?_⟩
  · show n - 1 - q (f - 1 - i) < n
    have := a3 (f - 1 - i) (by omega)
    omega
  · show n - 1 - q (f - 1 - i) < n - 1 - q (f - 1 - k)
    have := a4 (f - 1 - k) (f - 1 - i) (by omega) (by omega)
    have := a3 (f - 1 - i) (by omega)
    omega
  · have hj' : j < n - 1 - q (f - 1 - i) := hj
    show kerF E r p q (f - 1 - i) (n - 1 - j) = 0
    have hq := a3 (f - 1 - i) (by omega)
    rcases a5 (n - 1 - j) (by omega) with ⟨k, hk, ek⟩ | ⟨k, hk, ek⟩
    · rw [← ek, hK.2 _ (by omega) k hk, hE.2.2.1 k hk _ (by omega)]
      grind
    · rw [← ek, hK.1 _ (by omega) k hk, if_neg (fun e => by rw [e] at ek; omega)]
  · show kerF E r p q (f - 1 - i) (n - 1 - (n - 1 - q (f - 1 - i))) = 1
    have hq := a3 (f - 1 - i) (by omega)
    rw [show n - 1 - (n - 1 - q (f - 1 - i)) = q (f - 1 - i) by omega, hK.1 _ (by omega) _ (by omega), if_pos rfl]
  · show kerF E r p q (f - 1 - i) (n - 1 - (n - 1 - q (f - 1 - k))) = 0
    have hq := a3 (f - 1 - k) (by omega)
    rw [show n - 1 - (n - 1 - q (f - 1 - k)) = q (f - 1 - k) by omega, hK.1 _ (by omega) _ (by omega), if_neg (by omega)]
  · rw [ker]
    have hi2 := inKer_rows h1 (ker_in hE hp hK (i := f - 1 - i) (by omega))
    intro x hx
    have := hi2 x hx
    rw [← this]
    exact qsum_congr (fun j hj => by
      show _ * kerF E r p q (f - 1 - i) (n - 1 - (n - 1 - j)) = _
      rw [show n - 1 - (n - 1 - j) = j by omega])
  · obtain ⟨c, hc⟩ := ker_span hE hp hK (inKer_rows h2 ((ker w).1 hw))
    refine ⟨fun a => c (f - 1 - a), fun j hj => ?_⟩
    have := hc (n - 1 - j) (by omega)
    rw [show n - 1 - (n - 1 - j) = j by omega, qsum_rev] at this
    exact this
theorem ker_none {A Ar E : qmat} {m n r : Nat} {p q : Nat → Nat} (hr : ∀ i, i < m → ∀ x, x < n → Ar i x = A i (n - 1 - x)) (hE : rref E n r p) (h1 : rowsIn Ar m E r n) (h2 : rowsIn E r Ar m n) (hp : parts2 n r 0 p q) : ∀ w, inKer A m n w → ∀ j, j < n → w j = 0 := fun w hw j hj => by
  obtain ⟨_, _, h⟩ := kerR_kerE hr hE h1 h2 hp
  obtain ⟨c, hc⟩ := h w hw
  rw [hc j hj]
  rfl
