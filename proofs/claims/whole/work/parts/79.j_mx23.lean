/-! ===== the determinant under elimination ===== -/
theorem qprod_congr {f g : Nat → Rat} : ∀ {n : Nat}, (∀ i, i < n → f i = g i) → qprod f n = qprod g n
  | 0, _ => rfl
  | n + 1, h => by
    show qprod f n * f n = qprod g n * g n
    rw [qprod_congr (fun i hi => h i (by omega)), h n (by omega)]
theorem GI.det_next {W A' : qmat} {w : Nat → Rat} {m n rk : Nat} {x g : Nat → Nat} (h : GI W w A' m n rk x g) {p c : Nat} (hp : rk ≤ p) (hpm : p < m) (hc : c < n) : det (rk + 1) (fun a b => W (x (clo rk p a)) (if b = rk then c else g b)) = w (x p) * A' p c * det rk (fun a b => W (x a) (g b)) := by
  rw [← h.low hp hpm hc]
  refine det_congr (fun a ha b hb => ?_)
  have ea : clo rk p a = if a < rk then a else p := by
    unfold clo
    by_cases c1 : a < rk
    · rw [if_pos c1, if_neg (by omega), if_neg (by omega)]
    · rw [if_neg c1, if_pos (by omega)]
  have eb : (if b = rk then c else g b) = if b < rk then g b else c := by
    by_cases c1 : b < rk
    · rw [if_pos c1, if_neg (by omega)]
    · rw [if_neg c1, if_pos (by omega)]
  rw [ea, eb]
/-- the determinant of A under elimination: B, with the sign z; u: the product of c pivots -/
def DI (A W : qmat) (w : Nat → Rat) (wb : Nat) (B E : qmat) (n c : Nat) (x g : Nat → Nat) (u o z : Rat) : Prop :=
  det n A = z * det n B ∧ (∀ i j, j < c → j < i → i < n → B i j = 0) ∧ u = qprod (fun l => B l l) c ∧ GI W w E n n c x g ∧ gjinv E n c c g ∧ (∀ i, c ≤ i → i < n → ∀ j, B i j = E i j) ∧ det c (fun a b => W (x a) (g b)) = o * u ∧ o ≠ 0 ∧ zle (wb ^ c) o
theorem DI_start {A W : qmat} {w : Nat → Rat} {wb n : Nat} (h : ∀ i, i < n → ∀ j, j < n → W i j = w i * A i j) : DI A W w wb A A n 0 (fun i => i) (fun i => i) 1 1 1 := by
  refine ⟨by grind, fun i j h => by omega, rfl, GI_start h, gjinv_start A n _, fun i _ _ j => rfl, ?_, by decide, ⟨1, rfl, ?_⟩⟩
  · show (1 : Rat) = 1 * 1
    grind
  · rw [Nat.pow_zero]
    exact Nat.le_refl _
section DI
variable {A W B E : qmat} {w : Nat → Rat} {wb n c : Nat} {x g : Nat → Nat} {u o z : Rat}
theorem DI.done (h : DI A W w wb B E n n x g u o z) : det n A = z * u := by
  obtain ⟨h1, h2, h3, -⟩ := h
  rw [h1, h3, det_tri (fun i hi j hj => h2 i j (by omega) hj hi)]
theorem DI.none (h : DI A W w wb B E n c x g u o z) (hc : c < n) (h0 : ∀ i, c ≤ i → i < n → B i c = 0) : det n A = 0 := by
  obtain ⟨h1, h2, -⟩ := h
  rw [h1, det_hole hc (fun i hi hin j hj => ?_)]
  · grind
  · by_cases e : j = c
    · rw [e]; exact h0 i hi hin
    · exact h2 i j (by omega) (by omega) hin
theorem DI.step (h : DI A W w wb B E n c x g u o z) (hw : ∀ i, i < n → zle wb (w i) ∧ w i ≠ 0) {p : Nat} (hp : c ≤ p) (hpn : p < n) (h0 : B p c ≠ 0) : DI A W w wb (fw B c p c) (gj E c p c) n (c + 1) (fun i => x (clo c p i)) (fun l => if l = c then c else g l) (u * B p c) (o * w (x p)) (if p = c then z else -z) := by
  obtain ⟨h1, h2, h3, h4, h5, h6, h7, h8, h9⟩ := h
  have hcn : c < n := by omega
  have hxp : x p < n := h4.2.1 p hpn
  obtain ⟨w1, w2⟩ := hw _ hxp
  have e0 : E p c ≠ 0 := by rw [← h6 p hp hpn c]; exact h0
  have hdet : det n (fw B c p c) = det n (rswap B c p) := by
    refine det_lower (x := fun i l => if l = c ∧ c < i then -(rswap B c p i c / B p c) else 0) (fun i hi j hj => ?_)
    by_cases e : i ≤ c
    · show (if i ≤ c then rswap B c p i j else _) = _
      rw [if_pos e, qsum_zero (fun l hl => by rw [if_neg (by omega)]; grind)]
      grind
    · show (if i ≤ c then _ else rswap B c p i j - rswap B c p i c / B p c * B p j) = _
      rw [if_neg e, qsum_one (show c < i by omega) (fun l hl hne => by rw [if_neg (by omega)]; grind), if_pos ⟨rfl, by omega⟩]
      have : rswap B c p c j = B p j := by show B (if c = c then p else _) j = _; rw [if_pos rfl]
      rw [this]
      grind
  have hlow : ∀ i, i < c → rswap B c p i = B i := fun i hi => rswap_lt hi hp
  refine ⟨?_, fun i j hj hji hin => ?_, ?_, h4.step (fun i hi => (hw i hi).2) hp hpn hcn e0, gjinv_step h5 hp hpn e0, fun i hi hin j => joint_step h6 hp hpn i hi hin j, ?_, by grind, ?_⟩
  · rw [hdet]
    by_cases e : p = c
    · rw [if_pos e, h1, e]
      have : rswap B c c = B := by
        funext i
        show B (if i = c then c else if i = c then c else i) = B i
        by_cases ei : i = c
        · rw [if_pos ei, ei]
        · rw [if_neg ei, if_neg ei]
      rw [this]
    · rw [if_neg e, det_swap hcn hpn (fun e1 => e e1.symm), h1]
      grind
  · by_cases e : i ≤ c
    · show (if i ≤ c then rswap B c p i j else _) = 0
      rw [if_pos e]
      by_cases e1 : i < c
      · rw [hlow i e1]; exact h2 i j (by omega) hji hin
      · have : rswap B c p i j = B p j := by show B (if i = c then p else _) j = _; rw [if_pos (by omega)]
        rw [this]; exact h2 p j (by omega) (by omega) hpn
    · show (if i ≤ c then _ else rswap B c p i j - rswap B c p i c / B p c * B p j) = 0
      rw [if_neg e]
      by_cases e1 : j = c
      · rw [e1]; grind
      · have a1 : B p j = 0 := h2 p j (by omega) (by omega) hpn
        have a2 : rswap B c p i j = 0 := by
          show B (if i = c then p else if i = p then c else i) j = 0
          rw [if_neg (by omega)]
          split
          · exact h2 c j (by omega) (by omega) hcn
          · exact h2 i j (by omega) (by omega) hin
        rw [a1, a2]; grind
  · show _ = qprod (fun l => fw B c p c l l) c * fw B c p c c c
    have a1 : fw B c p c c c = B p c := by
      show (if c ≤ c then rswap B c p c c else _) = _
      rw [if_pos (Nat.le_refl c)]
      show B (if c = c then p else _) c = _
      rw [if_pos rfl]
    have a2 : qprod (fun l => fw B c p c l l) c = qprod (fun l => B l l) c := qprod_congr (fun l hl => by
      show (if l ≤ c then rswap B c p l l else _) = _
      rw [if_pos (by omega), hlow l hl])
    rw [a1, a2, h3]
  · show det (c + 1) (fun a b => W (x (clo c p a)) (if b = c then c else g b)) = _
    rw [h4.det_next hp hpn hcn, h7, h6 p hp hpn c]
    grind
  · have := zle_mul h9 w1
    rw [← Nat.pow_succ] at this
    exact this
/-- the size of the product -/
theorem DI.size (h : DI A W w wb B E n c x g u o z) {b : Nat} (hc : c ≤ n) (hW : ∀ i, i < n → ∀ j, j < n → zle b (W i j)) (hb : 1 ≤ b) (hwb : 1 ≤ wb) (hn : 1 ≤ n) : u.num.natAbs ≤ (n * b) ^ n ∧ u.den ≤ wb ^ n := by
  obtain ⟨h1, h2, h3, h4, h5, h6, h7, h8, h9⟩ := h
  obtain ⟨m0, -⟩ := h4.minors hW hc hb hn
  exact qle_ratio m0 (zle_mono h9 (Nat.pow_le_pow_right hwb hc)) h8 (by rw [h7]; grind)
end DI
