/-! ===== the cells under elimination are ratios of minors ===== -/
theorem det_last : ∀ {n : Nat} {M : qmat}, (∀ i, i < n → M i n = 0) → det (n + 1) M = M n n * det n M
  | 0, M, _ => by
    show (0 : Rat) + sgq 0 * M 0 0 * 1 = M 0 0 * 1
    have : sgq 0 = 1 := rfl
    rw [this]; grind
  | n + 1, M, h => by
    rw [det_succ (n + 1), det_succ n]
    show qsum (fun i => sgq i * M i 0 * det (n + 1) (fun r c => M (skp i r) (c + 1))) (n + 1) + sgq (n + 1) * M (n + 1) 0 * det (n + 1) (fun r c => M (skp (n + 1) r) (c + 1)) = _
    have e1 : det (n + 1) (fun r c => M (skp (n + 1) r) (c + 1)) = 0 := by
      rw [det_last (n := n) (M := fun r c => M (skp (n + 1) r) (c + 1)) (fun i hi => by show M (skp (n + 1) i) (n + 1) = 0; rw [show skp (n + 1) i = i from if_pos (by omega)]; exact h i (by omega))]
      show M (skp (n + 1) n) (n + 1) * _ = 0
      rw [show skp (n + 1) n = n from if_pos (by omega), h n (by omega)]
      grind
    rw [e1, qsum_mul]
    have e2 : qsum (fun i => sgq i * M i 0 * det (n + 1) (fun r c => M (skp i r) (c + 1))) (n + 1) = qsum (fun i => M (n + 1) (n + 1) * (sgq i * M i 0 * det n (fun r c => M (skp i r) (c + 1)))) (n + 1) := by
      refine qsum_congr (fun i hi => ?_)
      have e3 := det_last (n := n) (M := fun r c => M (skp i r) (c + 1)) (fun a ha => by
        show M (skp i a) (n + 1) = 0
        exact h _ (skp_lt ha))
      rw [e3]
      show sgq i * M i 0 * (M (skp i n) (n + 1) * _) = _
      rw [show skp i n = n + 1 from if_neg (by omega)]
      grind
    rw [e2]
    grind
/-- the elimination of A, whose rows times w are W: rk pivots in the columns g, the rows have changed places by x -/
def GI (W : qmat) (w : Nat → Rat) (A' : qmat) (m n rk : Nat) (x g : Nat → Nat) : Prop :=
  rk ≤ m ∧ (∀ i, i < m → x i < m) ∧ (∀ l, l < rk → g l < n) ∧ (∀ i, i < m → ∀ j, j < n → W (x i) j = (if i < rk then 0 else w (x i) * A' i j) + qsum (fun k => A' k j * W (x i) (g k)) rk) ∧ det rk (fun a b => W (x a) (g b)) ≠ 0
theorem GI_start {A W : qmat} {w : Nat → Rat} {m n : Nat} (h : ∀ i, i < m → ∀ j, j < n → W i j = w i * A i j) : GI W w A m n 0 (fun i => i) (fun i => i) := by
  refine ⟨Nat.zero_le m, fun i hi => hi, fun l hl => by omega, fun i hi j hj => ?_, ?_⟩
  · rw [if_neg (by omega), h i hi j hj]
    show _ = _ + (0 : Rat)
    grind
  · show (1 : Rat) ≠ 0
    decide
section GI
variable {W A' : qmat} {w : Nat → Rat} {m n rk : Nat} {x g : Nat → Nat}
theorem GI.top (h : GI W w A' m n rk x g) {i j : Nat} (hi : i < rk) (hj : j < n) : det rk (fun a b => W (x a) (if b = i then j else g b)) = A' i j * det rk (fun a b => W (x a) (g b)) := by
  obtain ⟨h1, h2, h3, h4, h5⟩ := h
  refine cramer (A := fun a => W (x a)) hi (fun a ha => ?_)
  rw [h4 a (by omega) j hj, if_pos ha]
  grind
/-- bordered minors -/
theorem GI.low (h : GI W w A' m n rk x g) {i j : Nat} (hi : rk ≤ i) (him : i < m) (hj : j < n) : det (rk + 1) (fun a b => W (x (if a < rk then a else i)) (if b < rk then g b else j)) = w (x i) * A' i j * det rk (fun a b => W (x a) (g b)) := by
  obtain ⟨h1, h2, h3, h4, h5⟩ := h
  -- columns: g, then a unit column, then j
  let N : qmat := fun a b => if b = 0 then (if a = rk then 1 else 0) else W (x (if a < rk then a else i)) (b - 1)
  let G : Nat → Nat := fun b => if b < rk then g b + 1 else 0
  let E : qmat := fun k j' => if k < rk then A' k (j' - 1) else w (x i) * A' i (j' - 1)
  have hN : ∀ a b, N a (b + 1) = W (x (if a < rk then a else i)) b := fun a b => by
    show (if b + 1 = 0 then (if a = rk then 1 else 0) else W (x (if a < rk then a else i)) (b + 1 - 1)) = _
    rw [if_neg (by omega), Nat.add_sub_cancel]
  have key := cramer (A := N) (E := E) (r := rk + 1) (i := rk) (j := j + 1) (g := G) (by omega) (fun a ha => by
    rw [hN]
    show _ = qsum (fun k => E k (j + 1) * N a (G k)) rk + E rk (j + 1) * N a (G rk)
    have e1 : qsum (fun k => E k (j + 1) * N a (G k)) rk = qsum (fun k => A' k j * W (x (if a < rk then a else i)) (g k)) rk := qsum_congr (fun k hk => by
      show (if k < rk then A' k (j + 1 - 1) else _) * N a (if k < rk then g k + 1 else 0) = _
      rw [if_pos hk, if_pos hk, hN, Nat.add_sub_cancel])
    have e2 : E rk (j + 1) = w (x i) * A' i j := by
      show (if rk < rk then _ else w (x i) * A' i (j + 1 - 1)) = _
      rw [if_neg (by omega), Nat.add_sub_cancel]
    have e3 : N a (G rk) = if a = rk then 1 else 0 := by
      show N a (if rk < rk then g rk + 1 else 0) = _
      rw [if_neg (by omega)]
      exact if_pos rfl
    rw [e1, e2, e3]
    by_cases c : a < rk
    · rw [if_pos c, if_neg (show ¬ a = rk by omega), h4 a (by omega) j hj, if_pos c]
      grind
    · rw [if_neg c, if_pos (show a = rk by omega), h4 i him j hj, if_neg (by omega)]
      grind)
  have e4 : det (rk + 1) (fun a b => W (x (if a < rk then a else i)) (if b < rk then g b else j)) = det (rk + 1) (fun a b => N a (if b = rk then j + 1 else G b)) := det_congr (fun a ha b hb => by
    by_cases c : b < rk
    · rw [if_pos c, if_neg (show ¬ b = rk by omega), show G b = g b + 1 from if_pos c, hN]
    · rw [if_neg c, if_pos (show b = rk by omega), hN])
  have e5 : det (rk + 1) (fun a b => N a (G b)) = det rk (fun a b => W (x a) (g b)) := by
    rw [det_last (fun a ha => by
      show N a (if rk < rk then g rk + 1 else 0) = 0
      rw [if_neg (by omega)]
      show (if (0 : Nat) = 0 then (if a = rk then (1 : Rat) else 0) else _) = 0
      rw [if_pos rfl, if_neg (show ¬ a = rk by omega)])]
    have e6 : N rk (G rk) = 1 := by
      show N rk (if rk < rk then g rk + 1 else 0) = 1
      rw [if_neg (by omega)]
      show (if (0 : Nat) = 0 then (if rk = rk then (1 : Rat) else 0) else _) = 1
      rw [if_pos rfl, if_pos rfl]
    rw [e6, Rat.one_mul]
    exact det_congr (fun a ha b hb => by rw [show G b = g b + 1 from if_pos hb, hN, if_pos ha])
  have e7 : E rk (j + 1) = w (x i) * A' i j := by
    show (if rk < rk then _ else w (x i) * A' i (j + 1 - 1)) = _
    rw [if_neg (by omega), Nat.add_sub_cancel]
  rw [e4, key, e5, e7]
/-- the row that comes to x when the rows r and p change places -/
def clo (r p x : Nat) : Nat := if x = r then p else if x = p then r else x
theorem clo_lt {r p x m : Nat} (hr : r < m) (hp : p < m) (hx : x < m) : clo r p x < m := by
  unfold clo
  split
  · exact hp
  · split
    · exact hr
    · exact hx
theorem GI.step (h : GI W w A' m n rk x g) (hw : ∀ i, i < m → w i ≠ 0) {p c : Nat} (hp : rk ≤ p) (hpm : p < m) (hc : c < n) (h0 : A' p c ≠ 0) : GI W w (gj A' rk p c) m n (rk + 1) (fun i => x (clo rk p i)) (fun l => if l = rk then c else g l) := by
  have hlow := h.low hp hpm hc
  obtain ⟨h1, h2, h3, h4, h5⟩ := h
  have hk : ∀ k, k < rk → ∀ j, A' k j = gj A' rk p c k j + A' k c * gj A' rk p c rk j := fun k hk j => by
    rw [gj_r, gj_o A' (show k ≠ rk by omega), if_neg (show ¬ k = p by omega)]
    grind
  refine ⟨by omega, fun i hi => h2 _ (clo_lt (by omega) hpm hi), fun l hl => ?_, fun i hi j hj => ?_, ?_⟩
  · dsimp only
    split
    · exact hc
    · exact h3 l (by omega)
  · dsimp only
    obtain ⟨s, hs⟩ : ∃ s, clo rk p i = s := ⟨_, rfl⟩
    have hsm : s < m := by rw [← hs]; exact clo_lt (by omega) hpm hi
    rw [hs]
    show _ = _ + (qsum (fun k => gj A' rk p c k j * W (x s) (if k = rk then c else g k)) rk + gj A' rk p c rk j * W (x s) (if rk = rk then c else g rk))
    rw [if_pos (rfl : rk = rk)]
    have e1 : qsum (fun k => gj A' rk p c k j * W (x s) (if k = rk then c else g k)) rk = qsum (fun k => A' k j * W (x s) (g k)) rk - gj A' rk p c rk j * qsum (fun k => A' k c * W (x s) (g k)) rk := by
      rw [qsum_mul]
      have e2 : qsum (fun k => A' k j * W (x s) (g k)) rk = qsum (fun k => gj A' rk p c k j * W (x s) (if k = rk then c else g k) + gj A' rk p c rk j * (A' k c * W (x s) (g k))) rk := qsum_congr (fun k hkk => by
        rw [if_neg (show ¬ k = rk by omega), hk k hkk j]
        grind)
      rw [e2, qsum_add]
      grind
    rw [e1]
    have a1 := h4 s hsm j hj
    have a2 := h4 s hsm c hc
    by_cases c1 : i < rk
    · have : s = i := by rw [← hs]; unfold clo; rw [if_neg (by omega), if_neg (by omega)]
      rw [if_pos (show i < rk + 1 by omega)]
      rw [if_pos (by omega)] at a1 a2
      grind
    · by_cases c2 : i = rk
      · have : s = p := by rw [← hs]; unfold clo; rw [if_pos c2]
        rw [if_pos (show i < rk + 1 by omega)]
        rw [if_neg (by omega)] at a1 a2
        have e3 : gj A' rk p c rk j * A' p c = A' p j := by rw [gj_r]; grind
        rw [this] at a1 a2
        rw [this]
        generalize qsum (fun k => A' k j * W (x p) (g k)) rk = S1 at a1
        generalize qsum (fun k => A' k c * W (x p) (g k)) rk = S2 at a2
        grind
      · rw [if_neg (show ¬ i < rk + 1 by omega)]
        have hso : s = if i = p then rk else i := by rw [← hs]; unfold clo; rw [if_neg c2]
        have hsr : ¬ s < rk := by rw [hso]; split <;> omega
        rw [if_neg hsr] at a1 a2
        have e3 : gj A' rk p c i j = A' s j - A' s c * gj A' rk p c rk j := by
          rw [gj_o A' c2, ← hso, gj_r]
          grind
        rw [e3]
        generalize qsum (fun k => A' k j * W (x s) (g k)) rk = S1 at a1
        generalize qsum (fun k => A' k c * W (x s) (g k)) rk = S2 at a2
        grind
  · have e1 : det (rk + 1) (fun a b => W (x (clo rk p a)) (if b = rk then c else g b)) = det (rk + 1) (fun a b => W (x (if a < rk then a else p)) (if b < rk then g b else c)) := det_congr (fun a ha b hb => by
      have ea : clo rk p a = if a < rk then a else p := by
        unfold clo
        by_cases c1 : a < rk
        · rw [if_pos c1, if_neg (by omega), if_neg (by omega)]
        · rw [if_neg c1, if_pos (by omega)]
      have eb : (if b = rk then c else g b) = if b < rk then g b else c := by
        by_cases c1 : b < rk
        · rw [if_pos c1, if_neg (by omega)]
        · rw [if_neg c1, if_pos (by omega)]
      rw [ea, eb])
    show det (rk + 1) (fun a b => W (x (clo rk p a)) (if b = rk then c else g b)) ≠ 0
    rw [e1, hlow]
    have := hw (x p) (h2 p hpm)
    grind
end GI
/-- numerator and denominator are at most b -/
def qle (b : Nat) (q : Rat) : Prop := q.num.natAbs ≤ b ∧ q.den ≤ b
theorem qle_mono {a b : Nat} {q : Rat} (h : qle a q) (hab : a ≤ b) : qle b q := ⟨by have := h.1; omega, by have := h.2; omega⟩
theorem qle_zero {b : Nat} (h : 1 ≤ b) : qle b 0 := ⟨Nat.zero_le b, h⟩
theorem qle_ratio {a b : Nat} {q p r : Rat} (hp : zle a p) (hr : zle b r) (h0 : r ≠ 0) (h : q * r = p) : q.num.natAbs ≤ a ∧ q.den ≤ b := by
  obtain ⟨z1, e1, l1⟩ := hp
  obtain ⟨z2, e2, l2⟩ := hr
  have hz2 : z2 ≠ 0 := fun e => h0 (by rw [e2, e]; rfl)
  have hd : (q.den : Int) ≠ 0 := by have := q.den_nz; omega
  have hq : q = (q.num : Rat) / ((q.den : Int) : Rat) := by
    have := (Rat.num_divInt_den q).symm
    rw [Rat.divInt_eq_div] at this
    exact this
  have hdr : ((q.den : Int) : Rat) ≠ 0 := fun e => hd (Rat.intCast_inj.mp (e.trans (show (0 : Rat) = ((0 : Int) : Rat) from rfl)))
  have hx : q.num * z2 = z1 * (q.den : Int) := by
    apply Rat.intCast_inj.mp
    rw [Rat.intCast_mul, Rat.intCast_mul, ← e1, ← e2, ← h]
    generalize ((q.den : Int) : Rat) = dd at hq hdr
    generalize (q.num : Rat) = nn at hq
    rw [hq]
    grind
  have hco : Nat.Coprime q.num.natAbs q.den := q.reduced
  have hn : q.num.natAbs * z2.natAbs = z1.natAbs * q.den := by
    have := congrArg Int.natAbs hx
    rw [Int.natAbs_mul, Int.natAbs_mul] at this
    exact this
  have d1 : q.den ∣ z2.natAbs := Nat.Coprime.dvd_of_dvd_mul_left (Nat.Coprime.symm hco) ⟨z1.natAbs, by rw [hn, Nat.mul_comm]⟩
  have d2 : q.num.natAbs ∣ z1.natAbs := Nat.Coprime.dvd_of_dvd_mul_right hco ⟨z2.natAbs, hn.symm⟩
  refine ⟨?_, ?_⟩
  · by_cases c : z1 = 0
    · have : q.num.natAbs * z2.natAbs = 0 := by rw [hn, c]; simp
      rcases Nat.mul_eq_zero.mp this with g | g
      · omega
      · omega
    · have := Nat.le_of_dvd (by omega) d2
      omega
  · have := Nat.le_of_dvd (by omega) d1
    omega
theorem rising_ge {p : Nat → Nat} {r : Nat} (h : ∀ i k, i < k → k < r → p i < p k) : ∀ i, i < r → i ≤ p i
  | 0, _ => Nat.zero_le _
  | i + 1, hi => by
    have := rising_ge h i (by omega)
    have := h i (i + 1) (by omega) hi
    omega
theorem gjinv_le {A : qmat} {m c rk : Nat} {p : Nat → Nat} (h : gjinv A m c rk p) : rk ≤ c := by
  obtain ⟨a1, a2, a3, -⟩ := h
  cases rk with
  | zero => exact Nat.zero_le c
  | succ k =>
    have := rising_ge a3 k (by omega)
    have := a2 k (by omega)
    omega
theorem gjinv_full {A : qmat} {m c c' : Nat} {p : Nat → Nat} (h : gjinv A m c m p) (hc : c ≤ c') : gjinv A m c' m p := by
  obtain ⟨a1, a2, a3, a4, a5, a6, a7⟩ := h
  exact ⟨a1, fun i hi => by have := a2 i hi; omega, a3, a4, a5, a6, fun i h1 h2 => by omega⟩
section GIS
variable {W A' : qmat} {w : Nat → Rat} {m n rk c b wb K : Nat} {x g : Nat → Nat}
/-- sizes of the minors -/
theorem GI.minors (h : GI W w A' m n rk x g) (hW : ∀ i, i < m → ∀ j, j < n → zle b (W i j)) (hK : rk ≤ K) (hb : 1 ≤ b) (hK1 : 1 ≤ K) : zle ((K * b) ^ K) (det rk (fun a b => W (x a) (g b))) ∧ (∀ i j, i < rk → j < n → zle ((K * b) ^ K) (det rk (fun a b => W (x a) (if b = i then j else g b)))) ∧ (∀ i j, rk + 1 ≤ K → i < m → j < n → zle ((K * b) ^ K) (det (rk + 1) (fun a b => W (x (if a < rk then a else i)) (if b < rk then g b else j)))) := by
  obtain ⟨h1, h2, h3, h4, h5⟩ := h
  have hp : 0 < K * b := Nat.mul_pos hK1 hb
  refine ⟨zle_mono (zle_det hK (fun i hi j hj => hW _ (h2 _ (by omega)) _ (h3 _ hj))) (Nat.pow_le_pow_right hp hK), fun i j hi hj => zle_mono (zle_det hK (fun a ha c hc => hW _ (h2 _ (by omega)) _ ?_)) (Nat.pow_le_pow_right hp hK), fun i j hk hi hj => zle_mono (zle_det hk (fun a ha c hc => hW _ (h2 _ ?_) _ ?_)) (Nat.pow_le_pow_right hp hk)⟩
  · split
    · exact hj
    · exact h3 _ hc
  · split
    · omega
    · exact hi
  · split
    · exact h3 _ (by omega)
    · exact hj
theorem GI.size (h : GI W w A' m n rk x g) (hg : gjinv A' m c rk g) (hcn : c ≤ n) (hW : ∀ i, i < m → ∀ j, j < n → zle b (W i j)) (hw : ∀ i, i < m → zle wb (w i) ∧ w i ≠ 0) (hKm : K = min m n) (hb : 1 ≤ b) (hwb : 1 ≤ wb) {i j : Nat} (hi : i < m) (hj : j < n) : qle ((K * b) ^ K * wb) (A' i j) := by
  have hrc := gjinv_le hg
  have hrm := hg.1
  have hK1 : 1 ≤ K := by omega
  have hpos : 1 ≤ (K * b) ^ K := Nat.pow_pos (Nat.mul_pos hK1 hb)
  have hmul : (K * b) ^ K ≤ (K * b) ^ K * wb := Nat.le_mul_of_pos_right _ hwb
  obtain ⟨m0, m1, m2⟩ := h.minors hW (show rk ≤ K by omega) hb hK1
  have hd := h.2.2.2.2
  by_cases c1 : i < rk
  · have := qle_ratio (m1 i j c1 hj) m0 hd (h.top c1 hj).symm
    exact qle_mono this hmul
  · by_cases c2 : j < c
    · rw [hg.2.2.2.2.2.2 i (by omega) hi j c2]
      exact qle_zero (by omega)
    · have hxm := h.2.1 i hi
      obtain ⟨w1, w2⟩ := hw _ hxm
      have e := h.low (show rk ≤ i by omega) hi hj
      have := qle_ratio (q := A' i j) (m2 i j (by omega) hi hj) (zle_mul m0 w1) (by grind) (by rw [e]; grind)
      exact ⟨by have := this.1; omega, this.2⟩
theorem GI.factor (h : GI W w A' m n rk x g) (hg : gjinv A' m c rk g) (hcn : c < n) (hW : ∀ i, i < m → ∀ j, j < n → zle b (W i j)) (hw : ∀ i, i < m → zle wb (w i) ∧ w i ≠ 0) (hKm : K = min m n) (hb : 1 ≤ b) (hwb : 1 ≤ wb) {o p : Nat} (ho : o < m) (hp : rk ≤ p) (hpm : p < m) (h0 : A' p c ≠ 0) : qle ((K * b) ^ K * wb) (A' o c / A' p c) := by
  have hrc := gjinv_le hg
  have hrm := hg.1
  have hK1 : 1 ≤ K := by omega
  have hpos : 1 ≤ (K * b) ^ K := Nat.pow_pos (Nat.mul_pos hK1 hb)
  have hmul : (K * b) ^ K ≤ (K * b) ^ K * wb := Nat.le_mul_of_pos_right _ hwb
  obtain ⟨m0, m1, m2⟩ := h.minors hW (show rk ≤ K by omega) hb hK1
  have hd := h.2.2.2.2
  have hxp := h.2.1 p hpm
  obtain ⟨w1, w2⟩ := hw _ hxp
  have ep := h.low hp hpm hcn
  have zp := m2 p c (by omega) hpm hcn
  have np : det (rk + 1) (fun a b => W (x (if a < rk then a else p)) (if b < rk then g b else c)) ≠ 0 := by rw [ep]; grind
  by_cases c1 : o < rk
  · have := qle_ratio (q := A' o c / A' p c) (zle_mul (m1 o c c1 hcn) w1) zp np (by rw [ep, h.top c1 hcn]; grind)
    exact ⟨this.1, by have := this.2; omega⟩
  · have hxo := h.2.1 o ho
    obtain ⟨w3, w4⟩ := hw _ hxo
    have eo := h.low (show rk ≤ o by omega) ho hcn
    exact qle_ratio (q := A' o c / A' p c) (zle_mul (m2 o c (by omega) ho hcn) w1) (zle_mul zp w3) (by grind) (by rw [ep, eo]; grind)
end GIS
