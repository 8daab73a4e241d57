/-! ===== sizes by minors (wip/gen/mxV.py) ===== -/
/-- all minors are whole and at most b -/
def MBD (W : qmat) (m n b : Nat) : Prop := ∀ (k : Nat) (f g : Nat → Nat), k ≤ min m n → (∀ i, i < k → f i < m) → (∀ i, i < k → g i < n) → zle b (det k (fun i j => W (f i) (g j)))
theorem MBD.one {W : qmat} {m n b : Nat} (h : MBD W m n b) : 1 ≤ b := by
  obtain ⟨z, hz, hb⟩ := h 0 (fun i => i) (fun i => i) (Nat.zero_le _) (fun i hi => by omega) (fun i hi => by omega)
  have e : ((1 : Int) : Rat) = (z : Rat) := hz
  have := Rat.intCast_inj.mp e
  omega
theorem MBD.mono {W : qmat} {m n b b' : Nat} (h : MBD W m n b) (hb : b ≤ b') : MBD W m n b' := fun k f g h1 h2 h3 => zle_mono (h k f g h1 h2 h3) hb
theorem MBD.turn {W : qmat} {m n b : Nat} (h : MBD W m n b) : MBD (fun i j => W j i) n m b := fun k f g h1 h2 h3 => by
  have e := det_T k (fun i j => W (g i) (f j))
  show zle b (det k (fun i j => W (g j) (f i)))
  rw [e]
  exact h k g f (by omega) h3 h2
theorem MBD.sub {W : qmat} {m n b r : Nat} {g1 g2 : Nat → Nat} (h : MBD W m n b) (hr : r ≤ m) (hr2 : r ≤ n) (h1 : ∀ i, i < r → g1 i < m) (h2 : ∀ i, i < r → g2 i < n) : MBD (fun i j => W (g1 i) (g2 j)) r r b := fun k f g k1 k2 k3 => h k (fun i => g1 (f i)) (fun i => g2 (g i)) (by omega) (fun i hi => h1 _ (k2 i hi)) (fun i hi => h2 _ (k3 i hi))
theorem ESZ.ofM {W : qmat} {m n s b : Nat} (hM : MBD W m n b) (hs : b < 32768 ^ s) : ESZ W (fun _ => (1 : Rat)) m n s := by
  intro A' c rk x g h hg hc
  have hrc := gjinv_le hg
  have hrm := hg.1
  obtain ⟨h1, h2, h3, h4, h5⟩ := id h
  have hb1 := hM.one
  have m0 := hM rk x g (by omega) (fun i hi => h2 i (by omega)) h3
  have m1 : ∀ i j, j < n → zle b (det rk (fun a b => W (x a) (if b = i then j else g b))) := fun i j hj => hM rk x (fun b => if b = i then j else g b) (by omega) (fun a ha => h2 a (by omega)) (fun b hb => by
    show (if b = i then j else g b) < n
    split
    · exact hj
    · exact h3 b hb)
  have m2 : ∀ i j, rk + 1 ≤ min m n → i < m → j < n → zle b (det (rk + 1) (fun a b => W (x (if a < rk then a else i)) (if b < rk then g b else j))) := fun i j hk hi hj => hM (rk + 1) (fun a => x (if a < rk then a else i)) (fun b => if b < rk then g b else j) hk (fun a ha => h2 _ (by split <;> omega)) (fun b hb => by
    show (if b < rk then g b else j) < n
    split
    · exact h3 b (by omega)
    · exact hj)
  have low : ∀ {i j : Nat}, rk ≤ i → i < m → j < n → A' i j * det rk (fun a b => W (x a) (g b)) = det (rk + 1) (fun a b => W (x (if a < rk then a else i)) (if b < rk then g b else j)) := fun {i j} a1 a2 a3 => by
    rw [h.low a1 a2 a3]
    show _ = 1 * A' i j * _
    grind
  have two : ∀ {q : Rat}, q.num.natAbs ≤ b ∧ q.den ≤ b → ZB s q.num ∧ ZB s (q.den : Int) := fun {q} hq => ⟨ZB.of_le hq.1 hs, ZB.of_le (show ((q.den : Nat) : Int).natAbs ≤ b from hq.2) hs⟩
  refine ⟨fun i j hi hj => ?_, fun hcn o p ho hp hpm h0 => ?_⟩
  · by_cases c1 : i < rk
    · exact two (qle_ratio (m1 i j hj) m0 h5 (h.top c1 hj).symm)
    · by_cases c2 : j < c
      · rw [hg.2.2.2.2.2.2 i (by omega) hi j c2]
        exact two (qle_zero hb1)
      · exact two (qle_ratio (m2 i j (by omega) hi hj) m0 h5 (low (by omega) hi hj))
  · have ep := low hp hpm hcn
    have zp := m2 p c (by omega) hpm hcn
    have np : det (rk + 1) (fun a b => W (x (if a < rk then a else p)) (if b < rk then g b else c)) ≠ 0 := by
      rw [← ep]
      intro e
      rcases Rat.mul_eq_zero.mp e with g | g
      · exact h0 g
      · exact h5 g
    by_cases c1 : o < rk
    · refine two (qle_ratio (q := A' o c / A' p c) (m1 o c hcn) zp np ?_)
      rw [← ep, h.top c1 hcn]
      grind
    · refine two (qle_ratio (q := A' o c / A' p c) (m2 o c (by omega) ho hcn) zp np ?_)
      rw [← ep, ← low (show rk ≤ o by omega) ho hcn]
      grind
theorem hsz_ofM {B : imat} {m n s b : Nat} (hM : MBD (zq B) m n b) (hs : b < 32768 ^ s) : HSZ B m n s s := by
  refine ⟨ESZ.ofM hM.turn hs, ESZ.ofM hM hs, fun r g1 g2 h1 h2 x1 x2 => ?_⟩
  have hr := hM.sub h1 h2 x1 x2
  refine ⟨ESZ.ofM hr hs, fun B' E c x g u ω z hd hc => ?_, fun z hz => ?_⟩
  · obtain ⟨a1, a2, a3, a4, a5, a6, a7, a8, a9⟩ := hd
    obtain ⟨g1', g2', g3', -⟩ := a4
    have m0 := hr c x g (by omega) (fun i hi => g2' i (by omega)) g3'
    have q := qle_ratio m0 a9 a8 (q := u) (by rw [a7]; grind)
    rw [Nat.one_pow] at q
    have hb1 := hr.one
    exact ⟨ZB.of_le q.1 hs, ZB.of_le (show ((u.den : Nat) : Int).natAbs ≤ b from Nat.le_trans q.2 hb1) hs⟩
  · obtain ⟨y, hy1, hy2⟩ := hr r (fun i => i) (fun i => i) (by omega) (fun i hi => hi) (fun i hi => hi)
    rw [hz] at hy1
    have := Rat.intCast_inj.mp hy1
    rw [this]
    omega
theorem inj_miss {k : Nat} {f : Nat → Nat} : ∃ b, b ≤ k ∧ ∀ i, i < k → f i ≠ b := Classical.byContradiction (fun hn => by
  have h1 : ∀ b, ∃ i, b ≤ k → i < k ∧ f i = b := fun b => by
    by_cases hb : b ≤ k
    · obtain ⟨i, hi⟩ := Classical.byContradiction (fun (h2 : ¬ ∃ i, i < k ∧ f i = b) => hn ⟨b, hb, fun i hi e => h2 ⟨i, hi, e⟩⟩)
      exact ⟨i, fun _ => hi⟩
    · exact ⟨0, fun h => absurd h hb⟩
  obtain ⟨g, hg⟩ := Classical.axiomOfChoice h1
  have := pigeon (k + 1) (f := g) (j := k) (fun a b ha hb e => by rw [← (hg a (by omega)).2, ← (hg b (by omega)).2, e]) (fun a ha => (hg a (by omega)).1)
  omega)
theorem zle_nsum {bd : Nat → Nat} {f : Nat → Rat} : ∀ {n : Nat}, (∀ i, i < n → zle (bd i) (f i)) → zle (nsum bd n) (qsum f n)
  | 0, _ => ⟨0, rfl, Nat.le_refl _⟩
  | n + 1, h => zle_add (zle_nsum (fun i hi => h i (by omega))) (h n (by omega))
theorem nsum_mull {c : Nat} {f : Nat → Nat} : ∀ {n : Nat}, c * nsum f n = nsum (fun i => c * f i) n
  | 0 => rfl
  | n + 1 => by
    show c * (nsum f n + f n) = nsum (fun i => c * f i) n + c * f n
    rw [Nat.mul_add, nsum_mull]
theorem nsum_one {f : Nat → Nat} {b : Nat} : ∀ {k : Nat}, (∀ i, i < k → f i ≤ b) → (∀ i j, i < k → j < k → f i ≠ 0 → f j ≠ 0 → i = j) → nsum f k ≤ b
  | 0, _, _ => Nat.zero_le _
  | k + 1, h1, h2 => by
    show nsum f k + f k ≤ b
    by_cases c : f k = 0
    · have := nsum_one (k := k) (fun i hi => h1 i (by omega)) (fun i j hi hj => h2 i j (by omega) (by omega))
      omega
    · have e : nsum f k = nsum (fun _ => 0) k := nsum_cong (fun i hi => by
        show f i = 0
        exact Classical.byContradiction (fun g => by
          have := h2 i k (by omega) (by omega) g c
          omega))
      rw [e, nsum_const, Nat.mul_zero]
      have := h1 k (by omega)
      omega
theorem nsum_pow2 {f : Nat → Nat} {k F : Nat} (hi : ∀ a b, a < k → b < k → f a = f b → a = b) : ∀ b, nsum (fun i => if f i < b then 2 ^ f i * F else 0) k + F ≤ 2 ^ b * F
  | 0 => by
    have e : nsum (fun i => if f i < 0 then 2 ^ f i * F else 0) k = nsum (fun _ => 0) k := nsum_cong (fun i _ => if_neg (Nat.not_lt_zero _))
    rw [e, nsum_const]
    omega
  | b + 1 => by
    have ih := nsum_pow2 (f := f) (k := k) (F := F) hi b
    have e : nsum (fun i => if f i < b + 1 then 2 ^ f i * F else 0) k = nsum (fun i => (if f i < b then 2 ^ f i * F else 0) + (if f i = b then 2 ^ b * F else 0)) k := nsum_cong (fun i _ => by
      by_cases c1 : f i < b
      · rw [if_pos (by omega), if_pos c1, if_neg (by omega), Nat.add_zero]
      · by_cases c2 : f i = b
        · rw [if_pos (by omega), if_neg c1, if_pos c2, c2, Nat.zero_add]
        · rw [if_neg (by omega), if_neg c1, if_neg c2])
    have h1 : nsum (fun i => if f i = b then 2 ^ b * F else 0) k ≤ 2 ^ b * F := nsum_one (fun i _ => by
      split
      · exact Nat.le_refl _
      · exact Nat.zero_le _) (fun i j h1 h2 g1 g2 => by
      refine hi i j h1 h2 ?_
      have a1 : f i = b := Classical.byContradiction (fun g => g1 (if_neg g))
      have a2 : f j = b := Classical.byContradiction (fun g => g2 (if_neg g))
      rw [a1, a2])
    rw [e, nsum_addf, Nat.pow_succ]
    have : 2 ^ b * 2 * F = 2 ^ b * F + 2 ^ b * F := by rw [Nat.mul_comm (2 ^ b) 2, Nat.mul_assoc]; omega
    omega
/-- what the minors of a Hermite form's rows may be -/
theorem herm_minor_step {H : imat} {n r k F : Nat} {p : Nat → Nat} (hp : ∀ b, b < r → p b < n) (htri : ∀ a b, b < a → a < r → H a (p b) = 0) (hdom : ∀ a b, a < b → b < r → 0 ≤ H a (p b) ∧ H a (p b) < H b (p b)) (hpos : ∀ b, b < r → 0 < H b (p b)) (hk : k + 1 ≤ r) (hF : ∀ f c : Nat → Nat, (∀ i, i < k + 1 → f i < r) → (∀ i, i < k + 1 → c i < n) → zle F (det (k + 1) (fun i j => zq H (f i) (c j)))) (f c : Nat → Nat) (hf : ∀ i, i < k → f i < r) (hc : ∀ i, i < k → c i < n) : zle (2 ^ k * F) (det k (fun i j => zq H (f i) (c j))) := by
  have main : ∀ b, b < r → ∀ f : Nat → Nat, (∀ i, i < k → f i < r) → (∀ i j, i < k → j < k → f i = f j → i = j) → (∀ i, i < k → f i ≠ b) → zle (2 ^ b * F) (det k (fun i j => zq H (f i) (c j))) := by
    intro b
    induction b using Nat.strongRecOn with
    | ind b ih =>
      intro hb f hf hi hm
      -- rows b, f ..; columns p b, c ..
      have hN := hF (fun i => if i = 0 then b else f (i - 1)) (fun j => if j = 0 then p b else c (j - 1)) (fun i hik => by
        show (if i = 0 then b else f (i - 1)) < r
        split
        · exact hb
        · exact hf _ (by omega)) (fun j hj => by
        show (if j = 0 then p b else c (j - 1)) < n
        split
        · exact hp b hb
        · exact hc _ (by omega))
      have e0 : det (k + 1) (fun i j => zq H (if i = 0 then b else f (i - 1)) (if j = 0 then p b else c (j - 1))) = (H b (p b) : Rat) * det k (fun i j => zq H (f i) (c j)) + qsum (fun i => sgq (i + 1) * (H (f i) (p b) : Rat) * det k (fun a j => zq H (if a = 0 then b else if a ≤ i then f (a - 1) else f a) (c j))) k := by
        rw [det_succ, qsum_head]
        congr 1
        · show sgq 0 * zq H b (p b) * det k (fun r c' => zq H (if skp 0 r = 0 then b else f (skp 0 r - 1)) (if c' + 1 = 0 then p b else c (c' + 1 - 1))) = _
          rw [show sgq 0 = 1 from rfl]
          have : det k (fun r c' => zq H (if skp 0 r = 0 then b else f (skp 0 r - 1)) (if c' + 1 = 0 then p b else c (c' + 1 - 1))) = det k (fun i j => zq H (f i) (c j)) := det_congr (fun i _ j _ => by
            rw [show skp 0 i = i + 1 from if_neg (Nat.not_lt_zero i), if_neg (by omega), if_neg (by omega)]
            rfl)
          rw [this]
          show 1 * ((H b (p b) : Int) : Rat) * _ = _
          grind
        · refine qsum_congr (fun i hik => ?_)
          show sgq (i + 1) * zq H (if i + 1 = 0 then b else f (i + 1 - 1)) (p b) * det k (fun r c' => zq H (if skp (i + 1) r = 0 then b else f (skp (i + 1) r - 1)) (if c' + 1 = 0 then p b else c (c' + 1 - 1))) = _
          rw [if_neg (by omega), show i + 1 - 1 = i by omega]
          have : det k (fun r c' => zq H (if skp (i + 1) r = 0 then b else f (skp (i + 1) r - 1)) (if c' + 1 = 0 then p b else c (c' + 1 - 1))) = det k (fun a j => zq H (if a = 0 then b else if a ≤ i then f (a - 1) else f a) (c j)) := det_congr (fun a _ j _ => by
            rw [if_neg (show ¬ j + 1 = 0 by omega), show j + 1 - 1 = j by omega]
            unfold skp
            by_cases c1 : a < i + 1
            · rw [if_pos c1]
              by_cases c2 : a = 0
              · rw [if_pos c2, if_pos c2]
              · rw [if_neg c2, if_neg c2, if_pos (by omega)]
            · rw [if_neg c1, if_neg (by omega), if_neg (by omega), if_neg (by omega), show a + 1 - 1 = a by omega])
          rw [this]
          rfl
      -- the other terms
      have e1 : zle (nsum (fun i => if f i < b then (H b (p b)).natAbs * (2 ^ f i * F) else 0) k) (qsum (fun i => sgq (i + 1) * (H (f i) (p b) : Rat) * det k (fun a j => zq H (if a = 0 then b else if a ≤ i then f (a - 1) else f a) (c j))) k) := zle_nsum (fun i hik => by
        by_cases c1 : f i < b
        · rw [if_pos c1]
          have d1 := ih (f i) c1 (hf i hik) (fun a => if a = 0 then b else if a ≤ i then f (a - 1) else f a) (fun a ha => by
            show (if a = 0 then b else if a ≤ i then f (a - 1) else f a) < r
            split
            · exact hb
            · split
              · exact hf _ (by omega)
              · exact hf _ ha) (fun a a' ha ha' e => by
            have e' : (if a = 0 then b else if a ≤ i then f (a - 1) else f a) = (if a' = 0 then b else if a' ≤ i then f (a' - 1) else f a') := e
            by_cases c2 : a = 0
            · by_cases c3 : a' = 0
              · omega
              · rw [if_pos c2, if_neg c3] at e'
                exfalso
                split at e'
                · exact hm _ (by omega) e'.symm
                · exact hm _ ha' e'.symm
            · by_cases c3 : a' = 0
              · rw [if_neg c2, if_pos c3] at e'
                exfalso
                split at e'
                · exact hm _ (by omega) e'
                · exact hm _ ha e'
              · rw [if_neg c2, if_neg c3] at e'
                by_cases c4 : a ≤ i
                · by_cases c5 : a' ≤ i
                  · rw [if_pos c4, if_pos c5] at e'
                    have := hi _ _ (by omega) (by omega) e'
                    omega
                  · rw [if_pos c4, if_neg c5] at e'
                    have := hi _ _ (by omega) (by omega) e'
                    omega
                · by_cases c5 : a' ≤ i
                  · rw [if_neg c4, if_pos c5] at e'
                    have := hi _ _ (by omega) (by omega) e'
                    omega
                  · rw [if_neg c4, if_neg c5] at e'
                    exact hi _ _ (by omega) (by omega) e') (fun a ha e => by
            have e' : (if a = 0 then b else if a ≤ i then f (a - 1) else f a) = f i := e
            by_cases c2 : a = 0
            · rw [if_pos c2] at e'
              omega
            · rw [if_neg c2] at e'
              by_cases c4 : a ≤ i
              · rw [if_pos c4] at e'
                have := hi _ _ (by omega) hik e'
                omega
              · rw [if_neg c4] at e'
                have := hi _ _ ha hik e'
                omega)
          have d2 : zle (H b (p b)).natAbs (sgq (i + 1) * (H (f i) (p b) : Rat)) := by
            have hd := hdom (f i) b c1 hb
            refine zle_mono (zle_mul (zle_sgq (i + 1)) ⟨H (f i) (p b), rfl, Nat.le_refl _⟩) ?_
            omega
          exact zle_mul d2 d1
        · rw [if_neg c1]
          have hz : H (f i) (p b) = 0 := htri (f i) b (by have := hm i hik; omega) (hf i hik)
          rw [hz]
          refine ⟨0, ?_, Nat.le_refl _⟩
          show sgq (i + 1) * ((0 : Int) : Rat) * _ = ((0 : Int) : Rat)
          rw [show ((0 : Int) : Rat) = 0 from rfl]
          grind)
      obtain ⟨D, hD⟩ := isZ_det (n := k) (M := fun i j => zq H (f i) (c j)) (fun i _ j _ => isZ_zq H _ _)
      obtain ⟨X, hX1, hX2⟩ := hN
      obtain ⟨Y, hY1, hY2⟩ := e1
      rw [hX1, hY1, hD] at e0
      have e2 : X = H b (p b) * D + Y := by
        apply Rat.intCast_inj.mp
        rw [e0, Rat.intCast_add, Rat.intCast_mul]
      have hh := hpos b hb
      have e3 : nsum (fun i => if f i < b then (H b (p b)).natAbs * (2 ^ f i * F) else 0) k = (H b (p b)).natAbs * nsum (fun i => if f i < b then 2 ^ f i * F else 0) k := by
        rw [nsum_mull]
        exact nsum_cong (fun i _ => by
          by_cases c1 : f i < b
          · rw [if_pos c1, if_pos c1]
          · rw [if_neg c1, if_neg c1, Nat.mul_zero])
      rw [e3] at hY2
      have e4 := nsum_pow2 (f := f) (k := k) (F := F) hi b
      refine ⟨D, hD, ?_⟩
      have e5 : (H b (p b)).natAbs * D.natAbs ≤ F + (H b (p b)).natAbs * nsum (fun i => if f i < b then 2 ^ f i * F else 0) k := by
        rw [← Int.natAbs_mul]
        have : H b (p b) * D = X - Y := by omega
        rw [this]
        omega
      have e6 : (H b (p b)).natAbs * D.natAbs ≤ (H b (p b)).natAbs * (2 ^ b * F) := by
        have h1 : 1 ≤ (H b (p b)).natAbs := by omega
        have h2 : F ≤ (H b (p b)).natAbs * F := Nat.le_mul_of_pos_left _ h1
        have h3 := Nat.mul_le_mul_left (H b (p b)).natAbs e4
        rw [Nat.mul_add] at h3
        omega
      exact Nat.le_of_mul_le_mul_left e6 (by omega)
  by_cases hi : ∀ i j, i < k → j < k → f i = f j → i = j
  · obtain ⟨b, hb, hm⟩ := inj_miss (k := k) (f := f)
    exact zle_mono (main b (by omega) f hf hi hm) (Nat.mul_le_mul_right _ (Nat.pow_le_pow_right (by decide) hb))
  · obtain ⟨i, h1⟩ := Classical.not_forall.mp hi
    obtain ⟨j, h2⟩ := Classical.not_forall.mp h1
    have h3 : i < k ∧ j < k ∧ f i = f j ∧ i ≠ j := by
      refine ⟨Classical.byContradiction (fun g => h2 (fun a => absurd a g)), Classical.byContradiction (fun g => h2 (fun _ b => absurd b g)), Classical.byContradiction (fun g => h2 (fun _ _ e => absurd e g)), fun e => h2 (fun _ _ _ => e)⟩
    rw [det_same h3.1 h3.2.1 h3.2.2.2 (fun l _ => by rw [h3.2.2.1])]
    exact ⟨0, rfl, Nat.zero_le _⟩
def mlev (r d : Nat) : Nat := nsum (fun x => r - (x + 1)) d
theorem mlev_le : ∀ r, r ≤ 16 → ∀ d, d ≤ r → mlev r d ≤ 120 := by decide
theorem herm_minors {H : imat} {n r F : Nat} {p : Nat → Nat} (hH : hermF H n r p) (hF : ∀ f c : Nat → Nat, (∀ i, i < r → f i < r) → (∀ i, i < r → c i < n) → zle F (det r (fun i j => zq H (f i) (c j)))) : ∀ d k, k + d = r → ∀ f c : Nat → Nat, (∀ i, i < k → f i < r) → (∀ i, i < k → c i < n) → zle (2 ^ mlev r d * F) (det k (fun i j => zq H (f i) (c j))) := by
  obtain ⟨⟨a1, a2, a3, a4⟩, a5⟩ := hH
  intro d
  induction d with
  | zero =>
    intro k hk f c hf hc
    have e : k = r := by omega
    subst e
    show zle (2 ^ 0 * F) _
    rw [Nat.pow_zero, Nat.one_mul]
    exact hF f c hf hc
  | succ d ih =>
    intro k hk f c hf hc
    have h := herm_minor_step (k := k) (F := 2 ^ mlev r d * F) a1 (fun a b hab har => a3 a har _ (a2 b a hab har)) a5 a4 (by omega) (ih (k + 1) (by omega)) f c hf hc
    refine zle_mono h ?_
    show _ ≤ 2 ^ (nsum (fun x => r - (x + 1)) d + (r - (d + 1))) * F
    rw [show r - (d + 1) = k by omega, Nat.pow_add, Nat.mul_comm (2 ^ _) (2 ^ k), Nat.mul_assoc]
    exact Nat.le_refl _
/-- the largest minors of a Hermite form are no larger than those of the matrix -/
theorem rminor_pass {H A : imat} {r m n F : Nat} (h1 : rowsZ H r A m n) (h2 : rowsZ A m H r n) (hA : ∀ f c : Nat → Nat, (∀ i, i < r → f i < m) → (∀ i, i < r → c i < n) → zle F (det r (fun i j => zq A (f i) (c j)))) (f c : Nat → Nat) (hf : ∀ i, i < r → f i < r) (hc : ∀ i, i < r → c i < n) : zle F (det r (fun i j => zq H (f i) (c j))) := by
  have zneg : ∀ {q : Rat}, zle F q → zle F (-q) := fun {q} ⟨z, e, hz⟩ => ⟨-z, by rw [e, Rat.intCast_neg], by omega⟩
  have key : zle F (det r (fun i j => zq H i (c j))) := by
    obtain ⟨D, hD⟩ := isZ_det (n := r) (M := fun i j => zq H i (c j)) (fun i _ j _ => isZ_zq H _ _)
    by_cases c0 : D = 0
    · exact ⟨D, hD, by omega⟩
    · have hU : ∀ i, ∃ u : Nat → Int, i < r → ∀ j, j < n → H i j = isum (fun k => u k * A k j) m := fun i => by
        by_cases g : i < r
        · obtain ⟨u, hu⟩ := h1 i g
          exact ⟨u, fun _ => hu⟩
        · exact ⟨fun _ => 0, fun h => absurd h g⟩
      obtain ⟨U, hU⟩ := Classical.axiomOfChoice hU
      have ex : ∃ g : Nat → Nat, (∀ i, i < r → g i < m) ∧ det r (fun i j => zq A (g i) (c j)) ≠ 0 := Classical.byContradiction (fun hn => by
        have h3 := minor_rows (S := zq A) (T := zq H) (m := m) (k := r) (mT := r) (d := 0) (U := fun i l => (U i l : Rat)) (fun i _ l _ => ⟨U i l, rfl⟩) (g := c) (fun i hi j hj => by
          show ((H i (c j) : Int) : Rat) = _
          rw [hU i hi (c j) (hc j hj), isum_cast]
          exact qsum_congr (fun k _ => by rw [Rat.intCast_mul]; rfl)) (fun g hg => by
          have : det r (fun i j => zq A (g i) (c j)) = 0 := Classical.byContradiction (fun e => hn ⟨g, hg, e⟩)
          rw [this]; exact gdiv_zero 0) (f := fun i => i) (fun i hi => hi)
        obtain ⟨z, hz⟩ := h3
        rw [hD] at hz
        have : ((D : Int) : Rat) = ((0 : Int) : Rat) := by rw [hz]; show ((0 : Int) : Rat) * _ = _; rw [show ((0 : Int) : Rat) = 0 from rfl]; grind
        exact c0 (Rat.intCast_inj.mp this))
      obtain ⟨g, hg, hne⟩ := ex
      have hV : ∀ i, ∃ u : Nat → Int, i < r → ∀ j, j < n → A (g i) j = isum (fun k => u k * H k j) r := fun i => by
        by_cases g' : i < r
        · obtain ⟨u, hu⟩ := h2 (g i) (hg i g')
          exact ⟨u, fun _ => hu⟩
        · exact ⟨fun _ => 0, fun h => absurd h g'⟩
      obtain ⟨V, hV⟩ := Classical.axiomOfChoice hV
      have h4 := det_rows (k := r) (S := fun i j => zq H i (c j)) (T := fun i j => zq A (g i) (c j)) (U := fun i l => (V i l : Rat)) (d := D) (fun i _ l _ => ⟨V i l, rfl⟩) (fun i hi j hj => by
        show ((A (g i) (c j) : Int) : Rat) = _
        rw [hV i hi (c j) (hc j hj), isum_cast]
        exact qsum_congr (fun k _ => by rw [Rat.intCast_mul]; rfl)) hD
      obtain ⟨z, hz⟩ := h4
      obtain ⟨y, hy1, hy2⟩ := hA g c hg hc
      have hyz : y = D * z := by
        apply Rat.intCast_inj.mp
        rw [← hy1, hz, Rat.intCast_mul]
      have hy0 : y ≠ 0 := fun e => hne (by rw [hy1, e]; rfl)
      refine ⟨D, hD, ?_⟩
      have hz0 : z ≠ 0 := fun e => hy0 (by rw [hyz, e, Int.mul_zero])
      have : y.natAbs = D.natAbs * z.natAbs := by rw [hyz, Int.natAbs_mul]
      have h5 : D.natAbs * 1 ≤ D.natAbs * z.natAbs := Nat.mul_le_mul_left _ (by omega)
      omega
  by_cases hi : ∀ i j, i < r → j < r → f i = f j → i = j
  · rcases det_perm (M := fun i j => zq H i (c j)) hi hf with e | e
    · show zle F (det r (fun i => (fun i j => zq H i (c j)) (f i)))
      rw [e]; exact key
    · show zle F (det r (fun i => (fun i j => zq H i (c j)) (f i)))
      rw [e]; exact zneg key
  · obtain ⟨i, h3⟩ := Classical.not_forall.mp hi
    obtain ⟨j, h4⟩ := Classical.not_forall.mp h3
    have h5 : i < r ∧ j < r ∧ f i = f j ∧ i ≠ j := by
      refine ⟨Classical.byContradiction (fun g => h4 (fun a => absurd a g)), Classical.byContradiction (fun g => h4 (fun _ b => absurd b g)), Classical.byContradiction (fun g => h4 (fun _ _ e => absurd e g)), fun e => h4 (fun _ _ _ => e)⟩
    rw [det_same h5.1 h5.2.1 h5.2.2.2 (fun l _ => by rw [h5.2.2.1])]
    exact ⟨0, rfl, Nat.zero_le _⟩
