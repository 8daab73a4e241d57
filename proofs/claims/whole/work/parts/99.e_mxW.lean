/-! ===== the reference's smith: what its loops keep (wip/gen/mxW.py) ===== -/
theorem det_zrow {n k : Nat} {M : qmat} (hk : k < n) (h : ∀ j, j < n → M k j = 0) : det n M = 0 := by
  have e : det n M = det n (rput M k (fun j => 0 * M k j + 0 * M k j)) := det_congr (fun i hi j hj => by
    by_cases c : i = k
    · rw [c, rput_at, h j hj]; grind
    · rw [rput_ne _ _ _ c])
  rw [e, det_lin hk]
  grind
theorem zle_0 (b : Nat) : zle b 0 := ⟨0, rfl, Nat.zero_le _⟩
theorem det_noninj {k r : Nat} {M : qmat} {f : Nat → Nat} (hf : ∀ i, i < k → f i < r) (hk : r < k) : det k (fun i j => M (f i) j) = 0 := by
  by_cases hi : ∀ i j, i < k → j < k → f i = f j → i = j
  · have := pigeon k hi hf
    omega
  · obtain ⟨i, h1⟩ := Classical.not_forall.mp hi
    obtain ⟨j, h2⟩ := Classical.not_forall.mp h1
    have h3 : i < k ∧ j < k ∧ f i = f j ∧ i ≠ j := by
      refine ⟨Classical.byContradiction (fun g => h2 (fun a => absurd a g)), Classical.byContradiction (fun g => h2 (fun _ b => absurd b g)), Classical.byContradiction (fun g => h2 (fun _ _ e => absurd e g)), fun e => h2 (fun _ _ _ => e)⟩
    exact det_same h3.1 h3.2.1 h3.2.2.2 (fun l _ => by rw [h3.2.2.1])
/-- all minors of a Hermite form's rows -/
theorem herm_all {H : imat} {n r F : Nat} {p : Nat → Nat} (hH : hermF H n r p) (hr : r ≤ 16) (hF : ∀ f c : Nat → Nat, (∀ i, i < r → f i < r) → (∀ i, i < r → c i < n) → zle F (det r (fun i j => zq H (f i) (c j)))) (k : Nat) (f c : Nat → Nat) (hf : ∀ i, i < k → f i < r) (hc : ∀ i, i < k → c i < n) : zle (2 ^ 120 * F) (det k (fun i j => zq H (f i) (c j))) := by
  by_cases hk : k ≤ r
  · exact zle_mono (herm_minors hH hF (r - k) k (by omega) f c hf hc) (Nat.mul_le_mul_right _ (Nat.pow_le_pow_right (by decide) (mlev_le r hr (r - k) (by omega))))
  · rw [det_noninj (M := fun a j => zq H a (c j)) hf (by omega)]
    exact zle_0 _
theorem hturn_det {H : imat} {r k q b : Nat} {f c : Nat → Nat} (hb : ∀ f c : Nat → Nat, (∀ i, i < k → f i < r) → (∀ i, i < k → c i < q) → zle b (det k (fun i j => zq H (f i) (c j)))) (hf : ∀ i, i < k → f i < q) : zle b (det k (fun i j => zq (hturn H r) (f i) (c j))) := by
  rw [← det_T k (fun i j => zq (hturn H r) (f i) (c j))]
  by_cases hc : ∀ j, j < k → c j < r
  · rw [det_congr (N := fun i j => zq H (c i) (f j)) (fun i hi j _ => by
      show ((hturn H r (f j) (c i) : Int) : Rat) = ((H (c i) (f j) : Int) : Rat)
      unfold hturn
      rw [if_pos (hc i hi)])]
    exact hb c f hc hf
  · obtain ⟨j, h1⟩ := Classical.not_forall.mp hc
    have h2 : j < k ∧ ¬ c j < r := ⟨Classical.byContradiction (fun g => h1 (fun a => absurd a g)), fun g => h1 (fun _ => g)⟩
    rw [det_zrow h2.1 (fun i _ => by
      show ((hturn H r (f i) (c j) : Int) : Rat) = 0
      unfold hturn
      rw [if_neg h2.2]; rfl)]
    exact zle_0 _
theorem zprod_one_le {s : Nat → Int} : ∀ {k : Nat}, (∀ i, i < k → 1 ≤ s i) → 1 ≤ zprod s k
  | 0, _ => Int.le_refl _
  | k + 1, h => by
    show 1 ≤ zprod s k * s k
    have h1 := zprod_one_le (k := k) (fun i hi => h i (by omega))
    have h2 := h k (by omega)
    exact Int.mul_pos (by omega) (by omega)
theorem zprod_ge {s : Nat → Int} : ∀ {k : Nat}, (∀ i, i < k → 1 ≤ s i) → ∀ i, i < k → s i ≤ zprod s k
  | 0, _, i, hi => by omega
  | k + 1, h, i, hi => by
    show s i ≤ zprod s k * s k
    have h1 := zprod_one_le (k := k) (fun i hi => h i (by omega))
    have h2 := h k (by omega)
    by_cases c : i = k
    · rw [c]
      have := Int.mul_le_mul_of_nonneg_right h1 (show 0 ≤ s k by omega)
      omega
    · have h3 := zprod_ge (k := k) (fun i hi => h i (by omega)) i (by omega)
      have := Int.mul_le_mul_of_nonneg_left h2 (show 0 ≤ zprod s k by omega)
      omega
theorem zprod_pull {f : Nat → Int} {i : Nat} : ∀ {k : Nat}, i < k → zprod f k = f i * zprod (fun a => if a = i then 1 else f a) k
  | 0, h => by omega
  | k + 1, h => by
    show zprod f k * f k = f i * (zprod (fun a => if a = i then 1 else f a) k * (if k = i then 1 else f k))
    by_cases c : k = i
    · rw [if_pos c, ← c]
      have e : zprod (fun a => if a = k then 1 else f a) k = zprod f k := zprod_congr (fun a ha => if_neg (by omega))
      rw [e, Int.mul_one, Int.mul_comm]
    · rw [if_neg c, zprod_pull (f := f) (i := i) (k := k) (by omega), Int.mul_assoc]
theorem zprod_two {f f' : Nat → Int} {i j k : Nat} (hi : i < k) (hj : j < k) (hij : i ≠ j) (h : f' i * f' j = f i * f j) (ho : ∀ a, a < k → a ≠ i → a ≠ j → f' a = f a) : zprod f' k = zprod f k := by
  have e : ∀ g : Nat → Int, zprod g k = (g i * g j) * zprod (fun a => if a = j then 1 else if a = i then 1 else g a) k := fun g => by
    rw [zprod_pull hi, zprod_pull (f := fun a => if a = i then 1 else g a) hj, if_neg (fun e => hij e.symm), Int.mul_assoc]
  rw [e f', e f, h]
  congr 1
  exact zprod_congr (fun a ha => by
    by_cases c1 : a = j
    · rw [if_pos c1, if_pos c1]
    · rw [if_neg c1, if_neg c1]
      by_cases c2 : a = i
      · rw [if_pos c2, if_pos c2]
      · rw [if_neg c2, if_neg c2, ho a ha c2 c1])
def hpad (H : imat) (r : Nat) : imat := fun i j => if i < r then H i j else 0
theorem isum_grow {f : Nat → Int} {r : Nat} : ∀ {p : Nat}, r ≤ p → (∀ k, r ≤ k → k < p → f k = 0) → isum f p = isum f r
  | 0, h, _ => by rw [show r = 0 by omega]
  | p + 1, h, h0 => by
    by_cases c : r = p + 1
    · rw [c]
    · show isum f p + f p = _
      rw [h0 p (by omega) (by omega), Int.add_zero]
      exact isum_grow (by omega) (fun k h1 h2 => h0 k h1 (by omega))
theorem hturn_eqv {H B X : imat} {p q r : Nat} (h1 : rowsZ H r B p q) (h2 : rowsZ B p H r q) (hr : r ≤ p) (hB : eqvZ B X p q) : eqvZ (hturn H r) (fun i j => X j i) q p := by
  have e1 : rowsZ (hpad H r) p B p q := fun i hi => by
    by_cases c : i < r
    · obtain ⟨u, hu⟩ := h1 i c
      exact ⟨u, fun j hj => by unfold hpad; rw [if_pos c]; exact hu j hj⟩
    · exact ⟨fun _ => 0, fun j hj => by unfold hpad; rw [if_neg c]; exact (isum_zero (fun _ _ => Int.zero_mul _)).symm⟩
  have e2 : rowsZ B p (hpad H r) p q := fun i hi => by
    obtain ⟨u, hu⟩ := h2 i hi
    refine ⟨u, fun j hj => ?_⟩
    rw [hu j hj, isum_grow (r := r) (p := p) hr (fun k k1 _ => by unfold hpad; rw [if_neg (by omega), Int.mul_zero])]
    exact isum_congr (fun k hk => by unfold hpad; rw [if_pos hk])
  have e3 : eqvZ (hpad H r) X p q := eqvZ.trans ⟨madeZ_rows e1, madeZ_rows e2⟩ hB
  have e4 := e3.turn
  have e5 : (fun i j => hpad H r j i) = hturn H r := by
    funext i j
    rfl
  rw [e5] at e4
  exact e4
def smBig (R0 F : Nat) : Nat := 2 * (R0 * (F + 1) + F) + 1
/-- behind the first Hermite form -/
def SSG (R0 : Nat) (B : imat) (p q : Nat) : Prop := ∃ (H : imat) (g : Nat → Nat), hermF H p R0 g ∧ R0 ≤ q ∧ ∀ i, i < p → ∀ j, j < q → B i j = hturn H R0 i j
/-- behind the second -/
def SSQ (R0 F N : Nat) (B : imat) (p q tb : Nat) : Prop := ∃ (H : imat) (s : Nat), hermF H p R0 (fun i => i) ∧ R0 ≤ p ∧ R0 ≤ q ∧ (∀ i, i < p → ∀ j, j < q → B i j = hturn H R0 i j) ∧ (∀ i, i < R0 → ∀ j, R0 ≤ j → j < p → H i j = 0) ∧ s ≤ R0 ∧ (∀ i, i < s → ∀ j, j < R0 → j ≠ i → H i j = 0) ∧ (∀ i, i < R0 → H i i ≤ (F : Int)) ∧ N = 2 * ((R0 - s) * (F + 1) + (if s < R0 then (H s s).toNat else 0)) + (1 - tb)
def SST (Bz : imat) (m n R0 F N : Nat) (B : imat) (p q tb : Nat) : Prop := ((tb = 0 ∧ p = m ∧ q = n) ∨ (tb = 1 ∧ p = n ∧ q = m)) ∧ eqvZ B (if tb = 0 then Bz else fun i j => Bz j i) p q ∧ MBD (zq B) p q (2 ^ 120 * F) ∧ (∀ f c : Nat → Nat, (∀ i, i < R0 → f i < p) → (∀ i, i < R0 → c i < q) → zle F (det R0 (fun i j => zq B (f i) (c j)))) ∧ ((B = Bz ∧ tb = 0 ∧ N = smBig R0 F + 2) ∨ (SSG R0 B p q ∧ N = smBig R0 F + 1) ∨ SSQ R0 F N B p q tb)
theorem SSQ.ssg {R0 F N : Nat} {B : imat} {p q tb : Nat} (h : SSQ R0 F N B p q tb) : SSG R0 B p q := by
  obtain ⟨H, s, h1, h2, h3, h4, -⟩ := h
  exact ⟨H, _, h1, h3, h4⟩
theorem SSQ.big {R0 F N : Nat} {B : imat} {p q tb : Nat} (h : SSQ R0 F N B p q tb) : N ≤ smBig R0 F := by
  obtain ⟨H, s, h1, h2, h3, h4, h5, h6, h7, h8, h9⟩ := h
  rw [h9]
  unfold smBig
  have e1 : (R0 - s) * (F + 1) ≤ R0 * (F + 1) := Nat.mul_le_mul_right _ (by omega)
  have e2 : (if s < R0 then (H s s).toNat else 0) ≤ F := by
    by_cases c : s < R0
    · rw [if_pos c]
      have := h8 s c
      omega
    · rw [if_neg c]; omega
  omega
/-- a turned Hermite form: its Hermite form is square -/
theorem ssg_next {R0 : Nat} {B H : imat} {p q r : Nat} {g : Nat → Nat} (h : SSG R0 B p q) (hH : hermF H q r g) (h1 : rowsZ H r B p q) (h2 : rowsZ B p H r q) : r = R0 ∧ (∀ i, i < R0 → g i = i) ∧ ∀ i, i < R0 → ∀ j, R0 ≤ j → j < q → H i j = 0 := by
  obtain ⟨H', g', k1, k2, k3⟩ := h
  have z : ∀ i, i < r → ∀ j, R0 ≤ j → j < q → H i j = 0 := fun i hi j hj hjq => by
    obtain ⟨u, hu⟩ := h1 i hi
    rw [hu j hjq]
    refine isum_zero (fun k hk => ?_)
    rw [k3 k hk j hjq]
    unfold hturn
    rw [if_neg (by omega), Int.mul_zero]
  have gl : ∀ i, i < r → g i < R0 := fun i hi => Classical.byContradiction (fun c => by
    have e1 := hH.1.2.2.2 i hi
    rw [z i hi (g i) (by omega) (hH.1.1 i hi)] at e1
    omega)
  have gi := rising_ge (p := g) (r := r) hH.1.2.1
  have r1 : r ≤ R0 := by
    rcases Nat.eq_zero_or_pos r with e | e
    · omega
    · have a1 := gi (r - 1) (by omega)
      have a2 := gl (r - 1) (by omega)
      omega
  have r2 : R0 ≤ r := by
    refine minor_le (k := R0) (x := g') (y := fun b => b) (rowsZ_rowsIn h2) (fun i hi => k1.1.1 i hi) (fun i hi => by omega) ?_
    have e := det_T R0 (fun a b => zq H' a (g' b))
    rw [det_congr (N := fun i j => zq H' j (g' i)) (fun a ha b hb => by
      show ((B (g' a) b : Int) : Rat) = ((H' b (g' a) : Int) : Rat)
      rw [k3 _ (k1.1.1 a ha) b (by omega)]
      unfold hturn
      rw [if_pos hb])]
    rw [e]
    exact stairs_minor k1.1
  have er : r = R0 := by omega
  subst er
  have up : ∀ d i, i + d + 1 = r → g i = i := by
    intro d
    induction d with
    | zero =>
      intro i hi
      have a1 := gi i (by omega)
      have a2 := gl i (by omega)
      omega
    | succ d ih =>
      intro i hi
      have a1 := gi i (by omega)
      have a2 := ih (i + 1) (by omega)
      have a3 := hH.1.2.1 i (i + 1) (by omega) (by omega)
      omega
  exact ⟨rfl, fun i hi => up (r - 1 - i) i (by omega), fun i hi j hj hjq => z i hi j hj hjq⟩
theorem hermF_id {H : imat} {n r : Nat} {g : Nat → Nat} (h : hermF H n r g) (hg : ∀ i, i < r → g i = i) : hermF H n r (fun i => i) := by
  obtain ⟨⟨a1, a2, a3, a4⟩, a5⟩ := h
  refine ⟨⟨fun i hi => by have := a1 i hi; rw [hg i hi] at this; exact this, fun i k h1 _ => h1, fun i hi j hj => a3 i hi j (by rw [hg i hi]; exact hj), fun i hi => by have := a4 i hi; rw [hg i hi] at this; exact this⟩, fun i k h1 h2 => by have := a5 i k h1 h2; rw [hg k h2] at this; exact this⟩
theorem hermF_cut {H : imat} {n r : Nat} (h : hermF H n r (fun i => i)) : hermF H r r (fun i => i) := by
  obtain ⟨⟨a1, a2, a3, a4⟩, a5⟩ := h
  exact ⟨⟨fun i hi => hi, a2, a3, a4⟩, a5⟩
theorem herm_diag_le {H : imat} {n r F : Nat} (h : hermF H n r (fun i => i)) (hF : zle F (det r (fun i j => zq H i j))) : (∀ i, i < r → H i i ≤ (F : Int)) ∧ zprod (fun i => H i i) r ≤ (F : Int) := by
  have e := det_upper (k := r) (P := H) (fun i hi j hj => h.1.2.2.1 i hi j hj)
  obtain ⟨z, hz1, hz2⟩ := hF
  have e2 : z = zprod (fun i => H i i) r := by
    apply Rat.intCast_inj.mp
    rw [← hz1, ← e]
  have hp : ∀ i, i < r → 1 ≤ H i i := fun i hi => h.1.2.2.2 i hi
  have h3 : zprod (fun i => H i i) r ≤ (F : Int) := by
    have := zprod_one_le (s := fun i => H i i) hp
    rw [← e2] at this ⊢
    omega
  exact ⟨fun i hi => Int.le_trans (zprod_ge (s := fun i => H i i) hp i hi) h3, h3⟩
theorem sst_smj {Bz : imat} {m n R0 F : Nat} (hR16 : R0 ≤ 16) (hF : 2 ^ 120 * F < 32768 ^ 142) (hR : ∀ H r g, hermF H n r g → rowsZ H r Bz m n → rowsZ Bz m H r n → r = R0) : ∀ N B p q tb, SST Bz m n R0 F N B p q tb → HSZ B p q 142 142 ∧ ∀ H r g, hermF H q r g → rowsZ H r B p q → rowsZ B p H r q → r ≤ p → ∃ N', (SST Bz m n R0 F N' (hturn H r) q p (1 - tb) ∧ SSG R0 (hturn H r) q p) ∧ ((¬ diagZ (hturn H r) q p ∨ 1 - tb = 1) → N' < N) := by
  intro N B p q tb hS
  obtain ⟨a1, a2, a3, a4, a5⟩ := hS
  refine ⟨hsz_ofM a3 hF, fun H r g hH h1 h2 hrp => ?_⟩
  have er : r = R0 := by
    rcases a5 with ⟨b1, b2, b3⟩ | ⟨b1, b2⟩ | b1
    · rcases a1 with ⟨c1, c2, c3⟩ | ⟨c1, c2, c3⟩
      · subst b1 c2 c3
        exact hR H r g hH h1 h2
      · omega
    · exact (ssg_next b1 hH h1 h2).1
    · exact (ssg_next b1.ssg hH h1 h2).1
  subst er
  have hpass := rminor_pass h1 h2 (F := F) a4
  have hall := herm_all hH hR16 hpass
  have n1 : (1 - tb = 0 ∧ q = m ∧ p = n) ∨ (1 - tb = 1 ∧ q = n ∧ p = m) := by omega
  have n2 : eqvZ (hturn H r) (if 1 - tb = 0 then Bz else fun i j => Bz j i) q p := by
    have e := hturn_eqv h1 h2 hrp a2
    rcases a1 with ⟨c1, c2, c3⟩ | ⟨c1, c2, c3⟩
    · rw [if_pos c1] at e
      rw [if_neg (by omega)]
      exact e
    · rw [if_neg (by omega)] at e
      rw [if_pos (by omega)]
      exact e
  have n3 : MBD (zq (hturn H r)) q p (2 ^ 120 * F) := fun k f c hk hf hc => hturn_det (hall k) hf
  have n4 : ∀ f c : Nat → Nat, (∀ i, i < r → f i < q) → (∀ i, i < r → c i < p) → zle F (det r (fun i j => zq (hturn H r) (f i) (c j))) := fun f c hf hc => hturn_det hpass hf
  have hg : SSG r (hturn H r) q p := ⟨H, g, hH, hrp, fun _ _ _ _ => rfl⟩
  have hcell : ∀ {i j : Nat}, j < r → hturn H r i j = H j i := fun {i j} hj => if_pos hj
  have one : zle F (det r (fun i j => zq H i (g j))) := hpass (fun i => i) g (fun i hi => hi) (fun i hi => hH.1.1 i hi)
  rcases a5 with ⟨b1, b2, b3⟩ | ⟨b1, b2⟩ | b1
  · exact ⟨smBig r F + 1, ⟨⟨n1, n2, n3, n4, Or.inr (Or.inl ⟨hg, rfl⟩)⟩, hg⟩, fun _ => by omega⟩
  · obtain ⟨-, d2, d3⟩ := ssg_next b1 hH h1 h2
    have hHi := hermF_id hH d2
    have one' : zle F (det r (fun i j => zq H i j)) := by
      rw [det_congr (N := fun i j => zq H i (g j)) (fun i _ j hj => by rw [d2 j hj])]
      exact one
    have dl := (herm_diag_le hHi one').1
    have hq : SSQ r F (2 * ((r - 0) * (F + 1) + (if 0 < r then (H 0 0).toNat else 0)) + (1 - (1 - tb))) (hturn H r) q p (1 - tb) := ⟨H, 0, hHi, by
      rcases Nat.eq_zero_or_pos r with e | e
      · omega
      · have h9 : r - 1 < q := hHi.1.1 (r - 1) (by omega)
        omega, hrp, fun _ _ _ _ => rfl, d3, Nat.zero_le _, fun i hi => by omega, dl, rfl⟩
    refine ⟨_, ⟨⟨n1, n2, n3, n4, Or.inr (Or.inr hq)⟩, hg⟩, fun _ => ?_⟩
    have := hq.big
    omega
  · obtain ⟨-, d2, d3⟩ := ssg_next b1.ssg hH h1 h2
    obtain ⟨H', s, k1, k2, k3, k4, k5, k6, k7, k8, k9⟩ := b1
    have hHi := hermF_id hH d2
    have one' : zle F (det r (fun i j => zq H i j)) := by
      rw [det_congr (N := fun i j => zq H i (g j)) (fun i _ j hj => by rw [d2 j hj])]
      exact one
    have dl := (herm_diag_le hHi one').1
    have rq : r ≤ q := k3
    have s1 : rowsZ H r (fun i j => H' j i) r r := fun i hi => by
      obtain ⟨u, hu⟩ := h1 i hi
      refine ⟨u, fun j hj => ?_⟩
      rw [hu j (by omega), isum_grow (r := r) (p := p) k2 (fun k hk1 hk2 => by
        rw [k4 k hk2 j (by omega)]
        unfold hturn
        rw [if_pos hj, k5 j hj k hk1 hk2, Int.mul_zero])]
      exact isum_congr (fun k hk => by
        rw [k4 k (by omega) j (by omega)]
        unfold hturn
        rw [if_pos hj])
    have s2 : rowsZ (fun i j => H' j i) r H r r := fun i hi => by
      obtain ⟨u, hu⟩ := h2 i (by omega)
      refine ⟨u, fun j hj => ?_⟩
      rw [← hu j (by omega), k4 i (by omega) j (by omega)]
      unfold hturn
      rw [if_pos hj]
    obtain ⟨t1, t2⟩ := herm_split (hermF_cut k1) (hermF_cut hHi) s1 s2 k6 k7
    have mk : ∀ s', s' ≤ r → (∀ i, i < s' → ∀ j, j < r → j ≠ i → H i j = 0) → SSQ r F (2 * ((r - s') * (F + 1) + (if s' < r then (H s' s').toNat else 0)) + (1 - (1 - tb))) (hturn H r) q p (1 - tb) := fun s' q1 q2 => ⟨H, s', hHi, rq, hrp, fun _ _ _ _ => rfl, d3, q1, q2, dl, rfl⟩
    by_cases c : s < r
    · obtain ⟨t3, t4⟩ := t2 c
      have hp1 := hHi.1.2.2.2 s c
      have hp2 := k1.1.2.2.2 s c
      rw [if_pos c] at k9
      by_cases c2 : H s s = H' s s
      · refine ⟨_, ⟨⟨n1, n2, n3, n4, Or.inr (Or.inr (mk (s + 1) c (fun i hi j hj hne => by
          by_cases c3 : i = s
          · subst c3; exact t4 c2 j hj hne
          · exact (t1 i (by omega)).2 j hj hne)))⟩, hg⟩, fun _ => ?_⟩
        have e1 : (if s + 1 < r then (H (s + 1) (s + 1)).toNat else 0) ≤ F := by
          by_cases c3 : s + 1 < r
          · rw [if_pos c3]
            have := dl (s + 1) c3
            omega
          · rw [if_neg c3]; omega
        have e2 : (r - s) * (F + 1) = (r - (s + 1)) * (F + 1) + (F + 1) := by
          rw [show r - s = (r - (s + 1)) + 1 by omega, Nat.succ_mul]
        rw [k9, e2]
        have hp3 : 0 < H' s s := hp2
        omega
      · refine ⟨_, ⟨⟨n1, n2, n3, n4, Or.inr (Or.inr (mk s k6 (fun i hi => (t1 i hi).2)))⟩, hg⟩, fun _ => ?_⟩
        rw [k9, if_pos c]
        have hp3 : 0 < H s s := hp1
        omega
    · have es : s = r := by omega
      refine ⟨_, ⟨⟨n1, n2, n3, n4, Or.inr (Or.inr (mk s k6 (fun i hi => (t1 i hi).2)))⟩, hg⟩, fun hd => ?_⟩
      rw [k9, es, if_neg (by omega), Nat.sub_self, Nat.zero_mul]
      rcases hd with hd | hd
      · exfalso
        refine hd (fun i hi j hj hne => ?_)
        unfold hturn
        by_cases c3 : j < r
        · rw [if_pos c3]
          by_cases c4 : i < r
          · exact (t1 j (by omega)).2 i c4 hne
          · exact d3 j c3 i (by omega) hi
        · rw [if_neg c3]
      · omega
theorem sst_start {Bz : imat} {m n R0 F : Nat} (hM : MBD (zq Bz) m n F) (hR0 : R0 ≤ min m n) : SST Bz m n R0 F (smBig R0 F + 2) Bz m n 0 := ⟨Or.inl ⟨rfl, rfl, rfl⟩, by rw [if_pos rfl]; exact ⟨madeZ_refl _ _ _, madeZ_refl _ _ _⟩, hM.mono (Nat.le_mul_of_pos_left _ (Nat.pow_pos (by decide))), fun f c hf hc => hM R0 f c hR0 hf hc, Or.inl ⟨rfl, rfl, rfl⟩⟩
/-- on the diagonal -/
def SDJ (Bz : imat) (m n R0 F i j : Nat) (B : imat) : Prop := (diagZ B m n ∧ R0 ≤ min m n ∧ (∀ a, a < min m n → 0 ≤ B a a ∧ (B a a = 0 ↔ R0 ≤ a)) ∧ eqvZ B Bz m n ∧ zprod (fun a => B a a) R0 ≤ (F : Int)) ∧ (∀ a, a < i → ∀ b, a < b → b < min m n → B a a ∣ B b b) ∧ ∀ b, i < b → b < j → b < min m n → B i i ∣ B b b
theorem sst_link {Bz : imat} {m n R0 F N : Nat} {B : imat} (h : SST Bz m n R0 F N B m n 0) (hg : SSG R0 B m n) (hd : diagZ B m n) : SDJ Bz m n R0 F 0 1 B := by
  obtain ⟨a1, a2, a3, a4, a5⟩ := h
  obtain ⟨H, g, k1, k2, k3⟩ := hg
  have gg : ∀ j, j < R0 → g j = j := fun j hj => Classical.byContradiction (fun c => by
    have e1 := hd (g j) (k1.1.1 j hj) j (by omega) c
    rw [k3 _ (k1.1.1 j hj) j (by omega)] at e1
    unfold hturn at e1
    rw [if_pos hj] at e1
    have := k1.1.2.2.2 j hj
    omega)
  have hR : R0 ≤ m := by
    rcases Nat.eq_zero_or_pos R0 with e | e
    · omega
    · have h1 := k1.1.1 (R0 - 1) (by omega)
      rw [gg _ (by omega)] at h1
      omega
  have cl : ∀ a, a < min m n → B a a = if a < R0 then H a a else 0 := fun a ha => k3 a (by omega) a (by omega)
  have hHi := hermF_id k1 gg
  have e9 : zle F (det R0 (fun i j => zq H i j)) := by
    have e := a4 (fun i => i) (fun i => i) (fun i hi => by omega) (fun i hi => by omega)
    rw [← det_T R0 (fun i j => zq H i j)]
    rw [det_congr (N := fun i j => zq H j i) (fun i hi j hj => by
      show ((B i j : Int) : Rat) = ((H j i : Int) : Rat)
      rw [k3 i (by omega) j (by omega)]
      unfold hturn
      rw [if_pos hj])] at e
    exact e
  refine ⟨⟨hd, by omega, fun a ha => ?_, by rw [if_pos rfl] at a2; exact a2, ?_⟩, fun a ha => by omega, fun b h1 h2 => by omega⟩
  · rw [cl a ha]
    by_cases c : a < R0
    · rw [if_pos c]
      have h9 : 0 < H a a := hHi.1.2.2.2 a c
      exact ⟨by omega, by omega⟩
    · rw [if_neg c]
      exact ⟨Int.le_refl _, by omega⟩
  · have e : zprod (fun a => B a a) R0 = zprod (fun a => H a a) R0 := zprod_congr (fun a ha => by
      show B a a = H a a
      rw [cl a (by omega), if_pos ha])
    rw [e]
    exact (herm_diag_le hHi e9).2
theorem sml_dvd (x y : Int) : y ∣ sml x y := by
  unfold sml
  by_cases c : Int.gcd x y = 0
  · rw [if_pos c]; exact Int.dvd_zero _
  · rw [if_neg c]
    exact Int.dvd_natAbs.mpr (Int.dvd_mul_left _ _)
theorem sml_mul {x y : Int} (hx : 0 ≤ x) (hy : 0 ≤ y) : (Int.gcd x y : Int) * sml x y = x * y := by
  unfold sml
  by_cases c : Int.gcd x y = 0
  · rw [if_pos c, Int.mul_zero]
    have := (Int.gcd_eq_zero_iff.mp c).1
    rw [this, Int.zero_mul]
  · rw [if_neg c]
    have e1 : (x.natAbs : Int) = x := by omega
    rw [e1]
    obtain ⟨k, hk⟩ := Int.gcd_dvd_left x y
    obtain ⟨gg, eg⟩ : ∃ gg : Int, (Int.gcd x y : Int) = gg := ⟨_, rfl⟩
    have hg : 0 < gg := by omega
    rw [eg] at hk ⊢
    have e2 : x / gg = k := by rw [hk]; exact Int.mul_ediv_cancel_left _ (by omega)
    rw [e2]
    have hk0 : 0 ≤ k := Classical.byContradiction (fun g => by
      have : gg * k < 0 := Int.mul_neg_of_pos_of_neg hg (by omega)
      omega)
    have e3 : ((k * y).natAbs : Int) = k * y := by
      have := Int.mul_nonneg hk0 hy
      omega
    rw [e3, ← Int.mul_assoc, ← hk]
theorem sdj_step {Bz : imat} {m n R0 F i j : Nat} {B : imat} (hij : i < j) (hj : j < min m n) (h : SDJ Bz m n R0 F i j B) : SDJ Bz m n R0 F i (j + 1) (sstep B i j) := by
  obtain ⟨⟨a1, a2, a3, a4, a5⟩, a6, a7⟩ := h
  have hx := a3 i (by omega)
  have hy := a3 j hj
  obtain ⟨x, ex⟩ : ∃ x, B i i = x := ⟨_, rfl⟩
  obtain ⟨y, ey⟩ : ∃ y, B j j = y := ⟨_, rfl⟩
  have si : sstep B i j i i = (Int.gcd x y : Int) := by unfold sstep; rw [if_pos ⟨rfl, rfl⟩, ex, ey]
  have sj : sstep B i j j j = sml x y := by unfold sstep; rw [if_neg (by omega), if_pos ⟨rfl, rfl⟩, ex, ey]
  have so : ∀ a b, ¬ (a = i ∧ b = i) → ¬ (a = j ∧ b = j) → sstep B i j a b = B a b := fun a b h1 h2 => by unfold sstep; rw [if_neg h1, if_neg h2]
  rw [ex] at hx
  rw [ey] at hy
  have gx : (Int.gcd x y : Int) ∣ x := Int.gcd_dvd_left x y
  have gy : (Int.gcd x y : Int) ∣ y := Int.gcd_dvd_right x y
  have ly := sml_dvd x y
  have gl := sml_mul hx.1 hy.1
  have l0 : 0 ≤ sml x y := by
    unfold sml
    split
    · exact Int.le_refl _
    · exact Int.natCast_nonneg _
  have hdz : diagZ (sstep B i j) m n := fun a ha b hb hne => by
    rw [so a b (by omega) (by omega)]
    exact a1 a ha b hb hne
  have zero : R0 ≤ j → (Int.gcd x y : Int) = x ∧ sml x y = 0 := fun hjr => by
    have hy0 : y = 0 := hy.2.mpr hjr
    subst hy0
    refine ⟨?_, Int.zero_dvd.mp ly⟩
    rw [Int.gcd_zero_right]
    have := hx.1
    omega
  have hnz : ∀ a, a < min m n → 0 ≤ sstep B i j a a ∧ (sstep B i j a a = 0 ↔ R0 ≤ a) := fun a ha => by
    by_cases c1 : a = i
    · subst c1
      rw [si]
      refine ⟨Int.natCast_nonneg _, ?_⟩
      by_cases c2 : R0 ≤ j
      · rw [(zero c2).1]; exact hx.2
      · have hxn : x ≠ 0 := fun e => by have := hx.2.mp e; omega
        have : Int.gcd x y ≠ 0 := fun e => hxn (Int.gcd_eq_zero_iff.mp e).1
        constructor
        · intro e; omega
        · intro e; omega
    · by_cases c3 : a = j
      · subst c3
        rw [sj]
        refine ⟨l0, ?_⟩
        by_cases c2 : R0 ≤ a
        · rw [(zero c2).2]
          exact ⟨fun _ => c2, fun _ => rfl⟩
        · have hxn : x ≠ 0 := fun e => by have := hx.2.mp e; omega
          have hyn : y ≠ 0 := fun e => c2 (hy.2.mp e)
          constructor
          · intro e
            rw [e, Int.mul_zero] at gl
            rcases Int.mul_eq_zero.mp gl.symm with g | g
            · exact absurd g hxn
            · exact absurd g hyn
          · intro e; exact absurd e c2
      · rw [so a a (by omega) (by omega)]; exact a3 a ha
  have hev : eqvZ (sstep B i j) Bz m n := by
    refine eqvZ.trans ?_ a4
    by_cases c2 : R0 ≤ j
    · have e : ∀ a b, sstep B i j a b = B a b := fun a b => by
        by_cases c3 : a = i ∧ b = i
        · rw [c3.1, c3.2, si, (zero c2).1, ex]
        · by_cases c4 : a = j ∧ b = j
          · rw [c4.1, c4.2, sj, (zero c2).2, ey]; exact (hy.2.mpr c2).symm
          · exact so a b c3 c4
      rw [show sstep B i j = B from funext (fun a => funext (fun b => e a b))]
      exact ⟨madeZ_refl _ _ _, madeZ_refl _ _ _⟩
    · obtain ⟨u, v, huv⟩ := gI_bez x y
      have hxn : x ≠ 0 := fun e => by have := hx.2.mp e; omega
      have hgn : (Int.gcd x y : Int) ≠ 0 := fun e => by
        have h9 : Int.gcd x y = 0 := by omega
        exact hxn (Int.gcd_eq_zero_iff.mp h9).1
      exact eqvZ.gcdlcm (i := i) (j := j) (u := u) (v := v) (by omega) (by omega) (by omega) (by omega) (by omega) ex ey (fun b hb hne => a1 i (by omega) b hb (fun e => hne e.symm)) (fun b hb hne => a1 j (by omega) b hb (fun e => hne e.symm)) (fun a ha hne => a1 a ha i (by omega) hne) (fun a ha hne => a1 a ha j (by omega) hne) hgn gx gy huv.symm gl (fun a _ b _ h1 h2 => so a b h1 h2) si sj
  have hpr : zprod (fun a => sstep B i j a a) R0 ≤ (F : Int) := by
    by_cases c2 : R0 ≤ j
    · have e : zprod (fun a => sstep B i j a a) R0 = zprod (fun a => B a a) R0 := zprod_congr (fun a ha => by
        show sstep B i j a a = B a a
        by_cases c3 : a = i
        · rw [c3, si, (zero c2).1, ex]
        · exact so a a (by omega) (by omega))
      rw [e]; exact a5
    · rw [zprod_two (f := fun a => B a a) (i := i) (j := j) (by omega) (by omega) (by omega) (by
        show sstep B i j i i * sstep B i j j j = B i i * B j j
        rw [si, sj, ex, ey]; exact gl) (fun a _ h1 h2 => so a a (by omega) (by omega))]
      exact a5
  refine ⟨⟨hdz, a2, hnz, hev, hpr⟩, fun a ha b hab hb => ?_, fun b h1 h2 h3 => ?_⟩
  · rw [so a a (by omega) (by omega)]
    by_cases c1 : b = i
    · rw [c1, si]
      have d1 := a6 a ha i ha (by omega)
      have d2 := a6 a ha j (by omega) hj
      rw [ex] at d1
      rw [ey] at d2
      exact Int.dvd_coe_gcd d1 d2
    · by_cases c2 : b = j
      · rw [c2, sj]
        have d2 := a6 a ha j (by omega) hj
        rw [ey] at d2
        exact Int.dvd_trans d2 ly
      · rw [so b b (by omega) (by omega)]; exact a6 a ha b hab hb
  · rw [si]
    by_cases c2 : b = j
    · rw [c2, sj]; exact Int.dvd_trans gy ly
    · rw [so b b (by omega) (by omega)]
      have := a7 b h1 (by omega) h3
      rw [ex] at this
      exact Int.dvd_trans gx this
theorem sdj_dgj {Bz : imat} {m n R0 F s : Nat} (hF : F < 32768 ^ s) : DGJ (SDJ Bz m n R0 F) m n s := by
  have size : ∀ {i j : Nat} {B : imat}, SDJ Bz m n R0 F i j B → ∀ a, a < min m n → (B a a).natAbs ≤ F := fun {i j B} h a ha => by
    obtain ⟨⟨a1, a2, a3, a4, a5⟩, a6, a7⟩ := h
    by_cases c : a < R0
    · have hp : ∀ i, i < R0 → 1 ≤ (fun a => B a a) i := fun i hi => by
        have := a3 i (by omega)
        show 1 ≤ B i i
        omega
      have := zprod_ge (s := fun a => B a a) hp a c
      have h0 := (a3 a ha).1
      have h2 : B a a ≤ (F : Int) := Int.le_trans this a5
      omega
    · have := (a3 a ha).2.mpr (by omega)
      rw [this]; exact Nat.zero_le _
  refine ⟨fun i j B h1 h2 h => sdj_step h1 h2 h, fun i B h1 h => ⟨h.1, fun a ha b hab hb => ?_, fun b h2 h3 => by omega⟩, fun i j B h => ⟨fun a b ha hb => ?_, fun h1 h2 => ?_⟩⟩
  · by_cases c : a = i
    · subst c; exact h.2.2 b hab hb hb
    · exact h.2.1 a (by omega) b hab hb
  · by_cases c : a = b
    · subst c; exact ZB.of_le (size h a (by omega)) hF
    · rw [h.1.1 a ha b hb c]; exact ZB.of_le (Nat.zero_le F) hF
  · have h' := sdj_step h1 h2 h
    have e1 := size h' i (by omega)
    have e2 := size h' j h2
    have si : sstep B i j i i = (Int.gcd (B i i) (B j j) : Int) := by unfold sstep; rw [if_pos ⟨rfl, rfl⟩]
    have sj : sstep B i j j j = sml (B i i) (B j j) := by unfold sstep; rw [if_neg (by omega), if_pos ⟨rfl, rfl⟩]
    rw [si] at e1
    rw [sj] at e2
    exact ⟨ZB.of_le e1 hF, ZB.of_le e2 hF⟩
