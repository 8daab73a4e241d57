/-! ===== Bareiss with whole numbers: what the class's elimination keeps ===== -/
def PMT (σ τ : Nat → Nat) (m : Nat) : Prop := (∀ i, i < m → σ i < m ∧ τ (σ i) = i) ∧ ∀ i, i < m → τ i < m ∧ σ (τ i) = i
theorem PMT.id (m : Nat) : PMT (fun i => i) (fun i => i) m := ⟨fun _ h => ⟨h, rfl⟩, fun _ h => ⟨h, rfl⟩⟩
/-- rows r and p change places -/
def swp (r p i : Nat) : Nat := if i = r then p else if i = p then r else i
theorem swp_swp (r p i : Nat) : swp r p (swp r p i) = i := by
  unfold swp
  repeat' split
  all_goals omega
theorem swp_comm (r p i : Nat) : swp r p i = swp p r i := by
  unfold swp
  repeat' split
  all_goals omega
theorem swp_self (r i : Nat) : swp r r i = i := by
  unfold swp
  repeat' split
  all_goals omega
theorem swp_lt {r p i m : Nat} (hr : r < m) (hp : p < m) (hi : i < m) : swp r p i < m := by
  unfold swp
  repeat' split
  all_goals omega
theorem PMT.swap {σ τ : Nat → Nat} {m r p : Nat} (h : PMT σ τ m) (hr : r < m) (hp : p < m) : PMT (fun i => σ (swp r p i)) (fun i => swp r p (τ i)) m := by
  refine ⟨fun i hi => ?_, fun i hi => ?_⟩
  · obtain ⟨h1, h2⟩ := h.1 _ (swp_lt hr hp hi)
    exact ⟨h1, by dsimp only; rw [h2, swp_swp]⟩
  · obtain ⟨h1, h2⟩ := h.2 _ hi
    exact ⟨swp_lt hr hp h1, by dsimp only; rw [swp_swp, h2]⟩
def sgn1 (sw : Nat) : Rat := if sw = 1 then -1 else 1
theorem sgn1_not {sw : Nat} (h : sw ≤ 1) : sgn1 (1 - sw) = -sgn1 sw := by
  rcases (show sw = 0 ∨ sw = 1 by omega) with e | e <;> rw [e] <;> unfold sgn1 <;> grind
/-- the state of Bareiss' elimination: Az as it was loaded, Z as it stands, columns before c done, rk pivots in the columns p, the last of them L; A is Az with its rows in another order, B and E what elimination with fractions makes of it -/
def BAR (Az Z : imat) (m w c rk sw : Nat) (p : Nat → Nat) (L : Int) (A B E : qmat) : Prop :=
  fwinv A B m rk p ∧ gjinv E m c rk p ∧ (∀ i, rk ≤ i → i < m → ∀ j, B i j = E i j) ∧ (∀ i, i < m → ∀ j, j < w → ((Z i j : Int) : Rat) = qprod (fun l => B l (p l)) (min i rk) * B i j) ∧ ((L : Int) : Rat) = qprod (fun l => B l (p l)) rk ∧ (∃ σ τ, PMT σ τ m ∧ ∀ i, i < m → ∀ j, A i j = ((Az (σ i) j : Int) : Rat)) ∧ (sw ≤ 1 ∧ ∀ h : Nat → Nat, det m (fun a b => A a (h b)) = sgn1 sw * det m (fun a b => ((Az a (h b) : Int) : Rat))) ∧ rowsIn E m A m w ∧ rowsIn A m E m w
theorem BAR.start (Az : imat) (m w : Nat) (p : Nat → Nat) : BAR Az Az m w 0 0 0 p 1 (fun i j => ((Az i j : Int) : Rat)) (fun i j => ((Az i j : Int) : Rat)) (fun i j => ((Az i j : Int) : Rat)) := by
  refine ⟨fwinv_start _ _ _, gjinv_start _ _ _, fun _ _ _ _ => rfl, fun i _ j _ => ?_, rfl, ⟨_, _, PMT.id m, fun _ _ _ => rfl⟩, ⟨by omega, fun h => ?_⟩, rowsIn_refl, rowsIn_refl⟩
  · rw [Nat.min_eq_right (Nat.zero_le i)]
    show _ = 1 * _
    grind
  · show _ = (if 0 = 1 then (-1 : Rat) else 1) * _
    rw [if_neg (by omega)]
    grind
section BARS
variable {Az Z Z' : imat} {m w c rk sw pv : Nat} {p : Nat → Nat} {L : Int} {A B E : qmat}
theorem BAR.none (h : BAR Az Z m w c rk sw p L A B E) (hc : c < w) (h0 : ∀ i, rk ≤ i → i < m → Z i c = 0) : BAR Az Z m w (c + 1) rk sw p L A B E := by
  obtain ⟨h1, h2, h3, h4, h5, h6, h7, h8, h9⟩ := h
  refine ⟨h1, gjinv_none h2 (fun i hi him => ?_), h3, h4, h5, h6, h7, h8, h9⟩
  have e := h4 i him c hc
  rw [h0 i hi him, Nat.min_eq_right hi] at e
  have n0 : qprod (fun l => B l (p l)) rk ≠ 0 := qprod_ne (fun l hl => h1.2.2.2 l hl)
  rw [← h3 i hi him]
  have e2 : qprod (fun l => B l (p l)) rk * B i c = 0 := by rw [← e]; rfl
  grind
theorem BAR.ne (h : BAR Az Z m w c rk sw p L A B E) : L ≠ 0 := fun e => by
  have n0 : qprod (fun l => B l (p l)) rk ≠ 0 := qprod_ne (fun l hl => h.1.2.2.2 l hl)
  have := h.2.2.2.2.1
  rw [e] at this
  exact n0 this.symm
theorem BAR.below (h : BAR Az Z m w c rk sw p L A B E) {i j : Nat} (hi : rk ≤ i) (him : i < m) (hj : j < w) : ((Z i j : Int) : Rat) = (L : Rat) * B i j := by
  rw [h.2.2.2.1 i him j hj, Nat.min_eq_right hi, h.2.2.2.2.1]
theorem BAR.zero (h : BAR Az Z m w c rk sw p L A B E) {i j : Nat} (hi : rk ≤ i) (him : i < m) (hj : j < w) (hc : j < c) : Z i j = 0 := by
  have e := h.below hi him hj
  rw [h.2.2.1 i hi him, h.2.1.2.2.2.2.2.2 i hi him j hc] at e
  have : ((Z i j : Int) : Rat) = ((0 : Int) : Rat) := by rw [e]; show _ * (0 : Rat) = 0; grind
  exact Rat.intCast_inj.mp this
theorem BAR.fwz (h : BAR Az Z m w c rk sw p L A B E) : ∀ i, rk ≤ i → i < m → ∀ l, l < rk → B i (p l) = 0 := fun i hi him l hl => h.1.2.2.1 i him l hl (by omega)
theorem BAR.piv (h : BAR Az Z m w c rk sw p L A B E) (hp : rk ≤ pv) (hpm : pv < m) (hc : c < w) (h0 : Z pv c ≠ 0) : B pv c ≠ 0 := fun e => by
  have q := h.below hp hpm hc
  rw [e] at q
  have : ((Z pv c : Int) : Rat) = ((0 : Int) : Rat) := by rw [q]; show _ * (0 : Rat) = 0; grind
  exact h0 (Rat.intCast_inj.mp this)
theorem BAR.prod (h : BAR Az Z m w c rk sw p L A B E) (hp : rk ≤ pv) : qprod (fun l => fw B rk pv c l (if l = rk then c else p l)) (rk + 1) = (L : Rat) * B pv c := by
  show qprod _ rk * _ = _
  rw [h.2.2.2.2.1]
  have e1 : qprod (fun l => fw B rk pv c l (if l = rk then c else p l)) rk = qprod (fun l => B l (p l)) rk := qprod_congr (fun l hl => by
    unfold fw
    rw [if_pos (by omega), if_neg (by omega)]
    unfold rswap
    rw [if_neg (by omega), if_neg (by omega)])
  have e2 : fw B rk pv c rk (if rk = rk then c else p rk) = B pv c := by
    unfold fw
    rw [if_pos (Nat.le_refl _), if_pos rfl]
    unfold rswap
    rw [if_pos rfl]
  rw [e1]
  show _ * fw B rk pv c rk (if rk = rk then c else p rk) = _
  rw [e2]
theorem rswap_swp (M : qmat) (r p i j : Nat) : rswap M r p i j = M (swp r p i) j := rfl
theorem swp_ge {r p i : Nat} (hp : r ≤ p) (hi : r ≤ i) : r ≤ swp r p i := by
  unfold swp
  repeat' split
  all_goals omega
/-- each new cell is a minor of the loaded matrix -/
theorem BAR.exact (h : BAR Az Z m w c rk sw p L A B E) (hp : rk ≤ pv) (hpm : pv < m) (hc : c < w) (h0 : Z pv c ≠ 0) {i j : Nat} (hi : rk < i) (him : i < m) (hj : j < w) : ∃ z : Int, z * L = Z pv c * Z (swp rk pv i) j - Z (swp rk pv i) c * Z pv j ∧ ((z : Int) : Rat) = bmin (rswap A rk pv) (rk + 1) (fun l => if l = rk then c else p l) i j ∧ ((z : Int) : Rat) = (L : Rat) * B pv c * fw B rk pv c i j := by
  have b0 := h.piv hp hpm hc h0
  have f1 := fwinv_step h.1 hp hpm b0 h.fwz
  have mn := fwinv_minor f1 (i := i) (k := j) (by omega) him
  rw [h.prod hp] at mn
  obtain ⟨σ, τ, hpm1, hA⟩ := h.2.2.2.2.2.1
  have hz : isZ (bmin (rswap A rk pv) (rk + 1) (fun l => if l = rk then c else p l) i j) := by
    unfold bmin
    refine isZ_det (fun a ha b _ => ?_)
    dsimp only
    have hx : (if a < rk + 1 then a else i) < m := by split <;> omega
    rw [rswap_swp, hA _ (swp_lt (by omega) hpm hx)]
    exact ⟨_, rfl⟩
  obtain ⟨z, hz⟩ := hz
  have hL : (L : Rat) ≠ 0 := fun e => h.ne (Rat.intCast_inj.mp (by rw [e]; rfl))
  have br := bareiss_rule (B := B) (r := rk) (p := pv) (c := c) (i := i) (k := j) hL b0 hi
  refine ⟨z, ?_, hz.symm, by rw [← mn, hz]⟩
  have s1 := swp_ge hp (show rk ≤ i by omega)
  have s2 : swp rk pv i < m := swp_lt (by omega) hpm him
  have q1 := h.below hp hpm hc
  have q2 := h.below hp hpm hj
  have q3 := h.below s1 s2 hj
  have q4 := h.below s1 s2 hc
  rw [rswap_swp, rswap_swp, ← q1, ← q2, ← q3, ← q4, q1, ← mn, hz] at br
  apply Rat.intCast_inj.mp
  rw [Rat.intCast_mul, Rat.intCast_sub, Rat.intCast_mul, Rat.intCast_mul, br]
  grind
/-- one pivot more -/
theorem BAR.step (h : BAR Az Z m w c rk sw p L A B E) (hp : rk ≤ pv) (hpm : pv < m) (hc : c < w) (h0 : Z pv c ≠ 0) (z1 : ∀ i, i < rk → ∀ j, j < w → Z' i j = Z i j) (z2 : ∀ j, j < w → Z' rk j = Z pv j) (z3 : ∀ i, rk < i → i < m → (∀ j, j < c → Z' i j = 0) ∧ Z' i c = 0 ∧ ∀ j, c < j → j < w → Z' i j * L = Z pv c * Z (swp rk pv i) j - Z (swp rk pv i) c * Z pv j) : BAR Az Z' m w (c + 1) (rk + 1) (if pv = rk then sw else 1 - sw) (fun l => if l = rk then c else p l) (Z pv c) (rswap A rk pv) (fw B rk pv c) (gj E rk pv c) := by
  have b0 := h.piv hp hpm hc h0
  have hq := h.prod hp
  have hbel : ∀ i j : Nat, rk ≤ i → i < m → j < w → ((Z i j : Int) : Rat) = (L : Rat) * B i j := fun i j a b c => h.below a b c
  have hzer : ∀ i j : Nat, rk ≤ i → i < m → j < w → j < c → Z i j = 0 := fun i j a b c d => h.zero a b c d
  have hex : ∀ i j : Nat, rk < i → i < m → j < w → ∃ z : Int, z * L = Z pv c * Z (swp rk pv i) j - Z (swp rk pv i) c * Z pv j ∧ ((z : Int) : Rat) = bmin (rswap A rk pv) (rk + 1) (fun l => if l = rk then c else p l) i j ∧ ((z : Int) : Rat) = (L : Rat) * B pv c * fw B rk pv c i j := fun i j a b d => h.exact hp hpm hc h0 a b d
  have hne := h.ne
  obtain ⟨h1, h2, h3, h4, h5, ⟨σ, τ, h6, h6a⟩, ⟨h7, h7a⟩, h8, h9⟩ := h
  have e0 : E pv c ≠ 0 := by rw [← h3 pv hp hpm]; exact b0
  refine ⟨fwinv_step h1 hp hpm b0 (fun i hi him l hl => h1.2.2.1 i him l hl (by omega)), gjinv_step h2 hp hpm e0, joint_step h3 hp hpm, fun i him j hj => ?_, ?_, ⟨_, _, h6.swap (show rk < m by omega) hpm, fun i hi j => ?_⟩, ⟨by split <;> omega, fun f => ?_⟩, ?_, ?_⟩
  · rcases Nat.lt_trichotomy i rk with e | e | e
    · rw [z1 i e j hj, h4 i him j hj, Nat.min_eq_left (by omega), Nat.min_eq_left (by omega)]
      have x1 : qprod (fun l => fw B rk pv c l (if l = rk then c else p l)) i = qprod (fun l => B l (p l)) i := qprod_congr (fun l hl => by
        unfold fw
        rw [if_pos (by omega), if_neg (by omega)]
        unfold rswap
        rw [if_neg (by omega), if_neg (by omega)])
      rw [x1]
      unfold fw
      rw [if_pos (by omega)]
      unfold rswap
      rw [if_neg (by omega), if_neg (by omega)]
    · subst e
      rw [z2 j hj, hbel _ _ hp hpm hj, Nat.min_eq_left (by omega), h5]
      have x1 : qprod (fun l => fw B i pv c l (if l = i then c else p l)) i = qprod (fun l => B l (p l)) i := qprod_congr (fun l hl => by
        unfold fw
        rw [if_pos (by omega), if_neg (by omega)]
        unfold rswap
        rw [if_neg (by omega), if_neg (by omega)])
      rw [x1]
      unfold fw
      rw [if_pos (Nat.le_refl _)]
      unfold rswap
      rw [if_pos rfl]
    · rw [Nat.min_eq_right (by omega), hq]
      obtain ⟨z, q1, q2, q3⟩ := hex _ _ e him hj
      rw [← q3]
      obtain ⟨a1, a2, a3⟩ := z3 i e him
      have s1 := swp_ge hp (show rk ≤ i by omega)
      have s2 : swp rk pv i < m := swp_lt (by omega) hpm him
      congr 1
      have : Z' i j * L = z * L := by
        rw [q1]
        rcases Nat.lt_trichotomy j c with f | f | f
        · rw [a1 j f, hzer _ _ s1 s2 hj f, hzer _ _ hp hpm hj f]; simp
        · rw [f, a2, Int.mul_comm (Z (swp rk pv i) c), Int.sub_self, Int.zero_mul]
        · exact a3 j f hj
      exact Int.eq_of_mul_eq_mul_right hne this
  · rw [hq]; exact hbel _ _ hp hpm hc
  · rw [rswap_swp, h6a _ (swp_lt (by omega) hpm hi)]
  · by_cases e : pv = rk
    · rw [if_pos e, ← h7a f]
      refine det_congr (fun a _ b _ => ?_)
      rw [rswap_swp, e]
      congr 1
      unfold swp
      split <;> simp_all
    · rw [if_neg e, sgn1_not h7, Rat.neg_mul, ← h7a f]
      exact det_swap (M := fun a b => A a (f b)) (show rk < m by omega) hpm (Ne.symm e)
  · refine rowsIn_trans (gj_in (show rk < m by omega) hpm) (rowsIn_trans h8 (fun i hi => ?_))
    refine ⟨fun k => if k = swp rk pv i then 1 else 0, fun j _ => ?_⟩
    rw [qsum_one (swp_lt (show rk < m by omega) hpm hi) (fun x _ hx => by dsimp only; rw [if_neg hx]; grind)]
    dsimp only
    rw [if_pos rfl, rswap_swp, swp_swp]
    grind
  · refine rowsIn_trans (fun i hi => ?_) (rowsIn_trans h9 (gj_back (show rk < m by omega) hpm e0))
    refine ⟨fun k => if k = swp rk pv i then 1 else 0, fun j _ => ?_⟩
    rw [qsum_one (swp_lt (show rk < m by omega) hpm hi) (fun x _ hx => by dsimp only; rw [if_neg hx]; grind)]
    dsimp only
    rw [if_pos rfl, rswap_swp]
    grind
theorem bmin_le {A : qmat} {b K r i k m w : Nat} {g : Nat → Nat} (hA : ∀ x, x < m → ∀ y, y < w → zle b (A x y)) (hr : r ≤ i) (hi : i < m) (hk : k < w) (hg : ∀ l, l < r → g l < w) (hK : r + 1 ≤ K) : zle ((K * b) ^ (r + 1)) (bmin A r g i k) := by
  unfold bmin
  refine zle_det hK (fun a ha c hc => hA _ ?_ _ ?_)
  · split <;> omega
  · split
    · exact hg _ (by assumption)
    · exact hk
theorem BAR.minor (h : BAR Az Z m w c rk sw p L A B E) {i j : Nat} (hi : i < m) (hj : j < w) : ((Z i j : Int) : Rat) = bmin A (min i rk) p i j := by
  rw [h.2.2.2.1 i hi j hj]
  rcases Nat.lt_or_ge i rk with e | e
  · rw [Nat.min_eq_left (by omega)]
    obtain ⟨f1, ⟨x, f2⟩, f3, f4⟩ := h.1
    have f' : fwinv A B (i + 1) i p := ⟨by omega, ⟨x, fun a ha b => by rw [f2 a (by omega) b, Nat.min_eq_left (show a ≤ rk by omega), Nat.min_eq_left (show a ≤ i by omega)]⟩, fun a ha l hl hla => f3 a (by omega) l (by omega) hla, fun l hl => f4 l (by omega)⟩
    rw [fwinv_minor f' (Nat.le_refl i) (by omega)]
  · rw [Nat.min_eq_right e, fwinv_minor h.1 e hi]
/-- no cell is longer than the weight says -/
theorem BAR.small (h : BAR Az Z m w c rk sw p L A B E) {b K : Nat} (hb : ∀ x, x < m → ∀ y, y < w → (Az x y).natAbs ≤ b) (hcw : c ≤ w) {i j : Nat} (hi : i < m) (hj : j < w) (hK : min i rk + 1 ≤ K) : (Z i j).natAbs ≤ (K * b) ^ (min i rk + 1) := by
  obtain ⟨σ, τ, h6, h6a⟩ := h.2.2.2.2.2.1
  have hpc := h.2.1.2.1
  obtain ⟨z, e, hz⟩ := bmin_le (A := A) (b := b) (K := K) (r := min i rk) (i := i) (k := j) (m := m) (w := w) (g := p) (fun x hx y hy => ⟨Az (σ x) y, h6a x hx y, hb _ (h6.1 x hx).1 y hy⟩) (Nat.min_le_left _ _) hi hj (fun l hl => Nat.lt_of_lt_of_le (hpc l (by omega)) hcw) hK
  rw [← h.minor hi hj] at e
  rw [Rat.intCast_inj.mp e]
  exact hz
theorem BAR.smallnew (h : BAR Az Z m w c rk sw p L A B E) {b K : Nat} (hb : ∀ x, x < m → ∀ y, y < w → (Az x y).natAbs ≤ b) (hp : rk ≤ pv) (hpm : pv < m) (hc : c < w) (h0 : Z pv c ≠ 0) {i j : Nat} (hi : rk < i) (him : i < m) (hj : j < w) (hK : rk + 2 ≤ K) : ∃ z : Int, z * L = Z pv c * Z (swp rk pv i) j - Z (swp rk pv i) c * Z pv j ∧ z.natAbs ≤ (K * b) ^ (rk + 2) := by
  obtain ⟨z, e1, e2, _⟩ := h.exact hp hpm hc h0 hi him hj
  refine ⟨z, e1, ?_⟩
  obtain ⟨σ, τ, h6, h6a⟩ := h.2.2.2.2.2.1
  have hpc := h.2.1.2.1
  obtain ⟨y, f1, f2⟩ := bmin_le (A := rswap A rk pv) (b := b) (K := K) (r := rk + 1) (i := i) (k := j) (m := m) (w := w) (g := fun l => if l = rk then c else p l) (fun x hx y hy => ⟨Az (σ (swp rk pv x)) y, by rw [rswap_swp, h6a _ (swp_lt (by omega) hpm hx)], hb _ (h6.1 _ (swp_lt (by omega) hpm hx)).1 y hy⟩) (by omega) him hj (fun l hl => by
    split
    · exact hc
    · exact Nat.lt_trans (hpc l (by omega)) hc) hK
  rw [← e2] at f1
  rw [Rat.intCast_inj.mp f1]
  exact f2
end BARS
