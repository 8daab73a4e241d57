/-! ===== Bareiss, backwards: the echelon form times the last pivot is whole ===== -/
section BARB
variable {Az Z : imat} {m w c rk sw : Nat} {p : Nat → Nat} {L : Int} {A B E : qmat}
/-- all rows without a pivot are 0 -/
def BEZ (Z : imat) (m w rk : Nat) : Prop := ∀ i, rk ≤ i → i < m → ∀ j, j < w → Z i j = 0
theorem BAR.bz (h : BAR Az Z m w w rk sw p L A B E) : BEZ Z m w rk := fun _ hi him _ hj => h.zero hi him hj hj
theorem BAR.ez (h : BAR Az Z m w c rk sw p L A B E) (hz : BEZ Z m w rk) {i j : Nat} (hi : rk ≤ i) (him : i < m) (hj : j < w) : E i j = 0 := by
  have e := h.below hi him hj
  rw [hz i hi him j hj, h.2.2.1 i hi him] at e
  have hL : (L : Rat) ≠ 0 := fun e => h.ne (Rat.intCast_inj.mp (by rw [e]; rfl))
  have e2 : (L : Rat) * E i j = 0 := by rw [← e]; rfl
  grind
theorem BAR.rrf (h : BAR Az Z m w c rk sw p L A B E) (hc : c ≤ w) : rref E w rk p := by
  obtain ⟨a1, a2, a3, a4, a5⟩ := gjinv_rref h.2.1
  exact ⟨fun i hi => Nat.lt_of_lt_of_le (a1 i hi) hc, a2, a3, a4, a5⟩
/-- a sum over all rows is one over the rows with a pivot -/
theorem qsum_cut {f : Nat → Rat} {r n : Nat} (h : r ≤ n) (hz : ∀ i, r ≤ i → i < n → f i = 0) : qsum f n = qsum f r := by
  induction n with
  | zero => rw [show r = 0 by omega]
  | succ n ih =>
    by_cases e : r = n + 1
    · rw [e]
    · show qsum f n + f n = _
      rw [ih (by omega) (fun i a b => hz i a (by omega)), hz n (by omega) (by omega)]
      grind
theorem BAR.rowsA (h : BAR Az Z m w c rk sw p L A B E) (hz : BEZ Z m w rk) : rowsIn A m E rk w := by
  intro i hi
  obtain ⟨x, hx⟩ := h.2.2.2.2.2.2.2.2 i hi
  refine ⟨x, fun j hj => ?_⟩
  rw [hx j hj, qsum_cut h.1.1 (fun k a b => by rw [h.ez hz a b hj]; grind)]
theorem BAR.rowsE (h : BAR Az Z m w c rk sw p L A B E) : rowsIn E rk A m w := fun i hi => h.2.2.2.2.2.2.2.1 i (Nat.lt_of_lt_of_le hi h.1.1)
theorem BAR.rowsB (h : BAR Az Z m w c rk sw p L A B E) : rowsIn B m A m w := by
  intro i hi
  obtain ⟨x, hx⟩ := h.1.2.1
  have hr := h.1.1
  refine ⟨fun l => if l = i then 1 else if l < min i rk then x i l else 0, fun j _ => ?_⟩
  rw [hx i hi j]
  have e : qsum (fun l => (if l = i then (1 : Rat) else if l < min i rk then x i l else 0) * A l j) m = qsum (fun l => (if l = i then A i j else 0) + (if l < min i rk then x i l * A l j else 0)) m := qsum_congr (fun l _ => by
    by_cases a : l = i
    · rw [if_pos a, if_pos a, if_neg (by omega), a]; grind
    · rw [if_neg a, if_neg a]
      by_cases b : l < min i rk
      · rw [if_pos b, if_pos b]; grind
      · rw [if_neg b, if_neg b]; grind)
  rw [e, qsum_add, qsum_one hi (fun l _ hl => if_neg hl), if_pos rfl, qsum_cut (r := min i rk) (n := m) (by omega) (fun l a _ => if_neg (by omega))]
  congr 1
  exact qsum_congr (fun l hl => (if_pos hl).symm)
/-- a row of the grid by the echelon form -/
theorem BAR.expand (h : BAR Az Z m w c rk sw p L A B E) (hc : c ≤ w) (hz : BEZ Z m w rk) {i j : Nat} (hi : i < m) (hj : j < w) : ((Z i j : Int) : Rat) = qsum (fun k => ((Z i (p k) : Int) : Rat) * E k j) rk := by
  have hE := h.rrf hc
  have e1 := rref_expand hE (v := B i) (rowsIn_trans h.rowsB (h.rowsA hz) i hi) hj
  rw [h.2.2.2.1 i hi j hj, e1, qsum_mul]
  refine qsum_congr (fun k hk => ?_)
  rw [h.2.2.2.1 i hi (p k) (hE.1 k hk)]
  grind
theorem BAR.expandA (h : BAR Az Z m w c rk sw p L A B E) (hc : c ≤ w) (hz : BEZ Z m w rk) {i j : Nat} (hi : i < m) (hj : j < w) : A i j = qsum (fun k => E k j * A i (p k)) rk := by
  rw [rref_expand (h.rrf hc) (v := A i) (h.rowsA hz i hi) hj]
  exact qsum_congr (fun k _ => by grind)
theorem BAR.pivcell (h : BAR Az Z m w c rk sw p L A B E) (hc : c ≤ w) {i : Nat} (hi : i < rk) : Z i (p i) ≠ 0 ∧ ∀ k, k < i → Z i (p k) = 0 := by
  have hm := h.1.1
  have hp := h.2.1.2.1
  refine ⟨fun e => ?_, fun k hk => ?_⟩
  · have q := h.2.2.2.1 i (by omega) (p i) (Nat.lt_of_lt_of_le (hp i hi) hc)
    rw [e] at q
    have n1 : qprod (fun l => B l (p l)) (min i rk) ≠ 0 := qprod_ne (fun l hl => h.1.2.2.2 l (by omega))
    have n2 := h.1.2.2.2 i hi
    have q2 : qprod (fun l => B l (p l)) (min i rk) * B i (p i) = 0 := by rw [← q]; rfl
    grind
  · have q := h.2.2.2.1 i (by omega) (p k) (Nat.lt_of_lt_of_le (hp k (by omega)) hc)
    rw [h.1.2.2.1 i (by omega) k (by omega) hk] at q
    refine Rat.intCast_inj.mp ?_
    rw [q]
    show _ * (0 : Rat) = 0
    grind
theorem BAR.last (h : BAR Az Z m w c rk sw p L A B E) (hc : c ≤ w) (h1 : 1 ≤ rk) : L = Z (rk - 1) (p (rk - 1)) := by
  have hm := h.1.1
  have hp := h.2.1.2.1
  refine Rat.intCast_inj.mp ?_
  rw [h.2.2.2.1 (rk - 1) (by omega) _ (Nat.lt_of_lt_of_le (hp (rk - 1) (by omega)) hc), Nat.min_eq_left (by omega), h.2.2.2.2.1]
  rw [show rk = (rk - 1) + 1 by omega]
  rfl
theorem BAR.lastdet (h : BAR Az Z m w c rk sw p L A B E) (hc : c ≤ w) : ((L : Int) : Rat) = det rk (fun a b => A a (p b)) := by
  by_cases e : rk = 0
  · have q := h.2.2.2.2.1
    rw [e] at q ⊢
    rw [q]; rfl
  · have hm := h.1.1
    have hp := h.2.1.2.1
    rw [h.last hc (by omega), h.minor (by omega) (Nat.lt_of_lt_of_le (hp (rk - 1) (by omega)) hc), Nat.min_eq_left (by omega)]
    unfold bmin
    rw [show rk - 1 + 1 = rk by omega]
    refine det_congr (fun a ha b hb => ?_)
    have e1 : (if a < rk - 1 then a else rk - 1) = a := by split <;> omega
    have e2 : (if b < rk - 1 then p b else p (rk - 1)) = p b := by
      split
      · rfl
      · rw [show b = rk - 1 by omega]
    rw [e1, e2]
/-- the echelon form times the last pivot: whole numbers, no longer than the weight says, and the rule that makes them -/
theorem BAR.target (h : BAR Az Z m w c rk sw p L A B E) (hc : c ≤ w) (hz : BEZ Z m w rk) {b K : Nat} (hb : ∀ x, x < m → ∀ y, y < w → (Az x y).natAbs ≤ b) (hK : rk ≤ K) : ∃ T : imat, ∀ i, i < rk → ∀ j, j < w → ((T i j : Int) : Rat) = (L : Rat) * E i j ∧ (T i j).natAbs ≤ (K * b) ^ rk ∧ T i j * Z i (p i) = L * Z i j - isum (fun k => Z i (p (i + 1 + k)) * T (i + 1 + k) j) (rk - (i + 1)) := by
  have hm := h.1.1
  have hE := h.rrf hc
  obtain ⟨σ, τ, h6, h6a⟩ := h.2.2.2.2.2.1
  have ex : ∀ i j, ∃ z : Int, i < rk → j < w → ((z : Int) : Rat) = (L : Rat) * E i j ∧ z.natAbs ≤ (K * b) ^ rk := by
    intro i j
    by_cases hi : i < rk
    · by_cases hj : j < w
      · have cr := cramer (A := A) (E := E) (r := rk) (i := i) (j := j) (g := p) hi (fun a ha => h.expandA hc hz (by omega) hj)
        rw [← h.lastdet hc] at cr
        obtain ⟨z, e1, e2⟩ := zle_det (K := K) (b := b) (n := rk) (M := fun a b => A a (if b = i then j else p b)) hK (fun a ha d hd => by
          refine ⟨Az (σ a) (if d = i then j else p d), h6a a (by omega) _, hb _ (h6.1 a (by omega)).1 _ ?_⟩
          split
          · exact hj
          · exact hE.1 d hd)
        refine ⟨z, fun _ _ => ⟨?_, e2⟩⟩
        rw [← e1, cr]
        grind
      · exact ⟨0, fun _ h => absurd h hj⟩
    · exact ⟨0, fun h => absurd h hi⟩
  refine ⟨fun i j => (ex i j).choose, fun i hi j hj => ?_⟩
  obtain ⟨q1, q2⟩ := (ex i j).choose_spec hi hj
  refine ⟨q1, q2, ?_⟩
  obtain ⟨p1, p2⟩ := h.pivcell hc hi
  have n1 : ((Z i (p i) : Int) : Rat) ≠ 0 := fun e => p1 (Rat.intCast_inj.mp (by rw [e]; rfl))
  have bs := back_step (r := rk) (i := i) (G := fun a b => ((Z a b : Int) : Rat)) (E := E) (p := p) (j := j) (L := (L : Rat)) hi n1 (fun k hk => by
    rw [p2 k hk]; rfl) (h.expand hc hz (by omega) hj)
  refine Rat.intCast_inj.mp ?_
  have es : ((isum (fun k => Z i (p (i + 1 + k)) * (ex (i + 1 + k) j).choose) (rk - (i + 1)) : Int) : Rat) = qsum (fun k => ((Z i (p (i + 1 + k)) : Int) : Rat) * ((L : Rat) * E (i + 1 + k) j)) (rk - (i + 1)) := by
    rw [isum_cast]
    refine qsum_congr (fun k hk => ?_)
    rw [Rat.intCast_mul, ((ex (i + 1 + k) j).choose_spec (by omega) hj).1]
  rw [Rat.intCast_mul, Rat.intCast_sub, Rat.intCast_mul, es, q1]
  grind
end BARB
