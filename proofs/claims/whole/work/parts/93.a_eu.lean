/-! ===== Euclid's steps, and Lehmer's: mathematics ===== -/
/-- one step: remainder, factors, sign -/
def e1 (x y f g o x' y' f' g' o' : Nat) : Prop := 0 < y ∧ x' = y ∧ y' = x % y ∧ f' = g ∧ g' = x / y * g + f ∧ o' = 1 - o
/-- so many steps -/
def eN : Nat → Nat → Nat → Nat → Nat → Nat → Nat → Nat → Nat → Nat → Nat → Prop
  | 0, x, y, f, g, o, x', y', f', g', o' => x' = x ∧ y' = y ∧ f' = f ∧ g' = g ∧ o' = o
  | k + 1, x, y, f, g, o, x', y', f', g', o' => ∃ x1 y1 f1 g1 o1, eN k x y f g o x1 y1 f1 g1 o1 ∧ e1 x1 y1 f1 g1 o1 x' y' f' g' o'
theorem eN_z {x y f g o x' y' f' g' o' : Nat} : eN 0 x y f g o x' y' f' g' o' ↔ (x' = x ∧ y' = y ∧ f' = f ∧ g' = g ∧ o' = o) := by rw [eN]
theorem eN_s {k x y f g o x' y' f' g' o' : Nat} : eN (k + 1) x y f g o x' y' f' g' o' ↔ ∃ x1 y1 f1 g1 o1, eN k x y f g o x1 y1 f1 g1 o1 ∧ e1 x1 y1 f1 g1 o1 x' y' f' g' o' := by rw [eN]
theorem eN.trans {x y f g o x1 y1 f1 g1 o1 k : Nat} (h : eN k x y f g o x1 y1 f1 g1 o1) : ∀ {l x2 y2 f2 g2 o2 : Nat}, eN l x1 y1 f1 g1 o1 x2 y2 f2 g2 o2 → eN (k + l) x y f g o x2 y2 f2 g2 o2 := by
  intro l
  induction l with
  | zero =>
    intro x2 y2 f2 g2 o2 h2
    obtain ⟨a1, a2, a3, a4, a5⟩ := eN_z.mp h2
    subst a1 a2 a3 a4 a5
    exact h
  | succ l ih =>
    intro x2 y2 f2 g2 o2 h2
    obtain ⟨a, b, c, d, e, h3, h4⟩ := eN_s.mp h2
    exact eN_s.mpr ⟨a, b, c, d, e, ih h3, h4⟩
/-- what k guessed steps have come to -/
def LM (x y o k : Nat) (a b c d : Int) (X Y o' : Nat) : Prop := (X : Int) = a * x + b * y ∧ (Y : Int) = c * x + d * y ∧ ((0 ≤ a ∧ b ≤ 0 ∧ c ≤ 0 ∧ 0 ≤ d) ∨ (a ≤ 0 ∧ 0 ≤ b ∧ 0 ≤ c ∧ d ≤ 0)) ∧ (∀ f g, eN k x y f g o X Y (a.natAbs * f + b.natAbs * g) (c.natAbs * f + d.natAbs * g) o') ∧ d ≠ 0 ∧ (0 < k ↔ b ≠ 0) ∧ Y ≤ X
theorem LM.start {x y o : Nat} (h : y ≤ x) : LM x y o 0 1 0 0 1 x y o := by
  refine ⟨by omega, by omega, Or.inl (by omega), fun f g => eN_z.mpr ⟨rfl, rfl, ?_, ?_, rfl⟩, by omega, ⟨fun h => absurd h (by omega), fun h => absurd rfl h⟩, h⟩
  · show 1 * f + 0 * g = f; omega
  · show 0 * f + 1 * g = g; omega
theorem mul_np {Q : Nat} {c : Int} (h : c ≤ 0) : (Q : Int) * c ≤ 0 := by
  have := Int.mul_nonneg (a := (Q : Int)) (b := -c) (by omega) (by omega)
  rw [Int.mul_neg] at this
  omega
theorem mul_nn {Q : Nat} {c : Int} (h : 0 ≤ c) : 0 ≤ (Q : Int) * c := Int.mul_nonneg (by omega) h
theorem nab {a c : Int} {Q : Nat} (h : (0 ≤ a ∧ c ≤ 0) ∨ (a ≤ 0 ∧ 0 ≤ c)) : (a - Q * c).natAbs = a.natAbs + Q * c.natAbs := by
  have e : ((Q : Int) * c).natAbs = Q * c.natAbs := by rw [Int.natAbs_mul, Int.natAbs_natCast]
  rw [← e]
  rcases h with g | g
  · have := mul_np (Q := Q) g.2
    generalize (Q : Int) * c = z at *
    omega
  · have := mul_nn (Q := Q) g.2
    generalize (Q : Int) * c = z at *
    omega
theorem LM.step {x y o k : Nat} {a b c d : Int} {X Y o' : Nat} (h : LM x y o k a b c d X Y o') (hY : 0 < Y) : LM x y o (k + 1) c d (a - (X / Y : Nat) * c) (b - (X / Y : Nat) * d) Y (X % Y) (1 - o') := by
  obtain ⟨h1, h2, h3, h4, h5, h6, h7⟩ := h
  have hQ : 1 ≤ X / Y := (Nat.le_div_iff_mul_le hY).mpr (by omega)
  have hm : (X : Int) = (X % Y : Nat) + (X / Y : Nat) * (Y : Int) := by
    have := Nat.mod_add_div' X Y
    rw [← Int.natCast_mul]
    omega
  have hs1 : (0 ≤ a ∧ c ≤ 0) ∨ (a ≤ 0 ∧ 0 ≤ c) := by omega
  have hs2 : (0 ≤ b ∧ d ≤ 0) ∨ (b ≤ 0 ∧ 0 ≤ d) := by omega
  have hn2 := nab (Q := X / Y) hs2
  refine ⟨h2, ?_, ?_, fun f g => eN_s.mpr ⟨X, Y, _, _, o', h4 f g, hY, rfl, rfl, rfl, ?_, rfl⟩, ?_, ⟨fun _ => h5, fun _ => Nat.succ_pos _⟩, Nat.le_of_lt (Nat.mod_lt _ hY)⟩
  · have e2 : ((X / Y : Nat) : Int) * (Y : Int) = (X / Y : Nat) * (c * x) + (X / Y : Nat) * (d * y) := by rw [h2, Int.mul_add]
    rw [Int.sub_mul, Int.sub_mul, Int.mul_assoc, Int.mul_assoc]
    generalize ((X / Y : Nat) : Int) * (Y : Int) = z at *
    generalize ((X / Y : Nat) : Int) * (c * x) = u at *
    generalize ((X / Y : Nat) : Int) * (d * y) = v at *
    generalize a * (x : Int) = p at *
    generalize b * (y : Int) = q at *
    omega
  · rcases h3 with ⟨g1, g2, g3, g4⟩ | ⟨g1, g2, g3, g4⟩
    · have := mul_np (Q := X / Y) g3
      have := mul_nn (Q := X / Y) g4
      right
      generalize ((X / Y : Nat) : Int) * c = u at *
      generalize ((X / Y : Nat) : Int) * d = v at *
      omega
    · have := mul_nn (Q := X / Y) g3
      have := mul_np (Q := X / Y) g4
      left
      generalize ((X / Y : Nat) : Int) * c = u at *
      generalize ((X / Y : Nat) : Int) * d = v at *
      omega
  · rw [nab hs1, hn2, Nat.add_mul, Nat.add_mul, Nat.mul_add, Nat.mul_assoc, Nat.mul_assoc]
    omega
  · intro e
    rw [e] at hn2
    have hd : 1 ≤ d.natAbs := by omega
    have := Nat.mul_le_mul hQ hd
    have e0 : (0 : Int).natAbs = 0 := rfl
    omega
theorem lin_nn {e u v : Int} {S xl yl : Nat} (h : (0 ≤ u ∧ v ≤ 0) ∨ (u ≤ 0 ∧ 0 ≤ v)) (h1 : 0 ≤ e + u) (h2 : 0 ≤ e + v) (hx : xl < S) (hy : yl < S) : 0 ≤ e * S + u * xl + v * yl := by
  rcases h with ⟨g1, g2⟩ | ⟨g1, g2⟩
  · have a1 := Int.mul_nonneg g1 (show (0 : Int) ≤ xl by omega)
    have a2 := Int.mul_nonneg (show 0 ≤ -v by omega) (show (0 : Int) ≤ (S : Int) - yl by omega)
    have a3 := Int.mul_nonneg h2 (show (0 : Int) ≤ S by omega)
    rw [Int.neg_mul, Int.mul_sub] at a2
    rw [Int.add_mul] at a3
    omega
  · have a1 := Int.mul_nonneg g2 (show (0 : Int) ≤ yl by omega)
    have a2 := Int.mul_nonneg (show 0 ≤ -u by omega) (show (0 : Int) ≤ (S : Int) - xl by omega)
    have a3 := Int.mul_nonneg h1 (show (0 : Int) ≤ S by omega)
    rw [Int.neg_mul, Int.mul_sub] at a2
    rw [Int.add_mul] at a3
    omega
theorem lin_pos {e u v : Int} {S xl yl : Nat} (h : (0 ≤ u ∧ v ≤ 0) ∨ (u ≤ 0 ∧ 0 ≤ v)) (h1 : 0 < e + u) (h2 : 0 < e + v) (hx : xl < S) (hy : yl < S) : 0 < e * S + u * xl + v * yl := by
  have h3 := lin_nn (e := e - 1) h (by omega) (by omega) hx hy
  rw [Int.sub_mul, Int.one_mul] at h3
  omega
/-- the quotient is sure if the ends of both windows give the same -/
theorem sure_q {p q a b c d : Int} {S xl yl X Y t : Nat} (hX : (X : Int) = p * S + a * xl + b * yl) (hY : (Y : Int) = q * S + c * xl + d * yl) (hx : xl < S) (hy : yl < S) (hs : (0 ≤ a ∧ b ≤ 0 ∧ c ≤ 0 ∧ 0 ≤ d) ∨ (a ≤ 0 ∧ 0 ≤ b ∧ 0 ≤ c ∧ d ≤ 0)) (hc : 0 < q + c) (hd : 0 < q + d) (h1 : t * (q + c) ≤ p + a) (h2 : p + a < (t + 1 : Nat) * (q + c)) (h3 : t * (q + d) ≤ p + b) (h4 : p + b < (t + 1 : Nat) * (q + d)) : 0 < Y ∧ X / Y = t := by
  have hY0 := lin_pos (show (0 ≤ c ∧ d ≤ 0) ∨ (c ≤ 0 ∧ 0 ≤ d) by omega) hc hd hx hy
  have key : ∀ n : Nat, ((0 ≤ a - n * c ∧ b - n * d ≤ 0) ∨ (a - n * c ≤ 0 ∧ 0 ≤ b - n * d)) := fun n => by
    rcases hs with ⟨g1, g2, g3, g4⟩ | ⟨g1, g2, g3, g4⟩
    · have := mul_np (Q := n) g3
      have := mul_nn (Q := n) g4
      left
      generalize (n : Int) * c = u at *
      generalize (n : Int) * d = v at *
      omega
    · have := mul_nn (Q := n) g3
      have := mul_np (Q := n) g4
      right
      generalize (n : Int) * c = u at *
      generalize (n : Int) * d = v at *
      omega
  have ex : ∀ n : Nat, (X : Int) - n * Y = (p - n * q) * S + (a - n * c) * xl + (b - n * d) * yl := fun n => by
    rw [hX, hY, Int.mul_add, Int.mul_add, Int.sub_mul, Int.sub_mul, Int.sub_mul, Int.mul_assoc, Int.mul_assoc, Int.mul_assoc]
    omega
  have lo := lin_nn (e := p - t * q) (key t) (by rw [Int.mul_add] at h1; omega) (by rw [Int.mul_add] at h3; omega) hx hy
  rw [← ex t] at lo
  have hi := lin_pos (e := -(p - (t + 1 : Nat) * q)) (u := -(a - (t + 1 : Nat) * c)) (v := -(b - (t + 1 : Nat) * d)) (by have := key (t + 1); omega) (by rw [Int.mul_add] at h2; omega) (by rw [Int.mul_add] at h4; omega) hx hy
  rw [Int.neg_mul, Int.neg_mul, Int.neg_mul] at hi
  have ex1 := ex (t + 1)
  refine ⟨by omega, Nat.div_eq_of_lt_le ?_ ?_⟩
  · have : ((t * Y : Nat) : Int) ≤ X := by rw [Int.natCast_mul]; omega
    omega
  · have : (X : Int) < (((t + 1) * Y : Nat) : Int) := by rw [Int.natCast_mul]; omega
    omega
