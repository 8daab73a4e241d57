/-! ===== Wholes.copy, negative, size, order with their values ===== -/
section RW11
variable {G : jg} {d : Nat} {Q : jq} {rc rs : Nat} {M : mheap} {w : Nat} {v2 : Value} {D : List Int32}
/-- a copy at the top, with the header h -/
theorem RI.moved {D D' : List Int32} {T x n : Nat} {z z' : Int} (hn : 0 < n) (h3 : RD D x n) (h4 : 0 < n → D.getD (x + n) 0 ≠ 0) (h5 : rnat D x n = z.natAbs) (e : ∀ i, 0 < i → i ≤ n → D'.getD (T + i) 0 = D.getD (x + i) 0) (hz : z'.natAbs = z.natAbs) (h : D'.getD T 0 = if z' < 0 then -nI n else nI n) : RI D' (T + n + 1) T z' := by
  refine ⟨n, by omega, h, h3.congr e, fun _ => ?_, ?_⟩
  · rw [e n hn (Nat.le_refl n)]
    exact h4 hn
  · rw [rnat_congr e, h5, hz]
theorem ri_copy {x T cm X Z a : Nat} {z : Int} (hG : kG G) (hS : RS M w D T v2 cm X Z rc rs) (hx : RI D T x z) (ha : z.natAbs < 32768 ^ a) (hT : T + a + 1 ≤ cm)
    (k : RP Q M w D T v2 cm X Z (T + a + 1) z) : jj G kRW_copy (d + 3) Q rc rs 0 (jj_ent [.ref w, .int (nI x)] 4) [] M := by
  obtain ⟨hS0, hB, hTD, hz, hp⟩ := id hS
  obtain ⟨n, x1, x2, x3, x4, x5⟩ := id hx
  have hcap := hB.cap
  have xn := RI.len x3 x4 x5 ha
  refine rs_copy hG hS0 hB ⟨nI_iabs (by omega) x2, x4⟩ x1.1 hTD (by omega) (fun M1 D1 rc1 rs1 h1 h2 h3 h4 h5 h6 h7 => ?_)
  by_cases h0 : n = 0
  · rw [if_pos h0] at h1 ⊢
    have e0 : z = 0 := by subst h0; have : (0 : Nat) = z.natAbs := x5; omega
    subst e0
    have hz1 : D1.getD 0 0 = 0 := by rw [h5 0 hp]; exact hz
    exact k M1 D1 T 0 rc1 rs1 ⟨h1, h2, by omega, hz1, hp⟩ ⟨Nat.le_refl T, Or.inl rfl⟩ (by omega) h5 h7 (RI.zero hz1 hp)
  · rw [if_neg h0] at h1 ⊢
    refine k M1 D1 (T + n + 1) T rc1 rs1 ⟨h1, h2, h4, by rw [h5 0 hp]; exact hz, by omega⟩ (by omega) (by omega) h5 h7 (RI.moved (by omega) x3 x4 x5 (fun i g1 g2 => h6 i (by omega) g2) rfl ?_)
    have := h6 0 (by omega) (Nat.zero_le n)
    rw [Nat.add_zero, Nat.add_zero] at this
    rw [this]
    exact x2
theorem ri_neg_end {x T cm X Z a n : Nat} {z : Int} (hS : RS M w D T v2 cm X Z rc rs) (x1 : x + n < T) (x2 : D.getD x 0 = if z < 0 then -nI n else nI n) (x3 : RD D x n) (x4 : 0 < n → D.getD (x + n) 0 ≠ 0) (x5 : rnat D x n = z.natAbs) (xn : n ≤ a) (k : RP Q M w D T v2 cm X Z (T + a + 1) (-z)) {M1 : mheap} {D1 : List Int32} {rc1 rs1 : Nat} (h1 : RW M1 w D1 (if n = 0 then T else T + n + 1) v2) (h2 : RB cm X Z rc1 rs1 D1) (h4 : T + n + 1 ≤ D1.length) (h5 : ∀ i, i < T → D1.getD i 0 = D.getD i 0) (h6 : 0 < n → D1.getD T 0 = -D.getD x 0) (h6' : ∀ i, 0 < i → i ≤ n → D1.getD (T + i) 0 = D.getD (x + i) 0) (h7 : RF M M1 w) : Q (.returned (some (.int (if n = 0 then 0 else nI T)))) M1 rc1 rs1 := by
  obtain ⟨hS0, hB, hTD, hz, hp⟩ := id hS
  by_cases h0 : n = 0
  · rw [if_pos h0] at h1 ⊢
    have e0 : z = 0 := by subst h0; have : (0 : Nat) = z.natAbs := x5; omega
    subst e0
    have hz1 : D1.getD 0 0 = 0 := by rw [h5 0 hp]; exact hz
    exact k M1 D1 T 0 rc1 rs1 ⟨h1, h2, by omega, hz1, hp⟩ ⟨Nat.le_refl T, Or.inl rfl⟩ (by omega) h5 h7 (RI.zero hz1 hp)
  · rw [if_neg h0] at h1 ⊢
    have hz0 : z ≠ 0 := fun e => h0 ((rnat_eq0 x3 x4).mp (by rw [x5, e]; rfl))
    refine k M1 D1 (T + n + 1) T rc1 rs1 ⟨h1, h2, h4, by rw [h5 0 hp]; exact hz, by omega⟩ (by omega) (by omega) h5 h7 (RI.moved (by omega) x3 x4 x5 h6' (Int.natAbs_neg z) ?_)
    rw [h6 (by omega), x2]
    by_cases hn : z < 0
    · rw [if_pos hn, if_neg (by omega), Int32.neg_neg]
    · rw [if_neg hn, if_pos (by omega)]
theorem ri_negative {x T cm X Z a : Nat} {z : Int} (hG : kG G) (hS : RS M w D T v2 cm X Z rc rs) (hx : RI D T x z) (ha : z.natAbs < 32768 ^ a) (hT : T + a + 1 ≤ cm)
    (k : RP Q M w D T v2 cm X Z (T + a + 1) (-z)) : jj G kRW_negative (d + 4) Q rc rs 0 (jj_ent [.ref w, .int (nI x)] 3) [] M := by
  obtain ⟨hS0, hB, hTD, hz, hp⟩ := id hS
  obtain ⟨n, x1, x2, x3, x4, x5⟩ := id hx
  have hcap := hB.cap
  have xn := RI.len x3 x4 x5 ha
  exact rs_negative hG hS0 hB ⟨nI_iabs (by omega) x2, x4⟩ x1.1 hTD (by omega) (fun M1 D1 rc1 rs1 h1 h2 h3 h4 h5 h6 h6' h7 => ri_neg_end hS x1.1 x2 x3 x4 x5 xn k h1 h2 h4 h5 h6 h6' h7)
/-- the same, where the number may be an old one -/
def RPo (Q : jq) (M : mheap) (w : Nat) (D : List Int32) (T : Nat) (v2 : Value) (cm X Z E : Nat) (v : Int) : Prop := ∀ M' D' T' p rc' rs', RS M' w D' T' v2 cm X Z rc' rs' → T ≤ T' → T' ≤ E → (∀ i, i < T → D'.getD i 0 = D.getD i 0) → RF M M' w → RI D' T' p v → Q (.returned (some (.int (nI p)))) M' rc' rs'
theorem RPo.new {T cm X Z E : Nat} {v : Int} (h : RPo Q M w D T v2 cm X Z E v) : RP Q M w D T v2 cm X Z E v := fun M' D' T' p rc' rs' h1 h2 => h M' D' T' p rc' rs' h1 h2.1
theorem ri_size {x T cm X Z a : Nat} {z : Int} (hG : kG G) (hS : RS M w D T v2 cm X Z rc rs) (hx : RI D T x z) (ha : z.natAbs < 32768 ^ a) (hT : T + a + 1 ≤ cm)
    (k : RPo Q M w D T v2 cm X Z (T + a + 1) (z.natAbs : Int)) : jj G kRW_size (d + 5) Q rc rs 0 (jj_ent [.ref w, .int (nI x)] 2) [] M := by
  obtain ⟨hS0, hB, hTD, hz, hp⟩ := id hS
  obtain ⟨n, x1, x2, x3, x4, x5⟩ := id hx
  have hcap := hB.cap
  have xn := RI.len x3 x4 x5 ha
  have hneg := hx.neg (by omega)
  refine rs_size hG hS0 hB ⟨nI_iabs (by omega) x2, x4⟩ x1.1 hTD (by omega) (fun hn M1 D1 rc1 rs1 h1 h2 h3 h4 h5 h6 h6' h7 => ?_) (fun hn => ?_)
  · have e : (z.natAbs : Int) = -z := by have := hneg.mp hn; omega
    rw [e] at k
    exact ri_neg_end hS x1.1 x2 x3 x4 x5 xn k.new h1 h2 h4 h5 h6 h6' h7
  · have e : (z.natAbs : Int) = z := by
      have : ¬ z < 0 := fun h => absurd hn (Int32.not_le.mpr (hneg.mpr h))
      omega
    rw [e] at k
    exact k M D T x rc rs hS (Nat.le_refl T) (by omega) (fun _ _ => rfl) (RF.refl M w) hx
/-- 1, 0 or -1 as a is above, at or below b -/
def cmpZ (a b : Int) : Int32 := if a = b then 0 else if b ≤ a then 1 else -1
theorem osg_val {D : List Int32} {T p : Nat} {z : Int} (h : RI D T p z) (hT : T < 2 ^ 31) : osg (D.getD p 0) = cmpZ z 0 := by
  have hn := h.neg hT
  obtain ⟨r, h1, h2, h3, h4, h5⟩ := id h
  have hr := rnat_eq0 h3 h4
  unfold osg cmpZ
  by_cases c : z < 0
  · rw [if_pos (hn.mpr c), if_neg (by omega), if_neg (by omega)]
  · rw [if_neg (fun h => c (hn.mp h))]
    rw [if_neg c] at h2
    by_cases c0 : z = 0
    · have e : r = 0 := hr.mp (by rw [h5, c0]; rfl)
      rw [if_pos c0, h2, e]
      decide
    · have e : r ≠ 0 := fun e => c0 (by have := hr.mpr e; omega)
      have hp : (0 : Int32) < nI r := nI_lt (a := 0) (by omega) (by omega)
      rw [if_neg c0, h2, if_pos hp, if_pos (show 0 ≤ z by omega)]
theorem ri_order {x y T cm X Z : Nat} {zx zy : Int} (hG : kG G) (hS : RS M w D T v2 cm X Z rc rs) (hx : RI D T x zx) (hy : RI D T y zy) (k : Q (.returned (some (.int (cmpZ zx zy)))) M rc rs) : jj G kRW_order (d + 2) Q rc rs 0 (jj_ent [.ref w, .int (nI x), .int (nI y)] 5) [] M := by
  obtain ⟨hS0, hB, hTD, hz, hp⟩ := id hS
  obtain ⟨n, x1, x2, x3, x4, x5⟩ := id hx
  obtain ⟨m, y1, y2, y3, y4, y5⟩ := id hy
  have hcap := hB.cap
  refine rs_order hG hS0 (by omega) (nI_iabs (by omega) x2) (nI_iabs (by omega) y2) (by omega) (by omega) ?_
  have e : oord D x y n m = cmpZ zx zy := by
    unfold oord
    rw [osg_val hx (by omega), osg_val hy (by omega), osz_val x3 y3 x4 y4, osz_val y3 x3 y4 x4, x5, y5]
    unfold cmpZ cmpI
    rcases Int.lt_trichotomy zx 0 with a | a | a <;> rcases Int.lt_trichotomy zy 0 with b | b | b
    · rw [if_neg (show ¬ zx = 0 by omega), if_neg (show ¬ 0 ≤ zx by omega), if_neg (show ¬ zy = 0 by omega), if_neg (show ¬ 0 ≤ zy by omega), if_pos rfl, if_neg (by decide)]
      by_cases c : zx = zy
      · rw [if_pos c, if_pos (by omega)]
      · rw [if_neg c, if_neg (show ¬ zy.natAbs = zx.natAbs by omega)]
        by_cases c2 : zy ≤ zx
        · rw [if_pos c2, if_pos (by omega)]
        · rw [if_neg c2, if_neg (by omega)]
    · rw [if_neg (show ¬ zx = 0 by omega), if_neg (show ¬ 0 ≤ zx by omega), if_pos b, if_neg (by decide), if_neg (by decide), if_neg (show ¬ zx = zy by omega), if_neg (show ¬ zy ≤ zx by omega)]
    · rw [if_neg (show ¬ zx = 0 by omega), if_neg (show ¬ 0 ≤ zx by omega), if_neg (show ¬ zy = 0 by omega), if_pos (show 0 ≤ zy by omega), if_neg (by decide), if_neg (by decide), if_neg (show ¬ zx = zy by omega), if_neg (show ¬ zy ≤ zx by omega)]
    · rw [if_pos a, if_neg (show ¬ zy = 0 by omega), if_neg (show ¬ 0 ≤ zy by omega), if_neg (by decide), if_pos (by decide), if_neg (show ¬ zx = zy by omega), if_pos (show zy ≤ zx by omega)]
    · subst a b
      decide
    · rw [if_pos a, if_neg (show ¬ zy = 0 by omega), if_pos (show 0 ≤ zy by omega), if_neg (by decide), if_neg (by decide), if_neg (show ¬ zx = zy by omega), if_neg (show ¬ zy ≤ zx by omega)]
    · rw [if_neg (show ¬ zx = 0 by omega), if_pos (show 0 ≤ zx by omega), if_neg (show ¬ zy = 0 by omega), if_neg (show ¬ 0 ≤ zy by omega), if_neg (by decide), if_pos (by decide), if_neg (show ¬ zx = zy by omega), if_pos (show zy ≤ zx by omega)]
    · rw [if_neg (show ¬ zx = 0 by omega), if_pos (show 0 ≤ zx by omega), if_pos b, if_neg (by decide), if_pos (by decide), if_neg (show ¬ zx = zy by omega), if_pos (show zy ≤ zx by omega)]
    · rw [if_neg (show ¬ zx = 0 by omega), if_pos (show 0 ≤ zx by omega), if_neg (show ¬ zy = 0 by omega), if_pos (show 0 ≤ zy by omega), if_pos rfl, if_pos (by decide)]
      by_cases c : zx = zy
      · rw [if_pos c, if_pos (by omega)]
      · rw [if_neg c, if_neg (show ¬ zx.natAbs = zy.natAbs by omega)]
        by_cases c2 : zy ≤ zx
        · rw [if_pos c2, if_pos (by omega)]
        · rw [if_neg c2, if_neg (by omega)]
  rw [e]
  exact k
end RW11
