/-! ===== Wholes.multiply (printed by wip/gen/rw10.py) ===== -/
theorem lN_big {n : Nat} (h : n < 2 ^ 63) : (lN n).toInt = (n : Int) := lg_ofNat_toInt h
theorem lN_div {a : Nat} (h : a < 2 ^ 63) : lN a / 32768 = lN (a / 32768) := Int64.toInt_inj.mp (by
  rw [Int64.toInt_div, lN_big h, lN_big (show a / 32768 < 2 ^ 63 by omega), show (32768 : Int64).toInt = 32768 by decide, Int.tdiv_eq_ediv_of_nonneg (by omega)]
  rw [Int.bmod_eq_of_le (by omega) (by omega)]
  omega)
theorem lN_rem {a : Nat} (h : a < 2 ^ 63) : lN a - lN a / 32768 * 32768 = lN (a % 32768) := by
  rw [lN_div h]
  have e : lN a = lN (a % 32768) + lN (a / 32768) * 32768 := by
    rw [show (32768 : Int64) = lN 32768 from rfl, lN_mul, lN_add]
    congr 1
    omega
  rw [e, Int64.add_sub_cancel]
theorem mul_step {r c u s P old f g Bp Bq v : Nat} (hs : s = c + (old + f * g)) (hP : P = Bp * Bq) (h : r + c * P = u + Bp * f * v) : r + s % 32768 * P + s / 32768 * (P * 32768) = (u + old * P) + Bp * f * (v + g * Bq) := by
  have e : s % 32768 * P + s / 32768 * (P * 32768) = s * P := by
    rw [show s / 32768 * (P * 32768) = s / 32768 * 32768 * P by rw [Nat.mul_comm P, Nat.mul_assoc], ← Nat.add_mul]
    congr 1
    omega
  have e2 : s * P = c * P + (old * P + f * g * P) := by rw [hs, Nat.add_mul, Nat.add_mul]
  have e3 : Bp * f * (v + g * Bq) = Bp * f * v + f * g * P := by
    rw [Nat.mul_add, hP]
    congr 1
    rw [Nat.mul_comm Bp f, Nat.mul_assoc, Nat.mul_assoc f g, Nat.mul_left_comm Bp g]
  omega
theorem mul_bound {c old f g : Nat} (hc : c < 32768) (ho : old < 32768) (hf : f < 32768) (hg : g < 32768) : c + (old + f * g) < 32768 * 32768 := by
  have : f * g ≤ 32767 * 32767 := Nat.mul_le_mul (by omega) (by omega)
  omega
theorem sgn_mul {zx zy : Int} {s : Int32} (h : s = (if (zx < 0) = (zy < 0) then 0 else 1)) : sgnI s (zx.natAbs * zy.natAbs) = zx * zy := by
  have e : ((zx.natAbs * zy.natAbs : Nat) : Int) = (zx.natAbs : Int) * zy.natAbs := by simp
  have h1 : zx < 0 → (zx.natAbs : Int) = -zx := fun h => by omega
  have h2 : ¬ zx < 0 → (zx.natAbs : Int) = zx := fun h => by omega
  have h3 : zy < 0 → (zy.natAbs : Int) = -zy := fun h => by omega
  have h4 : ¬ zy < 0 → (zy.natAbs : Int) = zy := fun h => by omega
  subst h
  unfold sgnI
  rw [e]
  by_cases a : zx < 0
  · by_cases b : zy < 0
    · rw [if_pos (by simp [a, b]), h1 a, h3 b, Int.neg_mul_neg]
    · rw [if_neg (by simp [a, b]), h1 a, h4 b, Int.neg_mul, Int.neg_neg]
  · by_cases b : zy < 0
    · rw [if_neg (by simp [a, b]), h2 a, h3 b, Int.mul_neg, Int.neg_neg]
    · rw [if_pos (by simp [a, b]), h2 a, h4 b]
section RW10
variable {G : jg} {d : Nat} {Q : jq} {rc rs : Nat} {M : mheap} {w : Nat} {v2 : Value} {D : List Int32}
theorem ix_mul (T p q : Nat) : nI T + nI (p + 1) + nI (q + 1) - 1 = nI (T + (p + q + 1)) := by
  rw [nI_add, nI_add, show T + (p + 1) + (q + 1) = T + (p + q + 1) + 1 by omega, ← nI_1, Int32.add_sub_cancel]
theorem rs_multiply {x y T cm X Z a b : Nat} {zx zy : Int} (hG : kG G) (hS : RS M w D T v2 cm X Z rc rs) (hx : RI D T x zx) (hy : RI D T y zy) (ha : zx.natAbs < 32768 ^ a) (hb : zy.natAbs < 32768 ^ b) (hT : T + a + b + 1 ≤ cm)
    (k : RP Q M w D T v2 cm X Z (T + a + b + 1) (zx * zy)) : jj G kRW_multiply (d + 3) Q rc rs 0 (jj_ent [.ref w, .int (nI x), .int (nI y)] 11) [] M := by
  show jj G kRW_multiply (d + 3) Q rc rs 0 [some (.ref w), some (.int (nI x)), some (.int (nI y)), none, none, none, none, none, none, none, none] [] M
  obtain ⟨hS0, hB, hTD, hz, hp⟩ := id hS
  obtain ⟨dd, hw, hd⟩ := id hS0
  obtain ⟨n, x1, x2, x3, x4, x5⟩ := id hx
  obtain ⟨m, y1, y2, y3, y4, y5⟩ := id hy
  have hcap := hB.cap
  have hl : D.length < 2 ^ 31 := by omega
  have xn := RI.len x3 x4 x5 ha
  have ym := RI.len y3 y4 y5 hb
  have x6 := nI_iabs (by omega) x2
  have y6 := nI_iabs (by omega) y2
  have hnx := hx.neg (by omega)
  have hny := hy.neg (by omega)
  refine jj_aload_n (pc := 0) kRW_multiply_d0 rfl ?_
  refine jj_iload_n (pc := 1) kRW_multiply_d1 rfl ?_
  refine jj_callV (pc := 2) (b := w) (As := [.int (nI x)]) kRW_multiply_d2 (kvRW_RW_digits hG) (kG_cl hG rfl) rfl hw rfl rfl rfl (Nat.le_of_ble_eq_true rfl) (Nat.le_of_ble_eq_true rfl) (jj_bare0 rfl) ?_
  refine rw_digits hG hw hd hl (by omega) ?_
  show jj G kRW_multiply (d + 3) Q rc rs 5 [some (.ref w), some (.int (nI x)), some (.int (nI y)), none, none, none, none, none, none, none, none] [.int (iabs (D.getD x 0))] M
  rw [x6]
  refine jj_istore_n (pc := 5) kRW_multiply_d5 (Nat.le_of_ble_eq_true rfl) ?_
  show jj G kRW_multiply (d + 3) Q rc rs 6 [some (.ref w), some (.int (nI x)), some (.int (nI y)), some (.int (nI (n))), none, none, none, none, none, none, none] [] M
  refine jj_aload_n (pc := 6) kRW_multiply_d6 rfl ?_
  refine jj_iload_n (pc := 7) kRW_multiply_d7 rfl ?_
  refine jj_callV (pc := 8) (b := w) (As := [.int (nI y)]) kRW_multiply_d8 (kvRW_RW_digits hG) (kG_cl hG rfl) rfl hw rfl rfl rfl (Nat.le_of_ble_eq_true rfl) (Nat.le_of_ble_eq_true rfl) (jj_bare0 rfl) ?_
  refine rw_digits hG hw hd hl (by omega) ?_
  show jj G kRW_multiply (d + 3) Q rc rs 11 [some (.ref w), some (.int (nI x)), some (.int (nI y)), some (.int (nI (n))), none, none, none, none, none, none, none] [.int (iabs (D.getD y 0))] M
  rw [y6]
  refine jj_istore (pc := 11) kRW_multiply_d11 (Nat.le_of_ble_eq_true rfl) ?_
  show jj G kRW_multiply (d + 3) Q rc rs 13 [some (.ref w), some (.int (nI x)), some (.int (nI y)), some (.int (nI (n))), some (.int (nI (m))), none, none, none, none, none, none] [] M
  refine jj_aload_n (pc := 13) kRW_multiply_d13 rfl ?_
  refine jj_iload_n (pc := 14) kRW_multiply_d14 rfl ?_
  refine jj_iload (pc := 15) kRW_multiply_d15 rfl ?_
  refine jj_iadd (pc := 17) kRW_multiply_d17 ?_
  refine jj_iconst (pc := 18) (v := 1) kRW_multiply_d18 (by decide) ?_
  refine jj_iadd (pc := 19) kRW_multiply_d19 ?_
  rw [show (1 : Int32) = nI 1 from rfl, nI_add, nI_add]
  refine jj_callV (pc := 20) (b := w) (As := [.int (nI (n + m + 1))]) kRW_multiply_d20 (kvRW_RW_room hG) (kG_cl hG rfl) rfl hw rfl rfl rfl (Nat.le_of_ble_eq_true rfl) (Nat.le_of_ble_eq_true rfl) (jj_bare0 rfl) ?_
  refine rs_room hG hS0 hB (by omega) (fun M1 D1 rc1 rs1 hS1 hB1 hl1 hx1 hf1 => ?_)
  show jj G kRW_multiply (d + 3) Q rc1 rs1 23 [some (.ref w), some (.int (nI x)), some (.int (nI y)), some (.int (nI (n))), some (.int (nI (m))), none, none, none, none, none, none] [] M1
  refine jj_iconst (pc := 23) (v := 1) kRW_multiply_d23 (by decide) ?_
  refine jj_istore (pc := 24) kRW_multiply_d24 (Nat.le_of_ble_eq_true rfl) ?_
  show jj G kRW_multiply (d + 3) Q rc1 rs1 26 [some (.ref w), some (.int (nI x)), some (.int (nI y)), some (.int (nI (n))), some (.int (nI (m))), some (.int (nI (0 + 1))), none, none, none, none, none] [] M1
  have hl2 : D1.length < 2 ^ 31 := by have := hB1.cap; omega
  -- the end
  have fin : ∀ (i : Option Value) (o1 o2 o3 : Option Value) (M2 : mheap) (D2 : List Int32), RW M2 w D2 T v2 → D2.length = D1.length → RF M1 M2 w → (∀ q, q ≤ T → D2.getD q 0 = D.getD q 0) → RD D2 T (n + m) → rnat D2 T (n + m) = zx.natAbs * zy.natAbs → jj G kRW_multiply (d + 3) Q rc1 rs1 187 [some (.ref w), some (.int (nI x)), some (.int (nI y)), some (.int (nI (n))), some (.int (nI (m))), i, o1, none, o2, none, o3] [] M2 := by
    intro i o1 o2 o3 M2 D2 hS2 hlen hf2 ho hD hv
    obtain ⟨dd2, hw2, hd2⟩ := id hS2
    have hl3 : D2.length < 2 ^ 31 := by omega
    have k228 : ∀ s : Int32, s = (if (zx < 0) = (zy < 0) then 0 else 1) → jj G kRW_multiply (d + 3) Q rc1 rs1 228 [some (.ref w), some (.int (nI x)), some (.int (nI y)), some (.int (nI (n))), some (.int (nI (m))), i, o1, none, o2, none, o3] [.int s, .int (nI (n + m)), .ref w] M2 := by
      intro s hs
      refine jj_callV (pc := 228) (b := w) (As := [.int (nI (n + m)), .int s]) kRW_multiply_d228 (kvRW_RW_finish hG) (kG_cl hG rfl) rfl hw2 rfl rfl rfl (Nat.le_of_ble_eq_true rfl) (Nat.le_of_ble_eq_true rfl) (jj_bare0 rfl) ?_
      refine rs_fin hG hS2 hl3 (by omega) hD (by rw [ho 0 (Nat.zero_le T)]; exact hz) hp (fun M3 D3 T3 p hS3 hl3 t1 t2 ho3 hf3 hI => ?_)
      show jj G kRW_multiply (d + 3) Q rc1 rs1 231 _ [.int (nI p)] M3
      rw [hv, sgn_mul hs] at hI
      have ho4 : ∀ i, i < T → D3.getD i 0 = D.getD i 0 := fun i hi => by rw [ho3 i hi, ho i (by omega)]
      exact jj_iret (pc := 231) kRW_multiply_d231 rfl rfl (k M3 D3 T3 p rc1 rs1 ⟨hS3, hB1.same (by omega), by omega, by rw [ho4 0 hp]; exact hz, by omega⟩ t1 (by omega) ho4 ((hf1.trans hf2).trans hf3) hI)
    have k206 : ∀ s : Int32, (s = 0 ∧ ¬ zx < 0 ∨ s = 1 ∧ zx < 0) → jj G kRW_multiply (d + 3) Q rc1 rs1 206 [some (.ref w), some (.int (nI x)), some (.int (nI y)), some (.int (nI (n))), some (.int (nI (m))), i, o1, none, o2, none, o3] [.int s, .int (nI (n + m)), .ref w] M2 := by
      intro s hs
      have k220 : ∀ s2 : Int32, (s2 = 0 ∧ ¬ zy < 0 ∨ s2 = 1 ∧ zy < 0) → jj G kRW_multiply (d + 3) Q rc1 rs1 220 [some (.ref w), some (.int (nI x)), some (.int (nI y)), some (.int (nI (n))), some (.int (nI (m))), i, o1, none, o2, none, o3] [.int s2, .int s, .int (nI (n + m)), .ref w] M2 := by
        intro s2 hs2
        refine jj_icmp_eq (pc := 220) (tgt := 227) kRW_multiply_d220 (by decide) (fun c => ?_) (fun c => ?_)
        · refine jj_iconst (pc := 227) (v := 0) kRW_multiply_d227 (by decide) ?_
          exact k228 0 (by rcases hs with ⟨e, g⟩ | ⟨e, g⟩ <;> rcases hs2 with ⟨e2, g2⟩ | ⟨e2, g2⟩ <;> first | (simp [g, g2]; done) | exact absurd (e.symm.trans (c.trans e2)) (by decide))
        · refine jj_iconst (pc := 223) (v := 1) kRW_multiply_d223 (by decide) ?_
          refine jj_goto (pc := 224) (tgt := 228) kRW_multiply_d224 (by decide) ?_
          exact k228 1 (by rcases hs with ⟨e, g⟩ | ⟨e, g⟩ <;> rcases hs2 with ⟨e2, g2⟩ | ⟨e2, g2⟩ <;> first | exact absurd (e.trans e2.symm) c | (simp [g, g2]; done))
      refine jj_aload_n (pc := 206) kRW_multiply_d206 rfl ?_
      refine jj_getf (pc := 207) kRW_multiply_d207 (kfRW_d hG) hw2 rfl ?_
      refine jj_iload_n (pc := 210) kRW_multiply_d210 rfl ?_
      refine jj_iald (pc := 211) kRW_multiply_d211 (kG_t hG rfl) hd2 (i := y) rfl (by rw [List.length_map]; exact hl3) (gd_int (by omega)) ?_
      rw [ho y (by omega)]
      refine jj_if_ge (pc := 212) (tgt := 219) kRW_multiply_d212 (by decide) (fun c => ?_) (fun c => ?_)
      · refine jj_iconst (pc := 219) (v := 0) kRW_multiply_d219 (by decide) ?_
        exact k220 0 (Or.inl ⟨rfl, fun h => absurd c (Int32.not_le.mpr (hny.mpr h))⟩)
      · refine jj_iconst (pc := 215) (v := 1) kRW_multiply_d215 (by decide) ?_
        refine jj_goto (pc := 216) (tgt := 220) kRW_multiply_d216 (by decide) ?_
        exact k220 1 (Or.inr ⟨rfl, hny.mp (Int32.not_le.mp c)⟩)
    refine jj_aload_n (pc := 187) kRW_multiply_d187 rfl ?_
    refine jj_iload_n (pc := 188) kRW_multiply_d188 rfl ?_
    refine jj_iload (pc := 189) kRW_multiply_d189 rfl ?_
    refine jj_iadd (pc := 191) kRW_multiply_d191 ?_
    rw [nI_add]
    refine jj_aload_n (pc := 192) kRW_multiply_d192 rfl ?_
    refine jj_getf (pc := 193) kRW_multiply_d193 (kfRW_d hG) hw2 rfl ?_
    refine jj_iload_n (pc := 196) kRW_multiply_d196 rfl ?_
    refine jj_iald (pc := 197) kRW_multiply_d197 (kG_t hG rfl) hd2 (i := x) rfl (by rw [List.length_map]; exact hl3) (gd_int (by omega)) ?_
    rw [ho x (by omega)]
    refine jj_if_ge (pc := 198) (tgt := 205) kRW_multiply_d198 (by decide) (fun c => ?_) (fun c => ?_)
    · refine jj_iconst (pc := 205) (v := 0) kRW_multiply_d205 (by decide) ?_
      exact k206 0 (Or.inl ⟨rfl, fun h => absurd c (Int32.not_le.mpr (hnx.mpr h))⟩)
    · refine jj_iconst (pc := 201) (v := 1) kRW_multiply_d201 (by decide) ?_
      refine jj_goto (pc := 202) (tgt := 206) kRW_multiply_d202 (by decide) ?_
      exact k206 1 (Or.inr ⟨rfl, hnx.mp (Int32.not_le.mp c)⟩)
  -- the outer loop
  have outer : ∀ j p, n = p + j → ∀ (o1 o2 o3 : Option Value) (M2 : mheap) (D2 : List Int32), RW M2 w D2 T v2 → D2.length = D1.length → RF M1 M2 w → (∀ q, q ≤ T → D2.getD q 0 = D.getD q 0) → RD D2 T (p + m) → rnat D2 T (p + m) = rnat D x p * zy.natAbs → jj G kRW_multiply (d + 3) Q rc1 rs1 57 [some (.ref w), some (.int (nI x)), some (.int (nI y)), some (.int (nI (n))), some (.int (nI (m))), some (.int (nI (p + 1))), o1, none, o2, none, o3] [] M2 := by
    intro j
    induction j with
    | zero =>
      intro p hpn o1 o2 o3 M2 D2 hS2 hlen hf2 ho hD hv
      have e : p = n := by omega
      subst e
      rw [x5] at hv
      refine jj_iload (pc := 57) kRW_multiply_d57 rfl ?_
      refine jj_iload_n (pc := 59) kRW_multiply_d59 rfl ?_
      refine jj_icmp_gt (pc := 60) (tgt := 187) kRW_multiply_d60 (by decide) (fun c => ?_) (fun c => absurd (nI_lt (Nat.lt_succ_self p) (by omega)) c)
      exact fin _ o1 o2 o3 M2 D2 hS2 hlen hf2 ho hD hv
    | succ j ih =>
      intro p hpn o1 o2 o3 M2 D2 hS2 hlen hf2 ho hD hv
      obtain ⟨dd2, hw2, hd2⟩ := id hS2
      have hl3 : D2.length < 2 ^ 31 := by omega
      obtain ⟨f1, f2⟩ := x3.dv (i := p + 1) (by omega) (by omega)
      have hxp : rnat D x (p + 1) = rnat D x p + dv D (x + (p + 1)) * 32768 ^ p := rfl
      revert f1 f2 hxp
      generalize dv D (x + (p + 1)) = f
      intro f1 f2 hxp
      refine jj_iload (pc := 57) kRW_multiply_d57 rfl ?_
      refine jj_iload_n (pc := 59) kRW_multiply_d59 rfl ?_
      refine jj_icmp_gt (pc := 60) (tgt := 187) kRW_multiply_d60 (by decide) (fun c => absurd c (Int32.not_lt.mpr (nI_le (by omega) (by omega)))) (fun _ => ?_)
      refine jj_lconst (pc := 63) (v := 0) kRW_multiply_d63 (by decide) ?_
      refine jj_lstore (pc := 64) kRW_multiply_d64 (Nat.le_of_ble_eq_true rfl) ?_
      show jj G kRW_multiply (d + 3) Q rc1 rs1 66 [some (.ref w), some (.int (nI x)), some (.int (nI y)), some (.int (nI (n))), some (.int (nI (m))), some (.int (nI (p + 1))), some (.long (lN (0))), none, o2, none, o3] [] M2
      refine jj_aload_n (pc := 66) kRW_multiply_d66 rfl ?_
      refine jj_getf (pc := 67) kRW_multiply_d67 (kfRW_d hG) hw2 rfl ?_
      refine jj_iload_n (pc := 70) kRW_multiply_d70 rfl ?_
      refine jj_iload (pc := 71) kRW_multiply_d71 rfl ?_
      refine jj_iadd (pc := 73) kRW_multiply_d73 ?_
      refine jj_iald (pc := 74) kRW_multiply_d74 (kG_t hG rfl) hd2 (i := x + (p + 1)) (nI_add _ _) (by rw [List.length_map]; exact hl3) (gd_int (by omega)) ?_
      rw [ho _ (by omega), f2]
      refine jj_i2l (pc := 75) kRW_multiply_d75 ?_
      rw [nI_l (by omega)]
      refine jj_lstore (pc := 76) kRW_multiply_d76 (Nat.le_of_ble_eq_true rfl) ?_
      refine jj_iconst (pc := 78) (v := 1) kRW_multiply_d78 (by decide) ?_
      refine jj_istore (pc := 79) kRW_multiply_d79 (Nat.le_of_ble_eq_true rfl) ?_
      show jj G kRW_multiply (d + 3) Q rc1 rs1 81 [some (.ref w), some (.int (nI x)), some (.int (nI y)), some (.int (nI (n))), some (.int (nI (m))), some (.int (nI (p + 1))), some (.long (lN (0))), none, some (.long (lN (f))), none, some (.int (nI (0 + 1)))] [] M2
      have inner : ∀ j q, m = q + j → ∀ (c : Nat) (M3 : mheap) (D3 : List Int32), RW M3 w D3 T v2 → D3.length = D1.length → RF M1 M3 w → (∀ r, r ≤ T ∨ T + (p + q) < r → D3.getD r 0 = D2.getD r 0) → RD D3 T (p + q) → c < 32768 → rnat D3 T (p + q) + c * 32768 ^ (p + q) = rnat D2 T (p + q) + 32768 ^ p * f * rnat D y q → jj G kRW_multiply (d + 3) Q rc1 rs1 81 [some (.ref w), some (.int (nI x)), some (.int (nI y)), some (.int (nI (n))), some (.int (nI (m))), some (.int (nI (p + 1))), some (.long (lN (c))), none, some (.long (lN (f))), none, some (.int (nI (q + 1)))] [] M3 := by
        intro j'
        induction j' with
        | zero =>
          intro q hq c M3 D3 hS3 hlen3 hf3 ho3 hD3 hc hr
          obtain ⟨dd3, hw3, hd3⟩ := id hS3
          have hwd3 : w ≠ dd3 := fun e => by subst e; rw [hw3] at hd3; cases hd3
          have hl3 : D3.length < 2 ^ 31 := by omega
          have e : q = m := by omega
          subst e
          refine jj_iload (pc := 81) kRW_multiply_d81 rfl ?_
          refine jj_iload (pc := 83) kRW_multiply_d83 rfl ?_
          refine jj_icmp_gt (pc := 85) (tgt := 163) kRW_multiply_d85 (by decide) (fun _ => ?_) (fun c' => absurd (nI_lt (Nat.lt_succ_self q) (by omega)) c')
          refine jj_aload_n (pc := 163) kRW_multiply_d163 rfl ?_
          refine jj_getf (pc := 164) kRW_multiply_d164 (kfRW_d hG) hw3 rfl ?_
          refine jj_aload_n (pc := 167) kRW_multiply_d167 rfl ?_
          refine jj_getf (pc := 168) kRW_multiply_d168 (kfRW_top hG) hw3 rfl ?_
          refine jj_iload (pc := 171) kRW_multiply_d171 rfl ?_
          refine jj_iadd (pc := 173) kRW_multiply_d173 ?_
          refine jj_iload (pc := 174) kRW_multiply_d174 rfl ?_
          refine jj_iadd (pc := 176) kRW_multiply_d176 ?_
          refine jj_lload (pc := 177) kRW_multiply_d177 rfl ?_
          refine jj_l2i (pc := 179) kRW_multiply_d179 ?_
          rw [lN_i]
          refine jj_iast (pc := 180) kRW_multiply_d180 (kG_t hG rfl) hd3 (i := T + (p + q + 1)) (by rw [nI_add, nI_add]; congr 1; omega) (by rw [List.length_map]; exact hl3) (by rw [List.length_map]; omega) ?_
          rw [gd_set]
          refine jj_iinc (pc := 181) kRW_multiply_d181 rfl ?_
          refine jj_goto (pc := 184) (tgt := 57) kRW_multiply_d184 (by decide) ?_
          show jj G kRW_multiply (d + 3) Q rc1 rs1 57 [some (.ref w), some (.int (nI x)), some (.int (nI y)), some (.int (nI (n))), some (.int (nI (q))), some (.int (nI (p + 1) + Int32.ofInt 1)), some (.long (lN (c))), none, some (.long (lN (f))), none, some (.int (nI (q + 1)))] [] _
          rw [show nI (p + 1) + Int32.ofInt 1 = nI (p + 1 + 1) from nI_1 (p + 1)]
          have e1 : p + 1 + q = p + q + 1 := by omega
          refine ih (p + 1) (by omega) _ _ _ _ (D3.set (T + (p + q + 1)) (nI c)) ⟨dd3, by rw [jj_up_ne _ _ hwd3]; exact hw3, jj_up_at _ _ _⟩ (by rw [List.length_set]; exact hlen3) (hf3.trans (RF.put hw3 hwd3)) (fun r hr => by rw [gd_set_ne (by omega), ho3 r (Or.inl hr)]; exact ho r hr) (by rw [e1]; exact hD3.put (by omega) hc) ?_
          rw [e1, rnat_put (by omega) hc, hr, hv, y5, hxp, Nat.add_mul, Nat.mul_comm f]
        | succ j' ih' =>
          intro q hq c M3 D3 hS3 hlen3 hf3 ho3 hD3 hc hr
          obtain ⟨dd3, hw3, hd3⟩ := id hS3
          have hwd3 : w ≠ dd3 := fun e => by subst e; rw [hw3] at hd3; cases hd3
          have hl3 : D3.length < 2 ^ 31 := by omega
          obtain ⟨g1, g2⟩ := y3.dv (i := q + 1) (by omega) (by omega)
          have hyq : rnat D y (q + 1) = rnat D y q + dv D (y + (q + 1)) * 32768 ^ q := rfl
          obtain ⟨d1, d2⟩ := hD.dv (i := p + q + 1) (by omega) (by omega)
          have hdq : rnat D2 T (p + q + 1) = rnat D2 T (p + q) + dv D2 (T + (p + q + 1)) * 32768 ^ (p + q) := rfl
          revert g1 g2 hyq d1 d2 hdq
          generalize dv D (y + (q + 1)) = g
          generalize dv D2 (T + (p + q + 1)) = old
          intro g1 g2 hyq d1 d2 hdq
          have hsb := mul_bound hc d1 f1 g1
          refine jj_iload (pc := 81) kRW_multiply_d81 rfl ?_
          refine jj_iload (pc := 83) kRW_multiply_d83 rfl ?_
          refine jj_icmp_gt (pc := 85) (tgt := 163) kRW_multiply_d85 (by decide) (fun c' => absurd c' (Int32.not_lt.mpr (nI_le (by omega) (by omega)))) (fun _ => ?_)
          refine jj_lload (pc := 88) kRW_multiply_d88 rfl ?_
          refine jj_aload_n (pc := 90) kRW_multiply_d90 rfl ?_
          refine jj_getf (pc := 91) kRW_multiply_d91 (kfRW_d hG) hw3 rfl ?_
          refine jj_aload_n (pc := 94) kRW_multiply_d94 rfl ?_
          refine jj_getf (pc := 95) kRW_multiply_d95 (kfRW_top hG) hw3 rfl ?_
          refine jj_iload (pc := 98) kRW_multiply_d98 rfl ?_
          refine jj_iadd (pc := 100) kRW_multiply_d100 ?_
          refine jj_iload (pc := 101) kRW_multiply_d101 rfl ?_
          refine jj_iadd (pc := 103) kRW_multiply_d103 ?_
          refine jj_iconst (pc := 104) (v := 1) kRW_multiply_d104 (by decide) ?_
          refine jj_isub (pc := 105) kRW_multiply_d105 ?_
          refine jj_iald (pc := 106) kRW_multiply_d106 (kG_t hG rfl) hd3 (i := T + (p + q + 1)) (ix_mul T p q) (by rw [List.length_map]; exact hl3) (gd_int (by omega)) ?_
          rw [ho3 _ (Or.inr (by omega)), d2]
          refine jj_i2l (pc := 107) kRW_multiply_d107 ?_
          rw [nI_l (by omega)]
          refine jj_lload (pc := 108) kRW_multiply_d108 rfl ?_
          refine jj_aload_n (pc := 110) kRW_multiply_d110 rfl ?_
          refine jj_getf (pc := 111) kRW_multiply_d111 (kfRW_d hG) hw3 rfl ?_
          refine jj_iload_n (pc := 114) kRW_multiply_d114 rfl ?_
          refine jj_iload (pc := 115) kRW_multiply_d115 rfl ?_
          refine jj_iadd (pc := 117) kRW_multiply_d117 ?_
          refine jj_iald (pc := 118) kRW_multiply_d118 (kG_t hG rfl) hd3 (i := y + (q + 1)) (nI_add _ _) (by rw [List.length_map]; exact hl3) (gd_int (by omega)) ?_
          rw [ho3 _ (Or.inl (by omega)), ho _ (by omega), g2]
          refine jj_i2l (pc := 119) kRW_multiply_d119 ?_
          rw [nI_l (by omega)]
          refine jj_lmul (pc := 120) kRW_multiply_d120 ?_
          refine jj_ladd (pc := 121) kRW_multiply_d121 ?_
          refine jj_ladd (pc := 122) kRW_multiply_d122 ?_
          rw [lN_mul, lN_add, lN_add]
          refine jj_lstore (pc := 123) kRW_multiply_d123 (Nat.le_of_ble_eq_true rfl) ?_
          show jj G kRW_multiply (d + 3) Q rc1 rs1 125 [some (.ref w), some (.int (nI x)), some (.int (nI y)), some (.int (nI (n))), some (.int (nI (m))), some (.int (nI (p + 1))), some (.long (lN (c + (old + f * g)))), none, some (.long (lN (f))), none, some (.int (nI (q + 1)))] [] M3
          generalize hs : c + (old + f * g) = s at hsb ⊢
          refine jj_aload_n (pc := 125) kRW_multiply_d125 rfl ?_
          refine jj_getf (pc := 126) kRW_multiply_d126 (kfRW_d hG) hw3 rfl ?_
          refine jj_aload_n (pc := 129) kRW_multiply_d129 rfl ?_
          refine jj_getf (pc := 130) kRW_multiply_d130 (kfRW_top hG) hw3 rfl ?_
          refine jj_iload (pc := 133) kRW_multiply_d133 rfl ?_
          refine jj_iadd (pc := 135) kRW_multiply_d135 ?_
          refine jj_iload (pc := 136) kRW_multiply_d136 rfl ?_
          refine jj_iadd (pc := 138) kRW_multiply_d138 ?_
          refine jj_iconst (pc := 139) (v := 1) kRW_multiply_d139 (by decide) ?_
          refine jj_isub (pc := 140) kRW_multiply_d140 ?_
          refine jj_lload (pc := 141) kRW_multiply_d141 rfl ?_
          refine jj_ldc2 (pc := 143) kRW_multiply_d143 (kcRW_32768 hG) ?_
          refine jj_lrem (pc := 146) kRW_multiply_d146 (by decide) ?_
          rw [lN_rem (by omega)]
          refine jj_l2i (pc := 147) kRW_multiply_d147 ?_
          rw [lN_i]
          refine jj_iast (pc := 148) kRW_multiply_d148 (kG_t hG rfl) hd3 (i := T + (p + q + 1)) (ix_mul T p q) (by rw [List.length_map]; exact hl3) (by rw [List.length_map]; omega) ?_
          rw [gd_set]
          refine jj_lload (pc := 149) kRW_multiply_d149 rfl ?_
          refine jj_ldc2 (pc := 151) kRW_multiply_d151 (kcRW_32768 hG) ?_
          refine jj_ldiv (pc := 154) kRW_multiply_d154 (by decide) ?_
          rw [lN_div (by omega)]
          refine jj_lstore (pc := 155) kRW_multiply_d155 (Nat.le_of_ble_eq_true rfl) ?_
          refine jj_iinc (pc := 157) kRW_multiply_d157 rfl ?_
          refine jj_goto (pc := 160) (tgt := 81) kRW_multiply_d160 (by decide) ?_
          show jj G kRW_multiply (d + 3) Q rc1 rs1 81 [some (.ref w), some (.int (nI x)), some (.int (nI y)), some (.int (nI (n))), some (.int (nI (m))), some (.int (nI (p + 1))), some (.long (lN (s / 32768))), none, some (.long (lN (f))), none, some (.int (nI (q + 1) + Int32.ofInt 1))] [] _
          rw [show nI (q + 1) + Int32.ofInt 1 = nI (q + 1 + 1) from nI_1 (q + 1)]
          have hm : s % 32768 < 32768 := Nat.mod_lt _ (by decide)
          refine ih' (q + 1) (by omega) _ _ (D3.set (T + (p + q + 1)) (nI (s % 32768))) ⟨dd3, by rw [jj_up_ne _ _ hwd3]; exact hw3, jj_up_at _ _ _⟩ (by rw [List.length_set]; exact hlen3) (hf3.trans (RF.put hw3 hwd3)) (fun r hr => by rw [gd_set_ne (by omega)]; exact ho3 r (by omega)) (hD3.put (by omega) hm) (by omega) ?_
          show rnat _ T (p + q + 1) + _ * 32768 ^ (p + q + 1) = rnat D2 T (p + q + 1) + _
          rw [rnat_put (by omega) hm, hdq, hyq, Nat.pow_succ]
          exact mul_step hs.symm (Nat.pow_add 32768 p q) hr
      exact inner m 0 (by omega) 0 M2 D2 hS2 hlen hf2 (fun _ _ => rfl) (hD.less (by omega)) (by decide) (by rw [Nat.zero_mul]; rfl)
  -- the first loop
  have zero : ∀ j p, n + m = p + j → ∀ (M2 : mheap) (D2 : List Int32), RW M2 w D2 T v2 → D2.length = D1.length → RF M1 M2 w → (∀ q, q ≤ T → D2.getD q 0 = D.getD q 0) → RD D2 T p → rnat D2 T p = 0 → (∀ i, 0 < i → i ≤ p → D2.getD (T + i) 0 = nI 0) → jj G kRW_multiply (d + 3) Q rc1 rs1 26 [some (.ref w), some (.int (nI x)), some (.int (nI y)), some (.int (nI (n))), some (.int (nI (m))), some (.int (nI (p + 1))), none, none, none, none, none] [] M2 := by
    intro j
    induction j with
    | zero =>
      intro p hpn M2 D2 hS2 hlen hf2 ho hD hv h0
      refine jj_iload (pc := 26) kRW_multiply_d26 rfl ?_
      refine jj_iload_n (pc := 28) kRW_multiply_d28 rfl ?_
      refine jj_iload (pc := 29) kRW_multiply_d29 rfl ?_
      refine jj_iadd (pc := 31) kRW_multiply_d31 ?_
      rw [nI_add]
      refine jj_icmp_gt (pc := 32) (tgt := 54) kRW_multiply_d32 (by decide) (fun _ => ?_) (fun c => absurd (nI_lt (by omega) (by omega)) c)
      refine jj_iconst (pc := 54) (v := 1) kRW_multiply_d54 (by decide) ?_
      refine jj_istore (pc := 55) kRW_multiply_d55 (Nat.le_of_ble_eq_true rfl) ?_
      refine outer n 0 (by omega) none none none M2 D2 hS2 hlen hf2 ho (hD.less (by omega)) ?_
      rw [Nat.zero_add]
      have hz0 : ∀ r, r ≤ p → rnat D2 T r = 0 := by
        intro r
        induction r with
        | zero => intro _; rfl
        | succ r ihr => intro hr; rw [rnat_zero (h0 (r + 1) (by omega) hr)]; exact ihr (by omega)
      rw [hz0 m (by omega)]
      exact (Nat.zero_mul _).symm
    | succ j ih =>
      intro p hpn M2 D2 hS2 hlen hf2 ho hD hv h0
      obtain ⟨dd2, hw2, hd2⟩ := id hS2
      have hwd2 : w ≠ dd2 := fun e => by subst e; rw [hw2] at hd2; cases hd2
      have hl3 : D2.length < 2 ^ 31 := by omega
      refine jj_iload (pc := 26) kRW_multiply_d26 rfl ?_
      refine jj_iload_n (pc := 28) kRW_multiply_d28 rfl ?_
      refine jj_iload (pc := 29) kRW_multiply_d29 rfl ?_
      refine jj_iadd (pc := 31) kRW_multiply_d31 ?_
      rw [nI_add]
      refine jj_icmp_gt (pc := 32) (tgt := 54) kRW_multiply_d32 (by decide) (fun c => absurd c (Int32.not_lt.mpr (nI_le (by omega) (by omega)))) (fun _ => ?_)
      refine jj_aload_n (pc := 35) kRW_multiply_d35 rfl ?_
      refine jj_getf (pc := 36) kRW_multiply_d36 (kfRW_d hG) hw2 rfl ?_
      refine jj_aload_n (pc := 39) kRW_multiply_d39 rfl ?_
      refine jj_getf (pc := 40) kRW_multiply_d40 (kfRW_top hG) hw2 rfl ?_
      refine jj_iload (pc := 43) kRW_multiply_d43 rfl ?_
      refine jj_iadd (pc := 45) kRW_multiply_d45 ?_
      refine jj_iconst (pc := 46) (v := 0) kRW_multiply_d46 (by decide) ?_
      refine jj_iast (pc := 47) kRW_multiply_d47 (kG_t hG rfl) hd2 (i := T + (p + 1)) (nI_add _ _) (by rw [List.length_map]; exact hl3) (by rw [List.length_map]; omega) ?_
      rw [gd_set]
      refine jj_iinc (pc := 48) kRW_multiply_d48 rfl ?_
      refine jj_goto (pc := 51) (tgt := 26) kRW_multiply_d51 (by decide) ?_
      show jj G kRW_multiply (d + 3) Q rc1 rs1 26 [some (.ref w), some (.int (nI x)), some (.int (nI y)), some (.int (nI (n))), some (.int (nI (m))), some (.int (nI (p + 1) + Int32.ofInt 1)), none, none, none, none, none] [] _
      rw [show nI (p + 1) + Int32.ofInt 1 = nI (p + 1 + 1) from nI_1 (p + 1)]
      refine ih (p + 1) (by omega) _ (D2.set (T + (p + 1)) (nI 0)) ⟨dd2, by rw [jj_up_ne _ _ hwd2]; exact hw2, jj_up_at _ _ _⟩ (by rw [List.length_set]; exact hlen) (hf2.trans (RF.put hw2 hwd2)) (fun q hq => by rw [gd_set_ne (by omega)]; exact ho q hq) (hD.put (by omega) (by decide)) (by rw [rnat_put (by omega) (by decide), hv, Nat.zero_mul]) (fun i h1 h2 => ?_)
      by_cases e : i = p + 1
      · subst e; exact gd_set_eq (by omega)
      · rw [gd_set_ne (by omega)]; exact h0 i h1 (by omega)
  exact zero (n + m) 0 (by omega) M1 D1 hS1 rfl (RF.refl M1 w) (fun q _ => hx1.at q) (fun i h1 h2 => by omega) rfl (fun i h1 h2 => by omega)
end RW10
