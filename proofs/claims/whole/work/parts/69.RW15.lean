/-! ===== Wholes.divide, the middle (printed by wip/gen/rw15.py) ===== -/
theorem dv_val0 {zx zy : Int} {q r : Nat} (hy : 0 < zy) (h : zx.natAbs = q * zy.natAbs + r) (hr : r < zy.natAbs) (hx : 0 ≤ zx) : zx / zy = (q : Int) ∧ zx % zy = (r : Int) := by
  have e : (zx.natAbs : Int) = (q : Int) * (zy.natAbs : Int) + (r : Int) := by rw [h]; simp
  have e1 : (zx.natAbs : Int) = zx := by omega
  have e2 : (zy.natAbs : Int) = zy := by omega
  rw [e1, e2] at e
  exact (Int.ediv_emod_unique hy).mpr ⟨by rw [e, Int.mul_comm]; omega, by omega, by omega⟩
theorem dv_val1 {zx zy : Int} {q : Nat} (hy : 0 < zy) (h : zx.natAbs = q * zy.natAbs) (hx : zx < 0) : zx / zy = -(q : Int) ∧ zx % zy = 0 := by
  have e : (zx.natAbs : Int) = (q : Int) * (zy.natAbs : Int) := by rw [h]; simp
  have e1 : (zx.natAbs : Int) = -zx := by omega
  have e2 : (zy.natAbs : Int) = zy := by omega
  rw [e1, e2] at e
  exact (Int.ediv_emod_unique hy).mpr ⟨by rw [Int.mul_neg, Int.mul_comm]; omega, by omega, by omega⟩
theorem dv_val2 {zx zy : Int} {q r : Nat} (hy : 0 < zy) (h : zx.natAbs = q * zy.natAbs + r) (hr : r < zy.natAbs) (hr0 : 0 < r) (hx : zx < 0) : zx / zy = -(q : Int) - 1 ∧ zx % zy = zy - (r : Int) := by
  have e : (zx.natAbs : Int) = (q : Int) * (zy.natAbs : Int) + (r : Int) := by rw [h]; simp
  have e1 : (zx.natAbs : Int) = -zx := by omega
  have e2 : (zy.natAbs : Int) = zy := by omega
  rw [e1, e2] at e
  exact (Int.ediv_emod_unique hy).mpr ⟨by rw [Int.mul_sub, Int.mul_neg, Int.mul_one, Int.mul_comm]; omega, by omega, by omega⟩
section RW15
variable {G : jg} {d : Nat} {Q : jq} {rc rs : Nat} {M : mheap} {w : Nat} {v2 : Value} {D : List Int32}
theorem dv_fix {T F T2 y pq pr cm X Z a b Qv Rv : Nat} {zx zy : Int} {s A : Int32} {o1 o4 o5 o6 o7 o8 o9 o10 o11 o12 o14 o18 o19 o20 o21 o22 o23 : Option Value} (hG : kG G) (hS : RS M w D T2 v2 cm X Z rc rs) (hq : RI D T2 pq (sgnI s Qv)) (hr : RI D T2 pr (Rv : Int)) (hy : RI D T2 y zy) (hT : 0 < T) (hF : T + (a + 1) + b + 2 ≤ F) (hF2 : F ≤ T2) (hpq : pq = 0 ∨ F ≤ pq) (hpr : pr = 0 ∨ F ≤ pr) (ha : Qv < 32768 ^ a) (hy0 : 0 < zy) (hb : zy.natAbs < 32768 ^ b) (hRy : Rv < zy.natAbs) (hs : s = 0 ∧ 0 ≤ zx ∨ s = 1 ∧ zx < 0) (hA : A = 0 ∧ Rv = 0 ∨ A = 1 ∧ 0 < Rv) (hQR : zx.natAbs = Qv * zy.natAbs + Rv) (hcm : T2 + a + b + 20 ≤ cm)
    (K : DVK Q M w D T cm X Z (T + (a + 1) + b + 2) (zx / zy) (zx % zy)) : jj G kRW_divide (d + 6) Q rc rs 513 [some (.ref w), (o1), some (.int (nI (y))), some (.int (s)), (o4), (o5), (o6), (o7), (o8), (o9), (o10), (o11), (o12), some (.int (A)), (o14), some (.int (nI (T))), some (.int (nI (pq))), some (.int (nI (pr))), (o18), (o19), (o20), (o21), (o22), (o23)] [] M := by
  obtain ⟨hS0, hB, hTD, hz, hp⟩ := id hS
  obtain ⟨dd, hw, hd⟩ := id hS0
  have hcap := hB.cap
  have hl : D.length < 2 ^ 31 := by omega
  have hpow : 32768 ^ (a + 1) = 32768 ^ a * 32768 := Nat.pow_succ ..
  have hpp : 0 < 32768 ^ a := Nat.pow_pos (by decide)
  have hbp : 0 < 32768 ^ b := Nat.pow_pos (by decide)
  refine jj_iload_n (pc := 513) kRW_divide_d513 rfl ?_
  refine jj_if_eq (pc := 514) (tgt := 544) kRW_divide_d514 (by decide) (fun c => ?_) (fun c => ?_)
  · skip
    obtain ⟨-, hx0⟩ : s = 0 ∧ 0 ≤ zx := by
      rcases hs with h | h
      · exact h
      · exact absurd (c.symm.trans h.1) (by decide)
    obtain ⟨e1, e2⟩ := dv_val0 hy0 hQR hRy hx0
    rw [e1, e2] at K
    have e3 : sgnI s Qv = (Qv : Int) := by unfold sgnI; rw [if_pos c]
    rw [e3] at hq
    exact dv_down (F := F) hG hS hq hr (by omega) hT hF hF2 hpq hpr (by omega) (by omega) K
  · skip
    obtain ⟨hs1, hx0⟩ : s = 1 ∧ zx < 0 := by
      rcases hs with h | h
      · exact absurd h.1 c
      · exact h
    have e3 : sgnI s Qv = -(Qv : Int) := by unfold sgnI; rw [if_neg c]
    rw [e3] at hq
    refine jj_iload (pc := 517) kRW_divide_d517 rfl ?_
    refine jj_if_eq (pc := 519) (tgt := 544) kRW_divide_d519 (by decide) (fun c2 => ?_) (fun c2 => ?_)
    · skip
      obtain ⟨-, hr0⟩ : A = 0 ∧ Rv = 0 := by
        rcases hA with h | h
        · exact h
        · exact absurd (c2.symm.trans h.1) (by decide)
      subst hr0
      obtain ⟨e1, e2⟩ := dv_val1 hy0 hQR hx0
      rw [e1, e2] at K
      exact dv_down (F := F) hG hS hq hr (by omega) hT hF hF2 hpq hpr (by omega) (by omega) K
    · skip
      obtain ⟨-, hr0⟩ : A = 1 ∧ 0 < Rv := by
        rcases hA with h | h
        · exact absurd h.1 c2
        · exact h
      obtain ⟨e1, e2⟩ := dv_val2 hy0 hQR hRy hr0 hx0
      rw [e1, e2] at K
      refine jj_aload_n (pc := 522) kRW_divide_d522 rfl ?_
      refine jj_iload (pc := 523) kRW_divide_d523 rfl ?_
      refine jj_aload_n (pc := 525) kRW_divide_d525 rfl ?_
      refine jj_lconst (pc := 526) (v := lN 1) kRW_divide_d526 (by decide) ?_
      refine jj_callV (pc := 527) (b := w) (As := [.long (lN (1))]) kRW_divide_d527 (kvRW_RW_of hG) (kG_cl hG rfl) rfl hw rfl rfl rfl (Nat.le_of_ble_eq_true rfl) (Nat.le_of_ble_eq_true rfl) (jj_bare0 rfl) ?_
      refine ri_of hG hS (by omega) (fun M11 D11 T11 p11 rc11 rs11 hS11 t11 u11 ho11 hf11 hI11 => ?_)
      show jj G kRW_divide (d + 6) Q rc11 rs11 530 [some (.ref w), (o1), some (.int (nI (y))), some (.int (s)), (o4), (o5), (o6), (o7), (o8), (o9), (o10), (o11), (o12), some (.int (A)), (o14), some (.int (nI (T))), some (.int (nI (pq))), some (.int (nI (pr))), (o18), (o19), (o20), (o21), (o22), (o23)] [.int (nI (p11)), .int (nI (pq)), .ref w] M11
      obtain ⟨hS110, hB11, hTD11, hz11, hp11⟩ := id hS11
      obtain ⟨dd11, hw11, hd11⟩ := id hS110
      have hl11 : D11.length < 2 ^ 31 := by have := hB11.cap; omega
      have hwd11 : w ≠ dd11 := fun e => by subst e; rw [hw11] at hd11; cases hd11
      rw [show (lN 1).toInt = 1 by decide] at hI11
      refine jj_callV (pc := 530) (b := w) (As := [.int (nI (pq)), .int (nI (p11))]) kRW_divide_d530 (kvRW_RW_subtract hG) (kG_cl hG rfl) rfl hw11 rfl rfl rfl (Nat.le_of_ble_eq_true rfl) (Nat.le_of_ble_eq_true rfl) (jj_bare0 rfl) ?_
      refine rs_subtract (a := a + 1) hG hS11 (hq.congr t11.1 ho11) hI11 (by omega) (by omega) (by omega) (fun M12 D12 T12 p12 rc12 rs12 hS12 t12 u12 ho12 hf12 hI12 => ?_)
      show jj G kRW_divide (d + 6) Q rc12 rs12 533 [some (.ref w), (o1), some (.int (nI (y))), some (.int (s)), (o4), (o5), (o6), (o7), (o8), (o9), (o10), (o11), (o12), some (.int (A)), (o14), some (.int (nI (T))), some (.int (nI (pq))), some (.int (nI (pr))), (o18), (o19), (o20), (o21), (o22), (o23)] [.int (nI (p12))] M12
      obtain ⟨hS120, hB12, hTD12, hz12, hp12⟩ := id hS12
      obtain ⟨dd12, hw12, hd12⟩ := id hS120
      have hl12 : D12.length < 2 ^ 31 := by have := hB12.cap; omega
      have hwd12 : w ≠ dd12 := fun e => by subst e; rw [hw12] at hd12; cases hd12
      refine jj_istore (pc := 533) kRW_divide_d533 (Nat.le_of_ble_eq_true rfl) ?_
      refine jj_aload_n (pc := 535) kRW_divide_d535 rfl ?_
      refine jj_iload_n (pc := 536) kRW_divide_d536 rfl ?_
      refine jj_iload (pc := 537) kRW_divide_d537 rfl ?_
      refine jj_callV (pc := 539) (b := w) (As := [.int (nI (y)), .int (nI (pr))]) kRW_divide_d539 (kvRW_RW_subtract hG) (kG_cl hG rfl) rfl hw12 rfl rfl rfl (Nat.le_of_ble_eq_true rfl) (Nat.le_of_ble_eq_true rfl) (jj_bare0 rfl) ?_
      refine rs_subtract (a := b) hG hS12 ((hy.congr t11.1 ho11).congr t12.1 ho12) ((hr.congr t11.1 ho11).congr t12.1 ho12) hb (by omega) (by omega) (fun M13 D13 T13 p13 rc13 rs13 hS13 t13 u13 ho13 hf13 hI13 => ?_)
      show jj G kRW_divide (d + 6) Q rc13 rs13 542 [some (.ref w), (o1), some (.int (nI (y))), some (.int (s)), (o4), (o5), (o6), (o7), (o8), (o9), (o10), (o11), (o12), some (.int (A)), (o14), some (.int (nI (T))), some (.int (nI (p12))), some (.int (nI (pr))), (o18), (o19), (o20), (o21), (o22), (o23)] [.int (nI (p13))] M13
      obtain ⟨hS130, hB13, hTD13, hz13, hp13⟩ := id hS13
      obtain ⟨dd13, hw13, hd13⟩ := id hS130
      have hl13 : D13.length < 2 ^ 31 := by have := hB13.cap; omega
      have hwd13 : w ≠ dd13 := fun e => by subst e; rw [hw13] at hd13; cases hd13
      refine jj_istore (pc := 542) kRW_divide_d542 (Nat.le_of_ble_eq_true rfl) ?_
      show jj G kRW_divide (d + 6) Q rc13 rs13 544 [some (.ref w), (o1), some (.int (nI (y))), some (.int (s)), (o4), (o5), (o6), (o7), (o8), (o9), (o10), (o11), (o12), some (.int (A)), (o14), some (.int (nI (T))), some (.int (nI (p12))), some (.int (nI (p13))), (o18), (o19), (o20), (o21), (o22), (o23)] [] M13
      have ho4 : ∀ i, i < T2 → D13.getD i 0 = D.getD i 0 := fun i hi => by rw [ho13 i (by omega), ho12 i (by omega), ho11 i hi]
      exact dv_down (F := F) hG hS13 (hI12.congr t13.1 ho13) hI13 (by omega) hT hF (by omega) (by omega) (by omega) (by omega) (by omega) (K.from ((hf11.trans hf12).trans hf13) (fun i hi => ho4 i (by omega)))
theorem dv_mid {T x y n m q cm X Z Qv Rv U L : Nat} {zx zy : Int} {s : Int32} {o11 o12 o13 o14 o15 o16 o17 o18 o19 o20 o21 o22 o23 : Option Value} (hG : kG G) (hS : RW M w D T v2) (hB : RB cm X Z rc rs D) (hTD : T + 2 * n + m + 16 ≤ D.length) (hz : D.getD 0 0 = 0) (hT : 0 < T) (hq : q = T + m + 4) (hy : RI D T y zy) (hDq : RD D q n) (hDr : RD D T m) (hQv : rnat D q n = Qv) (hRv : rnat D T m = Rv) (hy0 : 0 < zy) (hb : zy.natAbs < 32768 ^ m) (hRy : Rv < zy.natAbs) (hs : s = 0 ∧ 0 ≤ zx ∨ s = 1 ∧ zx < 0) (hQR : zx.natAbs = Qv * zy.natAbs + Rv) (hcm : T + 3 * n + 3 * m + 40 ≤ cm)
    (K : DVK Q M w D T cm X Z (T + (n + 1) + m + 2) (zx / zy) (zx % zy)) : jj G kRW_divide (d + 6) Q rc rs 318 [some (.ref w), some (.int (nI (x))), some (.int (nI (y))), some (.int (s)), some (.int (nI (n))), some (.int (nI (m))), some (.int (nI (T))), some (.int (nI (q))), some (.int (nI (U))), some (.long (lN (L))), none, (o11), (o12), (o13), (o14), (o15), (o16), (o17), (o18), (o19), (o20), (o21), (o22), (o23)] [] M := by
  obtain ⟨dd, hw, hd⟩ := id hS
  have hcap := hB.cap
  have hl : D.length < 2 ^ 31 := by omega
  have ha : Qv < 32768 ^ n := by rw [← hQv]; exact rnat_lt hDq
  obtain ⟨F, hF⟩ : ∃ F, q + n + 1 = F := ⟨_, rfl⟩
  refine jj_iload (pc := 318) kRW_divide_d318 rfl ?_
  refine jn_iconst (pc := 320) 1 kRW_divide_d320 (by decide) ?_
  refine jn_iadd (pc := 321) (T + 1) kRW_divide_d321 (by omega) ?_
  refine jj_istore (pc := 322) kRW_divide_d322 (Nat.le_of_ble_eq_true rfl) ?_
  refine jj_iload (pc := 324) kRW_divide_d324 rfl ?_
  refine jj_istore (pc := 326) kRW_divide_d326 (Nat.le_of_ble_eq_true rfl) ?_
  show jj G kRW_divide (d + 6) Q rc rs 328 [some (.ref w), some (.int (nI (x))), some (.int (nI (y))), some (.int (s)), some (.int (nI (n))), some (.int (nI (m))), some (.int (nI (T))), some (.int (nI (q))), some (.int (nI (U))), some (.long (lN (L))), none, some (.int (nI (T + 1))), some (.int (nI (m))), (o13), (o14), (o15), (o16), (o17), (o18), (o19), (o20), (o21), (o22), (o23)] [] M
  have k364 : ∀ (km : Nat) (A : Int32), km ≤ m → rtrim D T m = km → (A = 0 ∧ Rv = 0 ∨ A = 1 ∧ 0 < Rv) → jj G kRW_divide (d + 6) Q rc rs 364 [some (.ref w), some (.int (nI (x))), some (.int (nI (y))), some (.int (s)), some (.int (nI (n))), some (.int (nI (m))), some (.int (nI (T))), some (.int (nI (q))), some (.int (nI (U))), some (.long (lN (L))), none, some (.int (nI (T + 1))), some (.int (nI (km))), (o13), (o14), (o15), (o16), (o17), (o18), (o19), (o20), (o21), (o22), (o23)] [.int (A)] M := by
    intro km A hk hkt hA
    refine jj_istore (pc := 364) kRW_divide_d364 (Nat.le_of_ble_eq_true rfl) ?_
    refine jj_iload (pc := 366) kRW_divide_d366 rfl ?_
    refine jj_iload (pc := 368) kRW_divide_d368 rfl ?_
    refine jn_iadd (pc := 370) (q + n) kRW_divide_d370 (by omega) ?_
    refine jn_iconst (pc := 371) 1 kRW_divide_d371 (by decide) ?_
    refine jn_iadd (pc := 372) (q + n + 1) kRW_divide_d372 (by omega) ?_
    refine jn_top (.int (nI (F))) (by rw [hF]) ?_
    refine jj_istore (pc := 373) kRW_divide_d373 (Nat.le_of_ble_eq_true rfl) ?_
    refine jj_aload_n (pc := 375) kRW_divide_d375 rfl ?_
    refine jj_iload (pc := 376) kRW_divide_d376 rfl ?_
    refine jj_aload_n (pc := 378) kRW_divide_d378 rfl ?_
    refine jj_getf (pc := 379) kRW_divide_d379 (kfRW_top hG) hw rfl ?_
    refine jn_isub (pc := 382) (m + n + 5) kRW_divide_d382 (by omega) ?_
    refine jj_iload (pc := 383) kRW_divide_d383 rfl ?_
    refine jn_iadd (pc := 385) (m + 2 * n + 5) kRW_divide_d385 (by omega) ?_
    refine jj_iload (pc := 386) kRW_divide_d386 rfl ?_
    refine jn_iadd (pc := 388) (2 * m + 2 * n + 5) kRW_divide_d388 (by omega) ?_
    refine jn_bipush (pc := 389) 8 kRW_divide_d389 (by decide) ?_
    refine jn_iadd (pc := 391) (2 * m + 2 * n + 13) kRW_divide_d391 (by omega) ?_
    refine jj_callV (pc := 392) (b := w) (As := [.int (nI (2 * m + 2 * n + 13))]) kRW_divide_d392 (kvRW_RW_room hG) (kG_cl hG rfl) rfl hw rfl rfl rfl (Nat.le_of_ble_eq_true rfl) (Nat.le_of_ble_eq_true rfl) (jj_bare0 rfl) ?_
    refine rs_room hG hS hB (by omega) (fun M1 D1 rc1 rs1 hS1 hB1 hl1 hx1 hf1 => ?_)
    show jj G kRW_divide (d + 6) Q rc1 rs1 395 [some (.ref w), some (.int (nI (x))), some (.int (nI (y))), some (.int (s)), some (.int (nI (n))), some (.int (nI (m))), some (.int (nI (T))), some (.int (nI (q))), some (.int (nI (U))), some (.long (lN (L))), none, some (.int (nI (T + 1))), some (.int (nI (km))), some (.int (A)), some (.int (nI (F))), (o15), (o16), (o17), (o18), (o19), (o20), (o21), (o22), (o23)] [] M1
    obtain ⟨dd1, hw1, hd1⟩ := id hS1
    have hl1 : D1.length < 2 ^ 31 := by have := hB1.cap; omega
    have hwd1 : w ≠ dd1 := fun e => by subst e; rw [hw1] at hd1; cases hd1
    refine jn_iconst (pc := 395) 0 kRW_divide_d395 (by decide) ?_
    refine jj_istore (pc := 396) kRW_divide_d396 (Nat.le_of_ble_eq_true rfl) ?_
    show jj G kRW_divide (d + 6) Q rc1 rs1 398 [some (.ref w), some (.int (nI (x))), some (.int (nI (y))), some (.int (s)), some (.int (nI (n))), some (.int (nI (m))), some (.int (nI (T))), some (.int (nI (q))), some (.int (nI (U))), some (.long (lN (L))), none, some (.int (nI (T + 1))), some (.int (nI (km))), some (.int (A)), some (.int (nI (F))), some (.int (nI (0))), (o16), (o17), (o18), (o19), (o20), (o21), (o22), (o23)] [] M1
    have lp_out : ∀ (M5 : mheap) (D5 : List Int32), RW M5 w D5 (T) v2 → D5.length = D1.length → RF M1 M5 w → (∀ i, 0 ≤ i → i < (n) → D5.getD (F + 1 + i) 0 = D1.getD (q + 1 + i) 0) → (∀ i, i < F + 1 + 0 ∨ F + 1 + (n) ≤ i → D5.getD i 0 = D1.getD i 0) → jj G kRW_divide (d + 6) Q rc1 rs1 435 [some (.ref w), some (.int (nI (x))), some (.int (nI (y))), some (.int (s)), some (.int (nI (n))), some (.int (nI (m))), some (.int (nI (T))), some (.int (nI (q))), some (.int (nI (U))), some (.long (lN (L))), none, some (.int (nI (T + 1))), some (.int (nI (km))), some (.int (A)), some (.int (nI (F))), some (.int (nI (n))), (o16), (o17), (o18), (o19), (o20), (o21), (o22), (o23)] [] M5 := by
      intro M5 D5 hS5 hlen5 hf5 hc5 ho5
      obtain ⟨dd5, hw5, hd5⟩ := id hS5
      have hwd5 : w ≠ dd5 := fun e => by subst e; rw [hw5] at hd5; cases hd5
      have hl5 : D5.length < 2 ^ 31 := by omega
      have hD5 : ∀ i, i < q + n + 1 → D5.getD i 0 = D.getD i 0 := fun i hi => by rw [ho5 i (by omega), hx1.at i]
      have hq5 : ∀ i, 0 < i → i ≤ n → D5.getD (F + i) 0 = D.getD (q + i) 0 := fun i h1 h2 => by
        have := hc5 (i - 1) (by omega) (by omega)
        rw [show F + 1 + (i - 1) = F + i by omega, show q + 1 + (i - 1) = q + i by omega] at this
        rw [this, hx1.at]
      refine jj_aload_n (pc := 435) kRW_divide_d435 rfl ?_
      refine jj_getf (pc := 436) kRW_divide_d436 (kfRW_top hG) hw5 rfl ?_
      refine jj_istore (pc := 439) kRW_divide_d439 (Nat.le_of_ble_eq_true rfl) ?_
      refine jj_aload_n (pc := 441) kRW_divide_d441 rfl ?_
      refine jj_iload (pc := 442) kRW_divide_d442 rfl ?_
      refine jj_putf (pc := 444) kRW_divide_d444 (kpRW_top hG) hw5 (by rfl) rfl ?_
      refine jn_gen (fun M101 hM102 => ?_)
      have h103 : M101 dd5 = some (.inr 0, (D5).map .int) := by rw [hM102, jj_up_ne _ _ (Ne.symm hwd5)]; exact hd5
      have h104 : M101 w = some (.inl nRW, [.ref dd5, .int (nI (F)), v2]) := by rw [hM102]; exact jj_up_at _ _ _
      have hF105 : RF M1 M101 w := by rw [hM102]; exact hf5.trans (RF.top hw5)
      refine jj_aload_n (pc := 447) kRW_divide_d447 rfl ?_
      refine jj_iload (pc := 448) kRW_divide_d448 rfl ?_
      refine jj_iload_n (pc := 450) kRW_divide_d450 rfl ?_
      have hS6' : RW M101 w D5 F v2 := ⟨dd5, h104, h103⟩
      have hRD : RD D5 F n := hDq.congr hq5
      have hRn : rnat D5 F n = Qv := by rw [rnat_congr hq5, hQv]
      refine jj_callV (pc := 451) (b := w) (As := [.int (nI (n)), .int (s)]) kRW_divide_d451 (kvRW_RW_finish hG) (kG_cl hG rfl) rfl h104 rfl rfl rfl (Nat.le_of_ble_eq_true rfl) (Nat.le_of_ble_eq_true rfl) (jj_bare0 rfl) ?_
      refine rs_fin hG hS6' hl5 (by omega) hRD (by rw [hD5 0 (by omega)]; exact hz) (by omega) (fun M6 D6 T6 p6 hS6 hlen6 t6 u6 ho6 hf6 hI6 => ?_)
      show jj G kRW_divide (d + 6) Q rc1 rs1 454 [some (.ref w), some (.int (nI (x))), some (.int (nI (y))), some (.int (s)), some (.int (nI (n))), some (.int (nI (m))), some (.int (nI (T))), some (.int (nI (q))), some (.int (nI (U))), some (.long (lN (L))), none, some (.int (nI (T + 1))), some (.int (nI (km))), some (.int (A)), some (.int (nI (F))), some (.int (nI (T))), (o16), (o17), (o18), (o19), (o20), (o21), (o22), (o23)] [.int (nI (p6))] M6
      rw [hRn] at hI6
      have hB6 : RB cm X Z rc1 rs1 D6 := hB1.same (by omega)
      obtain ⟨dd6, hw6, hd6⟩ := id hS6
      have hl6 : D6.length < 2 ^ 31 := by have := hB6.cap; omega
      have hwd6 : w ≠ dd6 := fun e => by subst e; rw [hw6] at hd6; cases hd6
      refine jj_istore (pc := 454) kRW_divide_d454 (Nat.le_of_ble_eq_true rfl) ?_
      refine jj_aload_n (pc := 456) kRW_divide_d456 rfl ?_
      refine jj_iload (pc := 457) kRW_divide_d457 rfl ?_
      refine jn_iconst (pc := 459) 2 kRW_divide_d459 (by decide) ?_
      refine jn_iadd (pc := 460) (km + 2) kRW_divide_d460 (by omega) ?_
      refine jj_callV (pc := 461) (b := w) (As := [.int (nI (km + 2))]) kRW_divide_d461 (kvRW_RW_room hG) (kG_cl hG rfl) rfl hw6 rfl rfl rfl (Nat.le_of_ble_eq_true rfl) (Nat.le_of_ble_eq_true rfl) (jj_bare0 rfl) ?_
      refine rs_room hG hS6 hB6 (by omega) (fun M7 D7 rc7 rs7 hS7 hB7 hl7 hx7 hf7 => ?_)
      show jj G kRW_divide (d + 6) Q rc7 rs7 464 [some (.ref w), some (.int (nI (x))), some (.int (nI (y))), some (.int (s)), some (.int (nI (n))), some (.int (nI (m))), some (.int (nI (T))), some (.int (nI (q))), some (.int (nI (U))), some (.long (lN (L))), none, some (.int (nI (T + 1))), some (.int (nI (km))), some (.int (A)), some (.int (nI (F))), some (.int (nI (T))), some (.int (nI (p6))), (o17), (o18), (o19), (o20), (o21), (o22), (o23)] [] M7
      obtain ⟨dd7, hw7, hd7⟩ := id hS7
      have hl7 : D7.length < 2 ^ 31 := by have := hB7.cap; omega
      have hwd7 : w ≠ dd7 := fun e => by subst e; rw [hw7] at hd7; cases hd7
      refine jn_iconst (pc := 464) 0 kRW_divide_d464 (by decide) ?_
      refine jj_istore (pc := 465) kRW_divide_d465 (Nat.le_of_ble_eq_true rfl) ?_
      show jj G kRW_divide (d + 6) Q rc7 rs7 467 [some (.ref w), some (.int (nI (x))), some (.int (nI (y))), some (.int (s)), some (.int (nI (n))), some (.int (nI (m))), some (.int (nI (T))), some (.int (nI (q))), some (.int (nI (U))), some (.long (lN (L))), none, some (.int (nI (T + 1))), some (.int (nI (km))), some (.int (A)), some (.int (nI (F))), some (.int (nI (T))), some (.int (nI (p6))), some (.int (nI (0))), (o18), (o19), (o20), (o21), (o22), (o23)] [] M7
      have lq_out : ∀ (M8 : mheap) (D8 : List Int32), RW M8 w D8 (T6) v2 → D8.length = D7.length → RF M7 M8 w → (∀ i, 0 ≤ i → i < (km) → D8.getD (T6 + 1 + i) 0 = D7.getD (T + 1 + i) 0) → (∀ i, i < T6 + 1 + 0 ∨ T6 + 1 + (km) ≤ i → D8.getD i 0 = D7.getD i 0) → jj G kRW_divide (d + 6) Q rc7 rs7 504 [some (.ref w), some (.int (nI (x))), some (.int (nI (y))), some (.int (s)), some (.int (nI (n))), some (.int (nI (m))), some (.int (nI (T))), some (.int (nI (q))), some (.int (nI (U))), some (.long (lN (L))), none, some (.int (nI (T + 1))), some (.int (nI (km))), some (.int (A)), some (.int (nI (F))), some (.int (nI (T))), some (.int (nI (p6))), some (.int (nI (km))), (o18), (o19), (o20), (o21), (o22), (o23)] [] M8 := by
        intro M8 D8 hS8 hlen8 hf8 hc8 ho8
        obtain ⟨dd8, hw8, hd8⟩ := id hS8
        have hwd8 : w ≠ dd8 := fun e => by subst e; rw [hw8] at hd8; cases hd8
        have hl8 : D8.length < 2 ^ 31 := by omega
        have hD8 : ∀ i, i < T6 → D8.getD i 0 = D6.getD i 0 := fun i hi => by rw [ho8 i (by omega), hx7.at i]
        have hr8 : ∀ i, 0 < i → i ≤ km → D8.getD (T6 + i) 0 = D.getD (T + i) 0 := fun i h1 h2 => by
          have := hc8 (i - 1) (by omega) (by omega)
          rw [show T6 + 1 + (i - 1) = T6 + i by omega, show T + 1 + (i - 1) = T + i by omega] at this
          rw [this, hx7.at, ho6 _ (by omega), hD5 _ (by omega)]
        have hRD8 : RD D8 T6 km := (hDr.less hk).congr hr8
        have hRn8 : rnat D8 T6 km = Rv := by rw [rnat_congr hr8, ← hkt, rnat_rtrim, hRv]
        refine jj_aload_n (pc := 504) kRW_divide_d504 rfl ?_
        refine jj_iload (pc := 505) kRW_divide_d505 rfl ?_
        refine jn_iconst (pc := 507) 0 kRW_divide_d507 (by decide) ?_
        refine jj_callV (pc := 508) (b := w) (As := [.int (nI (km)), .int (nI (0))]) kRW_divide_d508 (kvRW_RW_finish hG) (kG_cl hG rfl) rfl hw8 rfl rfl rfl (Nat.le_of_ble_eq_true rfl) (Nat.le_of_ble_eq_true rfl) (jj_bare0 rfl) ?_
        refine rs_fin hG hS8 hl8 (by omega) hRD8 (by rw [hD8 0 (by omega), ho6 0 (by omega), hD5 0 (by omega)]; exact hz) (by omega) (fun M9 D9 T9 p9 hS9 hlen9 t9 u9 ho9 hf9 hI9 => ?_)
        show jj G kRW_divide (d + 6) Q rc7 rs7 511 [some (.ref w), some (.int (nI (x))), some (.int (nI (y))), some (.int (s)), some (.int (nI (n))), some (.int (nI (m))), some (.int (nI (T))), some (.int (nI (q))), some (.int (nI (U))), some (.long (lN (L))), none, some (.int (nI (T + 1))), some (.int (nI (km))), some (.int (A)), some (.int (nI (F))), some (.int (nI (T))), some (.int (nI (p6))), some (.int (nI (km))), (o18), (o19), (o20), (o21), (o22), (o23)] [.int (nI (p9))] M9
        rw [hRn8, show sgnI (nI 0) Rv = (Rv : Int) from if_pos rfl] at hI9
        have hB9 : RB cm X Z rc7 rs7 D9 := hB7.same (by omega)
        have hD9 : ∀ i, i < T6 → D9.getD i 0 = D6.getD i 0 := fun i hi => by rw [ho9 i hi, hD8 i hi]
        have hD9' : ∀ i, i < T → D9.getD i 0 = D.getD i 0 := fun i hi => by rw [hD9 i (by omega), ho6 i (by omega), hD5 i (by omega)]
        refine jj_istore (pc := 511) kRW_divide_d511 (Nat.le_of_ble_eq_true rfl) ?_
        show jj G kRW_divide (d + 6) Q rc7 rs7 513 [some (.ref w), some (.int (nI (x))), some (.int (nI (y))), some (.int (s)), some (.int (nI (n))), some (.int (nI (m))), some (.int (nI (T))), some (.int (nI (q))), some (.int (nI (U))), some (.long (lN (L))), none, some (.int (nI (T + 1))), some (.int (nI (km))), some (.int (A)), some (.int (nI (F))), some (.int (nI (T))), some (.int (nI (p6))), some (.int (nI (p9))), (o18), (o19), (o20), (o21), (o22), (o23)] [] M9
        exact dv_fix (F := F) (a := n) (b := m) hG ⟨hS9, hB9, by omega, by rw [hD9' 0 hT]; exact hz, by omega⟩ (hI6.congr (by omega) hD9) hI9 (hy.congr (by omega) hD9') hT (by omega) (by omega) (by omega) (by omega) ha hy0 hb hRy hs hA hQR (by omega) (K.from ((((hf1.trans hF105).trans hf6).trans hf7).trans (hf8.trans hf9)) hD9')
      have lq : ∀ j k, km = k + j → 0 ≤ k → ∀ (M8 : mheap) (D8 : List Int32), RW M8 w D8 (T6) v2 → D8.length = D7.length → RF M7 M8 w → (∀ i, 0 ≤ i → i < k → D8.getD (T6 + 1 + i) 0 = D7.getD (T + 1 + i) 0) → (∀ i, i < T6 + 1 + 0 ∨ T6 + 1 + k ≤ i → D8.getD i 0 = D7.getD i 0) → jj G kRW_divide (d + 6) Q rc7 rs7 467 [some (.ref w), some (.int (nI (x))), some (.int (nI (y))), some (.int (s)), some (.int (nI (n))), some (.int (nI (m))), some (.int (nI (T))), some (.int (nI (q))), some (.int (nI (U))), some (.long (lN (L))), none, some (.int (nI (T + 1))), some (.int (nI (km))), some (.int (A)), some (.int (nI (F))), some (.int (nI (T))), some (.int (nI (p6))), some (.int (nI (k))), (o18), (o19), (o20), (o21), (o22), (o23)] [] M8 := by
        intro j
        induction j with
        | zero =>
          intro k hk hk0 M8 D8 hS8 hlen8 hf8 hc8 ho8
          have e : km = k := by omega
          subst e
          refine jj_iload (pc := 467) kRW_divide_d467 rfl ?_
          refine jj_iload (pc := 469) kRW_divide_d469 rfl ?_
          refine jn_icmp_ge (pc := 471) (tgt := 504) kRW_divide_d471 (by decide) (by omega) (by omega) (fun _ => ?_) (fun c => by exfalso; omega)
          exact lq_out M8 D8 hS8 hlen8 hf8 hc8 ho8
        | succ j ih =>
          intro k hk hk0 M8 D8 hS8 hlen8 hf8 hc8 ho8
          obtain ⟨dd8, hw8, hd8⟩ := id hS8
          have hwd8 : w ≠ dd8 := fun e => by subst e; rw [hw8] at hd8; cases hd8
          have hl8 : D8.length < 2 ^ 31 := by omega
          refine jj_iload (pc := 467) kRW_divide_d467 rfl ?_
          refine jj_iload (pc := 469) kRW_divide_d469 rfl ?_
          refine jn_icmp_ge (pc := 471) (tgt := 504) kRW_divide_d471 (by decide) (by omega) (by omega) (fun c => by exfalso; omega) (fun _ => ?_)
          refine jj_aload_n (pc := 474) kRW_divide_d474 rfl ?_
          refine jj_getf (pc := 475) kRW_divide_d475 (kfRW_d hG) hw8 rfl ?_
          refine jj_aload_n (pc := 478) kRW_divide_d478 rfl ?_
          refine jj_getf (pc := 479) kRW_divide_d479 (kfRW_top hG) hw8 rfl ?_
          refine jn_iconst (pc := 482) 1 kRW_divide_d482 (by decide) ?_
          refine jn_iadd (pc := 483) (T6 + 1) kRW_divide_d483 (by omega) ?_
          refine jj_iload (pc := 484) kRW_divide_d484 rfl ?_
          refine jn_iadd (pc := 486) (T6 + k + 1) kRW_divide_d486 (by omega) ?_
          refine jj_aload_n (pc := 487) kRW_divide_d487 rfl ?_
          refine jj_getf (pc := 488) kRW_divide_d488 (kfRW_d hG) hw8 rfl ?_
          refine jj_iload (pc := 491) kRW_divide_d491 rfl ?_
          refine jj_iload (pc := 493) kRW_divide_d493 rfl ?_
          refine jn_iadd (pc := 495) (T + k + 1) kRW_divide_d495 (by omega) ?_
          have hv8 : D8.getD (T + k + 1) 0 = D7.getD (T + 1 + k) 0 := by rw [ho8 _ (by omega), show T + k + 1 = T + 1 + k by omega]
          refine jn_iald (pc := 496) (v := (D7.getD (T + 1 + k) 0)) kRW_divide_d496 (kG_t hG rfl) hd8 hl8 (by omega) (hv8) ?_
          refine jn_iast (pc := 497) kRW_divide_d497 (kG_t hG rfl) hd8 hl8 (by omega) ?_
          refine jn_gen (fun M106 hM107 => ?_)
          have h108 : M106 w = some (.inl nRW, [.ref dd8, .int (nI (T6)), v2]) := by rw [hM107, jj_up_ne _ _ hwd8]; exact hw8
          have h109 : M106 dd8 = some (.inr 0, ((D8).set (T6 + k + 1) ((D7.getD (T + 1 + k) 0))).map .int) := by rw [hM107]; exact jj_up_at _ _ _
          have hF110 : RF M7 M106 w := by rw [hM107]; exact hf8.trans (RF.put hw8 hwd8)
          refine jn_iinc (pc := 498) (k + 1) kRW_divide_d498 rfl (nI_1 _) ?_
          refine jj_goto (pc := 501) (tgt := 467) kRW_divide_d501 (by decide) ?_
          show jj G kRW_divide (d + 6) Q rc7 rs7 467 [some (.ref w), some (.int (nI (x))), some (.int (nI (y))), some (.int (s)), some (.int (nI (n))), some (.int (nI (m))), some (.int (nI (T))), some (.int (nI (q))), some (.int (nI (U))), some (.long (lN (L))), none, some (.int (nI (T + 1))), some (.int (nI (km))), some (.int (A)), some (.int (nI (F))), some (.int (nI (T))), some (.int (nI (p6))), some (.int (nI (k + 1))), (o18), (o19), (o20), (o21), (o22), (o23)] [] M106
          refine ih (k + 1) (by omega) (by omega) _ (D8.set (T6 + k + 1) (D7.getD (T + 1 + k) 0)) ⟨dd8, h108, h109⟩ (by rw [List.length_set]; exact hlen8) hF110 (fun i h1 h2 => ?_) (fun i hi => by rw [gd_set_ne (by omega)]; exact ho8 i (by omega))
          by_cases e : i = k
          · rw [e, show T6 + 1 + k = T6 + k + 1 by omega]
            exact gd_set_eq (by omega)
          · rw [gd_set_ne (by omega)]
            exact hc8 i h1 (by omega)
      exact lq (km - 0) 0 (by omega) (Nat.le_refl _) M7 D7 hS7 rfl (RF.refl _ w) (fun i h1 h2 => by omega) (fun i _ => rfl)
    have lp : ∀ j k, n = k + j → 0 ≤ k → ∀ (M5 : mheap) (D5 : List Int32), RW M5 w D5 (T) v2 → D5.length = D1.length → RF M1 M5 w → (∀ i, 0 ≤ i → i < k → D5.getD (F + 1 + i) 0 = D1.getD (q + 1 + i) 0) → (∀ i, i < F + 1 + 0 ∨ F + 1 + k ≤ i → D5.getD i 0 = D1.getD i 0) → jj G kRW_divide (d + 6) Q rc1 rs1 398 [some (.ref w), some (.int (nI (x))), some (.int (nI (y))), some (.int (s)), some (.int (nI (n))), some (.int (nI (m))), some (.int (nI (T))), some (.int (nI (q))), some (.int (nI (U))), some (.long (lN (L))), none, some (.int (nI (T + 1))), some (.int (nI (km))), some (.int (A)), some (.int (nI (F))), some (.int (nI (k))), (o16), (o17), (o18), (o19), (o20), (o21), (o22), (o23)] [] M5 := by
      intro j
      induction j with
      | zero =>
        intro k hk hk0 M5 D5 hS5 hlen5 hf5 hc5 ho5
        have e : n = k := by omega
        subst e
        refine jj_iload (pc := 398) kRW_divide_d398 rfl ?_
        refine jj_iload (pc := 400) kRW_divide_d400 rfl ?_
        refine jn_icmp_ge (pc := 402) (tgt := 435) kRW_divide_d402 (by decide) (by omega) (by omega) (fun _ => ?_) (fun c => by exfalso; omega)
        exact lp_out M5 D5 hS5 hlen5 hf5 hc5 ho5
      | succ j ih =>
        intro k hk hk0 M5 D5 hS5 hlen5 hf5 hc5 ho5
        obtain ⟨dd5, hw5, hd5⟩ := id hS5
        have hwd5 : w ≠ dd5 := fun e => by subst e; rw [hw5] at hd5; cases hd5
        have hl5 : D5.length < 2 ^ 31 := by omega
        refine jj_iload (pc := 398) kRW_divide_d398 rfl ?_
        refine jj_iload (pc := 400) kRW_divide_d400 rfl ?_
        refine jn_icmp_ge (pc := 402) (tgt := 435) kRW_divide_d402 (by decide) (by omega) (by omega) (fun c => by exfalso; omega) (fun _ => ?_)
        refine jj_aload_n (pc := 405) kRW_divide_d405 rfl ?_
        refine jj_getf (pc := 406) kRW_divide_d406 (kfRW_d hG) hw5 rfl ?_
        refine jj_iload (pc := 409) kRW_divide_d409 rfl ?_
        refine jn_iconst (pc := 411) 1 kRW_divide_d411 (by decide) ?_
        refine jn_iadd (pc := 412) (F + 1) kRW_divide_d412 (by omega) ?_
        refine jj_iload (pc := 413) kRW_divide_d413 rfl ?_
        refine jn_iadd (pc := 415) (F + k + 1) kRW_divide_d415 (by omega) ?_
        refine jj_aload_n (pc := 416) kRW_divide_d416 rfl ?_
        refine jj_getf (pc := 417) kRW_divide_d417 (kfRW_d hG) hw5 rfl ?_
        refine jj_iload (pc := 420) kRW_divide_d420 rfl ?_
        refine jn_iconst (pc := 422) 1 kRW_divide_d422 (by decide) ?_
        refine jn_iadd (pc := 423) (q + 1) kRW_divide_d423 (by omega) ?_
        refine jj_iload (pc := 424) kRW_divide_d424 rfl ?_
        refine jn_iadd (pc := 426) (q + k + 1) kRW_divide_d426 (by omega) ?_
        have hv5 : D5.getD (q + k + 1) 0 = D1.getD (q + 1 + k) 0 := by rw [ho5 _ (by omega), show q + k + 1 = q + 1 + k by omega]
        refine jn_iald (pc := 427) (v := (D1.getD (q + 1 + k) 0)) kRW_divide_d427 (kG_t hG rfl) hd5 hl5 (by omega) (hv5) ?_
        refine jn_iast (pc := 428) kRW_divide_d428 (kG_t hG rfl) hd5 hl5 (by omega) ?_
        refine jn_gen (fun M111 hM112 => ?_)
        have h113 : M111 w = some (.inl nRW, [.ref dd5, .int (nI (T)), v2]) := by rw [hM112, jj_up_ne _ _ hwd5]; exact hw5
        have h114 : M111 dd5 = some (.inr 0, ((D5).set (F + k + 1) ((D1.getD (q + 1 + k) 0))).map .int) := by rw [hM112]; exact jj_up_at _ _ _
        have hF115 : RF M1 M111 w := by rw [hM112]; exact hf5.trans (RF.put hw5 hwd5)
        refine jn_iinc (pc := 429) (k + 1) kRW_divide_d429 rfl (nI_1 _) ?_
        refine jj_goto (pc := 432) (tgt := 398) kRW_divide_d432 (by decide) ?_
        show jj G kRW_divide (d + 6) Q rc1 rs1 398 [some (.ref w), some (.int (nI (x))), some (.int (nI (y))), some (.int (s)), some (.int (nI (n))), some (.int (nI (m))), some (.int (nI (T))), some (.int (nI (q))), some (.int (nI (U))), some (.long (lN (L))), none, some (.int (nI (T + 1))), some (.int (nI (km))), some (.int (A)), some (.int (nI (F))), some (.int (nI (k + 1))), (o16), (o17), (o18), (o19), (o20), (o21), (o22), (o23)] [] M111
        refine ih (k + 1) (by omega) (by omega) _ (D5.set (F + k + 1) (D1.getD (q + 1 + k) 0)) ⟨dd5, h113, h114⟩ (by rw [List.length_set]; exact hlen5) hF115 (fun i h1 h2 => ?_) (fun i hi => by rw [gd_set_ne (by omega)]; exact ho5 i (by omega))
        by_cases e : i = k
        · rw [e, show F + 1 + k = F + k + 1 by omega]
          exact gd_set_eq (by omega)
        · rw [gd_set_ne (by omega)]
          exact hc5 i h1 (by omega)
    exact lp (n - 0) 0 (by omega) (Nat.le_refl _) M1 D1 hS1 rfl (RF.refl _ w) (fun i h1 h2 => by omega) (fun i _ => rfl)
  have k354 : ∀ km : Nat, km ≤ m → rtrim D T m = km → jj G kRW_divide (d + 6) Q rc rs 354 [some (.ref w), some (.int (nI (x))), some (.int (nI (y))), some (.int (s)), some (.int (nI (n))), some (.int (nI (m))), some (.int (nI (T))), some (.int (nI (q))), some (.int (nI (U))), some (.long (lN (L))), none, some (.int (nI (T + 1))), some (.int (nI (km))), (o13), (o14), (o15), (o16), (o17), (o18), (o19), (o20), (o21), (o22), (o23)] [] M := by
    intro km hk hkt
    have hv : rnat D T km = Rv := by rw [← hkt, rnat_rtrim, hRv]
    rcases Nat.eq_zero_or_pos km with h0 | h0
    · skip
      refine jj_iload (pc := 354) kRW_divide_d354 rfl ?_
      refine jn_if_le (pc := 356) (tgt := 363) kRW_divide_d356 (by decide) (by omega) (fun _ => ?_) (fun c => by exfalso; omega)
      refine jn_iconst (pc := 363) 0 kRW_divide_d363 (by decide) ?_
      exact k364 km _ hk hkt (Or.inl ⟨rfl, by rw [← hv, h0]; rfl⟩)
    · skip
      refine jj_iload (pc := 354) kRW_divide_d354 rfl ?_
      refine jn_if_le (pc := 356) (tgt := 363) kRW_divide_d356 (by decide) (by omega) (fun c => by exfalso; omega) (fun _ => ?_)
      refine jn_iconst (pc := 359) 1 kRW_divide_d359 (by decide) ?_
      refine jj_goto (pc := 360) (tgt := 364) kRW_divide_d360 (by decide) ?_
      exact k364 km _ hk hkt (Or.inr ⟨rfl, Nat.pos_of_ne_zero (fun e => by have := (rnat_eq0 (hDr.less hk) (fun _ => by have := rtrim_nz (D := D) (T := T) (n := m) (by omega); rw [hkt] at this; exact this)).mp (by rw [hv, e]); omega)⟩)
  have trim : ∀ k : Nat, k ≤ m → rtrim D T m = rtrim D T k → jj G kRW_divide (d + 6) Q rc rs 328 [some (.ref w), some (.int (nI (x))), some (.int (nI (y))), some (.int (s)), some (.int (nI (n))), some (.int (nI (m))), some (.int (nI (T))), some (.int (nI (q))), some (.int (nI (U))), some (.long (lN (L))), none, some (.int (nI (T + 1))), some (.int (nI (k))), (o13), (o14), (o15), (o16), (o17), (o18), (o19), (o20), (o21), (o22), (o23)] [] M := by
    intro k
    induction k with
    | zero =>
      intro hk ht
      refine jj_iload (pc := 328) kRW_divide_d328 rfl ?_
      refine jn_if_le (pc := 330) (tgt := 354) kRW_divide_d330 (by decide) (by omega) (fun _ => ?_) (fun c => by exfalso; omega)
      exact k354 0 hk ht
    | succ k ih =>
      intro hk ht
      refine jj_iload (pc := 328) kRW_divide_d328 rfl ?_
      refine jn_if_le (pc := 330) (tgt := 354) kRW_divide_d330 (by decide) (by omega) (fun c => by exfalso; omega) (fun _ => ?_)
      refine jj_aload_n (pc := 333) kRW_divide_d333 rfl ?_
      refine jj_getf (pc := 334) kRW_divide_d334 (kfRW_d hG) hw rfl ?_
      refine jj_iload (pc := 337) kRW_divide_d337 rfl ?_
      refine jj_iload (pc := 339) kRW_divide_d339 rfl ?_
      refine jn_iadd (pc := 341) (T + k + 2) kRW_divide_d341 (by omega) ?_
      refine jn_iconst (pc := 342) 1 kRW_divide_d342 (by decide) ?_
      refine jn_isub (pc := 343) (T + k + 1) kRW_divide_d343 (by omega) ?_
      refine jn_iald (pc := 344) (v := ((D).getD (T + k + 1) 0)) kRW_divide_d344 (kG_t hG rfl) hd hl (by omega) (rfl) ?_
      refine jj_if_ne (pc := 345) (tgt := 354) kRW_divide_d345 (by decide) (fun c => ?_) (fun c => ?_)
      · skip
        exact k354 (k + 1) hk (by rw [ht]; exact if_neg c)
      · skip
        refine jn_iinc (pc := 348) (k) kRW_divide_d348 rfl (nI_m1 (by omega)) ?_
        refine jj_goto (pc := 351) (tgt := 328) kRW_divide_d351 (by decide) ?_
        show jj G kRW_divide (d + 6) Q rc rs 328 [some (.ref w), some (.int (nI (x))), some (.int (nI (y))), some (.int (s)), some (.int (nI (n))), some (.int (nI (m))), some (.int (nI (T))), some (.int (nI (q))), some (.int (nI (U))), some (.long (lN (L))), none, some (.int (nI (T + 1))), some (.int (nI (k))), (o13), (o14), (o15), (o16), (o17), (o18), (o19), (o20), (o21), (o22), (o23)] [] M
        exact ih (by omega) (by rw [ht]; exact if_pos c)
  exact trim m (Nat.le_refl m) rfl
end RW15
