/-! ===== Euclid: applySteps, applyStepsToFactors (printed by wip/gen/rU3.py) ===== -/
theorem mul_l {a : Int} {x : Nat} (h1 : -2147483648 < a) (h2 : a < 2147483648) (hx : x < 4294967296) : (0 ≤ a → 0 ≤ a * x ∧ a * x ≤ 9223372030412324865) ∧ (a ≤ 0 → a * x ≤ 0 ∧ -9223372030412324865 ≤ a * x) := by
  have e : (a * (x : Int)).natAbs = a.natAbs * x := by rw [Int.natAbs_mul, Int.natAbs_natCast]
  have h : a.natAbs * x ≤ 2147483647 * 4294967295 := Nat.mul_le_mul (by omega) (by omega)
  constructor
  · intro g
    have := Int.mul_nonneg g (show (0 : Int) ≤ x by omega)
    generalize a * (x : Int) = z at *
    omega
  · intro g
    have := Int.mul_nonneg (show 0 ≤ -a by omega) (show (0 : Int) ≤ x by omega)
    rw [Int.neg_mul] at this
    generalize a * (x : Int) = z at *
    omega
theorem lin_b {a b u : Int} {x y : Nat} (hs : (0 ≤ a ∧ b ≤ 0) ∨ (a ≤ 0 ∧ 0 ≤ b)) (ha1 : -2147483648 < a) (ha2 : a < 2147483648) (hb1 : -2147483648 < b) (hb2 : b < 2147483648) (hx : x < 4294967296) (hy : y < 4294967296) (hu1 : -2147483648 ≤ u) (hu2 : u < 2147483648) : ∃ (s : Int) (e : Nat), u + (a * x + b * y) = s ∧ -9223372036854775808 ≤ s ∧ s < 9223372036854775808 ∧ e < 4294967296 ∧ s % 4294967296 = (e : Int) ∧ -2147483648 ≤ s / 4294967296 ∧ s / 4294967296 < 2147483648 ∧ s = (e : Int) + s / 4294967296 * 4294967296 := by
  obtain ⟨p1, p2⟩ := mul_l ha1 ha2 hx
  obtain ⟨q1, q2⟩ := mul_l hb1 hb2 hy
  refine ⟨u + (a * x + b * y), ((u + (a * x + b * y)) % 4294967296).toNat, rfl, ?_⟩
  generalize a * (x : Int) = z at *
  generalize b * (y : Int) = w at *
  rcases hs with g | g
  · have := p1 g.1
    have := q2 g.2
    clear p1 p2 q1 q2
    refine ⟨?_, ?_, ?_, ?_, ?_, ?_, ?_⟩ <;> omega
  · have := p2 g.1
    have := q1 g.2
    clear p1 p2 q1 q2
    refine ⟨?_, ?_, ?_, ?_, ?_, ?_, ?_⟩ <;> omega
theorem app_step {l u s e u' a b A B : Int} {x y W : Nat} (h : l + u * W = a * A + b * B) (hs : u + (a * x + b * y) = s) (he : s = e + u' * 4294967296) : l + e * W + u' * ((W * BB : Nat) : Int) = a * (A + x * W) + b * (B + y * W) := by
  have h1 : s * W = e * W + u' * ((W * BB : Nat) : Int) := by
    rw [he, Int.add_mul, Int.mul_assoc, Int.natCast_mul, Int.mul_comm (W : Int)]
    rfl
  have h2 : s * W = u * W + (a * (x * W) + b * (y * W)) := by rw [← hs, Int.add_mul, Int.add_mul, Int.mul_assoc, Int.mul_assoc]
  rw [Int.mul_add, Int.mul_add]
  omega
theorem app_end {L X W : Nat} {u : Int} (h : (L : Int) + u * W = X) (hL : L < W) (hX : X < W) : L = X := by
  rcases (show u = 0 ∨ 1 ≤ u ∨ u ≤ -1 by omega) with e | e | e
  · rw [e, Int.zero_mul] at h; omega
  · have := Int.mul_le_mul_of_nonneg_right e (show (0 : Int) ≤ W by omega)
    rw [Int.one_mul] at this
    omega
  · have := Int.mul_le_mul_of_nonneg_right e (show (0 : Int) ≤ W by omega)
    rw [Int.neg_mul, Int.one_mul] at this
    omega
theorem fac_step {l u s a b A B x y W : Nat} (h : l + u * W = a * A + b * B) (hs : u + (a * x + b * y) = s) : l + s % BB * W + s / BB * (W * BB) = a * (A + x * W) + b * (B + y * W) := by
  have h1 := carry_step (u := a * x) (v := b * y) (s := s) h (by omega)
  rw [h1, Nat.mul_add, Nat.mul_add, Nat.mul_assoc, Nat.mul_assoc]
  omega
theorem fac_b {a b x y u : Nat} (ha : a < 2147483648) (hb : b < 2147483648) (hx : x < 4294967296) (hy : y < 4294967296) (hu : u < 4294967296) : u + (a * x + b * y) < 18446744073709551616 ∧ (u + (a * x + b * y)) / 4294967296 < 4294967296 := by
  have h1 : a * x ≤ 2147483647 * 4294967295 := Nat.mul_le_mul (by omega) (by omega)
  have h2 : b * y ≤ 2147483647 * 4294967295 := Nat.mul_le_mul (by omega) (by omega)
  omega
theorem fac_end {L X W u : Nat} (h : L + u * W = X) (hX : X < W) : L = X := by
  rcases Nat.eq_zero_or_pos u with e | e
  · rw [e, Nat.zero_mul] at h; omega
  · have := Nat.mul_le_mul_right W e
    rw [Nat.succ_mul, Nat.zero_mul, Nat.zero_add] at this
    omega
theorem fac_lt {a b f g n : Nat} (ha : a < 2147483648) (hb : b < 2147483648) (hf : f < BB ^ n) (hg : g < BB ^ n) : a * f + b * g < BB ^ (n + 1) := by
  have h1 : a * f ≤ 2147483647 * BB ^ n := Nat.mul_le_mul (by omega) (by omega)
  have h2 : b * g ≤ 2147483647 * BB ^ n := Nat.mul_le_mul (by omega) (by omega)
  rw [Nat.pow_succ]
  show _ < BB ^ n * 4294967296
  omega
theorem lnat_set_nat {D : List Int32} {n e : Nat} (hn : n < D.length) (he : e < 4294967296) : ((lnat (D.set n (nI e)) (n + 1) : Nat) : Int) = (lnat D n : Int) + (e : Int) * ((BB ^ n : Nat) : Int) := by
  rw [lnat_step hn, Nat.mod_eq_of_lt (show e < BB from he), Int.natCast_add, Int.natCast_mul]
theorem lnat_cast (D : List Int32) (n : Nat) : ((lnat D (n + 1) : Nat) : Int) = (lnat D n : Int) + (lu (D.getD n 0) : Int) * ((BB ^ n : Nat) : Int) := by
  show ((lnat D n + lu (D.getD n 0) * BB ^ n : Nat) : Int) = _
  rw [Int.natCast_add, Int.natCast_mul]
theorem CW.pair {M M' : mheap} {wa la cap : Nat → Nat} {N q r : Nat} {V : Nat → Int} {x y : Int} (hc : CW M wa la cap N V) (hI : CI wa la cap N) (hq : q < N) (hr : r < N) (h1 : WH M' (wa q) (la q) (cap q) x) (h2 : WH M' (wa r) (la r) (cap r) y) (hf : ∀ a, a ≠ wa q → a ≠ la q → a ≠ wa r → a ≠ la r → M' a = M a) : CW M' wa la cap N (vup (vup V q x) r y) := by
  intro p hp
  by_cases c1 : p = r
  · rw [c1, vup_at]; exact h2
  · rw [vup_ne _ _ c1]
    by_cases c2 : p = q
    · rw [c2, vup_at]; exact h1
    · rw [vup_ne _ _ c2]
      obtain ⟨D, n, a1, a2, a3⟩ := hc p hp
      obtain ⟨D1, n1, b1, b2, b3⟩ := hc q hq
      obtain ⟨D2, n2, d1, d2, d3⟩ := hc r hr
      refine ⟨D, n, ?_, ?_, a3⟩
      · rw [hf _ (fun e => c2 (hI.1 p q hp hq e)) (fun e => by rw [e, b2] at a1; cases a1) (fun e => c1 (hI.1 p r hp hr e)) (fun e => by rw [e, d2] at a1; cases a1)]; exact a1
      · rw [hf _ (fun e => by rw [e, b1] at a2; cases a2) (fun e => c2 (hI.2.1 p q hp hq e)) (fun e => by rw [e, d1] at a2; cases a2) (fun e => c1 (hI.2.1 p r hp hr e))]; exact a2
section U3
variable {G : jg} {d : Nat} {Q : jq} {rc rs : Nat} {M : mheap} {wa la cap : Nat → Nat} {N : Nat} {V : Nat → Int}
theorem u_apply {eu dv px pf py po ps od X Y : Nat} {a b c d9 : Int} (hG : kG G) (hI : CI wa la cap N) (hc : CW M wa la cap N V) (hE : M eu = some (.inl nU, [.ref (wa px), .ref (wa pf), .ref (wa py), .ref (wa po), .ref (wa ps), .ref dv, .int (nI (od)), .long (lZ (a)), .long (lZ (b)), .long (lZ (c)), .long (lZ (d9))])) (hpx : px < N) (hpy : py < N) (hne : px ≠ py) (hVx : 0 ≤ V px) (hVy : 0 ≤ V py) (hyx : (V py).natAbs ≤ (V px).natAbs) (hroom : lc (V px) ≤ cap py) (hSB : SB a b c d9) (hsg : (0 ≤ a ∧ b ≤ 0 ∧ c ≤ 0 ∧ 0 ≤ d9) ∨ (a ≤ 0 ∧ 0 ≤ b ∧ 0 ≤ c ∧ d9 ≤ 0)) (hX : (X : Int) = a * (V px).natAbs + b * (V py).natAbs) (hY : (Y : Int) = c * (V px).natAbs + d9 * (V py).natAbs) (hXx : X ≤ (V px).natAbs) (hYx : Y ≤ (V px).natAbs) (k : ∀ M', CW M' wa la cap N (vup (vup V px (X : Nat)) py (Y : Nat)) → M' eu = some (.inl nU, [.ref (wa px), .ref (wa pf), .ref (wa py), .ref (wa po), .ref (wa ps), .ref dv, .int (nI (od)), .long (lZ (a)), .long (lZ (b)), .long (lZ (c)), .long (lZ (d9))]) → (∀ q, q ≠ wa px → q ≠ la px → q ≠ wa py → q ≠ la py → M' q = M q) → Q (.returned none) M' rc rs) : jj G kU_applySteps (d + 2) Q rc rs 0 (jj_ent [.ref eu] 13) [] M := by
  obtain ⟨A, ca, hA1, hA2, hA3, hA4⟩ := hc px hpx
  obtain ⟨B, cb, hB1, hB2, hB3, hB4⟩ := hc py hpy
  have lA := hI.2.2 px hpx
  have lB := hI.2.2 py hpy
  have bA := hA4.1
  have bB := hB4.1
  have hca := hA4.cnt
  have hcb := hB4.cnt
  have nw : wa px ≠ wa py := fun h => hne (hI.1 px py hpx hpy h)
  have nl : la px ≠ la py := fun h => hne (hI.2.1 px py hpx hpy h)
  have nwl : wa px ≠ la py := fun e => by have q9 := hA1; rw [e, hB2] at q9; cases q9
  have nlw : la px ≠ wa py := fun e => by have q9 := hA2; rw [e, hB1] at q9; cases q9
  have nxx : wa px ≠ la px := fun e => by have q9 := hA1; rw [e, hA2] at q9; cases q9
  have nyy : wa py ≠ la py := fun e => by have q9 := hB1; rw [e, hB2] at q9; cases q9
  have ex1 : eu ≠ wa px := fun e => by have q9 := hE; rw [e, hA1] at q9; cases q9
  have ex2 : eu ≠ la px := fun e => by have q9 := hE; rw [e, hA2] at q9; cases q9
  have ey1 : eu ≠ wa py := fun e => by have q9 := hE; rw [e, hB1] at q9; cases q9
  have ey2 : eu ≠ la py := fun e => by have q9 := hE; rw [e, hB2] at q9; cases q9
  obtain ⟨ha1, ha2, hb1, hb2, hc1, hc2, hd1, hd2⟩ := id hSB
  have sA : sg (V px) = 0 := sg_nonneg hVx
  have sB : sg (V py) = 0 := sg_nonneg hVy
  have hmo := lc_mono hyx
  rw [← hA4.2.1, ← hB4.2.1] at hX hY
  have hXB : X < BB ^ ca := Nat.lt_of_le_of_lt hXx hA4.lt
  have hYB : Y < BB ^ ca := Nat.lt_of_le_of_lt hYx hA4.lt
  show jj G kU_applySteps (d + 2) Q rc rs 0 [some (.ref eu), none, none, none, none, none, none, none, none, none, none, none, none] [] M
  refine jj_aload_n (pc := 0) kU_applySteps_d0 rfl ?_
  refine jj_getf (pc := 1) kU_applySteps_d1 (kfU_x hG) hE rfl ?_
  refine jj_getf (pc := 4) kU_applySteps_d4 (kfU_W_count hG) hA1 rfl ?_
  refine jj_istore_n (pc := 7) kU_applySteps_d7 (Nat.le_of_ble_eq_true rfl) ?_
  show jj G kU_applySteps (d + 2) Q rc rs 8 [some (.ref eu), some (.int (nI (ca))), none, none, none, none, none, none, none, none, none, none, none] [] M
  refine jj_aload_n (pc := 8) kU_applySteps_d8 rfl ?_
  refine jj_getf (pc := 9) kU_applySteps_d9 (kfU_y hG) hE rfl ?_
  refine jj_iload_n (pc := 12) kU_applySteps_d12 rfl ?_
  refine jj_callS (pc := 13) (As := [.ref (wa py), .int (nI (ca))]) kU_applySteps_d13 (kvU_U_widen hG) rfl rfl rfl (Nat.le_of_ble_eq_true rfl) (Nat.le_of_ble_eq_true rfl) (jj_bare0 rfl) ?_
  refine u_widen hG hB1 hB2 (by omega) (by omega) (by omega) (fun M1 B1 h11 h12 l1 v1 f1 => ?_)
  show jj G kU_applySteps (d + 2) Q rc rs 16 [some (.ref eu), some (.int (nI (ca))), none, none, none, none, none, none, none, none, none, none, none] [] M1
  rw [← v1] at hX hY
  have h1E := (f1 eu ey1 ey2).trans hE
  have h1A := (f1 (wa px) nw nwl).trans hA1
  have h1L := (f1 (la px) nlw nl).trans hA2
  refine jj_aload_n (pc := 16) kU_applySteps_d16 rfl ?_
  refine jj_getf (pc := 17) kU_applySteps_d17 (kfU_x hG) h1E rfl ?_
  refine jj_getf (pc := 20) kU_applySteps_d20 (kfU_W_limbs hG) h1A rfl ?_
  refine jj_astore_n (pc := 23) kU_applySteps_d23 (Nat.le_of_ble_eq_true rfl) ?_
  show jj G kU_applySteps (d + 2) Q rc rs 24 [some (.ref eu), some (.int (nI (ca))), some (.ref (la px)), none, none, none, none, none, none, none, none, none, none] [] M1
  refine jj_aload_n (pc := 24) kU_applySteps_d24 rfl ?_
  refine jj_getf (pc := 25) kU_applySteps_d25 (kfU_y hG) h1E rfl ?_
  refine jj_getf (pc := 28) kU_applySteps_d28 (kfU_W_limbs hG) h11 rfl ?_
  refine jj_astore_n (pc := 31) kU_applySteps_d31 (Nat.le_of_ble_eq_true rfl) ?_
  show jj G kU_applySteps (d + 2) Q rc rs 32 [some (.ref eu), some (.int (nI (ca))), some (.ref (la px)), some (.ref (la py)), none, none, none, none, none, none, none, none, none] [] M1
  refine jj_lconst (pc := 32) (v := lN 0) kU_applySteps_d32 (by decide) ?_
  refine jn_top (.long (lZ (0))) (rfl) ?_
  refine jj_lstore (pc := 33) kU_applySteps_d33 (Nat.le_of_ble_eq_true rfl) ?_
  show jj G kU_applySteps (d + 2) Q rc rs 35 [some (.ref eu), some (.int (nI (ca))), some (.ref (la px)), some (.ref (la py)), some (.long (lZ (0))), none, none, none, none, none, none, none, none] [] M1
  refine jj_lconst (pc := 35) (v := lN 0) kU_applySteps_d35 (by decide) ?_
  refine jn_top (.long (lZ (0))) (rfl) ?_
  refine jj_lstore (pc := 36) kU_applySteps_d36 (Nat.le_of_ble_eq_true rfl) ?_
  show jj G kU_applySteps (d + 2) Q rc rs 38 [some (.ref eu), some (.int (nI (ca))), some (.ref (la px)), some (.ref (la py)), some (.long (lZ (0))), none, some (.long (lZ (0))), none, none, none, none, none, none] [] M1
  refine jn_iconst (pc := 38) 0 kU_applySteps_d38 (by decide) ?_
  refine jj_istore (pc := 39) kU_applySteps_d39 (Nat.le_of_ble_eq_true rfl) ?_
  show jj G kU_applySteps (d + 2) Q rc rs 41 [some (.ref eu), some (.int (nI (ca))), some (.ref (la px)), some (.ref (la py)), some (.long (lZ (0))), none, some (.long (lZ (0))), none, some (.int (nI (0))), none, none, none, none] [] M1
  show jj G kU_applySteps (d + 2) Q rc rs 41 [some (.ref eu), some (.int (nI (ca))), some (.ref (la px)), some (.ref (la py)), some (.long (lZ (0))), none, some (.long (lZ (0))), none, some (.int (nI (0))), none, none, none, none] [] M1
  have loop : ∀ mu i, ca = i + mu → ∀ (M9 : mheap) (A9 B9 : List Int32) (u w : Int) (o9 o10 o11 o12 : Option Value), M9 eu = some (.inl nU, [.ref (wa px), .ref (wa pf), .ref (wa py), .ref (wa po), .ref (wa ps), .ref dv, .int (nI (od)), .long (lZ (a)), .long (lZ (b)), .long (lZ (c)), .long (lZ (d9))]) → M9 (wa px) = some (.inl nW, [.ref (la px), .int (nI (ca)), .int (sg (V px))]) → M9 (la px) = some (.inr 0, A9.map .int) → M9 (wa py) = some (.inl nW, [.ref (la py), .int (nI (ca)), .int (sg (V py))]) → M9 (la py) = some (.inr 0, B9.map .int) → A9.length = A.length → B9.length = B.length → (∀ q, q ≠ wa px → q ≠ la px → q ≠ wa py → q ≠ la py → M9 q = M q) → (∀ j, i ≤ j → A9.getD j 0 = A.getD j 0) → (∀ j, i ≤ j → B9.getD j 0 = B1.getD j 0) → -2147483648 ≤ u → u < 2147483648 → -2147483648 ≤ w → w < 2147483648 → (lnat A9 i : Int) + u * ((BB ^ i : Nat) : Int) = a * (lnat A i : Int) + b * (lnat B1 i : Int) → (lnat B9 i : Int) + w * ((BB ^ i : Nat) : Int) = c * (lnat A i : Int) + d9 * (lnat B1 i : Int) → jj G kU_applySteps (d + 2) Q rc rs 41 [some (.ref eu), some (.int (nI (ca))), some (.ref (la px)), some (.ref (la py)), some (.long (lZ (u))), none, some (.long (lZ (w))), none, some (.int (nI (i))), (o9), (o10), (o11), (o12)] [] M9 := by
    intro mu
    induction mu with
    | zero =>
      intro i hk M9 A9 B9 u w o9 o10 o11 o12 h9E h91 h92 h93 h94 l9 l8 f9 q9a q9b u1 u2 w1 w2 v9 x9
      have e9 : ca = i := by omega
      subst e9
      have vX : lnat A9 ca = ((X : Nat) : Int).natAbs := by
        rw [← hX] at v9
        rw [app_end v9 (lnat_lt A9 ca) hXB]
        rfl
      have vY : lnat B9 ca = ((Y : Nat) : Int).natAbs := by
        rw [← hY] at x9
        rw [app_end x9 (lnat_lt B9 ca) hYB]
        rfl
      refine jj_iload (pc := 41) kU_applySteps_d41 rfl ?_
      refine jj_iload_n (pc := 43) kU_applySteps_d43 rfl ?_
      refine jn_icmp_ge (pc := 44) (tgt := 143) kU_applySteps_d44 (by decide) (by omega) (by omega) (fun _ => ?_) (fun c => by exfalso; omega)
      refine jj_aload_n (pc := 143) kU_applySteps_d143 rfl ?_
      refine jj_getf (pc := 144) kU_applySteps_d144 (kfU_x hG) h9E rfl ?_
      refine jj_callV (pc := 147) (b := (wa px)) (As := []) kU_applySteps_d147 (kvU_W_trim hG) (kG_cl hG rfl) rfl h91 rfl rfl rfl (Nat.le_of_ble_eq_true rfl) (Nat.le_of_ble_eq_true rfl) (jj_bare0 rfl) ?_
      refine w_trim hG (by omega) (ca) M9 h91 h92 (by omega) (fun M7 h71 f7 => ?_)
      show jj G kU_applySteps (d + 2) Q rc rs 150 [some (.ref eu), some (.int (nI (ca))), some (.ref (la px)), some (.ref (la py)), some (.long (lZ (u))), none, some (.long (lZ (w))), none, some (.int (nI (ca))), (o9), (o10), (o11), (o12)] [] M7
      have e7 := (f7 eu ex1).trans h9E
      have b71 := (f7 (wa py) (Ne.symm nw)).trans h93
      have b72 := (f7 (la py) (Ne.symm nwl)).trans h94
      have a72 := (f7 (la px) (Ne.symm nxx)).trans h92
      rw [sg_trim (z := (X : Nat)) (by omega) vX (fun _ => sA.trans (sg_nonneg (by omega)).symm)] at h71
      refine jj_aload_n (pc := 150) kU_applySteps_d150 rfl ?_
      refine jj_getf (pc := 151) kU_applySteps_d151 (kfU_y hG) e7 rfl ?_
      refine jj_callV (pc := 154) (b := (wa py)) (As := []) kU_applySteps_d154 (kvU_W_trim hG) (kG_cl hG rfl) rfl b71 rfl rfl rfl (Nat.le_of_ble_eq_true rfl) (Nat.le_of_ble_eq_true rfl) (jj_bare0 rfl) ?_
      refine w_trim hG (by omega) (ca) M7 b71 b72 (by omega) (fun M8 h81 f8 => ?_)
      show jj G kU_applySteps (d + 2) Q rc rs 157 [some (.ref eu), some (.int (nI (ca))), some (.ref (la px)), some (.ref (la py)), some (.long (lZ (u))), none, some (.long (lZ (w))), none, some (.int (nI (ca))), (o9), (o10), (o11), (o12)] [] M8
      have e8 := (f8 eu ey1).trans e7
      have a81 := (f8 (wa px) nw).trans h71
      have a82 := (f8 (la px) nlw).trans a72
      have b82 := (f8 (la py) (Ne.symm nyy)).trans b72
      rw [sg_trim (z := (Y : Nat)) (by omega) vY (fun _ => sB.trans (sg_nonneg (by omega)).symm)] at h81
      have fr : ∀ q, q ≠ wa px → q ≠ la px → q ≠ wa py → q ≠ la py → M8 q = M q := fun q q1 q2 q3 q4 => by rw [f8 q q3, f7 q q1]; exact f9 q q1 q2 q3 q4
      exact jj_vret (pc := 157) kU_applySteps_d157 rfl (k M8 (hc.pair hI hpx hpy ⟨A9, _, a81, a82, by omega, ltrim_LW (by omega) vX⟩ ⟨B9, _, h81, b82, by omega, ltrim_LW (by omega) vY⟩ fr) e8 fr)
    | succ mu ih =>
      intro i hk M9 A9 B9 u w o9 o10 o11 o12 h9E h91 h92 h93 h94 l9 l8 f9 q9a q9b u1 u2 w1 w2 v9 x9
      have hla := lu_lt (A.getD i 0)
      have hlb := lu_lt (B1.getD i 0)
      obtain ⟨s1, e1', t1, t2, t3, t4, t5, t6, t7, t8⟩ := lin_b (u := u) (show (0 ≤ a ∧ b ≤ 0) ∨ (a ≤ 0 ∧ 0 ≤ b) by omega) ha1 ha2 hb1 hb2 hla hlb u1 u2
      obtain ⟨s2, e2', r1, r2, r3, r4, r5, r6, r7, r8⟩ := lin_b (u := w) (show (0 ≤ c ∧ d9 ≤ 0) ∨ (c ≤ 0 ∧ 0 ≤ d9) by omega) hc1 hc2 hd1 hd2 hla hlb w1 w2
      refine jj_iload (pc := 41) kU_applySteps_d41 rfl ?_
      refine jj_iload_n (pc := 43) kU_applySteps_d43 rfl ?_
      refine jn_icmp_ge (pc := 44) (tgt := 143) kU_applySteps_d44 (by decide) (by omega) (by omega) (fun c => by exfalso; omega) (fun _ => ?_)
      refine jj_aload_n (pc := 47) kU_applySteps_d47 rfl ?_
      refine jj_iload (pc := 48) kU_applySteps_d48 rfl ?_
      refine jn_iald (pc := 50) (v := (A.getD i 0)) kU_applySteps_d50 (kG_t hG rfl) h92 (by omega) (by omega) (q9a i (Nat.le_refl _)) ?_
      refine jj_i2l (pc := 51) kU_applySteps_d51 ?_
      refine jj_ldc2 (pc := 52) kU_applySteps_d52 (kcU_4294967295 hG) ?_
      refine jn_top (.long (lN (4294967295))) (rfl) ?_
      refine jj_land (pc := 55) kU_applySteps_d55 ?_
      refine jn_top (.long (lN (lu (A.getD i 0)))) (by rw [lu_mask]) ?_
      refine jj_lstore (pc := 56) kU_applySteps_d56 (Nat.le_of_ble_eq_true rfl) ?_
      show jj G kU_applySteps (d + 2) Q rc rs 58 [some (.ref eu), some (.int (nI (ca))), some (.ref (la px)), some (.ref (la py)), some (.long (lZ (u))), none, some (.long (lZ (w))), none, some (.int (nI (i))), some (.long (lN (lu (A.getD i 0)))), none, (o11), (o12)] [] M9
      refine jj_aload_n (pc := 58) kU_applySteps_d58 rfl ?_
      refine jj_iload (pc := 59) kU_applySteps_d59 rfl ?_
      refine jn_iald (pc := 61) (v := (B1.getD i 0)) kU_applySteps_d61 (kG_t hG rfl) h94 (by omega) (by omega) (q9b i (Nat.le_refl _)) ?_
      refine jj_i2l (pc := 62) kU_applySteps_d62 ?_
      refine jj_ldc2 (pc := 63) kU_applySteps_d63 (kcU_4294967295 hG) ?_
      refine jn_top (.long (lN (4294967295))) (rfl) ?_
      refine jj_land (pc := 66) kU_applySteps_d66 ?_
      refine jn_top (.long (lN (lu (B1.getD i 0)))) (by rw [lu_mask]) ?_
      refine jj_lstore (pc := 67) kU_applySteps_d67 (Nat.le_of_ble_eq_true rfl) ?_
      show jj G kU_applySteps (d + 2) Q rc rs 69 [some (.ref eu), some (.int (nI (ca))), some (.ref (la px)), some (.ref (la py)), some (.long (lZ (u))), none, some (.long (lZ (w))), none, some (.int (nI (i))), some (.long (lN (lu (A.getD i 0)))), none, some (.long (lN (lu (B1.getD i 0)))), none] [] M9
      refine jj_lload (pc := 69) kU_applySteps_d69 rfl ?_
      refine jj_aload_n (pc := 71) kU_applySteps_d71 rfl ?_
      refine jj_getf (pc := 72) kU_applySteps_d72 (kfU_a hG) h9E rfl ?_
      refine jj_lload (pc := 75) kU_applySteps_d75 rfl ?_
      refine jj_lmul (pc := 77) kU_applySteps_d77 ?_
      refine jn_top (.long (lZ (a * (lu (A.getD i 0) : Int)))) (by rw [← lZ_nat, lZ_mul]) ?_
      refine jj_aload_n (pc := 78) kU_applySteps_d78 rfl ?_
      refine jj_getf (pc := 79) kU_applySteps_d79 (kfU_b hG) h9E rfl ?_
      refine jj_lload (pc := 82) kU_applySteps_d82 rfl ?_
      refine jj_lmul (pc := 84) kU_applySteps_d84 ?_
      refine jn_top (.long (lZ (b * (lu (B1.getD i 0) : Int)))) (by rw [← lZ_nat, lZ_mul]) ?_
      refine jj_ladd (pc := 85) kU_applySteps_d85 ?_
      refine jn_top (.long (lZ (a * (lu (A.getD i 0) : Int) + b * (lu (B1.getD i 0) : Int)))) (by rw [lZ_add]) ?_
      refine jj_ladd (pc := 86) kU_applySteps_d86 ?_
      refine jn_top (.long (lZ (s1))) (by rw [lZ_add, t1]) ?_
      refine jj_lstore (pc := 87) kU_applySteps_d87 (Nat.le_of_ble_eq_true rfl) ?_
      show jj G kU_applySteps (d + 2) Q rc rs 89 [some (.ref eu), some (.int (nI (ca))), some (.ref (la px)), some (.ref (la py)), some (.long (lZ (s1))), none, some (.long (lZ (w))), none, some (.int (nI (i))), some (.long (lN (lu (A.getD i 0)))), none, some (.long (lN (lu (B1.getD i 0)))), none] [] M9
      refine jj_lload (pc := 89) kU_applySteps_d89 rfl ?_
      refine jj_aload_n (pc := 91) kU_applySteps_d91 rfl ?_
      refine jj_getf (pc := 92) kU_applySteps_d92 (kfU_c hG) h9E rfl ?_
      refine jj_lload (pc := 95) kU_applySteps_d95 rfl ?_
      refine jj_lmul (pc := 97) kU_applySteps_d97 ?_
      refine jn_top (.long (lZ (c * (lu (A.getD i 0) : Int)))) (by rw [← lZ_nat, lZ_mul]) ?_
      refine jj_aload_n (pc := 98) kU_applySteps_d98 rfl ?_
      refine jj_getf (pc := 99) kU_applySteps_d99 (kfU_d hG) h9E rfl ?_
      refine jj_lload (pc := 102) kU_applySteps_d102 rfl ?_
      refine jj_lmul (pc := 104) kU_applySteps_d104 ?_
      refine jn_top (.long (lZ (d9 * (lu (B1.getD i 0) : Int)))) (by rw [← lZ_nat, lZ_mul]) ?_
      refine jj_ladd (pc := 105) kU_applySteps_d105 ?_
      refine jn_top (.long (lZ (c * (lu (A.getD i 0) : Int) + d9 * (lu (B1.getD i 0) : Int)))) (by rw [lZ_add]) ?_
      refine jj_ladd (pc := 106) kU_applySteps_d106 ?_
      refine jn_top (.long (lZ (s2))) (by rw [lZ_add, r1]) ?_
      refine jj_lstore (pc := 107) kU_applySteps_d107 (Nat.le_of_ble_eq_true rfl) ?_
      show jj G kU_applySteps (d + 2) Q rc rs 109 [some (.ref eu), some (.int (nI (ca))), some (.ref (la px)), some (.ref (la py)), some (.long (lZ (s1))), none, some (.long (lZ (s2))), none, some (.int (nI (i))), some (.long (lN (lu (A.getD i 0)))), none, some (.long (lN (lu (B1.getD i 0)))), none] [] M9
      refine jj_aload_n (pc := 109) kU_applySteps_d109 rfl ?_
      refine jj_iload (pc := 110) kU_applySteps_d110 rfl ?_
      refine jj_lload (pc := 112) kU_applySteps_d112 rfl ?_
      refine jj_l2i (pc := 114) kU_applySteps_d114 ?_
      refine jn_top (.int (nI (e1'))) (by rw [lZ_i, lu_zI t5]) ?_
      refine jn_iast (pc := 115) kU_applySteps_d115 (kG_t hG rfl) h92 (by omega) (by omega) ?_
      refine jn_gen (fun M101 hM102 => ?_)
      have h103 : M101 eu = some (.inl nU, [.ref (wa px), .ref (wa pf), .ref (wa py), .ref (wa po), .ref (wa ps), .ref dv, .int (nI (od)), .long (lZ (a)), .long (lZ (b)), .long (lZ (c)), .long (lZ (d9))]) := by rw [hM102, jj_up_ne _ _ (fun e => by have q1 := h9E; rw [e, h92] at q1; cases q1)]; exact h9E
      have h104 : M101 (wa px) = some (.inl nW, [.ref (la px), .int (nI (ca)), .int (sg (V px))]) := by rw [hM102, jj_up_ne _ _ (fun e => by have q1 := h91; rw [e, h92] at q1; cases q1)]; exact h91
      have h105 : M101 (wa py) = some (.inl nW, [.ref (la py), .int (nI (ca)), .int (sg (V py))]) := by rw [hM102, jj_up_ne _ _ (fun e => by have q1 := h93; rw [e, h92] at q1; cases q1)]; exact h93
      have h106 : M101 (la py) = some (.inr 0, (B9).map .int) := by rw [hM102, jj_up_ne _ _ (Ne.symm nl)]; exact h94
      have h107 : M101 (la px) = some (.inr 0, ((A9).set (i) ((nI (e1')))).map .int) := by rw [hM102]; exact jj_up_at _ _ _
      refine jj_aload_n (pc := 116) kU_applySteps_d116 rfl ?_
      refine jj_iload (pc := 117) kU_applySteps_d117 rfl ?_
      refine jj_lload (pc := 119) kU_applySteps_d119 rfl ?_
      refine jj_l2i (pc := 121) kU_applySteps_d121 ?_
      refine jn_top (.int (nI (e2'))) (by rw [lZ_i, lu_zI r5]) ?_
      refine jn_iast (pc := 122) kU_applySteps_d122 (kG_t hG rfl) h106 (by omega) (by omega) ?_
      refine jn_gen (fun M108 hM109 => ?_)
      have h110 : M108 eu = some (.inl nU, [.ref (wa px), .ref (wa pf), .ref (wa py), .ref (wa po), .ref (wa ps), .ref dv, .int (nI (od)), .long (lZ (a)), .long (lZ (b)), .long (lZ (c)), .long (lZ (d9))]) := by rw [hM109, jj_up_ne _ _ (fun e => by have q1 := h103; rw [e, h106] at q1; cases q1)]; exact h103
      have h111 : M108 (wa px) = some (.inl nW, [.ref (la px), .int (nI (ca)), .int (sg (V px))]) := by rw [hM109, jj_up_ne _ _ (fun e => by have q1 := h104; rw [e, h106] at q1; cases q1)]; exact h104
      have h112 : M108 (la px) = some (.inr 0, ((A9).set (i) ((nI (e1')))).map .int) := by rw [hM109, jj_up_ne _ _ nl]; exact h107
      have h113 : M108 (wa py) = some (.inl nW, [.ref (la py), .int (nI (ca)), .int (sg (V py))]) := by rw [hM109, jj_up_ne _ _ (fun e => by have q1 := h105; rw [e, h106] at q1; cases q1)]; exact h105
      have h114 : M108 (la py) = some (.inr 0, ((B9).set (i) ((nI (e2')))).map .int) := by rw [hM109]; exact jj_up_at _ _ _
      refine jj_lload (pc := 123) kU_applySteps_d123 rfl ?_
      refine jn_bipush (pc := 125) 32 kU_applySteps_d125 (by decide) ?_
      refine jj_lshr (pc := 127) kU_applySteps_d127 ?_
      refine jn_top (.long (lZ (s1 / 4294967296))) (by rw [lZ_shr32 t2 t3]) ?_
      refine jj_lstore (pc := 128) kU_applySteps_d128 (Nat.le_of_ble_eq_true rfl) ?_
      show jj G kU_applySteps (d + 2) Q rc rs 130 [some (.ref eu), some (.int (nI (ca))), some (.ref (la px)), some (.ref (la py)), some (.long (lZ (s1 / 4294967296))), none, some (.long (lZ (s2))), none, some (.int (nI (i))), some (.long (lN (lu (A.getD i 0)))), none, some (.long (lN (lu (B1.getD i 0)))), none] [] M108
      refine jj_lload (pc := 130) kU_applySteps_d130 rfl ?_
      refine jn_bipush (pc := 132) 32 kU_applySteps_d132 (by decide) ?_
      refine jj_lshr (pc := 134) kU_applySteps_d134 ?_
      refine jn_top (.long (lZ (s2 / 4294967296))) (by rw [lZ_shr32 r2 r3]) ?_
      refine jj_lstore (pc := 135) kU_applySteps_d135 (Nat.le_of_ble_eq_true rfl) ?_
      show jj G kU_applySteps (d + 2) Q rc rs 137 [some (.ref eu), some (.int (nI (ca))), some (.ref (la px)), some (.ref (la py)), some (.long (lZ (s1 / 4294967296))), none, some (.long (lZ (s2 / 4294967296))), none, some (.int (nI (i))), some (.long (lN (lu (A.getD i 0)))), none, some (.long (lN (lu (B1.getD i 0)))), none] [] M108
      refine jn_iinc (pc := 137) (i + 1) kU_applySteps_d137 rfl (nI_1 _) ?_
      refine jj_goto (pc := 140) (tgt := 41) kU_applySteps_d140 (by decide) ?_
      show jj G kU_applySteps (d + 2) Q rc rs 41 [some (.ref eu), some (.int (nI (ca))), some (.ref (la px)), some (.ref (la py)), some (.long (lZ (s1 / 4294967296))), none, some (.long (lZ (s2 / 4294967296))), none, some (.int (nI (i + 1))), some (.long (lN (lu (A.getD i 0)))), none, some (.long (lN (lu (B1.getD i 0)))), none] [] M108
      refine ih (i + 1) (by omega) M108 _ _ (s1 / 4294967296) (s2 / 4294967296) _ _ _ _ h110 h111 h112 h113 h114 (by rw [List.length_set]; exact l9) (by rw [List.length_set]; exact l8) (fun q q1 q2 q3 q4 => by rw [hM109, jj_up_ne _ _ q4, hM102, jj_up_ne _ _ q2]; exact f9 q q1 q2 q3 q4) (fun j hj => by rw [gd_set_ne (by omega)]; exact q9a j (by omega)) (fun j hj => by rw [gd_set_ne (by omega)]; exact q9b j (by omega)) t6 t7 r6 r7 ?_ ?_
      · rw [lnat_set_nat (by omega) t4, lnat_cast, lnat_cast, Nat.pow_succ]
        exact app_step v9 t1 t8
      · rw [lnat_set_nat (by omega) r4, lnat_cast, lnat_cast, Nat.pow_succ]
        exact app_step x9 r1 r8
  exact loop ca 0 (by omega) M1 A B1 0 0 none none none none h1E h1A h1L h11 h12 rfl l1 (fun q q1 q2 q3 q4 => f1 q q3 q4) (fun _ _ => rfl) (fun _ _ => rfl) (by omega) (by omega) (by omega) (by omega) (by show ((0 : Nat) : Int) + 0 * _ = a * ((0 : Nat) : Int) + b * ((0 : Nat) : Int); rw [Int.zero_mul, show ((0 : Nat) : Int) = 0 from rfl, Int.mul_zero, Int.mul_zero]) (by show ((0 : Nat) : Int) + 0 * _ = c * ((0 : Nat) : Int) + d9 * ((0 : Nat) : Int); rw [Int.zero_mul, show ((0 : Nat) : Int) = 0 from rfl, Int.mul_zero, Int.mul_zero])
theorem u_applyF {eu dv px pf py po ps od X Y : Nat} {a b c d9 : Int} (hG : kG G) (hI : CI wa la cap N) (hc : CW M wa la cap N V) (hE : M eu = some (.inl nU, [.ref (wa px), .ref (wa pf), .ref (wa py), .ref (wa po), .ref (wa ps), .ref dv, .int (nI (od)), .long (lZ (a)), .long (lZ (b)), .long (lZ (c)), .long (lZ (d9))])) (hpf : pf < N) (hpo : po < N) (hne : pf ≠ po) (hVx : 0 ≤ V pf) (hVy : 0 ≤ V po) (hr1 : max (lc (V pf)) (lc (V po)) + 1 ≤ cap pf) (hr2 : max (lc (V pf)) (lc (V po)) + 1 ≤ cap po) (hSB : SB a b c d9) (hX : X = a.natAbs * (V pf).natAbs + b.natAbs * (V po).natAbs) (hY : Y = c.natAbs * (V pf).natAbs + d9.natAbs * (V po).natAbs) (k : ∀ M', CW M' wa la cap N (vup (vup V pf (X : Nat)) po (Y : Nat)) → M' eu = some (.inl nU, [.ref (wa px), .ref (wa pf), .ref (wa py), .ref (wa po), .ref (wa ps), .ref dv, .int (nI (od)), .long (lZ (a)), .long (lZ (b)), .long (lZ (c)), .long (lZ (d9))]) → (∀ q, q ≠ wa pf → q ≠ la pf → q ≠ wa po → q ≠ la po → M' q = M q) → Q (.returned none) M' rc rs) : jj G kU_applyStepsToFactors (d + 2) Q rc rs 0 (jj_ent [.ref eu] 21) [] M := by
  obtain ⟨A, ca, hA1, hA2, hA3, hA4⟩ := hc pf hpf
  obtain ⟨B, cb, hB1, hB2, hB3, hB4⟩ := hc po hpo
  have lA := hI.2.2 pf hpf
  have lB := hI.2.2 po hpo
  have bA := hA4.1
  have bB := hB4.1
  have hca := hA4.cnt
  have hcb := hB4.cnt
  have nw : wa pf ≠ wa po := fun h => hne (hI.1 pf po hpf hpo h)
  have nl : la pf ≠ la po := fun h => hne (hI.2.1 pf po hpf hpo h)
  have nwl : wa pf ≠ la po := fun e => by have q9 := hA1; rw [e, hB2] at q9; cases q9
  have nlw : la pf ≠ wa po := fun e => by have q9 := hA2; rw [e, hB1] at q9; cases q9
  have nxx : wa pf ≠ la pf := fun e => by have q9 := hA1; rw [e, hA2] at q9; cases q9
  have nyy : wa po ≠ la po := fun e => by have q9 := hB1; rw [e, hB2] at q9; cases q9
  have ex1 : eu ≠ wa pf := fun e => by have q9 := hE; rw [e, hA1] at q9; cases q9
  have ex2 : eu ≠ la pf := fun e => by have q9 := hE; rw [e, hA2] at q9; cases q9
  have ey1 : eu ≠ wa po := fun e => by have q9 := hE; rw [e, hB1] at q9; cases q9
  have ey2 : eu ≠ la po := fun e => by have q9 := hE; rw [e, hB2] at q9; cases q9
  obtain ⟨ha1, ha2, hb1, hb2, hc1, hc2, hd1, hd2⟩ := id hSB
  have sA : sg (V pf) = 0 := sg_nonneg hVx
  have sB : sg (V po) = 0 := sg_nonneg hVy
  rw [← hca, ← hcb] at hr1 hr2
  obtain ⟨mx, hmx⟩ : ∃ mx, max ca cb = mx := ⟨_, rfl⟩
  rw [hmx] at hr1 hr2
  have hm1 : ca ≤ mx := by omega
  have hm2 : cb ≤ mx := by omega
  obtain ⟨aa, haa⟩ : ∃ aa, a.natAbs = aa := ⟨_, rfl⟩
  obtain ⟨ab, hab⟩ : ∃ ab, b.natAbs = ab := ⟨_, rfl⟩
  obtain ⟨ac, hac⟩ : ∃ ac, c.natAbs = ac := ⟨_, rfl⟩
  obtain ⟨ad, had⟩ : ∃ ad, d9.natAbs = ad := ⟨_, rfl⟩
  rw [haa, hab] at hX
  rw [hac, had] at hY
  have ba : aa < 2147483648 := by omega
  have bb : ab < 2147483648 := by omega
  have bc : ac < 2147483648 := by omega
  have bd : ad < 2147483648 := by omega
  have hXB : X < BB ^ (mx + 1) := by rw [hX]; exact fac_lt ba bb (Nat.lt_of_lt_of_le hA4.lt (Nat.pow_le_pow_right (by decide) hm1)) (Nat.lt_of_lt_of_le hB4.lt (Nat.pow_le_pow_right (by decide) hm2))
  have hYB : Y < BB ^ (mx + 1) := by rw [hY]; exact fac_lt bc bd (Nat.lt_of_lt_of_le hA4.lt (Nat.pow_le_pow_right (by decide) hm1)) (Nat.lt_of_lt_of_le hB4.lt (Nat.pow_le_pow_right (by decide) hm2))
  rw [← hA4.2.1, ← hB4.2.1] at hX hY
  show jj G kU_applyStepsToFactors (d + 2) Q rc rs 0 [some (.ref eu), none, none, none, none, none, none, none, none, none, none, none, none, none, none, none, none, none, none, none, none] [] M
  refine jj_aload_n (pc := 0) kU_applyStepsToFactors_d0 rfl ?_
  refine jj_getf (pc := 1) kU_applyStepsToFactors_d1 (kfU_factor hG) hE rfl ?_
  refine jj_getf (pc := 4) kU_applyStepsToFactors_d4 (kfU_W_count hG) hA1 rfl ?_
  refine jj_aload_n (pc := 7) kU_applyStepsToFactors_d7 rfl ?_
  refine jj_getf (pc := 8) kU_applyStepsToFactors_d8 (kfU_otherFactor hG) hE rfl ?_
  refine jj_getf (pc := 11) kU_applyStepsToFactors_d11 (kfU_W_count hG) hB1 rfl ?_
  refine jj_callS (pc := 14) (As := [.int (nI (ca)), .int (nI (cb))]) kU_applyStepsToFactors_d14 (kvU_JM_max hG) rfl rfl rfl (Nat.le_of_ble_eq_true rfl) (Nat.le_of_ble_eq_true rfl) (jj_bare0 rfl) ?_
  refine jm_max ?_
  show jj G kU_applyStepsToFactors (d + 2) Q rc rs 17 [some (.ref eu), none, none, none, none, none, none, none, none, none, none, none, none, none, none, none, none, none, none, none, none] [.int ((if nI (ca) < nI (cb) then nI (cb) else nI (ca)))] M
  refine jn_top (.int (nI (mx))) (by rw [nI_max (by omega) (by omega), hmx]) ?_
  refine jn_iconst (pc := 17) 1 kU_applyStepsToFactors_d17 (by decide) ?_
  refine jn_iadd (pc := 18) (mx + 1) kU_applyStepsToFactors_d18 (by omega) ?_
  refine jj_istore_n (pc := 19) kU_applyStepsToFactors_d19 (Nat.le_of_ble_eq_true rfl) ?_
  show jj G kU_applyStepsToFactors (d + 2) Q rc rs 20 [some (.ref eu), some (.int (nI (mx + 1))), none, none, none, none, none, none, none, none, none, none, none, none, none, none, none, none, none, none, none] [] M
  refine jj_aload_n (pc := 20) kU_applyStepsToFactors_d20 rfl ?_
  refine jj_getf (pc := 21) kU_applyStepsToFactors_d21 (kfU_factor hG) hE rfl ?_
  refine jj_iload_n (pc := 24) kU_applyStepsToFactors_d24 rfl ?_
  refine jj_callS (pc := 25) (As := [.ref (wa pf), .int (nI (mx + 1))]) kU_applyStepsToFactors_d25 (kvU_U_widen hG) rfl rfl rfl (Nat.le_of_ble_eq_true rfl) (Nat.le_of_ble_eq_true rfl) (jj_bare0 rfl) ?_
  refine u_widen hG hA1 hA2 (by omega) (by omega) (by omega) (fun M0 A1 h01 h02 l0 v0 f0 => ?_)
  show jj G kU_applyStepsToFactors (d + 2) Q rc rs 28 [some (.ref eu), some (.int (nI (mx + 1))), none, none, none, none, none, none, none, none, none, none, none, none, none, none, none, none, none, none, none] [] M0
  have h0E := (f0 eu ex1 ex2).trans hE
  have h0B := (f0 (wa po) (Ne.symm nw) (Ne.symm nlw)).trans hB1
  have h0L := (f0 (la po) (Ne.symm nwl) (Ne.symm nl)).trans hB2
  refine jj_aload_n (pc := 28) kU_applyStepsToFactors_d28 rfl ?_
  refine jj_getf (pc := 29) kU_applyStepsToFactors_d29 (kfU_otherFactor hG) h0E rfl ?_
  refine jj_iload_n (pc := 32) kU_applyStepsToFactors_d32 rfl ?_
  refine jj_callS (pc := 33) (As := [.ref (wa po), .int (nI (mx + 1))]) kU_applyStepsToFactors_d33 (kvU_U_widen hG) rfl rfl rfl (Nat.le_of_ble_eq_true rfl) (Nat.le_of_ble_eq_true rfl) (jj_bare0 rfl) ?_
  refine u_widen hG h0B h0L (by omega) (by omega) (by omega) (fun M1 B1 h11 h12 l1 v1 f1 => ?_)
  show jj G kU_applyStepsToFactors (d + 2) Q rc rs 36 [some (.ref eu), some (.int (nI (mx + 1))), none, none, none, none, none, none, none, none, none, none, none, none, none, none, none, none, none, none, none] [] M1
  rw [← v1, ← v0] at hX hY
  have h1E := (f1 eu ey1 ey2).trans h0E
  have h1A := (f1 (wa pf) nw nwl).trans h01
  have h1L := (f1 (la pf) nlw nl).trans h02
  refine jj_aload_n (pc := 36) kU_applyStepsToFactors_d36 rfl ?_
  refine jj_getf (pc := 37) kU_applyStepsToFactors_d37 (kfU_factor hG) h1E rfl ?_
  refine jj_getf (pc := 40) kU_applyStepsToFactors_d40 (kfU_W_limbs hG) h1A rfl ?_
  refine jj_astore_n (pc := 43) kU_applyStepsToFactors_d43 (Nat.le_of_ble_eq_true rfl) ?_
  show jj G kU_applyStepsToFactors (d + 2) Q rc rs 44 [some (.ref eu), some (.int (nI (mx + 1))), some (.ref (la pf)), none, none, none, none, none, none, none, none, none, none, none, none, none, none, none, none, none, none] [] M1
  refine jj_aload_n (pc := 44) kU_applyStepsToFactors_d44 rfl ?_
  refine jj_getf (pc := 45) kU_applyStepsToFactors_d45 (kfU_otherFactor hG) h1E rfl ?_
  refine jj_getf (pc := 48) kU_applyStepsToFactors_d48 (kfU_W_limbs hG) h11 rfl ?_
  refine jj_astore_n (pc := 51) kU_applyStepsToFactors_d51 (Nat.le_of_ble_eq_true rfl) ?_
  show jj G kU_applyStepsToFactors (d + 2) Q rc rs 52 [some (.ref eu), some (.int (nI (mx + 1))), some (.ref (la pf)), some (.ref (la po)), none, none, none, none, none, none, none, none, none, none, none, none, none, none, none, none, none] [] M1
  refine jj_aload_n (pc := 52) kU_applyStepsToFactors_d52 rfl ?_
  refine jj_getf (pc := 53) kU_applyStepsToFactors_d53 (kfU_a hG) h1E rfl ?_
  refine jj_callS (pc := 56) (As := [.long (lZ (a))]) kU_applyStepsToFactors_d56 (kvU_JM_abs hG) rfl rfl rfl (Nat.le_of_ble_eq_true rfl) (Nat.le_of_ble_eq_true rfl) (jj_bare0 rfl) ?_
  refine jm_absZ (by omega) (by omega) ?_
  show jj G kU_applyStepsToFactors (d + 2) Q rc rs 59 [some (.ref eu), some (.int (nI (mx + 1))), some (.ref (la pf)), some (.ref (la po)), none, none, none, none, none, none, none, none, none, none, none, none, none, none, none, none, none] [.long (lN (a.natAbs))] M1
  refine jn_top (.long (lN (aa))) (by rw [haa]) ?_
  refine jj_lstore (pc := 59) kU_applyStepsToFactors_d59 (Nat.le_of_ble_eq_true rfl) ?_
  show jj G kU_applyStepsToFactors (d + 2) Q rc rs 61 [some (.ref eu), some (.int (nI (mx + 1))), some (.ref (la pf)), some (.ref (la po)), some (.long (lN (aa))), none, none, none, none, none, none, none, none, none, none, none, none, none, none, none, none] [] M1
  refine jj_aload_n (pc := 61) kU_applyStepsToFactors_d61 rfl ?_
  refine jj_getf (pc := 62) kU_applyStepsToFactors_d62 (kfU_b hG) h1E rfl ?_
  refine jj_callS (pc := 65) (As := [.long (lZ (b))]) kU_applyStepsToFactors_d65 (kvU_JM_abs hG) rfl rfl rfl (Nat.le_of_ble_eq_true rfl) (Nat.le_of_ble_eq_true rfl) (jj_bare0 rfl) ?_
  refine jm_absZ (by omega) (by omega) ?_
  show jj G kU_applyStepsToFactors (d + 2) Q rc rs 68 [some (.ref eu), some (.int (nI (mx + 1))), some (.ref (la pf)), some (.ref (la po)), some (.long (lN (aa))), none, none, none, none, none, none, none, none, none, none, none, none, none, none, none, none] [.long (lN (b.natAbs))] M1
  refine jn_top (.long (lN (ab))) (by rw [hab]) ?_
  refine jj_lstore (pc := 68) kU_applyStepsToFactors_d68 (Nat.le_of_ble_eq_true rfl) ?_
  show jj G kU_applyStepsToFactors (d + 2) Q rc rs 70 [some (.ref eu), some (.int (nI (mx + 1))), some (.ref (la pf)), some (.ref (la po)), some (.long (lN (aa))), none, some (.long (lN (ab))), none, none, none, none, none, none, none, none, none, none, none, none, none, none] [] M1
  refine jj_aload_n (pc := 70) kU_applyStepsToFactors_d70 rfl ?_
  refine jj_getf (pc := 71) kU_applyStepsToFactors_d71 (kfU_c hG) h1E rfl ?_
  refine jj_callS (pc := 74) (As := [.long (lZ (c))]) kU_applyStepsToFactors_d74 (kvU_JM_abs hG) rfl rfl rfl (Nat.le_of_ble_eq_true rfl) (Nat.le_of_ble_eq_true rfl) (jj_bare0 rfl) ?_
  refine jm_absZ (by omega) (by omega) ?_
  show jj G kU_applyStepsToFactors (d + 2) Q rc rs 77 [some (.ref eu), some (.int (nI (mx + 1))), some (.ref (la pf)), some (.ref (la po)), some (.long (lN (aa))), none, some (.long (lN (ab))), none, none, none, none, none, none, none, none, none, none, none, none, none, none] [.long (lN (c.natAbs))] M1
  refine jn_top (.long (lN (ac))) (by rw [hac]) ?_
  refine jj_lstore (pc := 77) kU_applyStepsToFactors_d77 (Nat.le_of_ble_eq_true rfl) ?_
  show jj G kU_applyStepsToFactors (d + 2) Q rc rs 79 [some (.ref eu), some (.int (nI (mx + 1))), some (.ref (la pf)), some (.ref (la po)), some (.long (lN (aa))), none, some (.long (lN (ab))), none, some (.long (lN (ac))), none, none, none, none, none, none, none, none, none, none, none, none] [] M1
  refine jj_aload_n (pc := 79) kU_applyStepsToFactors_d79 rfl ?_
  refine jj_getf (pc := 80) kU_applyStepsToFactors_d80 (kfU_d hG) h1E rfl ?_
  refine jj_callS (pc := 83) (As := [.long (lZ (d9))]) kU_applyStepsToFactors_d83 (kvU_JM_abs hG) rfl rfl rfl (Nat.le_of_ble_eq_true rfl) (Nat.le_of_ble_eq_true rfl) (jj_bare0 rfl) ?_
  refine jm_absZ (by omega) (by omega) ?_
  show jj G kU_applyStepsToFactors (d + 2) Q rc rs 86 [some (.ref eu), some (.int (nI (mx + 1))), some (.ref (la pf)), some (.ref (la po)), some (.long (lN (aa))), none, some (.long (lN (ab))), none, some (.long (lN (ac))), none, none, none, none, none, none, none, none, none, none, none, none] [.long (lN (d9.natAbs))] M1
  refine jn_top (.long (lN (ad))) (by rw [had]) ?_
  refine jj_lstore (pc := 86) kU_applyStepsToFactors_d86 (Nat.le_of_ble_eq_true rfl) ?_
  show jj G kU_applyStepsToFactors (d + 2) Q rc rs 88 [some (.ref eu), some (.int (nI (mx + 1))), some (.ref (la pf)), some (.ref (la po)), some (.long (lN (aa))), none, some (.long (lN (ab))), none, some (.long (lN (ac))), none, some (.long (lN (ad))), none, none, none, none, none, none, none, none, none, none] [] M1
  refine jj_lconst (pc := 88) (v := lN 0) kU_applyStepsToFactors_d88 (by decide) ?_
  refine jj_lstore (pc := 89) kU_applyStepsToFactors_d89 (Nat.le_of_ble_eq_true rfl) ?_
  show jj G kU_applyStepsToFactors (d + 2) Q rc rs 91 [some (.ref eu), some (.int (nI (mx + 1))), some (.ref (la pf)), some (.ref (la po)), some (.long (lN (aa))), none, some (.long (lN (ab))), none, some (.long (lN (ac))), none, some (.long (lN (ad))), none, some (.long (lN (0))), none, none, none, none, none, none, none, none] [] M1
  refine jj_lconst (pc := 91) (v := lN 0) kU_applyStepsToFactors_d91 (by decide) ?_
  refine jj_lstore (pc := 92) kU_applyStepsToFactors_d92 (Nat.le_of_ble_eq_true rfl) ?_
  show jj G kU_applyStepsToFactors (d + 2) Q rc rs 94 [some (.ref eu), some (.int (nI (mx + 1))), some (.ref (la pf)), some (.ref (la po)), some (.long (lN (aa))), none, some (.long (lN (ab))), none, some (.long (lN (ac))), none, some (.long (lN (ad))), none, some (.long (lN (0))), none, some (.long (lN (0))), none, none, none, none, none, none] [] M1
  refine jn_iconst (pc := 94) 0 kU_applyStepsToFactors_d94 (by decide) ?_
  refine jj_istore (pc := 95) kU_applyStepsToFactors_d95 (Nat.le_of_ble_eq_true rfl) ?_
  show jj G kU_applyStepsToFactors (d + 2) Q rc rs 97 [some (.ref eu), some (.int (nI (mx + 1))), some (.ref (la pf)), some (.ref (la po)), some (.long (lN (aa))), none, some (.long (lN (ab))), none, some (.long (lN (ac))), none, some (.long (lN (ad))), none, some (.long (lN (0))), none, some (.long (lN (0))), none, some (.int (nI (0))), none, none, none, none] [] M1
  show jj G kU_applyStepsToFactors (d + 2) Q rc rs 97 [some (.ref eu), some (.int (nI (mx + 1))), some (.ref (la pf)), some (.ref (la po)), some (.long (lN (aa))), none, some (.long (lN (ab))), none, some (.long (lN (ac))), none, some (.long (lN (ad))), none, some (.long (lN (0))), none, some (.long (lN (0))), none, some (.int (nI (0))), none, none, none, none] [] M1
  have loop : ∀ mu i, mx + 1 = i + mu → ∀ (M9 : mheap) (A9 B9 : List Int32) (u w : Nat) (o17 o18 o19 o20 : Option Value), M9 eu = some (.inl nU, [.ref (wa px), .ref (wa pf), .ref (wa py), .ref (wa po), .ref (wa ps), .ref dv, .int (nI (od)), .long (lZ (a)), .long (lZ (b)), .long (lZ (c)), .long (lZ (d9))]) → M9 (wa pf) = some (.inl nW, [.ref (la pf), .int (nI (mx + 1)), .int (sg (V pf))]) → M9 (la pf) = some (.inr 0, A9.map .int) → M9 (wa po) = some (.inl nW, [.ref (la po), .int (nI (mx + 1)), .int (sg (V po))]) → M9 (la po) = some (.inr 0, B9.map .int) → A9.length = A.length → B9.length = B.length → (∀ q, q ≠ wa pf → q ≠ la pf → q ≠ wa po → q ≠ la po → M9 q = M q) → (∀ j, i ≤ j → A9.getD j 0 = A1.getD j 0) → (∀ j, i ≤ j → B9.getD j 0 = B1.getD j 0) → u < 4294967296 → w < 4294967296 → lnat A9 i + u * BB ^ i = aa * lnat A1 i + ab * lnat B1 i → lnat B9 i + w * BB ^ i = ac * lnat A1 i + ad * lnat B1 i → jj G kU_applyStepsToFactors (d + 2) Q rc rs 97 [some (.ref eu), some (.int (nI (mx + 1))), some (.ref (la pf)), some (.ref (la po)), some (.long (lN (aa))), none, some (.long (lN (ab))), none, some (.long (lN (ac))), none, some (.long (lN (ad))), none, some (.long (lN (u))), none, some (.long (lN (w))), none, some (.int (nI (i))), (o17), (o18), (o19), (o20)] [] M9 := by
    intro mu
    induction mu with
    | zero =>
      intro i hk M9 A9 B9 u w o17 o18 o19 o20 h9E h91 h92 h93 h94 l9 l8 f9 q9a q9b u1 w1 v9 x9
      have e9 : mx + 1 = i := by omega
      subst e9
      have vX : lnat A9 (mx + 1) = ((X : Nat) : Int).natAbs := by
        rw [← hX] at v9
        rw [fac_end v9 hXB]
        rfl
      have vY : lnat B9 (mx + 1) = ((Y : Nat) : Int).natAbs := by
        rw [← hY] at x9
        rw [fac_end x9 hYB]
        rfl
      refine jj_iload (pc := 97) kU_applyStepsToFactors_d97 rfl ?_
      refine jj_iload_n (pc := 99) kU_applyStepsToFactors_d99 rfl ?_
      refine jn_icmp_ge (pc := 100) (tgt := 191) kU_applyStepsToFactors_d100 (by decide) (by omega) (by omega) (fun _ => ?_) (fun c => by exfalso; omega)
      refine jj_aload_n (pc := 191) kU_applyStepsToFactors_d191 rfl ?_
      refine jj_getf (pc := 192) kU_applyStepsToFactors_d192 (kfU_factor hG) h9E rfl ?_
      refine jj_callV (pc := 195) (b := (wa pf)) (As := []) kU_applyStepsToFactors_d195 (kvU_W_trim hG) (kG_cl hG rfl) rfl h91 rfl rfl rfl (Nat.le_of_ble_eq_true rfl) (Nat.le_of_ble_eq_true rfl) (jj_bare0 rfl) ?_
      refine w_trim hG (by omega) (mx + 1) M9 h91 h92 (by omega) (fun M7 h71 f7 => ?_)
      show jj G kU_applyStepsToFactors (d + 2) Q rc rs 198 [some (.ref eu), some (.int (nI (mx + 1))), some (.ref (la pf)), some (.ref (la po)), some (.long (lN (aa))), none, some (.long (lN (ab))), none, some (.long (lN (ac))), none, some (.long (lN (ad))), none, some (.long (lN (u))), none, some (.long (lN (w))), none, some (.int (nI (mx + 1))), (o17), (o18), (o19), (o20)] [] M7
      have e7 := (f7 eu ex1).trans h9E
      have b71 := (f7 (wa po) (Ne.symm nw)).trans h93
      have b72 := (f7 (la po) (Ne.symm nwl)).trans h94
      have a72 := (f7 (la pf) (Ne.symm nxx)).trans h92
      rw [sg_trim (z := (X : Nat)) (by omega) vX (fun _ => sA.trans (sg_nonneg (by omega)).symm)] at h71
      refine jj_aload_n (pc := 198) kU_applyStepsToFactors_d198 rfl ?_
      refine jj_getf (pc := 199) kU_applyStepsToFactors_d199 (kfU_otherFactor hG) e7 rfl ?_
      refine jj_callV (pc := 202) (b := (wa po)) (As := []) kU_applyStepsToFactors_d202 (kvU_W_trim hG) (kG_cl hG rfl) rfl b71 rfl rfl rfl (Nat.le_of_ble_eq_true rfl) (Nat.le_of_ble_eq_true rfl) (jj_bare0 rfl) ?_
      refine w_trim hG (by omega) (mx + 1) M7 b71 b72 (by omega) (fun M8 h81 f8 => ?_)
      show jj G kU_applyStepsToFactors (d + 2) Q rc rs 205 [some (.ref eu), some (.int (nI (mx + 1))), some (.ref (la pf)), some (.ref (la po)), some (.long (lN (aa))), none, some (.long (lN (ab))), none, some (.long (lN (ac))), none, some (.long (lN (ad))), none, some (.long (lN (u))), none, some (.long (lN (w))), none, some (.int (nI (mx + 1))), (o17), (o18), (o19), (o20)] [] M8
      have e8 := (f8 eu ey1).trans e7
      have a81 := (f8 (wa pf) nw).trans h71
      have a82 := (f8 (la pf) nlw).trans a72
      have b82 := (f8 (la po) (Ne.symm nyy)).trans b72
      rw [sg_trim (z := (Y : Nat)) (by omega) vY (fun _ => sB.trans (sg_nonneg (by omega)).symm)] at h81
      have fr : ∀ q, q ≠ wa pf → q ≠ la pf → q ≠ wa po → q ≠ la po → M8 q = M q := fun q q1 q2 q3 q4 => by rw [f8 q q3, f7 q q1]; exact f9 q q1 q2 q3 q4
      exact jj_vret (pc := 205) kU_applyStepsToFactors_d205 rfl (k M8 (hc.pair hI hpf hpo ⟨A9, _, a81, a82, by omega, ltrim_LW (by omega) vX⟩ ⟨B9, _, h81, b82, by omega, ltrim_LW (by omega) vY⟩ fr) e8 fr)
    | succ mu ih =>
      intro i hk M9 A9 B9 u w o17 o18 o19 o20 h9E h91 h92 h93 h94 l9 l8 f9 q9a q9b u1 w1 v9 x9
      have hla := lu_lt (A1.getD i 0)
      have hlb := lu_lt (B1.getD i 0)
      obtain ⟨t2, t3⟩ := fac_b ba bb hla hlb u1
      obtain ⟨r2, r3⟩ := fac_b bc bd hla hlb w1
      obtain ⟨s1, t1⟩ : ∃ s1, u + (aa * lu (A1.getD i 0) + ab * lu (B1.getD i 0)) = s1 := ⟨_, rfl⟩
      obtain ⟨s2, r1⟩ : ∃ s2, w + (ac * lu (A1.getD i 0) + ad * lu (B1.getD i 0)) = s2 := ⟨_, rfl⟩
      rw [t1] at t2 t3
      rw [r1] at r2 r3
      refine jj_iload (pc := 97) kU_applyStepsToFactors_d97 rfl ?_
      refine jj_iload_n (pc := 99) kU_applyStepsToFactors_d99 rfl ?_
      refine jn_icmp_ge (pc := 100) (tgt := 191) kU_applyStepsToFactors_d100 (by decide) (by omega) (by omega) (fun c => by exfalso; omega) (fun _ => ?_)
      refine jj_aload_n (pc := 103) kU_applyStepsToFactors_d103 rfl ?_
      refine jj_iload (pc := 104) kU_applyStepsToFactors_d104 rfl ?_
      refine jn_iald (pc := 106) (v := (A1.getD i 0)) kU_applyStepsToFactors_d106 (kG_t hG rfl) h92 (by omega) (by omega) (q9a i (Nat.le_refl _)) ?_
      refine jj_i2l (pc := 107) kU_applyStepsToFactors_d107 ?_
      refine jj_ldc2 (pc := 108) kU_applyStepsToFactors_d108 (kcU_4294967295 hG) ?_
      refine jn_top (.long (lN (4294967295))) (rfl) ?_
      refine jj_land (pc := 111) kU_applyStepsToFactors_d111 ?_
      refine jn_top (.long (lN (lu (A1.getD i 0)))) (by rw [lu_mask]) ?_
      refine jj_lstore (pc := 112) kU_applyStepsToFactors_d112 (Nat.le_of_ble_eq_true rfl) ?_
      show jj G kU_applyStepsToFactors (d + 2) Q rc rs 114 [some (.ref eu), some (.int (nI (mx + 1))), some (.ref (la pf)), some (.ref (la po)), some (.long (lN (aa))), none, some (.long (lN (ab))), none, some (.long (lN (ac))), none, some (.long (lN (ad))), none, some (.long (lN (u))), none, some (.long (lN (w))), none, some (.int (nI (i))), some (.long (lN (lu (A1.getD i 0)))), none, (o19), (o20)] [] M9
      refine jj_aload_n (pc := 114) kU_applyStepsToFactors_d114 rfl ?_
      refine jj_iload (pc := 115) kU_applyStepsToFactors_d115 rfl ?_
      refine jn_iald (pc := 117) (v := (B1.getD i 0)) kU_applyStepsToFactors_d117 (kG_t hG rfl) h94 (by omega) (by omega) (q9b i (Nat.le_refl _)) ?_
      refine jj_i2l (pc := 118) kU_applyStepsToFactors_d118 ?_
      refine jj_ldc2 (pc := 119) kU_applyStepsToFactors_d119 (kcU_4294967295 hG) ?_
      refine jn_top (.long (lN (4294967295))) (rfl) ?_
      refine jj_land (pc := 122) kU_applyStepsToFactors_d122 ?_
      refine jn_top (.long (lN (lu (B1.getD i 0)))) (by rw [lu_mask]) ?_
      refine jj_lstore (pc := 123) kU_applyStepsToFactors_d123 (Nat.le_of_ble_eq_true rfl) ?_
      show jj G kU_applyStepsToFactors (d + 2) Q rc rs 125 [some (.ref eu), some (.int (nI (mx + 1))), some (.ref (la pf)), some (.ref (la po)), some (.long (lN (aa))), none, some (.long (lN (ab))), none, some (.long (lN (ac))), none, some (.long (lN (ad))), none, some (.long (lN (u))), none, some (.long (lN (w))), none, some (.int (nI (i))), some (.long (lN (lu (A1.getD i 0)))), none, some (.long (lN (lu (B1.getD i 0)))), none] [] M9
      refine jj_lload (pc := 125) kU_applyStepsToFactors_d125 rfl ?_
      refine jj_lload (pc := 127) kU_applyStepsToFactors_d127 rfl ?_
      refine jj_lload (pc := 129) kU_applyStepsToFactors_d129 rfl ?_
      refine jj_lmul (pc := 131) kU_applyStepsToFactors_d131 ?_
      refine jn_top (.long (lN (aa * lu (A1.getD i 0)))) (by rw [lN_mul]) ?_
      refine jj_lload (pc := 132) kU_applyStepsToFactors_d132 rfl ?_
      refine jj_lload (pc := 134) kU_applyStepsToFactors_d134 rfl ?_
      refine jj_lmul (pc := 136) kU_applyStepsToFactors_d136 ?_
      refine jn_top (.long (lN (ab * lu (B1.getD i 0)))) (by rw [lN_mul]) ?_
      refine jj_ladd (pc := 137) kU_applyStepsToFactors_d137 ?_
      refine jn_top (.long (lN (aa * lu (A1.getD i 0) + ab * lu (B1.getD i 0)))) (by rw [lN_add]) ?_
      refine jj_ladd (pc := 138) kU_applyStepsToFactors_d138 ?_
      refine jn_top (.long (lN (s1))) (by rw [lN_add, t1]) ?_
      refine jj_lstore (pc := 139) kU_applyStepsToFactors_d139 (Nat.le_of_ble_eq_true rfl) ?_
      show jj G kU_applyStepsToFactors (d + 2) Q rc rs 141 [some (.ref eu), some (.int (nI (mx + 1))), some (.ref (la pf)), some (.ref (la po)), some (.long (lN (aa))), none, some (.long (lN (ab))), none, some (.long (lN (ac))), none, some (.long (lN (ad))), none, some (.long (lN (s1))), none, some (.long (lN (w))), none, some (.int (nI (i))), some (.long (lN (lu (A1.getD i 0)))), none, some (.long (lN (lu (B1.getD i 0)))), none] [] M9
      refine jj_lload (pc := 141) kU_applyStepsToFactors_d141 rfl ?_
      refine jj_lload (pc := 143) kU_applyStepsToFactors_d143 rfl ?_
      refine jj_lload (pc := 145) kU_applyStepsToFactors_d145 rfl ?_
      refine jj_lmul (pc := 147) kU_applyStepsToFactors_d147 ?_
      refine jn_top (.long (lN (ac * lu (A1.getD i 0)))) (by rw [lN_mul]) ?_
      refine jj_lload (pc := 148) kU_applyStepsToFactors_d148 rfl ?_
      refine jj_lload (pc := 150) kU_applyStepsToFactors_d150 rfl ?_
      refine jj_lmul (pc := 152) kU_applyStepsToFactors_d152 ?_
      refine jn_top (.long (lN (ad * lu (B1.getD i 0)))) (by rw [lN_mul]) ?_
      refine jj_ladd (pc := 153) kU_applyStepsToFactors_d153 ?_
      refine jn_top (.long (lN (ac * lu (A1.getD i 0) + ad * lu (B1.getD i 0)))) (by rw [lN_add]) ?_
      refine jj_ladd (pc := 154) kU_applyStepsToFactors_d154 ?_
      refine jn_top (.long (lN (s2))) (by rw [lN_add, r1]) ?_
      refine jj_lstore (pc := 155) kU_applyStepsToFactors_d155 (Nat.le_of_ble_eq_true rfl) ?_
      show jj G kU_applyStepsToFactors (d + 2) Q rc rs 157 [some (.ref eu), some (.int (nI (mx + 1))), some (.ref (la pf)), some (.ref (la po)), some (.long (lN (aa))), none, some (.long (lN (ab))), none, some (.long (lN (ac))), none, some (.long (lN (ad))), none, some (.long (lN (s1))), none, some (.long (lN (s2))), none, some (.int (nI (i))), some (.long (lN (lu (A1.getD i 0)))), none, some (.long (lN (lu (B1.getD i 0)))), none] [] M9
      refine jj_aload_n (pc := 157) kU_applyStepsToFactors_d157 rfl ?_
      refine jj_iload (pc := 158) kU_applyStepsToFactors_d158 rfl ?_
      refine jj_lload (pc := 160) kU_applyStepsToFactors_d160 rfl ?_
      refine jj_l2i (pc := 162) kU_applyStepsToFactors_d162 ?_
      refine jn_top (.int (nI (s1))) (by rw [lN_i]) ?_
      refine jn_iast (pc := 163) kU_applyStepsToFactors_d163 (kG_t hG rfl) h92 (by omega) (by omega) ?_
      refine jn_gen (fun M115 hM116 => ?_)
      have h117 : M115 eu = some (.inl nU, [.ref (wa px), .ref (wa pf), .ref (wa py), .ref (wa po), .ref (wa ps), .ref dv, .int (nI (od)), .long (lZ (a)), .long (lZ (b)), .long (lZ (c)), .long (lZ (d9))]) := by rw [hM116, jj_up_ne _ _ (fun e => by have q1 := h9E; rw [e, h92] at q1; cases q1)]; exact h9E
      have h118 : M115 (wa pf) = some (.inl nW, [.ref (la pf), .int (nI (mx + 1)), .int (sg (V pf))]) := by rw [hM116, jj_up_ne _ _ (fun e => by have q1 := h91; rw [e, h92] at q1; cases q1)]; exact h91
      have h119 : M115 (wa po) = some (.inl nW, [.ref (la po), .int (nI (mx + 1)), .int (sg (V po))]) := by rw [hM116, jj_up_ne _ _ (fun e => by have q1 := h93; rw [e, h92] at q1; cases q1)]; exact h93
      have h120 : M115 (la po) = some (.inr 0, (B9).map .int) := by rw [hM116, jj_up_ne _ _ (Ne.symm nl)]; exact h94
      have h121 : M115 (la pf) = some (.inr 0, ((A9).set (i) ((nI (s1)))).map .int) := by rw [hM116]; exact jj_up_at _ _ _
      refine jj_aload_n (pc := 164) kU_applyStepsToFactors_d164 rfl ?_
      refine jj_iload (pc := 165) kU_applyStepsToFactors_d165 rfl ?_
      refine jj_lload (pc := 167) kU_applyStepsToFactors_d167 rfl ?_
      refine jj_l2i (pc := 169) kU_applyStepsToFactors_d169 ?_
      refine jn_top (.int (nI (s2))) (by rw [lN_i]) ?_
      refine jn_iast (pc := 170) kU_applyStepsToFactors_d170 (kG_t hG rfl) h120 (by omega) (by omega) ?_
      refine jn_gen (fun M122 hM123 => ?_)
      have h124 : M122 eu = some (.inl nU, [.ref (wa px), .ref (wa pf), .ref (wa py), .ref (wa po), .ref (wa ps), .ref dv, .int (nI (od)), .long (lZ (a)), .long (lZ (b)), .long (lZ (c)), .long (lZ (d9))]) := by rw [hM123, jj_up_ne _ _ (fun e => by have q1 := h117; rw [e, h120] at q1; cases q1)]; exact h117
      have h125 : M122 (wa pf) = some (.inl nW, [.ref (la pf), .int (nI (mx + 1)), .int (sg (V pf))]) := by rw [hM123, jj_up_ne _ _ (fun e => by have q1 := h118; rw [e, h120] at q1; cases q1)]; exact h118
      have h126 : M122 (la pf) = some (.inr 0, ((A9).set (i) ((nI (s1)))).map .int) := by rw [hM123, jj_up_ne _ _ nl]; exact h121
      have h127 : M122 (wa po) = some (.inl nW, [.ref (la po), .int (nI (mx + 1)), .int (sg (V po))]) := by rw [hM123, jj_up_ne _ _ (fun e => by have q1 := h119; rw [e, h120] at q1; cases q1)]; exact h119
      have h128 : M122 (la po) = some (.inr 0, ((B9).set (i) ((nI (s2)))).map .int) := by rw [hM123]; exact jj_up_at _ _ _
      refine jj_lload (pc := 171) kU_applyStepsToFactors_d171 rfl ?_
      refine jn_bipush (pc := 173) 32 kU_applyStepsToFactors_d173 (by decide) ?_
      refine jj_lushr (pc := 175) kU_applyStepsToFactors_d175 ?_
      refine jn_top (.long (lN (s1 / BB))) (by rw [lN_shr32 (by omega)]) ?_
      refine jj_lstore (pc := 176) kU_applyStepsToFactors_d176 (Nat.le_of_ble_eq_true rfl) ?_
      show jj G kU_applyStepsToFactors (d + 2) Q rc rs 178 [some (.ref eu), some (.int (nI (mx + 1))), some (.ref (la pf)), some (.ref (la po)), some (.long (lN (aa))), none, some (.long (lN (ab))), none, some (.long (lN (ac))), none, some (.long (lN (ad))), none, some (.long (lN (s1 / BB))), none, some (.long (lN (s2))), none, some (.int (nI (i))), some (.long (lN (lu (A1.getD i 0)))), none, some (.long (lN (lu (B1.getD i 0)))), none] [] M122
      refine jj_lload (pc := 178) kU_applyStepsToFactors_d178 rfl ?_
      refine jn_bipush (pc := 180) 32 kU_applyStepsToFactors_d180 (by decide) ?_
      refine jj_lushr (pc := 182) kU_applyStepsToFactors_d182 ?_
      refine jn_top (.long (lN (s2 / BB))) (by rw [lN_shr32 (by omega)]) ?_
      refine jj_lstore (pc := 183) kU_applyStepsToFactors_d183 (Nat.le_of_ble_eq_true rfl) ?_
      show jj G kU_applyStepsToFactors (d + 2) Q rc rs 185 [some (.ref eu), some (.int (nI (mx + 1))), some (.ref (la pf)), some (.ref (la po)), some (.long (lN (aa))), none, some (.long (lN (ab))), none, some (.long (lN (ac))), none, some (.long (lN (ad))), none, some (.long (lN (s1 / BB))), none, some (.long (lN (s2 / BB))), none, some (.int (nI (i))), some (.long (lN (lu (A1.getD i 0)))), none, some (.long (lN (lu (B1.getD i 0)))), none] [] M122
      refine jn_iinc (pc := 185) (i + 1) kU_applyStepsToFactors_d185 rfl (nI_1 _) ?_
      refine jj_goto (pc := 188) (tgt := 97) kU_applyStepsToFactors_d188 (by decide) ?_
      show jj G kU_applyStepsToFactors (d + 2) Q rc rs 97 [some (.ref eu), some (.int (nI (mx + 1))), some (.ref (la pf)), some (.ref (la po)), some (.long (lN (aa))), none, some (.long (lN (ab))), none, some (.long (lN (ac))), none, some (.long (lN (ad))), none, some (.long (lN (s1 / BB))), none, some (.long (lN (s2 / BB))), none, some (.int (nI (i + 1))), some (.long (lN (lu (A1.getD i 0)))), none, some (.long (lN (lu (B1.getD i 0)))), none] [] M122
      refine ih (i + 1) (by omega) M122 _ _ (s1 / BB) (s2 / BB) _ _ _ _ h124 h125 h126 h127 h128 (by rw [List.length_set]; exact l9) (by rw [List.length_set]; exact l8) (fun q q1 q2 q3 q4 => by rw [hM123, jj_up_ne _ _ q4, hM116, jj_up_ne _ _ q2]; exact f9 q q1 q2 q3 q4) (fun j hj => by rw [gd_set_ne (by omega)]; exact q9a j (by omega)) (fun j hj => by rw [gd_set_ne (by omega)]; exact q9b j (by omega)) t3 r3 ?_ ?_
      · rw [lnat_step (by omega), Nat.pow_succ]
        exact fac_step v9 t1
      · rw [lnat_step (by omega), Nat.pow_succ]
        exact fac_step x9 r1
  exact loop (mx + 1) 0 (by omega) M1 A1 B1 0 0 none none none none h1E h1A h1L h11 h12 l0 l1 (fun q q1 q2 q3 q4 => (f1 q q3 q4).trans (f0 q q1 q2)) (fun _ _ => rfl) (fun _ _ => rfl) (by omega) (by omega) (by show 0 + 0 * _ = aa * 0 + ab * 0; rw [Nat.zero_mul, Nat.mul_zero, Nat.mul_zero]) (by show 0 + 0 * _ = ac * 0 + ad * 0; rw [Nat.zero_mul, Nat.mul_zero, Nat.mul_zero])
end U3
