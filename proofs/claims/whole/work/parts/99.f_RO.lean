/-! ===== Forms.smith once more (printed by wip/gen/rR3.py) ===== -/
def SMJ2 (SJ : Nat → imat → Nat → Nat → Nat → Prop) (SG : imat → Nat → Nat → Prop) (s sd : Nat) : Prop := ∀ N B p q tb, SJ N B p q tb → HSZ B p q s sd ∧ ∀ H r g, hermF H q r g → rowsZ H r B p q → rowsZ B p H r q → r ≤ p → ∃ N', (SJ N' (hturn H r) q p (1 - tb) ∧ SG (hturn H r) q p) ∧ ((¬ diagZ (hturn H r) q p ∨ 1 - tb = 1) → N' < N)
section RO15b
variable {G : jg} {d : Nat} {Q : jq} {rc rs : Nat} {M : mheap} {o f w vv pv ca ra : Nat} {v2 : Value} {D V P CA RA : List Int32} {t : Nat} {up low rk fi se : Int32}
theorem ro_smith_one2 {b m n lob T s sd e S LIM NS N0 cm cv X Z X' Z' : Nat} {qb : Nat → Rat} {Bz : imat} {SJ : Nat → imat → Nat → Nat → Nat → Prop} {SG : imat → Nat → Nat → Prop} (hG : kG G) (hO : OC M o f w ca ra CA RA fi se) (hC : FC M f w vv pv V t up low P rk) (hS : RS M w D T v2 cm X Z rc rs) (hX : FXB cv V X Z X' Z') (htV : t ≤ V.length) (h1 : RI D T 1 1) (hT3 : 3 ≤ T) (hb : MX D T V t b m n lob qb) (hB : ∀ i, i < m → ∀ j, j < n → qb (i * n + j) = ((Bz i j : Int) : Rat)) (hm : m < 32) (hn : n < 32) (hm1 : 1 ≤ m) (hn1 : 1 ≤ n) (hP : P.length = 64) (hCA : CA.length = 64) (hRA : RA.length = 64) (hSJ : SMJ2 SJ SG s sd) (hJ0 : SJ N0 Bz m n 0) (hsd : sd ≤ s) (hs : S = 4 * s + 4) (hs6 : 3 * s + 1 ≤ 3000) (he2 : e = s + 1) (hsp : 2 ≤ s) (hL1 : 100000 ≤ LIM) (hL2 : 2 * (m * n) * (2 * s + 2) ≤ LIM) (hNS : ∀ r, r ≤ m → r ≤ n → nsum (thG r sd) r ≤ NS) (hcv : t + 70 + 20 * (m * n) ≤ cv) (hT : T + m * n * (2 * e + 2) + m * n * S + m * n * (2 * s + 2) + m * n * S + m * n * S + LIM + 33000 + 300 * s + 32 * (18 * s + 40) + 2 * (m * n) * (2 * s + 2) + 3000 ≤ cm) (hT2 : T + m * n * (2 * e + 2) + m * n * S + m * n * (2 * s + 2) + LIM + NS + m * n * (2 * s + 2) + m * n * (2 * s + 2) + m * n * (2 * e + 2) + m * n * (2 * e + 2) + 42000 + 200 * s + 8 * (s * 33) + 2000 ≤ cm)
    (K : ∀ N B M' vv' D' T' V' P' up' low' rk' CA' RA' fi' se' X1 Z1 v2' rc' rs' o6 o7 o8 o9 o10 o11 o12 o13 o14 o15 o16 o17, SJ N B m n 0 → SG B m n → diagZ B m n → P'.length = 64 → CA'.length = 64 → RA'.length = 64 → OC M' o f w ca ra CA' RA' fi' se' → FC M' f w vv' pv V' (t + 2 + 2 * (m * n)) up' low' P' rk' → RS M' w D' T' v2' cm X1 Z1 rc' rs' → FXB cv V' X1 Z1 X' Z' → T ≤ T' → T' ≤ T + m * n * (2 * e + 2) → (∀ i, i < T → D'.getD i 0 = D.getD i 0) → (∀ i, i < t → V'.getD i 0 = V.getD i 0) → t + 2 + 2 * (m * n) ≤ V'.length → OF M M' o → MZ D' T' V' (t + 2 + 2 * (m * n)) t m n B → jj G kRO_smith (d + 14) Q rc' rs' 94 [some (.ref o), some (.int (nI (b))), some (.int (nI (T))), some (.int (nI (t))), some (.int (nI (t))), some (.int (nI (0))), (o6), (o7), (o8), (o9), (o10), (o11), (o12), (o13), (o14), (o15), (o16), (o17)] [] M') : jj G kRO_smith (d + 14) Q rc rs 0 (jj_ent [.ref o, .int (nI b)] 18) [] M := by
  have hcap := hX.cap
  have hcapD := hS.2.1.cap
  have hb1 := hb.1
  have hmn : m * n < 32 * 1024 := Nat.mul_lt_mul_of_lt_of_le hm (by omega) (by decide)
  have hq12 : m * n * (2 * s + 2) ≤ m * n * (2 * e + 2) := Nat.mul_le_mul_left _ (by omega)
  obtain ⟨a1, ha1⟩ : ∃ a1, m * n * (2 * s + 2) = a1 := ⟨_, rfl⟩
  obtain ⟨a3, ha3⟩ : ∃ a3, m * n * S = a3 := ⟨_, rfl⟩
  obtain ⟨a5, ha5⟩ : ∃ a5, m * n * (2 * e + 2) = a5 := ⟨_, rfl⟩
  obtain ⟨a6, ha6⟩ : ∃ a6, 2 * (m * n) * (2 * s + 2) = a6 := ⟨_, rfl⟩
  rw [ha1, ha3, ha5, ha6] at hT
  rw [ha1, ha3, ha5] at hT2
  rw [ha1, ha5] at hq12
  have loop : ∀ N, ∀ (o6 o7 o8 o9 o10 o11 o12 o13 o14 o15 o16 o17 : Option Value) (p q tb t9x : Nat) (B9 : imat) (M9 : mheap) (vv : Nat) (D9 : List Int32) (T9 : Nat) (V9 P9 CA9 RA9 : List Int32) (up9 low9 rk9 fi9 se9 : Int32) (X9 Y9 : Nat) (v9 : Value) (rc9 rs9 : Nat), SJ N B9 p q tb → (tb = 0 ∧ p = m ∧ q = n ∨ tb = 1 ∧ p = n ∧ q = m) → t9x = t + 2 + 2 * (p * q) → P9.length = 64 → CA9.length = 64 → RA9.length = 64 → OC M9 o f w ca ra CA9 RA9 fi9 se9 → FC M9 f w vv pv V9 t9x up9 low9 P9 rk9 → RS M9 w D9 T9 v9 cm X9 Y9 rc9 rs9 → FXB cv V9 X9 Y9 X' Z' → T ≤ T9 → T9 ≤ T + m * n * (2 * e + 2) → (∀ i, i < T → D9.getD i 0 = D.getD i 0) → (∀ i, i < t → V9.getD i 0 = V.getD i 0) → t9x ≤ V9.length → OF M M9 o → MZ D9 T9 V9 t9x t p q B9 → jj G kRO_smith (d + 14) Q rc9 rs9 29 [some (.ref o), some (.int (nI (b))), some (.int (nI (T))), some (.int (nI (t))), some (.int (nI (t))), some (.int (nI (tb))), (o6), (o7), (o8), (o9), (o10), (o11), (o12), (o13), (o14), (o15), (o16), (o17)] [] M9 := by
    intro N
    induction N using Nat.strongRecOn with
    | _ N ih =>
      intro o6 o7 o8 o9 o10 o11 o12 o13 o14 o15 o16 o17 p q tb t9x B9 M9 vv D9 T9 V9 P9 CA9 RA9 up9 low9 rk9 fi9 se9 X9 Y9 v9 rc9 rs9 hJ9 hpq ht9 hP9 hCA9 hRA9 hO9 hC9 hS9 hX9 t9 u9 ho9 hv9 hl9 hG9 hz9
      rw [ha5] at u9
      obtain ⟨hz, hst⟩ := hSJ _ _ _ _ _ hJ9
      have hcap9 := hX9.cap
      have hpqm : p * q = m * n := by
        rcases hpq with ⟨-, e1, e2⟩ | ⟨-, e1, e2⟩
        · rw [e1, e2]
        · rw [e1, e2, Nat.mul_comm]
      have hpl : p < 32 ∧ q < 32 ∧ 1 ≤ p ∧ 1 ≤ q ∧ tb ≤ 1 := by omega
      have hNS' : ∀ r, r ≤ p → r ≤ q → nsum (thG r sd) r ≤ NS := fun r h2 h3 => by
        rcases hpq with ⟨-, e1, e2⟩ | ⟨-, e1, e2⟩
        · exact hNS r (by omega) (by omega)
        · exact hNS r (by omega) (by omega)
      have h19 := h1.congr t9 ho9
      have hm9 := hz9.toMX h19
      have hp18 : p * (18 * s + 40) ≤ 32 * (18 * s + 40) := Nat.mul_le_mul_right _ (by omega)
      obtain ⟨hqp, hqp_⟩ : ∃ hqp, hqp = p * (18 * s + 40) := ⟨_, rfl⟩
      rw [← hqp_] at hp18
      refine jj_aload_n (pc := 29) kRO_smith_d29 rfl ?_
      refine jj_iload (pc := 30) kRO_smith_d30 rfl ?_
      refine jj_callV (pc := 32) (b := o) (As := [.int (nI (t))]) kRO_smith_d32 (kvRO_RO_hermite hG) (kG_cl hG rfl) rfl hO9.1 rfl rfl rfl (Nat.le_of_ble_eq_true rfl) (Nat.le_of_ble_eq_true rfl) (jj_bare0 rfl) ?_
      refine ro_hermite (m := p) (n := q) (lob := 0) (s := s) (sd := sd) (e := e) (S := S) (LIM := LIM) (NS := NS) (Bz := B9) hG hO9 hC9 hS9 hX9 hl9 h19 (by omega) hm9 (fun i hi j hj => by rw [(at_div hj).1, (at_div hj).2]) hpl.1 hpl.2.1 hpl.2.2.1 hpl.2.2.2.1 hP9 hCA9 hRA9 hz hsd hs hs6 he2 hsp hL1 (by rw [hpqm]; exact hL2) hNS' (by rw [hpqm]; omega) (by rw [hpqm, ← hqp_, ha1, ha3, ha6]; clear hT2; omega) (by rw [hpqm, ha1, ha3, ha5]; clear hT; omega) (fun H r g M1 vv D1 T1 V1 P1 up1 low1 rk1 CA1 RA1 fi1 se1 X1 Z1 v1 rc1 rs1 hH1 hH2 hH3 hrp hH4 hP1 hCA1 hRA1 hO1 hC1 hS1 hX1 t1 u1 ho1 hv1 hl1 hG1 hm1 => ?_)
      show jj G kRO_smith (d + 14) Q rc1 rs1 35 [some (.ref o), some (.int (nI (b))), some (.int (nI (T))), some (.int (nI (t))), some (.int (nI (t))), some (.int (nI (tb))), (o6), (o7), (o8), (o9), (o10), (o11), (o12), (o13), (o14), (o15), (o16), (o17)] [.int (nI (t9x))] M1
      have hG1x := hG9.trans hG1
      have hcap1 := hX1.cap
      obtain ⟨N', ⟨hJ', hSGx⟩, hN'⟩ := hst H r g hH1 hH2 hH3 hrp
      rw [hpqm, ha5] at u1
      obtain ⟨t1x, ht1x⟩ : ∃ t1x, t9x + 2 + 2 * (p * q) = t1x := ⟨_, rfl⟩
      rw [ht1x] at hC1 hl1 hm1
      have hqp' : q * p = m * n := by rw [Nat.mul_comm]; exact hpqm
      have bH : ∀ k, k < p * q → ZB e (if k < r * q then ((H (k / q) (k % q) : Int) : Rat) else 0).num ∧ ZB e (((if k < r * q then ((H (k / q) (k % q) : Int) : Rat) else 0).den : Nat) : Int) := fun k hk => by
        obtain ⟨k1, k2, k3⟩ := at_back hk
        by_cases c : k < r * q
        · rw [if_pos c]
          have k4 : k / q < r := (Nat.div_lt_iff_lt_mul (by omega)).mpr c
          exact ⟨hH4 _ _ k4 k2, ZB.of_le (show ((((H (k / q) (k % q) : Int) : Rat).den : Nat) : Int).natAbs ≤ 1 from Nat.le_refl _) (one_lt_ZB (by omega))⟩
        · rw [if_neg c]
          exact ⟨ZB.of_le (show ((0 : Rat).num).natAbs ≤ 1 from Nat.zero_le _) (one_lt_ZB (by omega)), ZB.of_le (show (((0 : Rat).den : Nat) : Int).natAbs ≤ 1 from Nat.le_refl _) (one_lt_ZB (by omega))⟩
      obtain ⟨hW101, hB101, hTD101, hz101, hp101⟩ := id hS1
      obtain ⟨dd101, hw101, hd101⟩ := id hW101
      have hcap101 := hB101.cap
      refine jj_istore (pc := 35) kRO_smith_d35 (Nat.le_of_ble_eq_true rfl) ?_
      refine jj_aload_n (pc := 37) kRO_smith_d37 rfl ?_
      refine jj_getf (pc := 38) kRO_smith_d38 (kfRO_w hG) hO1.1 rfl ?_
      refine jj_getf (pc := 41) kRO_smith_d41 (kfRO_RW_top hG) hw101 rfl ?_
      refine jj_istore (pc := 44) kRO_smith_d44 (Nat.le_of_ble_eq_true rfl) ?_
      show jj G kRO_smith (d + 14) Q rc1 rs1 46 [some (.ref o), some (.int (nI (b))), some (.int (nI (T))), some (.int (nI (t))), some (.int (nI (t))), some (.int (nI (tb))), some (.int (nI (t9x))), some (.int (nI (T1))), (o8), (o9), (o10), (o11), (o12), (o13), (o14), (o15), (o16), (o17)] [] M1
      refine jj_aload_n (pc := 46) kRO_smith_d46 rfl ?_
      refine jj_getf (pc := 47) kRO_smith_d47 (kfRO_f hG) hO1.1 rfl ?_
      refine jj_iload_n (pc := 50) kRO_smith_d50 rfl ?_
      refine jj_iload_n (pc := 51) kRO_smith_d51 rfl ?_
      refine jj_iload (pc := 52) kRO_smith_d52 rfl ?_
      refine jj_aload_n (pc := 54) kRO_smith_d54 rfl ?_
      refine jj_getf (pc := 55) kRO_smith_d55 (kfRO_f hG) hO1.1 rfl ?_
      refine jj_iload (pc := 58) kRO_smith_d58 rfl ?_
      refine jj_callV (pc := 60) (b := f) (As := [.int (nI (t9x))]) kRO_smith_d60 (kvRO_RF_turned hG) (kG_cl hG rfl) rfl hC1.1 rfl rfl rfl (Nat.le_of_ble_eq_true rfl) (Nat.le_of_ble_eq_true rfl) (jj_bare0 rfl) ?_
      refine rf_turned (r := p) (c := q) (lo := T9) (s := e) (S := 2 * e + 2) hG hC1 hS1 hX1 hl1 (h19.congr t1 ho1) (by omega) hm1 (by omega) (by omega) rfl bH (by omega) (by rw [hpqm, ha5]; omega) (fun M2 vv D2 T2 V2 up2 low2 X2 Z2 v2_ rc2 rs2 hC2 hS2 hX2 t2 u2 ho2 hv2 hl2 hF2 hm2 => ?_)
      show jj G kRO_smith (d + 14) Q rc2 rs2 63 [some (.ref o), some (.int (nI (b))), some (.int (nI (T))), some (.int (nI (t))), some (.int (nI (t))), some (.int (nI (tb))), some (.int (nI (t9x))), some (.int (nI (T1))), (o8), (o9), (o10), (o11), (o12), (o13), (o14), (o15), (o16), (o17)] [.int (nI (t1x)), .int (nI (T1)), .int (nI (t)), .int (nI (T)), .ref f] M2
      have hcap2 := hX2.cap
      rw [hpqm, ha5] at u2
      obtain ⟨t2x, ht2x⟩ : ∃ t2x, t1x + 2 + 2 * (q * p) = t2x := ⟨_, rfl⟩
      rw [ht2x] at hC2 hl2 hm2
      refine jj_callV (pc := 63) (b := f) (As := [.int (nI (T)), .int (nI (t)), .int (nI (T1)), .int (nI (t1x))]) kRO_smith_d63 (kvRO_RF_slide hG) (kG_cl hG rfl) rfl hC2.1 rfl rfl rfl (Nat.le_of_ble_eq_true rfl) (Nat.le_of_ble_eq_true rfl) (jj_bare0 rfl) ?_
      refine rf_slide (nu := T) (he := t) (fr := T1) (a := t1x) hG hC2 hS2 (by omega) (by omega) hm2 (h1.congr (Nat.le_refl _) (fun i hi => by rw [ho2 i (by omega), ho1 i (by omega), ho9 i hi])) hT3 (by omega) t2 (by omega) (by omega) (by omega) (by omega) (fun M3 D3 T3 V3 hC3 hS3 t3 ho3 hl3 hv3 hF3 hm3 => ?_)
      show jj G kRO_smith (d + 14) Q rc2 rs2 66 [some (.ref o), some (.int (nI (b))), some (.int (nI (T))), some (.int (nI (t))), some (.int (nI (t))), some (.int (nI (tb))), some (.int (nI (t9x))), some (.int (nI (T1))), (o8), (o9), (o10), (o11), (o12), (o13), (o14), (o15), (o16), (o17)] [.int (nI (t))] M3
      have hF23 := hF2.trans hF3
      obtain ⟨t3x, ht3x⟩ : ∃ t3x, t + 2 + 2 * (q * p) = t3x := ⟨_, rfl⟩
      rw [ht3x] at hC3 hm3
      have hz3 : MZ D3 T3 V3 t3x t q p (hturn H r) := MZ.ofMX hm3 (fun i hi j hj => by
        obtain ⟨e1, e2⟩ := at_div (i := i) hj
        try dsimp only
        rw [e1, e2]
        exact hturn_cells hi hj)
      have h13 : RI D3 T3 1 1 := h1.congr (by omega) (fun i hi => by rw [ho3 i hi, ho2 i (by omega), ho1 i (by omega), ho9 i hi])
      have hmz := hz3.toMX h13
      refine jj_istore (pc := 66) kRO_smith_d66 (Nat.le_of_ble_eq_true rfl) ?_
      refine jj_iload (pc := 68) kRO_smith_d68 rfl ?_
      have k78 : jj G kRO_smith (d + 14) Q rc2 rs2 78 [some (.ref o), some (.int (nI (b))), some (.int (nI (T))), some (.int (nI (t))), some (.int (nI (t))), some (.int (nI (tb))), some (.int (nI (t9x))), some (.int (nI (T1))), (o8), (o9), (o10), (o11), (o12), (o13), (o14), (o15), (o16), (o17)] [.int (nI ((1 - tb)))] M3 := by
        refine jj_istore (pc := 78) kRO_smith_d78 (Nat.le_of_ble_eq_true rfl) ?_
        show jj G kRO_smith (d + 14) Q rc2 rs2 80 [some (.ref o), some (.int (nI (b))), some (.int (nI (T))), some (.int (nI (t))), some (.int (nI (t))), some (.int (nI (1 - tb))), some (.int (nI (t9x))), some (.int (nI (T1))), (o8), (o9), (o10), (o11), (o12), (o13), (o14), (o15), (o16), (o17)] [] M3
        refine jj_aload_n (pc := 80) kRO_smith_d80 rfl ?_
        refine jj_iload (pc := 81) kRO_smith_d81 rfl ?_
        refine jj_callV (pc := 83) (b := o) (As := [.int (nI (t))]) kRO_smith_d83 (kvRO_RO_isDiagonal hG) (kG_cl hG rfl) rfl (hO1.ff hF23).1 rfl rfl rfl (Nat.le_of_ble_eq_true rfl) (Nat.le_of_ble_eq_true rfl) (jj_bare0 rfl) ?_
        refine ro_isDiagonal (m := q) (n := p) hG (hO1.ff hF23) hC3 hS3 (by omega) (by omega) hmz (by omega) (by omega) (fun bd hbd hiff => ?_)
        show jj G kRO_smith (d + 14) Q rc2 rs2 86 [some (.ref o), some (.int (nI (b))), some (.int (nI (T))), some (.int (nI (t))), some (.int (nI (t))), some (.int (nI (1 - tb))), some (.int (nI (t9x))), some (.int (nI (T1))), (o8), (o9), (o10), (o11), (o12), (o13), (o14), (o15), (o16), (o17)] [.int (nI (bd))] M3
        have hdg : bd = 1 ↔ diagZ (hturn H r) q p := by
          rw [hiff]
          constructor
          · intro h i hi j hj hne
            have h9 := h (i * p + j) (cell_lt hi hj)
            rw [(at_div hj).1, (at_div hj).2] at h9
            exact Rat.intCast_inj.mp ((h9 hne).trans (show (0 : Rat) = ((0 : Int) : Rat) from rfl))
          · intro h k hk hne
            obtain ⟨k1, k2, k3⟩ := at_back hk
            rw [h _ k1 _ k2 hne]
            rfl
        refine jn_if_eq (pc := 86) (tgt := 29) kRO_smith_d86 (by decide) (by omega) (fun c1 => ?_) (fun c1 => ?_)
        · skip
          show jj G kRO_smith (d + 14) Q rc2 rs2 29 [some (.ref o), some (.int (nI (b))), some (.int (nI (T))), some (.int (nI (t))), some (.int (nI (t))), some (.int (nI (1 - tb))), some (.int (nI (t9x))), some (.int (nI (T1))), (o8), (o9), (o10), (o11), (o12), (o13), (o14), (o15), (o16), (o17)] [] M3
          exact ih N' (hN' (Or.inl (fun h => by have := hdg.mpr h; omega))) _ _ _ _ _ _ _ _ _ _ _ _ q p (1 - tb) t3x (hturn H r) M3 vv D3 T3 V3 P1 CA1 RA1 _ _ rk1 fi1 se1 X2 Z2 _ rc2 rs2 hJ' (by omega) ht3x.symm hP1 hCA1 hRA1 (hO1.ff hF23) hC3 hS3 (hX2.same hl3) (by omega) (by rw [ha5]; omega) (fun i hi => by rw [ho3 i hi, ho2 i (by omega), ho1 i (by omega), ho9 i hi]) (fun i hi => by rw [hv3 i hi, hv2 i (by omega), hv1 i (by omega), hv9 i hi]) (by omega) (hG1x.trans (OF.ofFF hO1 hF23)) hz3
        · skip
          refine jj_iload (pc := 89) kRO_smith_d89 rfl ?_
          refine jn_if_ne (pc := 91) (tgt := 29) kRO_smith_d91 (by decide) (by omega) (fun c2 => ?_) (fun c2 => ?_)
          · skip
            show jj G kRO_smith (d + 14) Q rc2 rs2 29 [some (.ref o), some (.int (nI (b))), some (.int (nI (T))), some (.int (nI (t))), some (.int (nI (t))), some (.int (nI (1 - tb))), some (.int (nI (t9x))), some (.int (nI (T1))), (o8), (o9), (o10), (o11), (o12), (o13), (o14), (o15), (o16), (o17)] [] M3
            exact ih N' (hN' (Or.inr (by omega))) _ _ _ _ _ _ _ _ _ _ _ _ q p (1 - tb) t3x (hturn H r) M3 vv D3 T3 V3 P1 CA1 RA1 _ _ rk1 fi1 se1 X2 Z2 _ rc2 rs2 hJ' (by omega) ht3x.symm hP1 hCA1 hRA1 (hO1.ff hF23) hC3 hS3 (hX2.same hl3) (by omega) (by rw [ha5]; omega) (fun i hi => by rw [ho3 i hi, ho2 i (by omega), ho1 i (by omega), ho9 i hi]) (fun i hi => by rw [hv3 i hi, hv2 i (by omega), hv1 i (by omega), hv9 i hi]) (by omega) (hG1x.trans (OF.ofFF hO1 hF23)) hz3
          · skip
            have hd9 := hdg.mp (by omega)
            obtain ⟨f1, f2, f3⟩ : tb = 1 ∧ q = m ∧ p = n := by omega
            rw [f1, f2, f3] at hJ'
            rw [f2, f3] at hd9 hz3 ht3x hSGx
            show jj G kRO_smith (d + 14) Q rc2 rs2 94 [some (.ref o), some (.int (nI (b))), some (.int (nI (T))), some (.int (nI (t))), some (.int (nI (t))), some (.int (nI (1 - tb))), some (.int (nI (t9x))), some (.int (nI (T1))), (o8), (o9), (o10), (o11), (o12), (o13), (o14), (o15), (o16), (o17)] [] M3
            rw [← ht3x] at hC3 hz3
            rw [show 1 - tb = 0 by omega]
            exact K N' (hturn H r) M3 vv D3 T3 V3 P1 _ _ rk1 CA1 RA1 fi1 se1 X2 Z2 _ rc2 rs2 _ _ _ _ _ _ _ _ _ _ _ _ hJ' hSGx hd9 hP1 hCA1 hRA1 (hO1.ff hF23) hC3 hS3 (hX2.same hl3) (by omega) (by rw [ha5]; omega) (fun i hi => by rw [ho3 i hi, ho2 i (by omega), ho1 i (by omega), ho9 i hi]) (fun i hi => by rw [hv3 i hi, hv2 i (by omega), hv1 i (by omega), hv9 i hi]) (by omega) (hG1x.trans (OF.ofFF hO1 hF23)) hz3
      refine jn_if_ne (pc := 70) (tgt := 77) kRO_smith_d70 (by decide) (by omega) (fun c0 => ?_) (fun c0 => ?_)
      · skip
        refine jn_iconst (pc := 77) 0 kRO_smith_d77 (by decide) ?_
        refine jn_top (.int (nI (1 - tb))) (by rw [show 1 - tb = 0 by omega]) ?_
        exact k78
      · skip
        refine jn_iconst (pc := 73) 1 kRO_smith_d73 (by decide) ?_
        refine jj_goto (pc := 74) (tgt := 78) kRO_smith_d74 (by decide) ?_
        refine jn_top (.int (nI (1 - tb))) (by rw [show 1 - tb = 1 by omega]) ?_
        exact k78
  have hq : ∀ k, k < m * n → ZB s (qb k).num ∧ ZB s ((qb k).den : Int) := fun k hk => by
    obtain ⟨k1, k2, k3⟩ := at_back hk
    have := ((hSJ _ _ _ _ _ hJ0).1.2.1 (zq Bz) 0 0 (fun i => i) (fun i => i) (GI_start (fun i _ j _ => by grind)) (gjinv_start _ m _) (by omega)).1 _ _ k1 k2
    rw [show zq Bz (k / n) (k % n) = qb k by rw [← k3, hB _ k1 _ k2, k3]; rfl] at this
    exact this
  obtain ⟨hW102, hB102, hTD102, hz102, hp102⟩ := id hS
  obtain ⟨dd102, hw102, hd102⟩ := id hW102
  have hcap102 := hB102.cap
  show jj G kRO_smith (d + 14) Q rc rs 0 [some (.ref o), some (.int (nI (b))), none, none, none, none, none, none, none, none, none, none, none, none, none, none, none, none] [] M
  refine jj_aload_n (pc := 0) kRO_smith_d0 rfl ?_
  refine jj_getf (pc := 1) kRO_smith_d1 (kfRO_w hG) hO.1 rfl ?_
  refine jj_getf (pc := 4) kRO_smith_d4 (kfRO_RW_top hG) hw102 rfl ?_
  refine jj_istore_n (pc := 7) kRO_smith_d7 (Nat.le_of_ble_eq_true rfl) ?_
  refine jj_aload_n (pc := 8) kRO_smith_d8 rfl ?_
  refine jj_getf (pc := 9) kRO_smith_d9 (kfRO_f hG) hO.1 rfl ?_
  refine jj_getf (pc := 12) kRO_smith_d12 (kfRO_RF_top hG) hC.1 rfl ?_
  refine jj_istore_n (pc := 15) kRO_smith_d15 (Nat.le_of_ble_eq_true rfl) ?_
  show jj G kRO_smith (d + 14) Q rc rs 16 [some (.ref o), some (.int (nI (b))), some (.int (nI (T))), some (.int (nI (t))), none, none, none, none, none, none, none, none, none, none, none, none, none, none] [] M
  refine jj_aload_n (pc := 16) kRO_smith_d16 rfl ?_
  refine jj_getf (pc := 17) kRO_smith_d17 (kfRO_f hG) hO.1 rfl ?_
  refine jj_iload_n (pc := 20) kRO_smith_d20 rfl ?_
  refine jj_callV (pc := 21) (b := f) (As := [.int (nI (b))]) kRO_smith_d21 (kvRO_RF_copy hG) (kG_cl hG rfl) rfl hC.1 rfl rfl rfl (Nat.le_of_ble_eq_true rfl) (Nat.le_of_ble_eq_true rfl) (jj_bare0 rfl) ?_
  refine rf_copy (lo := lob) (s := s) (S := 2 * s + 2) hG hC hS hX htV h1 hT3 hb (by omega) (by omega) rfl hq (by omega) (by rw [ha1]; omega) (fun M1 vv D1 T1 V1 up1 low1 X1 Z1 v1 rc1 rs1 hC1 hS1 hX1 t1 u1 ho1 hv1 hl1 hF1 hm1_ => ?_)
  show jj G kRO_smith (d + 14) Q rc1 rs1 24 [some (.ref o), some (.int (nI (b))), some (.int (nI (T))), some (.int (nI (t))), none, none, none, none, none, none, none, none, none, none, none, none, none, none] [.int (nI (t))] M1
  have hz1 : MZ D1 T1 V1 (t + 2 + 2 * (m * n)) t m n Bz := MZ.ofMX hm1_ (fun i hi j hj => hB i hi j hj)
  refine jj_istore (pc := 24) kRO_smith_d24 (Nat.le_of_ble_eq_true rfl) ?_
  refine jn_iconst (pc := 26) 0 kRO_smith_d26 (by decide) ?_
  refine jj_istore (pc := 27) kRO_smith_d27 (Nat.le_of_ble_eq_true rfl) ?_
  show jj G kRO_smith (d + 14) Q rc1 rs1 29 [some (.ref o), some (.int (nI (b))), some (.int (nI (T))), some (.int (nI (t))), some (.int (nI (t))), some (.int (nI (0))), none, none, none, none, none, none, none, none, none, none, none, none] [] M1
  show jj G kRO_smith (d + 14) Q rc1 rs1 29 [some (.ref o), some (.int (nI (b))), some (.int (nI (T))), some (.int (nI (t))), some (.int (nI (t))), some (.int (nI (0))), none, none, none, none, none, none, none, none, none, none, none, none] [] M1
  exact loop N0 _ _ _ _ _ _ _ _ _ _ _ _ m n 0 _ Bz M1 vv D1 T1 V1 P CA RA up1 low1 rk fi se X1 Z1 v1 rc1 rs1 hJ0 (Or.inl ⟨rfl, rfl, rfl⟩) rfl hP hCA hRA (hO.ff hF1) hC1 hS1 hX1 t1 (by rw [ha5]; rw [ha1] at u1; omega) ho1 hv1 hl1 (OF.ofFF hO hF1) hz1
end RO15b
section RO18b
variable {G : jg} {d : Nat} {Q : jq} {rc rs : Nat} {M : mheap} {o f w vv pv ca ra : Nat} {v2 : Value} {D V P CA RA : List Int32} {t : Nat} {up low rk fi se : Int32}
theorem ro_smith2  {b m n lob T s sd e S LIM NS N0 cm cv X Z X' Z' : Nat} {qb : Nat → Rat} {Bz : imat} {SJ : Nat → imat → Nat → Nat → Nat → Prop} {SG : imat → Nat → Nat → Prop} {DJ : Nat → Nat → imat → Prop} (hG : kG G) (hO : OC M o f w ca ra CA RA fi se) (hC : FC M f w vv pv V t up low P rk) (hS : RS M w D T v2 cm X Z rc rs) (hX : FXB cv V X Z X' Z') (htV : t ≤ V.length) (h1 : RI D T 1 1) (hT3 : 3 ≤ T) (hb : MX D T V t b m n lob qb) (hB : ∀ i, i < m → ∀ j, j < n → qb (i * n + j) = ((Bz i j : Int) : Rat)) (hm : m < 32) (hn : n < 32) (hm1 : 1 ≤ m) (hn1 : 1 ≤ n) (hP : P.length = 64) (hCA : CA.length = 64) (hRA : RA.length = 64) (hSJ : SMJ2 SJ SG s sd) (hJ0 : SJ N0 Bz m n 0) (hsd : sd ≤ s) (hs : S = 4 * s + 4) (hs6 : 3 * s + 1 ≤ 3000) (he2 : e = s + 1) (hsp : 2 ≤ s) (hL1 : 100000 ≤ LIM) (hL2 : 2 * (m * n) * (2 * s + 2) ≤ LIM) (hNS : ∀ r, r ≤ m → r ≤ n → nsum (thG r sd) r ≤ NS) (hcv : t + 70 + 20 * (m * n) ≤ cv) (hT : T + m * n * (2 * e + 2) + m * n * S + m * n * (2 * s + 2) + m * n * S + m * n * S + LIM + 33000 + 300 * s + 32 * (18 * s + 40) + 2 * (m * n) * (2 * s + 2) + 3000 ≤ cm) (hT2 : T + m * n * (2 * e + 2) + m * n * S + m * n * (2 * s + 2) + LIM + NS + m * n * (2 * s + 2) + m * n * (2 * s + 2) + m * n * (2 * e + 2) + m * n * (2 * e + 2) + 42000 + 200 * s + 8 * (s * 33) + 2000 ≤ cm) (hDJ : DGJ DJ m n s) (hlink : ∀ N B, SJ N B m n 0 → SG B m n → diagZ B m n → DJ 0 1 B) (hT5 : T + m * n * (2 * e + 2) + m * n * (2 * e + 2) + 30000 + 100 * s + 1000 ≤ cm)
    (K : ∀ i j B M' vv' D' T' V' P' up' low' rk' CA' RA' fi' se' X1 Z1 v2' rc' rs', min m n ≤ i → DJ i j B → P'.length = 64 → CA'.length = 64 → RA'.length = 64 → OC M' o f w ca ra CA' RA' fi' se' → FC M' f w vv' pv V' (t + 2 + 2 * (m * n)) up' low' P' rk' → RS M' w D' T' v2' cm X1 Z1 rc' rs' → FXB cv V' X1 Z1 X' Z' → T ≤ T' → T' ≤ T + m * n * (2 * e + 2) → (∀ i, i < T → D'.getD i 0 = D.getD i 0) → (∀ i, i < t → V'.getD i 0 = V.getD i 0) → t + 2 + 2 * (m * n) ≤ V'.length → OF M M' o → MZ D' T' V' (t + 2 + 2 * (m * n)) t m n B → Q (.returned (some (.int (nI t)))) M' rc' rs') : jj G kRO_smith (d + 14) Q rc rs 0 (jj_ent [.ref o, .int (nI b)] 18) [] M := by
  refine ro_smith_one2 (SJ := SJ) (SG := SG) (N0 := N0) (Bz := Bz) (lob := lob) (s := s) (sd := sd) (e := e) (S := S) (LIM := LIM) (NS := NS) hG hO hC hS hX htV h1 hT3 hb hB hm hn hm1 hn1 hP hCA hRA hSJ hJ0 hsd hs hs6 he2 hsp hL1 hL2 hNS hcv hT hT2 (fun N B M1 vv D1 T1 V1 P1 up1 low1 rk1 CA1 RA1 fi1 se1 X1 Z1 v1 rc1 rs1 o6 o7 o8 o9 o10 o11 o12 o13 o14 o15 o16 o17 hJ1 hSG1 hd1 hP1 hCA1 hRA1 hO1 hC1 hS1 hX1 t1 u1 ho1 hv1 hl1 hG1 hz1 => ?_)
  refine ro_smith_two (s := s) (B0 := B) (DJ := DJ) hG hO1 hC1 hS1 hX1 hl1 (h1.congr (Nat.le_refl _) ho1) hT3 t1 rfl hz1 hm hn hm1 hn1 hDJ (hlink N B hJ1 hSG1 hd1) hs6 (m * n * (2 * e + 2)) (Nat.mul_le_mul_left _ (by omega)) u1 (by omega) (by omega) (fun i j B2 M2 vv D2 T2 V2 up2 low2 X2 Z2 v2_ rc2 rs2 hi hJ2 hF2 hC2 hS2 hX2 t2 u2 ho2 hv2 hl2 hz2 => ?_)
  exact K i j B2 M2 vv D2 T2 V2 P1 up2 low2 rk1 CA1 RA1 fi1 se1 X2 Z2 v2_ rc2 rs2 hi hJ2 hP1 hCA1 hRA1 (hO1.ff hF2) hC2 hS2 hX2 t2 u2 (fun i hi => by rw [ho2 i hi, ho1 i hi]) (fun i hi => by rw [hv2 i hi, hv1 i hi]) hl2 (hG1.trans (OF.ofFF hO1 hF2)) hz2
end RO18b
