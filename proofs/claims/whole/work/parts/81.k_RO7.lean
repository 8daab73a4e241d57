/-! ===== Forms.triangle: the first half (printed by wip/gen/ro7.py) ===== -/
theorem sgn_abs {x v : Int} : (if x < 0 then -v else v) * x = v * (x.natAbs : Int) := by
  split
  · rw [show ((x.natAbs : Nat) : Int) = -x by omega]; grind
  · rw [show ((x.natAbs : Nat) : Int) = x by omega]
section RO7
variable {G : jg} {d : Nat} {Q : jq} {rc rs : Nat} {M : mheap} {o f w vv pv ca ra : Nat} {v2 : Value} {D V P CA RA : List Int32} {t : Nat} {up low rk fi se : Int32}
theorem ro_tri_one {b nu dp n m R T sa B LIM cm cv X Z X' Z' : Nat} {o7 o8 o9 o10 o11 o12 o13 o14 o15 o16 o17 o18 o19 o20 : Option Value} {Z0 : imat} {zd : Int} (hG : kG G) (hO : OC M o f w ca ra CA RA fi se) (hC : FC M f w vv pv V t up low P rk) (hS : RS M w D T v2 cm X Z rc rs) (hX : FXB cv V X Z X' Z') (ht0 : t = b + 2 + 2 * (R * n)) (htV : t ≤ V.length) (hR : R = m + n) (hz : MZ D T V t b R n Z0) (hR' : R < 64) (hnm : n ≤ m) (hn1 : 1 ≤ n) (h1 : RI D nu 1 1) (hnu : 3 ≤ nu) (hnT : nu ≤ T) (hdp : RI D nu dp zd) (hd : 0 < zd) (hdB : zd.natAbs ≤ B) (hdr : ∀ k, k < n → ∀ j, j < n → Z0 (m + k) j = if j = k then zd else 0) (hB : ∀ a b, a < m + n → b < n → (Z0 a b).natAbs ≤ B) (hBs : B < 32768 ^ sa) (hsa : 2 * sa + 2 ≤ 4000) (hL1 : 100000 ≤ LIM) (hL2 : R * n * (2 * sa + 2) ≤ LIM) (hTL : T ≤ nu + LIM) (hcv : t + 2 + 2 * (R * n) ≤ cv) (hT : nu + LIM + 31000 + 100 * sa + n * (18 * sa + 40) + R * n * (2 * sa + 2) + 1000 ≤ cm)
    (K : ∀ Z M' vv' D' T' V' up' low' fi' se' X1 Z1 v2' rc' rs' o7 o8 o9 o10 o11 o12 o13 o14 o15 o16 o17 o18 o19 o20, T1I Z0 Z zd B m n n (n + 1) → OC M' o f w ca ra CA RA fi' se' → FC M' f w vv' pv V' t up' low' P rk → RS M' w D' T' v2' cm X1 Z1 rc' rs' → FXB cv V' X1 Z1 X' Z' → nu ≤ T' → T' ≤ nu + LIM → (∀ i, i < nu → D'.getD i 0 = D.getD i 0) → (∀ i, i < b → V'.getD i 0 = V.getD i 0) → t ≤ V'.length → OF M M' o → MZ D' T' V' t b R n Z → jj G kRO_triangle (d + 10) Q rc' rs' 480 [some (.ref o), some (.int (nI (b))), some (.int (nI (nu))), some (.int (nI (dp))), some (.int (nI (b))), some (.int (nI (n))), some (.int (nI (n))), (o7), (o8), (o9), (o10), (o11), (o12), (o13), (o14), (o15), (o16), (o17), (o18), (o19), (o20)] [] M') : jj G kRO_triangle (d + 10) Q rc rs 17 [some (.ref o), some (.int (nI (b))), some (.int (nI (nu))), some (.int (nI (dp))), some (.int (nI (b))), some (.int (nI (n))), some (.int (nI (0))), (o7), (o8), (o9), (o10), (o11), (o12), (o13), (o14), (o15), (o16), (o17), (o18), (o19), (o20)] [] M := by
  have hcap := hX.cap
  have hcapD := hS.2.1.cap
  have hRn : R * n < 64 * 1024 := Nat.mul_lt_mul_of_lt_of_le hR' (by omega) (by decide)
  obtain ⟨RS2, hRS2⟩ : ∃ RS2, R * n * (2 * sa + 2) = RS2 := ⟨_, rfl⟩
  obtain ⟨nCK, hnCK⟩ : ∃ nCK, n * (18 * sa + 40) = nCK := ⟨_, rfl⟩
  rw [hRS2] at hL2 hT
  rw [hnCK] at hT
  have h1s : 1 < 32768 ^ sa := by omega
  have loop : ∀ mu c, n = c + mu → ∀ (o7 o8 o9 o10 o11 o12 o13 o14 o15 o16 o17 o18 o19 o20 : Option Value) (Z9 : imat) (M9 : mheap) (vv : Nat) (D9 : List Int32) (T9 : Nat) (V9 : List Int32) (up9 low9 fi9 se9 : Int32) (X9 Y9 : Nat) (v9 : Value) (rc9 rs9 : Nat), T1I Z0 Z9 zd B m n c (c + 1) → OC M9 o f w ca ra CA RA fi9 se9 → FC M9 f w vv pv V9 t up9 low9 P rk → RS M9 w D9 T9 v9 cm X9 Y9 rc9 rs9 → FXB cv V9 X9 Y9 X' Z' → nu ≤ T9 → T9 ≤ nu + LIM → (∀ i, i < nu → D9.getD i 0 = D.getD i 0) → (∀ i, i < b → V9.getD i 0 = V.getD i 0) → t ≤ V9.length → OF M M9 o → MZ D9 T9 V9 t b R n Z9 → jj G kRO_triangle (d + 10) Q rc9 rs9 17 [some (.ref o), some (.int (nI (b))), some (.int (nI (nu))), some (.int (nI (dp))), some (.int (nI (b))), some (.int (nI (n))), some (.int (nI (c))), (o7), (o8), (o9), (o10), (o11), (o12), (o13), (o14), (o15), (o16), (o17), (o18), (o19), (o20)] [] M9 := by
    intro mu
    induction mu with
    | zero =>
      intro c hk o7 o8 o9 o10 o11 o12 o13 o14 o15 o16 o17 o18 o19 o20 Z9 M9 vv D9 T9 V9 up9 low9 fi9 se9 X9 Y9 v9 rc9 rs9 hI9 hO9 hC9 hS9 hX9 t9 u9 ho9 hv9 hl9 hG9 hz9
      have e9 : n = c := by omega
      subst e9
      refine jj_iload (pc := 17) kRO_triangle_d17 rfl ?_
      refine jj_iload (pc := 19) kRO_triangle_d19 rfl ?_
      refine jn_icmp_ge (pc := 21) (tgt := 480) kRO_triangle_d21 (by decide) (by omega) (by omega) (fun _ => ?_) (fun c => by exfalso; omega)
      show jj G kRO_triangle (d + 10) Q rc9 rs9 480 [some (.ref o), some (.int (nI (b))), some (.int (nI (nu))), some (.int (nI (dp))), some (.int (nI (b))), some (.int (nI (n))), some (.int (nI (n))), (o7), (o8), (o9), (o10), (o11), (o12), (o13), (o14), (o15), (o16), (o17), (o18), (o19), (o20)] [] M9
      exact K Z9 M9 vv D9 T9 V9 up9 low9 fi9 se9 X9 Y9 v9 rc9 rs9 _ _ _ _ _ _ _ _ _ _ _ _ _ _ hI9 hO9 hC9 hS9 hX9 t9 u9 ho9 hv9 hl9 hG9 hz9
    | succ mu ih =>
      intro c hk o7 o8 o9 o10 o11 o12 o13 o14 o15 o16 o17 o18 o19 o20 Z9 M9 vv D9 T9 V9 up9 low9 fi9 se9 X9 Y9 v9 rc9 rs9 hI9 hO9 hC9 hS9 hX9 t9 u9 ho9 hv9 hl9 hG9 hz9
      refine jj_iload (pc := 17) kRO_triangle_d17 rfl ?_
      refine jj_iload (pc := 19) kRO_triangle_d19 rfl ?_
      refine jn_icmp_ge (pc := 21) (tgt := 480) kRO_triangle_d21 (by decide) (by omega) (by omega) (fun c => by exfalso; omega) (fun _ => ?_)
      refine jj_iload (pc := 24) kRO_triangle_d24 rfl ?_
      refine jn_iconst (pc := 26) 1 kRO_triangle_d26 (by decide) ?_
      refine jn_iadd (pc := 27) (c + 1) kRO_triangle_d27 (by omega) ?_
      refine jj_istore (pc := 28) kRO_triangle_d28 (Nat.le_of_ble_eq_true rfl) ?_
      show jj G kRO_triangle (d + 10) Q rc9 rs9 30 [some (.ref o), some (.int (nI (b))), some (.int (nI (nu))), some (.int (nI (dp))), some (.int (nI (b))), some (.int (nI (n))), some (.int (nI (c))), some (.int (nI (c + 1))), (o8), (o9), (o10), (o11), (o12), (o13), (o14), (o15), (o16), (o17), (o18), (o19), (o20)] [] M9
      have inner : ∀ mu2 i, R = i + mu2 → c < i → ∀ (o8 o9 o10 o11 o12 o13 o14 o15 o16 o17 o18 o19 o20 : Option Value) (Z9 : imat) (M9 : mheap) (vv : Nat) (D9 : List Int32) (T9 : Nat) (V9 : List Int32) (up9 low9 fi9 se9 : Int32) (X9 Y9 : Nat) (v9 : Value) (rc9 rs9 : Nat), T1I Z0 Z9 zd B m n c i → OC M9 o f w ca ra CA RA fi9 se9 → FC M9 f w vv pv V9 t up9 low9 P rk → RS M9 w D9 T9 v9 cm X9 Y9 rc9 rs9 → FXB cv V9 X9 Y9 X' Z' → nu ≤ T9 → T9 ≤ nu + LIM → (∀ i, i < nu → D9.getD i 0 = D.getD i 0) → (∀ i, i < b → V9.getD i 0 = V.getD i 0) → t ≤ V9.length → OF M M9 o → MZ D9 T9 V9 t b R n Z9 → jj G kRO_triangle (d + 10) Q rc9 rs9 30 [some (.ref o), some (.int (nI (b))), some (.int (nI (nu))), some (.int (nI (dp))), some (.int (nI (b))), some (.int (nI (n))), some (.int (nI (c))), some (.int (nI (i))), (o8), (o9), (o10), (o11), (o12), (o13), (o14), (o15), (o16), (o17), (o18), (o19), (o20)] [] M9 := by
        clear hI9 hO9 hC9 hS9 hX9 t9 u9 ho9 hv9 hl9 hG9 hz9
        intro mu2
        induction mu2 with
        | zero =>
          intro i hi hci o8 o9 o10 o11 o12 o13 o14 o15 o16 o17 o18 o19 o20 Z9 M9 vv D9 T9 V9 up9 low9 fi9 se9 X9 Y9 v9 rc9 rs9 hI9 hO9 hC9 hS9 hX9 t9 u9 ho9 hv9 hl9 hG9 hz9
          have e9 : R = i := by omega
          subst e9
          have hcap9 := hX9.cap
          refine jj_iload (pc := 30) kRO_triangle_d30 rfl ?_
          refine jj_aload_n (pc := 32) kRO_triangle_d32 rfl ?_
          refine jj_getf (pc := 33) kRO_triangle_d33 (kfRO_f hG) hO9.1 rfl ?_
          refine jj_iload (pc := 36) kRO_triangle_d36 rfl ?_
          refine jj_callV (pc := 38) (b := f) (As := [.int (nI (b))]) kRO_triangle_d38 (kvRO_RF_rows hG) (kG_cl hG rfl) rfl hC9.1 rfl rfl rfl (Nat.le_of_ble_eq_true rfl) (Nat.le_of_ble_eq_true rfl) (jj_bare0 rfl) ?_
          refine rf_rows hG hC9 (by omega) (by omega) ?_
          show jj G kRO_triangle (d + 10) Q rc9 rs9 41 [some (.ref o), some (.int (nI (b))), some (.int (nI (nu))), some (.int (nI (dp))), some (.int (nI (b))), some (.int (nI (n))), some (.int (nI (c))), some (.int (nI (R))), (o8), (o9), (o10), (o11), (o12), (o13), (o14), (o15), (o16), (o17), (o18), (o19), (o20)] [.int (V9.getD b 0), .int (nI (R))] M9
          refine jn_top (.int (nI (R))) (by rw [hz9.2.1]) ?_
          refine jn_icmp_ge (pc := 41) (tgt := 474) kRO_triangle_d41 (by decide) (by omega) (by omega) (fun _ => ?_) (fun c => by exfalso; omega)
          refine jn_iinc (pc := 474) (c + 1) kRO_triangle_d474 rfl (nI_1 _) ?_
          refine jj_goto (pc := 477) (tgt := 17) kRO_triangle_d477 (by decide) ?_
          show jj G kRO_triangle (d + 10) Q rc9 rs9 17 [some (.ref o), some (.int (nI (b))), some (.int (nI (nu))), some (.int (nI (dp))), some (.int (nI (b))), some (.int (nI (n))), some (.int (nI (c + 1))), some (.int (nI (R))), (o8), (o9), (o10), (o11), (o12), (o13), (o14), (o15), (o16), (o17), (o18), (o19), (o20)] [] M9
          exact ih (c + 1) (by omega) _ _ _ _ _ _ _ _ _ _ _ _ _ _ Z9 M9 vv D9 T9 V9 up9 low9 fi9 se9 X9 Y9 v9 rc9 rs9 ((show T1I Z0 Z9 zd B m n c (m + n) by rw [← hR]; exact hI9).next (by omega) hnm) hO9 hC9 hS9 hX9 t9 u9 ho9 hv9 hl9 hG9 hz9
        | succ mu2 ih2 =>
          intro i hi hci o8 o9 o10 o11 o12 o13 o14 o15 o16 o17 o18 o19 o20 Z9 M9 vv D9 T9 V9 up9 low9 fi9 se9 X9 Y9 v9 rc9 rs9 hI9 hO9 hC9 hS9 hX9 t9 u9 ho9 hv9 hl9 hG9 hz9
          have hcap9 := hX9.cap
          have hcap9D := hS9.2.1.cap
          have hTD9 := hS9.2.2.1
          have hz90 := hS9.2.2.2.1
          have hsz : ∀ i j, i < R → j < n → ZB sa (Z9 i j) := fun i j hi hj => ZB.of_le (hI9.2.2.2.2.2 i j (by omega) hj) hBs
          obtain ⟨iN, hin_⟩ : ∃ iN, i * n = iN := ⟨_, rfl⟩
          obtain ⟨cn, hcn_⟩ : ∃ cn, c * n = cn := ⟨_, rfl⟩
          obtain ⟨xi, hxi⟩ : ∃ xi, iN + c = xi := ⟨_, rfl⟩
          obtain ⟨xc, hxc⟩ : ∃ xc, cn + c = xc := ⟨_, rfl⟩
          have hxil : xi < R * n := by rw [← hxi, ← hin_]; exact cell_lt (by omega) (by omega)
          have hxcl : xc < R * n := by rw [← hxc, ← hcn_]; exact cell_lt (by omega) (by omega)
          obtain ⟨px, a1, -, a3⟩ := hz9.2.2.2 i c (by omega) (by omega)
          obtain ⟨pp, b1, -, b3⟩ := hz9.2.2.2 c c (by omega) (by omega)
          rw [hin_, hxi] at a1
          rw [hcn_, hxc] at b1
          have sx := hsz i c (by omega) (by omega)
          have sp := hsz c c (by omega) (by omega)
          have lpx := a3.lt
          have lpp := b3.lt
          have h19 := h1.congr t9 ho9
          have hd9 := hdp.congr t9 ho9
          have hza := hz9.1
          have k229 : ∀ (bz pg0 pu pw ppg pxg : Nat) (o16 o17 o18 o19 o20 : Option Value) (zu zv zpg zxg : Int) (one two : Nat → Int) (M8 : mheap) (D8 : List Int32) (T8 : Nat) (up8 low8 fi8 se8 : Int32) (v8 : Value) (rc8 rs8 : Nat), one = (fun k => zu * Z9 c k + zv * Z9 i k) → (bz = 1 ∧ two = (fun k => Z9 c k) ∨ bz = 0 ∧ two = (fun k => zpg * Z9 i k - zxg * Z9 c k)) → T1I Z0 (trow Z9 zd c i one two n) zd B m n c (i + 1) → ZB (sa + 1) zu → ZB (sa + 1) zv → ZB sa zpg → ZB sa zxg → RI D8 T8 pu zu → RI D8 T8 pw zv → RI D8 T8 ppg zpg → RI D8 T8 pxg zxg → OC M8 o f w ca ra CA RA fi8 se8 → FC M8 f w vv pv V9 (t) (up8) (low8) P (rk) → RS M8 w D8 T8 v8 cm X9 Y9 rc8 rs8 → T9 ≤ T8 → T8 ≤ nu + LIM + 30000 + 30 * sa + 200 → (∀ i, i < T9 → D8.getD i 0 = D9.getD i 0) → OF M M8 o → jj G kRO_triangle (d + 10) Q rc8 rs8 229 [some (.ref o), some (.int (nI (b))), some (.int (nI (nu))), some (.int (nI (dp))), some (.int (nI (b))), some (.int (nI (n))), some (.int (nI (c))), some (.int (nI (i))), some (.int (nI (px))), some (.int (nI (pp))), some (.int (nI (bz))), some (.int (nI (pg0))), some (.int (nI (pu))), some (.int (nI (pw))), some (.int (nI (ppg))), some (.int (nI (pxg))), (o16), (o17), (o18), (o19), (o20)] [] M8 := by
            intro bz pg0 pu pw ppg pxg o16 o17 o18 o19 o20 zu zv zpg zxg one two M8 D8 T8 up8 low8 fi8 se8 v8 rc8 rs8 h1o h2o hI8 bu bv bpg bxg r1 r2 r3 r4 hO8 hC8 hS8 t8 u8 ho8 hG8
            have hz8 := hz9.congr (D' := D8) (T' := T8) (V' := V9) (t' := t) t8 ho8 hza (fun _ _ _ => rfl)
            have ho80 : ∀ i, i < nu → D8.getD i 0 = D.getD i 0 := fun i hi => by rw [ho8 i (by omega), ho9 i hi]
            refine jj_iload (pc := 229) kRO_triangle_d229 rfl ?_
            refine jj_istore (pc := 231) kRO_triangle_d231 (Nat.le_of_ble_eq_true rfl) ?_
            show jj G kRO_triangle (d + 10) Q rc8 rs8 233 [some (.ref o), some (.int (nI (b))), some (.int (nI (nu))), some (.int (nI (dp))), some (.int (nI (b))), some (.int (nI (n))), some (.int (nI (c))), some (.int (nI (i))), some (.int (nI (px))), some (.int (nI (pp))), some (.int (nI (bz))), some (.int (nI (pg0))), some (.int (nI (pu))), some (.int (nI (pw))), some (.int (nI (ppg))), some (.int (nI (pxg))), some (.int (nI (c))), (o17), (o18), (o19), (o20)] [] M8
            refine ro_tri_row (sa := sa) (A1 := sa + 1) (CK := 18 * sa + 40) (R := R) hG hO8 hC8 hS8 (by omega) (by omega) hz8 (by omega) (by omega) (by omega) (by omega) (by omega) hci (hd9.congr t8 ho8) hd r1 r2 r3 r4 (ZB.of_le hdB hBs) bu bv bpg bxg rfl hsz h1o h2o rfl (by omega) (fun M7 D7 T7 V7 up7 low7 v7 rc7 rs7 o17 o18 o19 o20 hC7 hS7 t7 u7 ho7 hlen7 hv7 hF7 hz7 => ?_)
            rw [hnCK] at u7
            show jj G kRO_triangle (d + 10) Q rc7 rs7 422 [some (.ref o), some (.int (nI (b))), some (.int (nI (nu))), some (.int (nI (dp))), some (.int (nI (b))), some (.int (nI (n))), some (.int (nI (c))), some (.int (nI (i))), some (.int (nI (px))), some (.int (nI (pp))), some (.int (nI (bz))), some (.int (nI (pg0))), some (.int (nI (pu))), some (.int (nI (pw))), some (.int (nI (ppg))), some (.int (nI (pxg))), some (.int (nI (n))), (o17), (o18), (o19), (o20)] [] M7
            obtain ⟨hW101, hB101, hTD101, hz101, hp101⟩ := id hS7
            obtain ⟨dd101, hw101, hd101⟩ := id hW101
            have hcap101 := hB101.cap
            have ho70 : ∀ i, i < nu → D7.getD i 0 = D.getD i 0 := fun i hi => by rw [ho7 i (by omega), ho80 i hi]
            have hv70 : ∀ i, i < b → V7.getD i 0 = V.getD i 0 := fun i hi => by rw [hv7 i (Or.inl hi), hv9 i hi]
            have hsz7 : ∀ a b, a < R → b < n → ZB sa (trow Z9 zd c i one two n a b) := fun a b ha hb => ZB.of_le (hI8.2.2.2.2.2 a b (by omega) hb) hBs
            refine jj_aload_n (pc := 422) kRO_triangle_d422 rfl ?_
            refine jj_getf (pc := 423) kRO_triangle_d423 (kfRO_w hG) (hO8.ff hF7).1 rfl ?_
            refine jj_getf (pc := 426) kRO_triangle_d426 (kfRO_RW_top hG) hw101 rfl ?_
            refine jj_iload_n (pc := 429) kRO_triangle_d429 rfl ?_
            obtain ⟨dT, hdT⟩ : ∃ dT, T7 = dT + nu := ⟨T7 - nu, by omega⟩
            refine jn_isub (pc := 430) (dT) kRO_triangle_d430 (by omega) ?_
            refine jj_ldc (pc := 431) kRO_triangle_d431 (kcRO_100000 hG) ?_
            refine jn_top (.int (nI (100000))) (rfl) ?_
            refine jn_icmp_le (pc := 433) (tgt := 468) kRO_triangle_d433 (by decide) (by omega) (by omega) (fun c5 => ?_) (fun c5 => ?_)
            · skip
              refine jn_iinc (pc := 468) (i + 1) kRO_triangle_d468 rfl (nI_1 _) ?_
              refine jj_goto (pc := 471) (tgt := 30) kRO_triangle_d471 (by decide) ?_
              show jj G kRO_triangle (d + 10) Q rc7 rs7 30 [some (.ref o), some (.int (nI (b))), some (.int (nI (nu))), some (.int (nI (dp))), some (.int (nI (b))), some (.int (nI (n))), some (.int (nI (c))), some (.int (nI (i + 1))), some (.int (nI (px))), some (.int (nI (pp))), some (.int (nI (bz))), some (.int (nI (pg0))), some (.int (nI (pu))), some (.int (nI (pw))), some (.int (nI (ppg))), some (.int (nI (pxg))), some (.int (nI (n))), (o17), (o18), (o19), (o20)] [] M7
              exact ih2 (i + 1) (by omega) (by omega) _ _ _ _ _ _ _ _ _ _ _ _ _ (trow Z9 zd c i one two n) M7 vv D7 T7 V7 _ _ _ _ X9 Y9 _ rc7 rs7 hI8 (hO8.ff hF7) hC7 hS7 (hX9.same hlen7) (by omega) (by omega) ho70 hv70 (by omega) (hG8.trans (OF.ofFF hO8 hF7)) hz7
            · skip
              refine jj_aload_n (pc := 436) kRO_triangle_d436 rfl ?_
              refine jj_getf (pc := 437) kRO_triangle_d437 (kfRO_w hG) (hO8.ff hF7).1 rfl ?_
              refine jj_getf (pc := 440) kRO_triangle_d440 (kfRO_RW_top hG) hw101 rfl ?_
              refine jj_istore (pc := 443) kRO_triangle_d443 (Nat.le_of_ble_eq_true rfl) ?_
              refine jj_aload_n (pc := 445) kRO_triangle_d445 rfl ?_
              refine jj_getf (pc := 446) kRO_triangle_d446 (kfRO_f hG) (hO8.ff hF7).1 rfl ?_
              refine jj_iload_n (pc := 449) kRO_triangle_d449 rfl ?_
              refine jj_iload (pc := 450) kRO_triangle_d450 rfl ?_
              refine jj_iload (pc := 452) kRO_triangle_d452 rfl ?_
              refine jj_aload_n (pc := 454) kRO_triangle_d454 rfl ?_
              refine jj_getf (pc := 455) kRO_triangle_d455 (kfRO_f hG) (hO8.ff hF7).1 rfl ?_
              refine jj_iload (pc := 458) kRO_triangle_d458 rfl ?_
              have hX7 := hX9.same hlen7
              have hcap7 := hX7.cap
              have hm7 := hz7.toMX (h1.congr (by omega) ho70)
              refine jj_callV (pc := 460) (b := f) (As := [.int (nI (b))]) kRO_triangle_d460 (kvRO_RF_copy hG) (kG_cl hG rfl) rfl hC7.1 rfl rfl rfl (Nat.le_of_ble_eq_true rfl) (Nat.le_of_ble_eq_true rfl) (jj_bare0 rfl) ?_
              refine rf_copy (lo := 0) (s := sa) (S := 2 * sa + 2) hG hC7 hS7 hX7 (by omega) (h1.congr (by omega) ho70) (by omega) hm7 (by omega) (by omega) rfl (fun k hk => by
                  obtain ⟨k1, k2, k3⟩ := at_back hk
                  exact ⟨hsz7 _ _ k1 k2, ZB.of_le (show ((((trow Z9 zd c i one two n (k / n) (k % n) : Int) : Rat).den : Nat) : Int).natAbs ≤ 1 from Nat.le_refl _) h1s⟩) (by omega) (by omega) (fun M6 vv D6 T6 V6 up6 low6 X6 Z6 v6 rc6 rs6 hC6 hS6 hX6 t6 u6 ho6 hv6 hl6 hF6 hm6 => ?_)
              show jj G kRO_triangle (d + 10) Q rc6 rs6 463 [some (.ref o), some (.int (nI (b))), some (.int (nI (nu))), some (.int (nI (dp))), some (.int (nI (b))), some (.int (nI (n))), some (.int (nI (c))), some (.int (nI (i))), some (.int (nI (px))), some (.int (nI (pp))), some (.int (nI (bz))), some (.int (nI (pg0))), some (.int (nI (pu))), some (.int (nI (pw))), some (.int (nI (ppg))), some (.int (nI (pxg))), some (.int (nI (T7))), (o17), (o18), (o19), (o20)] [.int (nI (t)), .int (nI (T7)), .int (nI (b)), .int (nI (nu)), .ref f] M6
              have hF76 := hF7.trans hF6
              have hcap6 := hX6.cap
              obtain ⟨t6x, ht6x⟩ : ∃ t6x, t + 2 + 2 * (R * n) = t6x := ⟨_, rfl⟩
              rw [ht6x] at hC6 hl6 hm6
              rw [hRS2] at u6
              refine jj_callV (pc := 463) (b := f) (As := [.int (nI (nu)), .int (nI (b)), .int (nI (T7)), .int (nI (t))]) kRO_triangle_d463 (kvRO_RF_slide hG) (kG_cl hG rfl) rfl hC6.1 rfl rfl rfl (Nat.le_of_ble_eq_true rfl) (Nat.le_of_ble_eq_true rfl) (jj_bare0 rfl) ?_
              refine rf_slide (nu := nu) (he := b) (fr := T7) (a := t) hG hC6 hS6 (by omega) (by omega) hm6 (h1.congr (Nat.le_refl _) (fun i hi => by rw [ho6 i (by omega), ho70 i hi])) hnu (by omega) t6 (by omega) (by omega) (by omega) (by omega) (fun M5 D5 T5 V5 hC5 hS5 t5 ho5 hl5 hv5 hF5 hm5 => ?_)
              show jj G kRO_triangle (d + 10) Q rc6 rs6 466 [some (.ref o), some (.int (nI (b))), some (.int (nI (nu))), some (.int (nI (dp))), some (.int (nI (b))), some (.int (nI (n))), some (.int (nI (c))), some (.int (nI (i))), some (.int (nI (px))), some (.int (nI (pp))), some (.int (nI (bz))), some (.int (nI (pg0))), some (.int (nI (pu))), some (.int (nI (pw))), some (.int (nI (ppg))), some (.int (nI (pxg))), some (.int (nI (T7))), (o17), (o18), (o19), (o20)] [.int (nI (b))] M5
              have hF75 := hF76.trans hF5
              rw [← ht0] at hC5 hm5
              have hz5 := MZ.ofMX (Z := trow Z9 zd c i one two n) hm5 (fun i hi j hj => by rw [(at_div hj).1, (at_div hj).2])
              refine jj_istore (pc := 466) kRO_triangle_d466 (Nat.le_of_ble_eq_true rfl) ?_
              refine jn_iinc (pc := 468) (i + 1) kRO_triangle_d468 rfl (nI_1 _) ?_
              refine jj_goto (pc := 471) (tgt := 30) kRO_triangle_d471 (by decide) ?_
              show jj G kRO_triangle (d + 10) Q rc6 rs6 30 [some (.ref o), some (.int (nI (b))), some (.int (nI (nu))), some (.int (nI (dp))), some (.int (nI (b))), some (.int (nI (n))), some (.int (nI (c))), some (.int (nI (i + 1))), some (.int (nI (px))), some (.int (nI (pp))), some (.int (nI (bz))), some (.int (nI (pg0))), some (.int (nI (pu))), some (.int (nI (pw))), some (.int (nI (ppg))), some (.int (nI (pxg))), some (.int (nI (T7))), (o17), (o18), (o19), (o20)] [] M5
              exact ih2 (i + 1) (by omega) (by omega) _ _ _ _ _ _ _ _ _ _ _ _ _ (trow Z9 zd c i one two n) M5 vv D5 T5 V5 _ _ _ _ X6 Z6 _ rc6 rs6 hI8 (hO8.ff hF75) hC5 hS5 (hX6.same hl5) (by omega) (by omega) (fun i hi => by rw [ho5 i hi, ho6 i (by omega), ho70 i hi]) (fun i hi => by rw [hv5 i hi, hv6 i (by omega), hv70 i hi]) (by omega) (hG8.trans (OF.ofFF hO8 hF75)) hz5
          refine jj_iload (pc := 30) kRO_triangle_d30 rfl ?_
          refine jj_aload_n (pc := 32) kRO_triangle_d32 rfl ?_
          refine jj_getf (pc := 33) kRO_triangle_d33 (kfRO_f hG) hO9.1 rfl ?_
          refine jj_iload (pc := 36) kRO_triangle_d36 rfl ?_
          refine jj_callV (pc := 38) (b := f) (As := [.int (nI (b))]) kRO_triangle_d38 (kvRO_RF_rows hG) (kG_cl hG rfl) rfl hC9.1 rfl rfl rfl (Nat.le_of_ble_eq_true rfl) (Nat.le_of_ble_eq_true rfl) (jj_bare0 rfl) ?_
          refine rf_rows hG hC9 (by omega) (by omega) ?_
          show jj G kRO_triangle (d + 10) Q rc9 rs9 41 [some (.ref o), some (.int (nI (b))), some (.int (nI (nu))), some (.int (nI (dp))), some (.int (nI (b))), some (.int (nI (n))), some (.int (nI (c))), some (.int (nI (i))), (o8), (o9), (o10), (o11), (o12), (o13), (o14), (o15), (o16), (o17), (o18), (o19), (o20)] [.int (V9.getD b 0), .int (nI (i))] M9
          refine jn_top (.int (nI (R))) (by rw [hz9.2.1]) ?_
          refine jn_icmp_ge (pc := 41) (tgt := 474) kRO_triangle_d41 (by decide) (by omega) (by omega) (fun c => by exfalso; omega) (fun _ => ?_)
          refine jj_aload_n (pc := 44) kRO_triangle_d44 rfl ?_
          refine jj_getf (pc := 45) kRO_triangle_d45 (kfRO_f hG) hO9.1 rfl ?_
          refine jj_iload (pc := 48) kRO_triangle_d48 rfl ?_
          refine jj_iload (pc := 50) kRO_triangle_d50 rfl ?_
          refine jj_iload (pc := 52) kRO_triangle_d52 rfl ?_
          refine jn_imul (pc := 54) (iN) kRO_triangle_d54 hin_ ?_
          refine jj_iload (pc := 55) kRO_triangle_d55 rfl ?_
          refine jn_iadd (pc := 57) (xi) kRO_triangle_d57 hxi ?_
          refine jj_callV (pc := 58) (b := f) (As := [.int (nI (b)), .int (nI (xi))]) kRO_triangle_d58 (kvRO_RF_upper hG) (kG_cl hG rfl) rfl hC9.1 rfl rfl rfl (Nat.le_of_ble_eq_true rfl) (Nat.le_of_ble_eq_true rfl) (jj_bare0 rfl) ?_
          refine rf_upper hG hC9 (by omega) (by omega) ?_
          show jj G kRO_triangle (d + 10) Q rc9 rs9 61 [some (.ref o), some (.int (nI (b))), some (.int (nI (nu))), some (.int (nI (dp))), some (.int (nI (b))), some (.int (nI (n))), some (.int (nI (c))), some (.int (nI (i))), (o8), (o9), (o10), (o11), (o12), (o13), (o14), (o15), (o16), (o17), (o18), (o19), (o20)] [.int (V9.getD (b + 2 + 2 * xi) 0)] M9
          refine jn_top (.int (nI (px))) (by rw [a1]) ?_
          refine jj_istore (pc := 61) kRO_triangle_d61 (Nat.le_of_ble_eq_true rfl) ?_
          refine jj_aload_n (pc := 63) kRO_triangle_d63 rfl ?_
          refine jj_getf (pc := 64) kRO_triangle_d64 (kfRO_f hG) hO9.1 rfl ?_
          refine jj_iload (pc := 67) kRO_triangle_d67 rfl ?_
          refine jj_iload (pc := 69) kRO_triangle_d69 rfl ?_
          refine jj_iload (pc := 71) kRO_triangle_d71 rfl ?_
          refine jn_imul (pc := 73) (cn) kRO_triangle_d73 hcn_ ?_
          refine jj_iload (pc := 74) kRO_triangle_d74 rfl ?_
          refine jn_iadd (pc := 76) (xc) kRO_triangle_d76 hxc ?_
          refine jj_callV (pc := 77) (b := f) (As := [.int (nI (b)), .int (nI (xc))]) kRO_triangle_d77 (kvRO_RF_upper hG) (kG_cl hG rfl) rfl hC9.1 rfl rfl rfl (Nat.le_of_ble_eq_true rfl) (Nat.le_of_ble_eq_true rfl) (jj_bare0 rfl) ?_
          refine rf_upper hG hC9 (by omega) (by omega) ?_
          show jj G kRO_triangle (d + 10) Q rc9 rs9 80 [some (.ref o), some (.int (nI (b))), some (.int (nI (nu))), some (.int (nI (dp))), some (.int (nI (b))), some (.int (nI (n))), some (.int (nI (c))), some (.int (nI (i))), some (.int (nI (px))), (o9), (o10), (o11), (o12), (o13), (o14), (o15), (o16), (o17), (o18), (o19), (o20)] [.int (V9.getD (b + 2 + 2 * xc) 0)] M9
          refine jn_top (.int (nI (pp))) (by rw [b1]) ?_
          refine jj_istore (pc := 80) kRO_triangle_d80 (Nat.le_of_ble_eq_true rfl) ?_
          refine jj_iload (pc := 82) kRO_triangle_d82 rfl ?_
          refine jn_if_ne (pc := 84) (tgt := 90) kRO_triangle_d84 (by decide) (by omega) (fun c0 => ?_) (fun c0 => ?_)
          · skip
            have hx0 : Z9 i c ≠ 0 := fun e => by rw [e] at a3; have := RI.p0 a3; omega
            refine jj_iload (pc := 90) kRO_triangle_d90 rfl ?_
            refine jn_if_ne (pc := 92) (tgt := 99) kRO_triangle_d92 (by decide) (by omega) (fun c1 => ?_) (fun c1 => ?_)
            · skip
              have hp0 : Z9 c c ≠ 0 := fun e => by rw [e] at b3; have := RI.p0 b3; omega
              clear ih2
              obtain ⟨hW102, hB102, hTD102, hz102, hp102⟩ := id hS9
              obtain ⟨dd102, hw102, hd102⟩ := id hW102
              have hcap102 := hB102.cap
              refine jn_iconst (pc := 99) 0 kRO_triangle_d99 (by decide) ?_
              refine jj_istore (pc := 100) kRO_triangle_d100 (Nat.le_of_ble_eq_true rfl) ?_
              show jj G kRO_triangle (d + 10) Q rc9 rs9 102 [some (.ref o), some (.int (nI (b))), some (.int (nI (nu))), some (.int (nI (dp))), some (.int (nI (b))), some (.int (nI (n))), some (.int (nI (c))), some (.int (nI (i))), some (.int (nI (px))), some (.int (nI (pp))), some (.int (nI (0))), (o11), (o12), (o13), (o14), (o15), (o16), (o17), (o18), (o19), (o20)] [] M9
              refine jj_iload (pc := 102) kRO_triangle_d102 rfl ?_
              refine jn_if_eq (pc := 104) (tgt := 112) kRO_triangle_d104 (by decide) (by omega) (fun _ => ?_) (fun c => by exfalso; omega)
              refine jj_aload_n (pc := 112) kRO_triangle_d112 rfl ?_
              refine jj_iload (pc := 113) kRO_triangle_d113 rfl ?_
              refine jj_aload_n (pc := 115) kRO_triangle_d115 rfl ?_
              refine jj_getf (pc := 116) kRO_triangle_d116 (kfRO_w hG) hO9.1 rfl ?_
              refine jj_iload (pc := 119) kRO_triangle_d119 rfl ?_
              refine jj_callV (pc := 121) (b := w) (As := [.int (nI (px))]) kRO_triangle_d121 (kvRO_RW_size hG) (kG_cl hG rfl) rfl hw102 rfl rfl rfl (Nat.le_of_ble_eq_true rfl) (Nat.le_of_ble_eq_true rfl) (jj_bare0 rfl) ?_
              refine ri_size (a := sa) hG hS9 a3 sx (by omega) (fun M103 D103 T103 p103 rc103 rs103 hS103 t103 u103 ho103 hf103 hI103 => ?_)
              show jj G kRO_triangle (d + 10) Q rc103 rs103 124 [some (.ref o), some (.int (nI (b))), some (.int (nI (nu))), some (.int (nI (dp))), some (.int (nI (b))), some (.int (nI (n))), some (.int (nI (c))), some (.int (nI (i))), some (.int (nI (px))), some (.int (nI (pp))), some (.int (nI (0))), (o11), (o12), (o13), (o14), (o15), (o16), (o17), (o18), (o19), (o20)] [.int (nI (p103)), .int (nI (pp)), .ref o] M103
              have hC103 := hC9.rf hf103
              have hF103 := (FF.refl M9 f).trans (FF.ofRF hC9 hf103)
              have a3_103 := a3.congr t103 ho103
              have b3_103 := b3.congr t103 ho103
              obtain ⟨hW104, hB104, hTD104, hz104, hp104⟩ := id hS103
              obtain ⟨dd104, hw104, hd104⟩ := id hW104
              have hcap104 := hB104.cap
              have hxa : 0 < ((Z9 i c).natAbs : Int) := by omega
              have sxa : ZB sa ((Z9 i c).natAbs : Int) := sx.le (by omega)
              refine jj_callV (pc := 124) (b := o) (As := [.int (nI (pp)), .int (nI (p103))]) kRO_triangle_d124 (kvRO_RO_common hG) (kG_cl hG rfl) rfl (hO9.ff hF103).1 rfl rfl rfl (Nat.le_of_ble_eq_true rfl) (Nat.le_of_ble_eq_true rfl) (jj_bare0 rfl) ?_
              refine ro_common (a := sa) (A1 := sa + 1) hG (hO9.ff hF103) hC103 hS103 (h19.congr t103 ho103) (by omega) b3_103 hI103 hxa sp sxa rfl (by omega) (by omega) (fun M2 D2 T2 pg2 pu2 pv2 v2_ rc2 rs2 zu zv hO2 hC2 hS2 t2 u2 ho2 hG2 rg ru rv hsum bzu bzv => ?_)
              show jj G kRO_triangle (d + 10) Q rc2 rs2 127 [some (.ref o), some (.int (nI (b))), some (.int (nI (nu))), some (.int (nI (dp))), some (.int (nI (b))), some (.int (nI (n))), some (.int (nI (c))), some (.int (nI (i))), some (.int (nI (px))), some (.int (nI (pp))), some (.int (nI (0))), (o11), (o12), (o13), (o14), (o15), (o16), (o17), (o18), (o19), (o20)] [.int (nI (pg2))] M2
              have hG2' := (hG9.trans (OF.ofFF hO9 hF103)).trans hG2
              have x2 := a3_103.congr t2 ho2
              have p2 := b3_103.congr t2 ho2
              obtain ⟨zg, hzg⟩ : ∃ zg, (Int.gcd (Z9 c c) ((Z9 i c).natAbs : Int) : Int) = zg := ⟨_, rfl⟩
              have hg0 : 0 < zg := by rw [← hzg]; have := Int.gcd_pos_of_ne_zero_left (a := Z9 c c) ((Z9 i c).natAbs : Int) hp0; omega
              have hgp : zg ∣ Z9 c c := by rw [← hzg]; exact Int.gcd_dvd_left _ _
              have hgx : zg ∣ Z9 i c := by rw [← hzg]; exact Int.dvd_natAbs.mp (Int.gcd_dvd_right _ _)
              rw [hzg] at rg hsum
              have bg : ZB sa zg := sx.dvd hgx hx0
              have bpg : ZB sa (Z9 c c / zg) := sp.ediv hg0
              have bxg : ZB sa (Z9 i c / zg) := sx.ediv hg0
              obtain ⟨vw, hvw⟩ : ∃ vw, (if Z9 i c < 0 then -zv else zv) = vw := ⟨_, rfl⟩
              have hgl : zg = zu * Z9 c c + vw * Z9 i c := by rw [← hvw, sgn_abs, ← hsum]
              have bvw : ZB (sa + 1) vw := by rw [← hvw]; split; exact bzv.neg; exact bzv
              have hpiv := hI9.pivot (by omega) hci (by omega) hnm hd hdB hx0 hg0 (Int.ediv_mul_cancel hgp) (Int.ediv_mul_cancel hgx) hgl
              have lx2 := x2.lt
              obtain ⟨hW105, hB105, hTD105, hz105, hp105⟩ := id hS2
              obtain ⟨dd105, hw105, hd105⟩ := id hW105
              have hcap105 := hB105.cap
              refine jj_istore (pc := 127) kRO_triangle_d127 (Nat.le_of_ble_eq_true rfl) ?_
              refine jj_iload (pc := 129) kRO_triangle_d129 rfl ?_
              refine jn_if_eq (pc := 131) (tgt := 138) kRO_triangle_d131 (by decide) (by omega) (fun _ => ?_) (fun c => by exfalso; omega)
              refine jj_aload_n (pc := 138) kRO_triangle_d138 rfl ?_
              refine jj_getf (pc := 139) kRO_triangle_d139 (kfRO_first hG) hO2.1 rfl ?_
              refine jj_istore (pc := 142) kRO_triangle_d142 (Nat.le_of_ble_eq_true rfl) ?_
              show jj G kRO_triangle (d + 10) Q rc2 rs2 144 [some (.ref o), some (.int (nI (b))), some (.int (nI (nu))), some (.int (nI (dp))), some (.int (nI (b))), some (.int (nI (n))), some (.int (nI (c))), some (.int (nI (i))), some (.int (nI (px))), some (.int (nI (pp))), some (.int (nI (0))), some (.int (nI (pg2))), some (.int (nI (pu2))), (o13), (o14), (o15), (o16), (o17), (o18), (o19), (o20)] [] M2
              refine jj_iload (pc := 144) kRO_triangle_d144 rfl ?_
              refine jn_if_eq (pc := 146) (tgt := 153) kRO_triangle_d146 (by decide) (by omega) (fun _ => ?_) (fun c => by exfalso; omega)
              refine jj_aload_n (pc := 153) kRO_triangle_d153 rfl ?_
              refine jj_getf (pc := 154) kRO_triangle_d154 (kfRO_w hG) hO2.1 rfl ?_
              refine jj_iload (pc := 157) kRO_triangle_d157 rfl ?_
              refine jj_callV (pc := 159) (b := w) (As := [.int (nI (px))]) kRO_triangle_d159 (kvRO_RW_sign hG) (kG_cl hG rfl) rfl hw105 rfl rfl rfl (Nat.le_of_ble_eq_true rfl) (Nat.le_of_ble_eq_true rfl) (jj_bare0 rfl) ?_
              refine rw_sign hG hw105 hd105 (by omega) (by omega) ?_
              show jj G kRO_triangle (d + 10) Q rc2 rs2 162 [some (.ref o), some (.int (nI (b))), some (.int (nI (nu))), some (.int (nI (dp))), some (.int (nI (b))), some (.int (nI (n))), some (.int (nI (c))), some (.int (nI (i))), some (.int (nI (px))), some (.int (nI (pp))), some (.int (nI (0))), some (.int (nI (pg2))), some (.int (nI (pu2))), (o13), (o14), (o15), (o16), (o17), (o18), (o19), (o20)] [.int (osg (D2.getD px 0))] M2
              have hos := osg_val x2 (by omega)
              refine jn_top (.int (cmpZ (Z9 i c) 0)) (by rw [hos]) ?_
              refine jj_if_ge (pc := 162) (tgt := 179) kRO_triangle_d162 (by decide) (fun c2 => ?_) (fun c2 => ?_)
              · skip
                have hxn : ¬ Z9 i c < 0 := fun h => absurd c2 (by unfold cmpZ; rw [if_neg (by omega), if_neg (by omega)]; decide)
                refine jj_aload_n (pc := 179) kRO_triangle_d179 rfl ?_
                refine jj_getf (pc := 180) kRO_triangle_d180 (kfRO_second hG) hO2.1 rfl ?_
                refine jj_istore (pc := 183) kRO_triangle_d183 (Nat.le_of_ble_eq_true rfl) ?_
                refine jj_iload (pc := 185) kRO_triangle_d185 rfl ?_
                refine jn_if_eq (pc := 187) (tgt := 194) kRO_triangle_d187 (by decide) (by omega) (fun _ => ?_) (fun c => by exfalso; omega)
                refine jj_aload_n (pc := 194) kRO_triangle_d194 rfl ?_
                refine jj_getf (pc := 195) kRO_triangle_d195 (kfRO_w hG) hO2.1 rfl ?_
                refine jj_iload (pc := 198) kRO_triangle_d198 rfl ?_
                refine jj_iload (pc := 200) kRO_triangle_d200 rfl ?_
                refine jj_callV (pc := 202) (b := w) (As := [.int (nI (pp)), .int (nI (pg2))]) kRO_triangle_d202 (kvRO_RW_divide hG) (kG_cl hG rfl) rfl hw105 rfl rfl rfl (Nat.le_of_ble_eq_true rfl) (Nat.le_of_ble_eq_true rfl) (jj_bare0 rfl) ?_
                refine ri_divide (a := sa) (b := sa) hG hS2 p2 rg hg0 sp bg (by omega) (fun M106 D106 T106 p106 s106 rc106 rs106 hS106 t106 u106 ho106 hf106 hI106 hJ106 => ?_)
                show jj G kRO_triangle (d + 10) Q rc106 rs106 205 [some (.ref o), some (.int (nI (b))), some (.int (nI (nu))), some (.int (nI (dp))), some (.int (nI (b))), some (.int (nI (n))), some (.int (nI (c))), some (.int (nI (i))), some (.int (nI (px))), some (.int (nI (pp))), some (.int (nI (0))), some (.int (nI (pg2))), some (.int (nI (pu2))), some (.int (nI (pv2))), (o14), (o15), (o16), (o17), (o18), (o19), (o20)] [.int (nI (p106))] M106
                have hC106 := hC2.rf hf106
                have hF106 := (FF.refl M2 f).trans (FF.ofRF hC2 hf106)
                have x2_106 := x2.congr t106.1 ho106
                have p2_106 := p2.congr t106.1 ho106
                have rg_106 := rg.congr t106.1 ho106
                have ru_106 := ru.congr t106.1 ho106
                have rv_106 := rv.congr t106.1 ho106
                obtain ⟨hW107, hB107, hTD107, hz107, hp107⟩ := id hS106
                obtain ⟨dd107, hw107, hd107⟩ := id hW107
                have hcap107 := hB107.cap
                refine jj_istore (pc := 205) kRO_triangle_d205 (Nat.le_of_ble_eq_true rfl) ?_
                refine jj_iload (pc := 207) kRO_triangle_d207 rfl ?_
                refine jn_if_eq (pc := 209) (tgt := 216) kRO_triangle_d209 (by decide) (by omega) (fun _ => ?_) (fun c => by exfalso; omega)
                refine jj_aload_n (pc := 216) kRO_triangle_d216 rfl ?_
                refine jj_getf (pc := 217) kRO_triangle_d217 (kfRO_w hG) (hO2.ff hF106).1 rfl ?_
                refine jj_iload (pc := 220) kRO_triangle_d220 rfl ?_
                refine jj_iload (pc := 222) kRO_triangle_d222 rfl ?_
                refine jj_callV (pc := 224) (b := w) (As := [.int (nI (px)), .int (nI (pg2))]) kRO_triangle_d224 (kvRO_RW_divide hG) (kG_cl hG rfl) rfl hw107 rfl rfl rfl (Nat.le_of_ble_eq_true rfl) (Nat.le_of_ble_eq_true rfl) (jj_bare0 rfl) ?_
                refine ri_divide (a := sa) (b := sa) hG hS106 x2_106 rg_106 hg0 sx bg (by omega) (fun M108 D108 T108 p108 s108 rc108 rs108 hS108 t108 u108 ho108 hf108 hI108 hJ108 => ?_)
                show jj G kRO_triangle (d + 10) Q rc108 rs108 227 [some (.ref o), some (.int (nI (b))), some (.int (nI (nu))), some (.int (nI (dp))), some (.int (nI (b))), some (.int (nI (n))), some (.int (nI (c))), some (.int (nI (i))), some (.int (nI (px))), some (.int (nI (pp))), some (.int (nI (0))), some (.int (nI (pg2))), some (.int (nI (pu2))), some (.int (nI (pv2))), some (.int (nI (p106))), (o15), (o16), (o17), (o18), (o19), (o20)] [.int (nI (p108))] M108
                have hC108 := hC106.rf hf108
                have hF108 := hF106.trans (FF.ofRF hC106 hf108)
                have x2_108 := x2_106.congr t108.1 ho108
                have p2_108 := p2_106.congr t108.1 ho108
                have rg_108 := rg_106.congr t108.1 ho108
                have ru_108 := ru_106.congr t108.1 ho108
                have rv_108 := rv_106.congr t108.1 ho108
                have hI106_108 := hI106.congr t108.1 ho108
                have hJ106_108 := hJ106.congr t108.1 ho108
                obtain ⟨hW109, hB109, hTD109, hz109, hp109⟩ := id hS108
                obtain ⟨dd109, hw109, hd109⟩ := id hW109
                have hcap109 := hB109.cap
                refine jj_istore (pc := 227) kRO_triangle_d227 (Nat.le_of_ble_eq_true rfl) ?_
                show jj G kRO_triangle (d + 10) Q rc108 rs108 229 [some (.ref o), some (.int (nI (b))), some (.int (nI (nu))), some (.int (nI (dp))), some (.int (nI (b))), some (.int (nI (n))), some (.int (nI (c))), some (.int (nI (i))), some (.int (nI (px))), some (.int (nI (pp))), some (.int (nI (0))), some (.int (nI (pg2))), some (.int (nI (pu2))), some (.int (nI (pv2))), some (.int (nI (p106))), some (.int (nI (p108))), (o16), (o17), (o18), (o19), (o20)] [] M108
                exact k229 0 _ _ _ _ _ _ _ _ _ _ zu vw (Z9 c c / zg) (Z9 i c / zg) _ _ M108 D108 T108 _ _ _ _ _ rc108 rs108 rfl (Or.inr ⟨rfl, rfl⟩) hpiv bzu bvw bpg bxg ru_108 (by rw [← hvw, if_neg hxn]; exact rv_108) hI106_108 hI108 (hO2.ff hF108) hC108 hS108 (by omega) (by omega) (fun i hi => by rw [ho108 i (by omega), ho106 i (by omega), ho2 i (by omega), ho103 i (by omega)]) (hG2'.trans (OF.ofFF hO2 hF108))
              · skip
                have hxn : Z9 i c < 0 := by
                  rcases (show Z9 i c < 0 ∨ 0 < Z9 i c by omega) with h | h
                  · exact h
                  · exact absurd (show (0 : Int32) ≤ cmpZ (Z9 i c) 0 by unfold cmpZ; rw [if_neg (by omega), if_pos (by omega)]; decide) c2
                refine jj_aload_n (pc := 165) kRO_triangle_d165 rfl ?_
                refine jj_getf (pc := 166) kRO_triangle_d166 (kfRO_w hG) hO2.1 rfl ?_
                refine jj_aload_n (pc := 169) kRO_triangle_d169 rfl ?_
                refine jj_getf (pc := 170) kRO_triangle_d170 (kfRO_second hG) hO2.1 rfl ?_
                refine jj_callV (pc := 173) (b := w) (As := [.int (nI (pv2))]) kRO_triangle_d173 (kvRO_RW_negative hG) (kG_cl hG rfl) rfl hw105 rfl rfl rfl (Nat.le_of_ble_eq_true rfl) (Nat.le_of_ble_eq_true rfl) (jj_bare0 rfl) ?_
                refine ri_negative (a := sa + 1) hG hS2 rv bzv (by omega) (fun M110 D110 T110 p110 rc110 rs110 hS110 t110 u110 ho110 hf110 hI110 => ?_)
                show jj G kRO_triangle (d + 10) Q rc110 rs110 176 [some (.ref o), some (.int (nI (b))), some (.int (nI (nu))), some (.int (nI (dp))), some (.int (nI (b))), some (.int (nI (n))), some (.int (nI (c))), some (.int (nI (i))), some (.int (nI (px))), some (.int (nI (pp))), some (.int (nI (0))), some (.int (nI (pg2))), some (.int (nI (pu2))), (o13), (o14), (o15), (o16), (o17), (o18), (o19), (o20)] [.int (nI (p110))] M110
                have hC110 := hC2.rf hf110
                have hF110 := (FF.refl M2 f).trans (FF.ofRF hC2 hf110)
                have x2_110 := x2.congr t110.1 ho110
                have p2_110 := p2.congr t110.1 ho110
                have rg_110 := rg.congr t110.1 ho110
                have ru_110 := ru.congr t110.1 ho110
                have rv_110 := rv.congr t110.1 ho110
                obtain ⟨hW111, hB111, hTD111, hz111, hp111⟩ := id hS110
                obtain ⟨dd111, hw111, hd111⟩ := id hW111
                have hcap111 := hB111.cap
                refine jj_goto (pc := 176) (tgt := 183) kRO_triangle_d176 (by decide) ?_
                refine jj_istore (pc := 183) kRO_triangle_d183 (Nat.le_of_ble_eq_true rfl) ?_
                refine jj_iload (pc := 185) kRO_triangle_d185 rfl ?_
                refine jn_if_eq (pc := 187) (tgt := 194) kRO_triangle_d187 (by decide) (by omega) (fun _ => ?_) (fun c => by exfalso; omega)
                refine jj_aload_n (pc := 194) kRO_triangle_d194 rfl ?_
                refine jj_getf (pc := 195) kRO_triangle_d195 (kfRO_w hG) (hO2.ff hF110).1 rfl ?_
                refine jj_iload (pc := 198) kRO_triangle_d198 rfl ?_
                refine jj_iload (pc := 200) kRO_triangle_d200 rfl ?_
                refine jj_callV (pc := 202) (b := w) (As := [.int (nI (pp)), .int (nI (pg2))]) kRO_triangle_d202 (kvRO_RW_divide hG) (kG_cl hG rfl) rfl hw111 rfl rfl rfl (Nat.le_of_ble_eq_true rfl) (Nat.le_of_ble_eq_true rfl) (jj_bare0 rfl) ?_
                refine ri_divide (a := sa) (b := sa) hG hS110 p2_110 rg_110 hg0 sp bg (by omega) (fun M112 D112 T112 p112 s112 rc112 rs112 hS112 t112 u112 ho112 hf112 hI112 hJ112 => ?_)
                show jj G kRO_triangle (d + 10) Q rc112 rs112 205 [some (.ref o), some (.int (nI (b))), some (.int (nI (nu))), some (.int (nI (dp))), some (.int (nI (b))), some (.int (nI (n))), some (.int (nI (c))), some (.int (nI (i))), some (.int (nI (px))), some (.int (nI (pp))), some (.int (nI (0))), some (.int (nI (pg2))), some (.int (nI (pu2))), some (.int (nI (p110))), (o14), (o15), (o16), (o17), (o18), (o19), (o20)] [.int (nI (p112))] M112
                have hC112 := hC110.rf hf112
                have hF112 := hF110.trans (FF.ofRF hC110 hf112)
                have x2_112 := x2_110.congr t112.1 ho112
                have p2_112 := p2_110.congr t112.1 ho112
                have rg_112 := rg_110.congr t112.1 ho112
                have ru_112 := ru_110.congr t112.1 ho112
                have rv_112 := rv_110.congr t112.1 ho112
                have hI110_112 := hI110.congr t112.1 ho112
                obtain ⟨hW113, hB113, hTD113, hz113, hp113⟩ := id hS112
                obtain ⟨dd113, hw113, hd113⟩ := id hW113
                have hcap113 := hB113.cap
                refine jj_istore (pc := 205) kRO_triangle_d205 (Nat.le_of_ble_eq_true rfl) ?_
                refine jj_iload (pc := 207) kRO_triangle_d207 rfl ?_
                refine jn_if_eq (pc := 209) (tgt := 216) kRO_triangle_d209 (by decide) (by omega) (fun _ => ?_) (fun c => by exfalso; omega)
                refine jj_aload_n (pc := 216) kRO_triangle_d216 rfl ?_
                refine jj_getf (pc := 217) kRO_triangle_d217 (kfRO_w hG) (hO2.ff hF112).1 rfl ?_
                refine jj_iload (pc := 220) kRO_triangle_d220 rfl ?_
                refine jj_iload (pc := 222) kRO_triangle_d222 rfl ?_
                refine jj_callV (pc := 224) (b := w) (As := [.int (nI (px)), .int (nI (pg2))]) kRO_triangle_d224 (kvRO_RW_divide hG) (kG_cl hG rfl) rfl hw113 rfl rfl rfl (Nat.le_of_ble_eq_true rfl) (Nat.le_of_ble_eq_true rfl) (jj_bare0 rfl) ?_
                refine ri_divide (a := sa) (b := sa) hG hS112 x2_112 rg_112 hg0 sx bg (by omega) (fun M114 D114 T114 p114 s114 rc114 rs114 hS114 t114 u114 ho114 hf114 hI114 hJ114 => ?_)
                show jj G kRO_triangle (d + 10) Q rc114 rs114 227 [some (.ref o), some (.int (nI (b))), some (.int (nI (nu))), some (.int (nI (dp))), some (.int (nI (b))), some (.int (nI (n))), some (.int (nI (c))), some (.int (nI (i))), some (.int (nI (px))), some (.int (nI (pp))), some (.int (nI (0))), some (.int (nI (pg2))), some (.int (nI (pu2))), some (.int (nI (p110))), some (.int (nI (p112))), (o15), (o16), (o17), (o18), (o19), (o20)] [.int (nI (p114))] M114
                have hC114 := hC112.rf hf114
                have hF114 := hF112.trans (FF.ofRF hC112 hf114)
                have x2_114 := x2_112.congr t114.1 ho114
                have p2_114 := p2_112.congr t114.1 ho114
                have rg_114 := rg_112.congr t114.1 ho114
                have ru_114 := ru_112.congr t114.1 ho114
                have rv_114 := rv_112.congr t114.1 ho114
                have hI110_114 := hI110_112.congr t114.1 ho114
                have hI112_114 := hI112.congr t114.1 ho114
                have hJ112_114 := hJ112.congr t114.1 ho114
                obtain ⟨hW115, hB115, hTD115, hz115, hp115⟩ := id hS114
                obtain ⟨dd115, hw115, hd115⟩ := id hW115
                have hcap115 := hB115.cap
                refine jj_istore (pc := 227) kRO_triangle_d227 (Nat.le_of_ble_eq_true rfl) ?_
                show jj G kRO_triangle (d + 10) Q rc114 rs114 229 [some (.ref o), some (.int (nI (b))), some (.int (nI (nu))), some (.int (nI (dp))), some (.int (nI (b))), some (.int (nI (n))), some (.int (nI (c))), some (.int (nI (i))), some (.int (nI (px))), some (.int (nI (pp))), some (.int (nI (0))), some (.int (nI (pg2))), some (.int (nI (pu2))), some (.int (nI (p110))), some (.int (nI (p112))), some (.int (nI (p114))), (o16), (o17), (o18), (o19), (o20)] [] M114
                exact k229 0 _ _ _ _ _ _ _ _ _ _ zu vw (Z9 c c / zg) (Z9 i c / zg) _ _ M114 D114 T114 _ _ _ _ _ rc114 rs114 rfl (Or.inr ⟨rfl, rfl⟩) hpiv bzu bvw bpg bxg ru_114 (by rw [← hvw, if_pos hxn]; exact hI110_114) hI112_114 hI114 (hO2.ff hF114) hC114 hS114 (by omega) (by omega) (fun i hi => by rw [ho114 i (by omega), ho112 i (by omega), ho110 i (by omega), ho2 i (by omega), ho103 i (by omega)]) (hG2'.trans (OF.ofFF hO2 hF114))
            · skip
              have hp0 : Z9 c c = 0 := by have h9 := b3; rw [show pp = 0 by omega] at h9; exact h9.z0 hz90 (by omega)
              clear ih2
              have hsw := hI9.swap (by omega) hci (by omega) hnm hd hdB hx0 hp0
              have z1 : ZB (sa + 1) 0 := ZB.of_le (show (0 : Int).natAbs ≤ 0 from Nat.le_refl _) (Nat.pow_pos (by decide))
              have z2 : ZB (sa + 1) 1 := ZB.of_le (show (1 : Int).natAbs ≤ 1 from Nat.le_refl _) (Nat.one_lt_pow (by omega) (by decide))
              have z3 : ZB sa 0 := ZB.of_le (show (0 : Int).natAbs ≤ 0 from Nat.le_refl _) (Nat.pow_pos (by decide))
              have z4 : ZB sa 1 := ZB.of_le (show (1 : Int).natAbs ≤ 1 from Nat.le_refl _) (by omega)
              refine jn_iconst (pc := 95) 1 kRO_triangle_d95 (by decide) ?_
              refine jj_goto (pc := 96) (tgt := 100) kRO_triangle_d96 (by decide) ?_
              refine jj_istore (pc := 100) kRO_triangle_d100 (Nat.le_of_ble_eq_true rfl) ?_
              show jj G kRO_triangle (d + 10) Q rc9 rs9 102 [some (.ref o), some (.int (nI (b))), some (.int (nI (nu))), some (.int (nI (dp))), some (.int (nI (b))), some (.int (nI (n))), some (.int (nI (c))), some (.int (nI (i))), some (.int (nI (px))), some (.int (nI (pp))), some (.int (nI (1))), (o11), (o12), (o13), (o14), (o15), (o16), (o17), (o18), (o19), (o20)] [] M9
              refine jj_iload (pc := 102) kRO_triangle_d102 rfl ?_
              refine jn_if_eq (pc := 104) (tgt := 112) kRO_triangle_d104 (by decide) (by omega) (fun c => by exfalso; omega) (fun _ => ?_)
              refine jj_iload (pc := 107) kRO_triangle_d107 rfl ?_
              refine jj_goto (pc := 109) (tgt := 127) kRO_triangle_d109 (by decide) ?_
              refine jj_istore (pc := 127) kRO_triangle_d127 (Nat.le_of_ble_eq_true rfl) ?_
              refine jj_iload (pc := 129) kRO_triangle_d129 rfl ?_
              refine jn_if_eq (pc := 131) (tgt := 138) kRO_triangle_d131 (by decide) (by omega) (fun c => by exfalso; omega) (fun _ => ?_)
              refine jn_iconst (pc := 134) 0 kRO_triangle_d134 (by decide) ?_
              refine jj_goto (pc := 135) (tgt := 142) kRO_triangle_d135 (by decide) ?_
              refine jj_istore (pc := 142) kRO_triangle_d142 (Nat.le_of_ble_eq_true rfl) ?_
              show jj G kRO_triangle (d + 10) Q rc9 rs9 144 [some (.ref o), some (.int (nI (b))), some (.int (nI (nu))), some (.int (nI (dp))), some (.int (nI (b))), some (.int (nI (n))), some (.int (nI (c))), some (.int (nI (i))), some (.int (nI (px))), some (.int (nI (pp))), some (.int (nI (1))), some (.int (nI (px))), some (.int (nI (0))), (o13), (o14), (o15), (o16), (o17), (o18), (o19), (o20)] [] M9
              refine jj_iload (pc := 144) kRO_triangle_d144 rfl ?_
              refine jn_if_eq (pc := 146) (tgt := 153) kRO_triangle_d146 (by decide) (by omega) (fun c => by exfalso; omega) (fun _ => ?_)
              refine jn_iconst (pc := 149) 1 kRO_triangle_d149 (by decide) ?_
              refine jj_goto (pc := 150) (tgt := 183) kRO_triangle_d150 (by decide) ?_
              refine jj_istore (pc := 183) kRO_triangle_d183 (Nat.le_of_ble_eq_true rfl) ?_
              refine jj_iload (pc := 185) kRO_triangle_d185 rfl ?_
              refine jn_if_eq (pc := 187) (tgt := 194) kRO_triangle_d187 (by decide) (by omega) (fun c => by exfalso; omega) (fun _ => ?_)
              refine jn_iconst (pc := 190) 0 kRO_triangle_d190 (by decide) ?_
              refine jj_goto (pc := 191) (tgt := 205) kRO_triangle_d191 (by decide) ?_
              refine jj_istore (pc := 205) kRO_triangle_d205 (Nat.le_of_ble_eq_true rfl) ?_
              show jj G kRO_triangle (d + 10) Q rc9 rs9 207 [some (.ref o), some (.int (nI (b))), some (.int (nI (nu))), some (.int (nI (dp))), some (.int (nI (b))), some (.int (nI (n))), some (.int (nI (c))), some (.int (nI (i))), some (.int (nI (px))), some (.int (nI (pp))), some (.int (nI (1))), some (.int (nI (px))), some (.int (nI (0))), some (.int (nI (1))), some (.int (nI (0))), (o15), (o16), (o17), (o18), (o19), (o20)] [] M9
              refine jj_iload (pc := 207) kRO_triangle_d207 rfl ?_
              refine jn_if_eq (pc := 209) (tgt := 216) kRO_triangle_d209 (by decide) (by omega) (fun c => by exfalso; omega) (fun _ => ?_)
              refine jn_iconst (pc := 212) 1 kRO_triangle_d212 (by decide) ?_
              refine jj_goto (pc := 213) (tgt := 227) kRO_triangle_d213 (by decide) ?_
              refine jj_istore (pc := 227) kRO_triangle_d227 (Nat.le_of_ble_eq_true rfl) ?_
              show jj G kRO_triangle (d + 10) Q rc9 rs9 229 [some (.ref o), some (.int (nI (b))), some (.int (nI (nu))), some (.int (nI (dp))), some (.int (nI (b))), some (.int (nI (n))), some (.int (nI (c))), some (.int (nI (i))), some (.int (nI (px))), some (.int (nI (pp))), some (.int (nI (1))), some (.int (nI (px))), some (.int (nI (0))), some (.int (nI (1))), some (.int (nI (0))), some (.int (nI (1))), (o16), (o17), (o18), (o19), (o20)] [] M9
              exact k229 1 _ _ _ _ _ _ _ _ _ _ 0 1 0 1 _ _ M9 D9 T9 up9 low9 fi9 se9 v9 rc9 rs9 rfl (Or.inl ⟨rfl, rfl⟩) hsw z1 z2 z3 z4 (RI.zero hz90 (by omega)) h19 (RI.zero hz90 (by omega)) h19 hO9 hC9 hS9 (Nat.le_refl _) (by omega) (fun _ _ => rfl) hG9
          · skip
            have hx0 : Z9 i c = 0 := by have h9 := a3; rw [show px = 0 by omega] at h9; exact h9.z0 hz90 (by omega)
            refine jj_goto (pc := 87) (tgt := 468) kRO_triangle_d87 (by decide) ?_
            refine jn_iinc (pc := 468) (i + 1) kRO_triangle_d468 rfl (nI_1 _) ?_
            refine jj_goto (pc := 471) (tgt := 30) kRO_triangle_d471 (by decide) ?_
            show jj G kRO_triangle (d + 10) Q rc9 rs9 30 [some (.ref o), some (.int (nI (b))), some (.int (nI (nu))), some (.int (nI (dp))), some (.int (nI (b))), some (.int (nI (n))), some (.int (nI (c))), some (.int (nI (i + 1))), some (.int (nI (px))), some (.int (nI (pp))), (o10), (o11), (o12), (o13), (o14), (o15), (o16), (o17), (o18), (o19), (o20)] [] M9
            exact ih2 (i + 1) (by omega) (by omega) _ _ _ _ _ _ _ _ _ _ _ _ _ Z9 M9 vv D9 T9 V9 up9 low9 fi9 se9 X9 Y9 v9 rc9 rs9 (hI9.skip (by omega) hnm hd hx0) hO9 hC9 hS9 hX9 t9 u9 ho9 hv9 hl9 hG9 hz9
      exact inner (R - (c + 1)) (c + 1) (by omega) (by omega) _ _ _ _ _ _ _ _ _ _ _ _ _ Z9 M9 vv D9 T9 V9 up9 low9 fi9 se9 X9 Y9 v9 rc9 rs9 hI9 hO9 hC9 hS9 hX9 t9 u9 ho9 hv9 hl9 hG9 hz9
  exact loop n 0 (by omega) _ _ _ _ _ _ _ _ _ _ _ _ _ _ Z0 M vv D T V up low fi se X Z v2 rc rs (T1I_start (by omega) hdr hB) hO hC hS hX hnT hTL (fun _ _ => rfl) (fun _ _ => rfl) htV (OF.refl M o) hz
end RO7
