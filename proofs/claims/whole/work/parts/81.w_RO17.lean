/-! ===== Forms.smith: the diagonal (printed by wip/gen/ro17.py) ===== -/
theorem nI_min {m n : Nat} (hm : m < 2 ^ 31) (hn : n < 2 ^ 31) : (if nI n < nI m then nI n else nI m) = nI (min m n) := by
  have hl : nI n < nI m ↔ n < m := by
    rw [Int32.lt_iff_toInt_lt, nI_toInt hn, nI_toInt hm]
    omega
  by_cases c : n < m
  · rw [if_pos (hl.mpr c), Nat.min_eq_right (by omega)]
  · rw [if_neg (fun h => c (hl.mp h)), Nat.min_eq_left (by omega)]
/-- an invariant of the steps on the diagonal, with sizes -/
def DGJ (DJ : Nat → Nat → imat → Prop) (m n s : Nat) : Prop := (∀ i j B, i < j → j < min m n → DJ i j B → DJ i (j + 1) (sstep B i j)) ∧ (∀ i B, i < min m n → DJ i (min m n) B → DJ (i + 1) (i + 2) B) ∧ ∀ i j B, DJ i j B → (∀ a b, a < m → b < n → ZB s (B a b)) ∧ (i < j → j < min m n → ZB s (Int.gcd (B i i) (B j j) : Int) ∧ ZB s (sml (B i i) (B j j)))
theorem sml_of {x y : Int} (h : Int.gcd x y ≠ 0) : sml x y = (((x.natAbs : Int) / (Int.gcd x y : Int) * y).natAbs : Int) := if_neg h
section RO17
variable {G : jg} {d : Nat} {Q : jq} {rc rs : Nat} {M : mheap} {o f w vv pv ca ra : Nat} {v2 : Value} {D V P CA RA : List Int32} {t : Nat} {up low rk fi se : Int32}
theorem ro_smith_two {b m n T tz T0 s cm cv X Z X' Z' : Nat} {o6 o7 o8 o9 o10 o11 o12 o13 o14 o15 o16 o17 : Option Value} {D0 V0 : List Int32} {B0 : imat} {DJ : Nat → Nat → imat → Prop} (hG : kG G) (hO : OC M o f w ca ra CA RA fi se) (hC : FC M f w vv pv V0 tz up low P rk) (hS : RS M w D0 T0 v2 cm X Z rc rs) (hX : FXB cv V0 X Z X' Z') (htV : tz ≤ V0.length) (h1 : RI D0 T 1 1) (hT3 : 3 ≤ T) (hTT : T ≤ T0) (htz : tz = t + 2 + 2 * (m * n)) (hz : MZ D0 T0 V0 tz t m n B0) (hm : m < 32) (hn : n < 32) (hm1 : 1 ≤ m) (hn1 : 1 ≤ n) (hDJ : DGJ DJ m n s) (hJ0 : DJ 0 1 B0) (hs6 : 3 * s + 1 ≤ 3000) (LT : Nat) (hLT : m * n * (2 * s + 2) ≤ LT) (hT0 : T0 ≤ T + LT) (hcv : tz + 10 + 4 * (m * n) ≤ cv) (hT : T + LT + LT + 30000 + 100 * s + 1000 ≤ cm)
    (K : ∀ i j B M' vv' D' T' V' up' low' X1 Z1 v2' rc' rs', min m n ≤ i → DJ i j B → FF M M' f → FC M' f w vv' pv V' tz up' low' P rk → RS M' w D' T' v2' cm X1 Z1 rc' rs' → FXB cv V' X1 Z1 X' Z' → T ≤ T' → T' ≤ T + LT → (∀ i, i < T → D'.getD i 0 = D0.getD i 0) → (∀ i, i < t → V'.getD i 0 = V0.getD i 0) → tz ≤ V'.length → MZ D' T' V' tz t m n B → Q (.returned (some (.int (nI t)))) M' rc' rs') : jj G kRO_smith (d + 14) Q rc rs 94 [some (.ref o), some (.int (nI (b))), some (.int (nI (T))), some (.int (nI (t))), some (.int (nI (t))), some (.int (nI (0))), (o6), (o7), (o8), (o9), (o10), (o11), (o12), (o13), (o14), (o15), (o16), (o17)] [] M := by
  have hcap := hX.cap
  have hcapD := hS.2.1.cap
  have hza := hz.1
  have hmn : m * n < 32 * 1024 := Nat.mul_lt_mul_of_lt_of_le hm (by omega) (by decide)
  obtain ⟨kk, hkk⟩ : ∃ kk, min m n = kk := ⟨_, rfl⟩
  have hkm : kk ≤ m ∧ kk ≤ n := by omega
  obtain ⟨d1, d2, d4⟩ := hDJ
  rw [hkk] at d1 d2 d4 K
  have loop : ∀ mu i, kk = i + mu → ∀ (o9 o10 o11 o12 o13 o14 o15 o16 o17 : Option Value) (B9 : imat) (M9 : mheap) (vv : Nat) (D9 : List Int32) (T9 : Nat) (V9 : List Int32) (up9 low9 : Int32) (X9 Y9 : Nat) (v9 : Value) (rc9 rs9 : Nat), DJ i (i + 1) B9 → FF M M9 f → FC M9 f w vv pv V9 tz up9 low9 P rk → RS M9 w D9 T9 v9 cm X9 Y9 rc9 rs9 → FXB cv V9 X9 Y9 X' Z' → T ≤ T9 → T9 ≤ T + LT → (∀ i, i < T → D9.getD i 0 = D0.getD i 0) → (∀ i, i < t → V9.getD i 0 = V0.getD i 0) → tz ≤ V9.length → MZ D9 T9 V9 tz t m n B9 → jj G kRO_smith (d + 14) Q rc9 rs9 124 [some (.ref o), some (.int (nI (b))), some (.int (nI (T))), some (.int (nI (t))), some (.int (nI (t))), some (.int (nI (0))), some (.int (nI (n))), some (.int (nI (kk))), some (.int (nI (i))), (o9), (o10), (o11), (o12), (o13), (o14), (o15), (o16), (o17)] [] M9 := by
    intro mu
    induction mu with
    | zero =>
      intro i hk o9 o10 o11 o12 o13 o14 o15 o16 o17 B9 M9 vv D9 T9 V9 up9 low9 X9 Y9 v9 rc9 rs9 hJ9 hF9 hC9 hS9 hX9 t9 u9 ho9 hv9 hl9 hz9
      have e9 : kk = i := by omega
      subst e9
      refine jj_iload (pc := 124) kRO_smith_d124 rfl ?_
      refine jj_iload (pc := 126) kRO_smith_d126 rfl ?_
      refine jn_icmp_ge (pc := 128) (tgt := 444) kRO_smith_d128 (by decide) (by omega) (by omega) (fun _ => ?_) (fun c => by exfalso; omega)
      refine jj_iload (pc := 444) kRO_smith_d444 rfl ?_
      exact jj_iret (pc := 446) kRO_smith_d446 rfl (by rfl) (K kk _ B9 M9 vv D9 T9 V9 up9 low9 X9 Y9 v9 rc9 rs9 (Nat.le_refl _) hJ9 hF9 hC9 hS9 hX9 t9 u9 ho9 hv9 hl9 hz9)
    | succ mu ih =>
      intro i hk o9 o10 o11 o12 o13 o14 o15 o16 o17 B9 M9 vv D9 T9 V9 up9 low9 X9 Y9 v9 rc9 rs9 hJ9 hF9 hC9 hS9 hX9 t9 u9 ho9 hv9 hl9 hz9
      refine jj_iload (pc := 124) kRO_smith_d124 rfl ?_
      refine jj_iload (pc := 126) kRO_smith_d126 rfl ?_
      refine jn_icmp_ge (pc := 128) (tgt := 444) kRO_smith_d128 (by decide) (by omega) (by omega) (fun c => by exfalso; omega) (fun _ => ?_)
      refine jj_iload (pc := 131) kRO_smith_d131 rfl ?_
      refine jn_iconst (pc := 133) 1 kRO_smith_d133 (by decide) ?_
      refine jn_iadd (pc := 134) (i + 1) kRO_smith_d134 (by omega) ?_
      refine jj_istore (pc := 135) kRO_smith_d135 (Nat.le_of_ble_eq_true rfl) ?_
      show jj G kRO_smith (d + 14) Q rc9 rs9 137 [some (.ref o), some (.int (nI (b))), some (.int (nI (T))), some (.int (nI (t))), some (.int (nI (t))), some (.int (nI (0))), some (.int (nI (n))), some (.int (nI (kk))), some (.int (nI (i))), some (.int (nI (i + 1))), (o10), (o11), (o12), (o13), (o14), (o15), (o16), (o17)] [] M9
      have inner : ∀ mu2 j, kk = j + mu2 → i < j → ∀ (o10 o11 o12 o13 o14 o15 o16 o17 : Option Value) (B9 : imat) (M9 : mheap) (vv : Nat) (D9 : List Int32) (T9 : Nat) (V9 : List Int32) (up9 low9 : Int32) (X9 Y9 : Nat) (v9 : Value) (rc9 rs9 : Nat), DJ i j B9 → FF M M9 f → FC M9 f w vv pv V9 tz up9 low9 P rk → RS M9 w D9 T9 v9 cm X9 Y9 rc9 rs9 → FXB cv V9 X9 Y9 X' Z' → T ≤ T9 → T9 ≤ T + LT → (∀ i, i < T → D9.getD i 0 = D0.getD i 0) → (∀ i, i < t → V9.getD i 0 = V0.getD i 0) → tz ≤ V9.length → MZ D9 T9 V9 tz t m n B9 → jj G kRO_smith (d + 14) Q rc9 rs9 137 [some (.ref o), some (.int (nI (b))), some (.int (nI (T))), some (.int (nI (t))), some (.int (nI (t))), some (.int (nI (0))), some (.int (nI (n))), some (.int (nI (kk))), some (.int (nI (i))), some (.int (nI (j))), (o10), (o11), (o12), (o13), (o14), (o15), (o16), (o17)] [] M9 := by
        clear hJ9 hF9 hC9 hS9 hX9 t9 u9 ho9 hv9 hl9 hz9
        intro mu2
        induction mu2 with
        | zero =>
          intro j hj hij o10 o11 o12 o13 o14 o15 o16 o17 B9 M9 vv D9 T9 V9 up9 low9 X9 Y9 v9 rc9 rs9 hJ9 hF9 hC9 hS9 hX9 t9 u9 ho9 hv9 hl9 hz9
          have e9 : kk = j := by omega
          subst e9
          refine jj_iload (pc := 137) kRO_smith_d137 rfl ?_
          refine jj_iload (pc := 139) kRO_smith_d139 rfl ?_
          refine jn_icmp_ge (pc := 141) (tgt := 438) kRO_smith_d141 (by decide) (by omega) (by omega) (fun _ => ?_) (fun c => by exfalso; omega)
          refine jn_iinc (pc := 438) (i + 1) kRO_smith_d438 rfl (nI_1 _) ?_
          refine jj_goto (pc := 441) (tgt := 124) kRO_smith_d441 (by decide) ?_
          show jj G kRO_smith (d + 14) Q rc9 rs9 124 [some (.ref o), some (.int (nI (b))), some (.int (nI (T))), some (.int (nI (t))), some (.int (nI (t))), some (.int (nI (0))), some (.int (nI (n))), some (.int (nI (kk))), some (.int (nI (i + 1))), some (.int (nI (kk))), (o10), (o11), (o12), (o13), (o14), (o15), (o16), (o17)] [] M9
          exact ih (i + 1) (by omega) _ _ _ _ _ _ _ _ _ B9 M9 vv D9 T9 V9 up9 low9 X9 Y9 v9 rc9 rs9 (d2 i B9 (by omega) hJ9) hF9 hC9 hS9 hX9 t9 u9 ho9 hv9 hl9 hz9
        | succ mu2 ih2 =>
          intro j hj hij o10 o11 o12 o13 o14 o15 o16 o17 B9 M9 vv D9 T9 V9 up9 low9 X9 Y9 v9 rc9 rs9 hJ9 hF9 hC9 hS9 hX9 t9 u9 ho9 hv9 hl9 hz9
          have hcap9 := hX9.cap
          have hcap9D := hS9.2.1.cap
          have hTD9 := hS9.2.2.1
          have hz90 := hS9.2.2.2.1
          obtain ⟨hsz, hsg⟩ := d4 _ _ _ hJ9
          obtain ⟨bg, bl⟩ := hsg hij (by omega)
          have hJ' := d1 i j B9 hij (by omega) hJ9
          obtain ⟨iN, hiN⟩ : ∃ iN, i * n = iN := ⟨_, rfl⟩
          obtain ⟨jN, hjN⟩ : ∃ jN, j * n = jN := ⟨_, rfl⟩
          obtain ⟨ii, hii⟩ : ∃ ii, iN + i = ii := ⟨_, rfl⟩
          obtain ⟨jx, hjx⟩ : ∃ jx, jN + j = jx := ⟨_, rfl⟩
          have hil : ii < m * n := by rw [← hii, ← hiN]; exact cell_lt (by omega) (by omega)
          have hjl : jx < m * n := by rw [← hjx, ← hjN]; exact cell_lt (by omega) (by omega)
          obtain ⟨px, a1, -, a3⟩ := hz9.2.2.2 i i (by omega) (by omega)
          obtain ⟨py, b1, -, b3⟩ := hz9.2.2.2 j j (by omega) (by omega)
          rw [hiN, hii] at a1
          rw [hjN, hjx] at b1
          have sx := hsz i i (by omega) (by omega)
          have sy := hsz j j (by omega) (by omega)
          generalize hX_ : B9 i i = zx at a3 sx bg bl
          generalize hY_ : B9 j j = zy at b3 sy bg bl
          have lpx := a3.lt
          have lpy := b3.lt
          have k238 : ∀ (pg pl : Nat) (o13 o14 o15 o16 o17 : Option Value) (M8 : mheap) (D8 : List Int32) (T8 : Nat) (up8 low8 : Int32) (v8 : Value) (rc8 rs8 : Nat), FF M M8 f → FC M8 f w vv pv V9 (tz) (up8) (low8) P (rk) → RS M8 w D8 T8 v8 cm X9 Y9 rc8 rs8 → T9 ≤ T8 → T8 ≤ T9 + 10 * s + 30 → (∀ i, i < T9 → D8.getD i 0 = D9.getD i 0) → RI D8 T8 pg (Int.gcd zx zy : Int) → RI D8 T8 pl (sml zx zy) → jj G kRO_smith (d + 14) Q rc8 rs8 238 [some (.ref o), some (.int (nI (b))), some (.int (nI (T))), some (.int (nI (t))), some (.int (nI (t))), some (.int (nI (0))), some (.int (nI (n))), some (.int (nI (kk))), some (.int (nI (i))), some (.int (nI (j))), some (.int (nI (px))), some (.int (nI (py))), some (.int (nI (pg))), (o13), (o14), (o15), (o16), (o17)] [.int (nI (pl))] M8 := by
            intro pg pl o13 o14 o15 o16 o17 M8 D8 T8 up8 low8 v8 rc8 rs8 hF8 hC8 hS8 t8 u8 ho8 hrg hrl
            have hz8 := hz9.congr (D' := D8) (T' := T8) (V' := V9) (t' := tz) t8 ho8 (by omega) (fun _ _ _ => rfl)
            have ho80 : ∀ i, i < T → D8.getD i 0 = D0.getD i 0 := fun i hi => by rw [ho8 i (by omega), ho9 i hi]
            refine jj_istore (pc := 238) kRO_smith_d238 (Nat.le_of_ble_eq_true rfl) ?_
            show jj G kRO_smith (d + 14) Q rc8 rs8 240 [some (.ref o), some (.int (nI (b))), some (.int (nI (T))), some (.int (nI (t))), some (.int (nI (t))), some (.int (nI (0))), some (.int (nI (n))), some (.int (nI (kk))), some (.int (nI (i))), some (.int (nI (j))), some (.int (nI (px))), some (.int (nI (py))), some (.int (nI (pg))), some (.int (nI (pl))), (o14), (o15), (o16), (o17)] [] M8
            refine ro_smith_mat (m := m) (s := s) (S := 2 * s + 2) (B := B9) hG (hO.ff hF8) hC8 hS8 hX9 hl9 (h1.congr (by omega) ho80) (by omega) hz8 hsz hm hn (by omega) (by omega) (by omega) (by omega) (by rw [hX_, hY_]; exact hrg) (by rw [hX_, hY_]; exact hrl) (by rw [hX_, hY_]; exact bg) (by rw [hX_, hY_]; exact bl) rfl (by omega) (by omega) (fun M5 vv D5 T5 V5 up5 low5 X5 Z5 v5 rc5 rs5 hC5 hS5 hX5 t5 u5 ho5 hv5 hl5 hF5 hm5 o17 => ?_)
            have hcap5 := hX5.cap
            obtain ⟨t5x, ht5x⟩ : ∃ t5x, tz + 2 + 2 * (m * n) = t5x := ⟨_, rfl⟩
            rw [ht5x] at hC5 hl5 hm5
            show jj G kRO_smith (d + 14) Q rc5 rs5 417 [some (.ref o), some (.int (nI (b))), some (.int (nI (T))), some (.int (nI (t))), some (.int (nI (t))), some (.int (nI (0))), some (.int (nI (n))), some (.int (nI (kk))), some (.int (nI (i))), some (.int (nI (j))), some (.int (nI (px))), some (.int (nI (py))), some (.int (nI (pg))), some (.int (nI (pl))), some (.int (nI (T8))), some (.int (nI (tz))), some (.int (nI (m * n))), (o17)] [] M5
            have hF85 := hF8.trans hF5
            refine jj_aload_n (pc := 417) kRO_smith_d417 rfl ?_
            refine jj_getf (pc := 418) kRO_smith_d418 (kfRO_f hG) (hO.ff hF85).1 rfl ?_
            refine jj_iload_n (pc := 421) kRO_smith_d421 rfl ?_
            refine jj_iload_n (pc := 422) kRO_smith_d422 rfl ?_
            refine jj_iload (pc := 423) kRO_smith_d423 rfl ?_
            refine jj_iload (pc := 425) kRO_smith_d425 rfl ?_
            refine jj_callV (pc := 427) (b := f) (As := [.int (nI (T)), .int (nI (t)), .int (nI (T8)), .int (nI (tz))]) kRO_smith_d427 (kvRO_RF_slide hG) (kG_cl hG rfl) rfl hC5.1 rfl rfl rfl (Nat.le_of_ble_eq_true rfl) (Nat.le_of_ble_eq_true rfl) (jj_bare0 rfl) ?_
            refine rf_slide (nu := T) (he := t) (fr := T8) (a := tz) hG hC5 hS5 (by omega) (by omega) hm5 (h1.congr (Nat.le_refl _) (fun i hi => by rw [ho5 i (by omega), ho80 i hi])) hT3 (by omega) t5 (by omega) (by omega) (by omega) (by omega) (fun M6 D6 T6 V6 hC6 hS6 t6 ho6 hl6 hv6 hF6 hm6 => ?_)
            show jj G kRO_smith (d + 14) Q rc5 rs5 430 [some (.ref o), some (.int (nI (b))), some (.int (nI (T))), some (.int (nI (t))), some (.int (nI (t))), some (.int (nI (0))), some (.int (nI (n))), some (.int (nI (kk))), some (.int (nI (i))), some (.int (nI (j))), some (.int (nI (px))), some (.int (nI (py))), some (.int (nI (pg))), some (.int (nI (pl))), some (.int (nI (T8))), some (.int (nI (tz))), some (.int (nI (m * n))), (o17)] [.int (nI (t))] M6
            rw [← htz] at hC6 hm6
            have hz6 : MZ D6 T6 V6 tz t m n (sstep B9 i j) := MZ.ofMX hm6 (fun a ha b hb => by
              obtain ⟨e1, e2⟩ := at_div (i := a) hb
              try dsimp only
              rw [e1, e2])
            have hF86 := hF85.trans hF6
            refine jj_istore (pc := 430) kRO_smith_d430 (Nat.le_of_ble_eq_true rfl) ?_
            refine jn_iinc (pc := 432) (j + 1) kRO_smith_d432 rfl (nI_1 _) ?_
            refine jj_goto (pc := 435) (tgt := 137) kRO_smith_d435 (by decide) ?_
            show jj G kRO_smith (d + 14) Q rc5 rs5 137 [some (.ref o), some (.int (nI (b))), some (.int (nI (T))), some (.int (nI (t))), some (.int (nI (t))), some (.int (nI (0))), some (.int (nI (n))), some (.int (nI (kk))), some (.int (nI (i))), some (.int (nI (j + 1))), some (.int (nI (px))), some (.int (nI (py))), some (.int (nI (pg))), some (.int (nI (pl))), some (.int (nI (T8))), some (.int (nI (tz))), some (.int (nI (m * n))), (o17)] [] M6
            exact ih2 (j + 1) (by omega) (by omega) _ _ _ _ _ _ _ _ (sstep B9 i j) M6 vv D6 T6 V6 _ _ X5 Z5 _ rc5 rs5 hJ' hF86 hC6 hS6 (hX5.same hl6) (by omega) (by omega) (fun i hi => by rw [ho6 i hi, ho5 i (by omega), ho80 i hi]) (fun i hi => by rw [hv6 i hi, hv5 i (by omega), hv9 i hi]) (by omega) hz6
          clear ih2
          obtain ⟨hW101, hB101, hTD101, hz101, hp101⟩ := id hS9
          obtain ⟨dd101, hw101, hd101⟩ := id hW101
          have hcap101 := hB101.cap
          refine jj_iload (pc := 137) kRO_smith_d137 rfl ?_
          refine jj_iload (pc := 139) kRO_smith_d139 rfl ?_
          refine jn_icmp_ge (pc := 141) (tgt := 438) kRO_smith_d141 (by decide) (by omega) (by omega) (fun c => by exfalso; omega) (fun _ => ?_)
          refine jj_aload_n (pc := 144) kRO_smith_d144 rfl ?_
          refine jj_getf (pc := 145) kRO_smith_d145 (kfRO_f hG) (hO.ff hF9).1 rfl ?_
          refine jj_iload (pc := 148) kRO_smith_d148 rfl ?_
          refine jj_iload (pc := 150) kRO_smith_d150 rfl ?_
          refine jj_iload (pc := 152) kRO_smith_d152 rfl ?_
          refine jn_imul (pc := 154) (iN) kRO_smith_d154 hiN ?_
          refine jj_iload (pc := 155) kRO_smith_d155 rfl ?_
          refine jn_iadd (pc := 157) (ii) kRO_smith_d157 hii ?_
          refine jj_callV (pc := 158) (b := f) (As := [.int (nI (t)), .int (nI (ii))]) kRO_smith_d158 (kvRO_RF_upper hG) (kG_cl hG rfl) rfl hC9.1 rfl rfl rfl (Nat.le_of_ble_eq_true rfl) (Nat.le_of_ble_eq_true rfl) (jj_bare0 rfl) ?_
          refine rf_upper hG hC9 (by omega) (by omega) ?_
          show jj G kRO_smith (d + 14) Q rc9 rs9 161 [some (.ref o), some (.int (nI (b))), some (.int (nI (T))), some (.int (nI (t))), some (.int (nI (t))), some (.int (nI (0))), some (.int (nI (n))), some (.int (nI (kk))), some (.int (nI (i))), some (.int (nI (j))), (o10), (o11), (o12), (o13), (o14), (o15), (o16), (o17)] [.int (V9.getD (t + 2 + 2 * ii) 0)] M9
          refine jn_top (.int (nI (px))) (by rw [a1]) ?_
          refine jj_istore (pc := 161) kRO_smith_d161 (Nat.le_of_ble_eq_true rfl) ?_
          refine jj_aload_n (pc := 163) kRO_smith_d163 rfl ?_
          refine jj_getf (pc := 164) kRO_smith_d164 (kfRO_f hG) (hO.ff hF9).1 rfl ?_
          refine jj_iload (pc := 167) kRO_smith_d167 rfl ?_
          refine jj_iload (pc := 169) kRO_smith_d169 rfl ?_
          refine jj_iload (pc := 171) kRO_smith_d171 rfl ?_
          refine jn_imul (pc := 173) (jN) kRO_smith_d173 hjN ?_
          refine jj_iload (pc := 174) kRO_smith_d174 rfl ?_
          refine jn_iadd (pc := 176) (jx) kRO_smith_d176 hjx ?_
          refine jj_callV (pc := 177) (b := f) (As := [.int (nI (t)), .int (nI (jx))]) kRO_smith_d177 (kvRO_RF_upper hG) (kG_cl hG rfl) rfl hC9.1 rfl rfl rfl (Nat.le_of_ble_eq_true rfl) (Nat.le_of_ble_eq_true rfl) (jj_bare0 rfl) ?_
          refine rf_upper hG hC9 (by omega) (by omega) ?_
          show jj G kRO_smith (d + 14) Q rc9 rs9 180 [some (.ref o), some (.int (nI (b))), some (.int (nI (T))), some (.int (nI (t))), some (.int (nI (t))), some (.int (nI (0))), some (.int (nI (n))), some (.int (nI (kk))), some (.int (nI (i))), some (.int (nI (j))), some (.int (nI (px))), (o11), (o12), (o13), (o14), (o15), (o16), (o17)] [.int (V9.getD (t + 2 + 2 * jx) 0)] M9
          refine jn_top (.int (nI (py))) (by rw [b1]) ?_
          refine jj_istore (pc := 180) kRO_smith_d180 (Nat.le_of_ble_eq_true rfl) ?_
          refine jj_aload_n (pc := 182) kRO_smith_d182 rfl ?_
          refine jj_getf (pc := 183) kRO_smith_d183 (kfRO_w hG) (hO.ff hF9).1 rfl ?_
          refine jj_iload (pc := 186) kRO_smith_d186 rfl ?_
          refine jj_iload (pc := 188) kRO_smith_d188 rfl ?_
          refine jj_callV (pc := 190) (b := w) (As := [.int (nI (px)), .int (nI (py))]) kRO_smith_d190 (kvRO_RW_common hG) (kG_cl hG rfl) rfl hw101 rfl rfl rfl (Nat.le_of_ble_eq_true rfl) (Nat.le_of_ble_eq_true rfl) (jj_bare0 rfl) ?_
          refine ri_common (a := s) hG hS9 a3 b3 sx sy (by omega) (by omega) (fun M102 D102 T102 p102 v102 rc102 rs102 hS102 t102 u102 ho102 hf102 hI102 => ?_)
          show jj G kRO_smith (d + 14) Q rc102 rs102 193 [some (.ref o), some (.int (nI (b))), some (.int (nI (T))), some (.int (nI (t))), some (.int (nI (t))), some (.int (nI (0))), some (.int (nI (n))), some (.int (nI (kk))), some (.int (nI (i))), some (.int (nI (j))), some (.int (nI (px))), some (.int (nI (py))), (o12), (o13), (o14), (o15), (o16), (o17)] [.int (nI (p102))] M102
          have hC102 := hC9.rf hf102
          have hF102 := hF9.trans (FF.ofRF hC9 hf102)
          have a3_102 := a3.congr t102.1 ho102
          have b3_102 := b3.congr t102.1 ho102
          obtain ⟨hW103, hB103, hTD103, hz103, hp103⟩ := id hS102
          obtain ⟨dd103, hw103, hd103⟩ := id hW103
          have hcap103 := hB103.cap
          refine jj_istore (pc := 193) kRO_smith_d193 (Nat.le_of_ble_eq_true rfl) ?_
          refine jj_iload (pc := 195) kRO_smith_d195 rfl ?_
          refine jn_if_ne (pc := 197) (tgt := 204) kRO_smith_d197 (by decide) (by omega) (fun c1 => ?_) (fun c1 => ?_)
          · skip
            have hg0 : Int.gcd zx zy ≠ 0 := fun e => by have h9 := hI102; rw [e] at h9; have := RI.p0 h9; omega
            obtain ⟨zg, hzg⟩ : ∃ zg, (Int.gcd zx zy : Int) = zg := ⟨_, rfl⟩
            have hgp : 0 < zg := by omega
            have hrg := hI102
            rw [hzg] at hrg
            have bg' : ZB s zg := by rw [← hzg]; exact bg
            have sxa : ZB s ((zx.natAbs : Nat) : Int) := sx.le (by omega)
            have bq : ZB s ((zx.natAbs : Int) / zg) := sxa.ediv hgp
            have bp : ZB (s + s) ((zx.natAbs : Int) / zg * zy) := bq.mul sy
            refine jj_aload_n (pc := 204) kRO_smith_d204 rfl ?_
            refine jj_getf (pc := 205) kRO_smith_d205 (kfRO_w hG) (hO.ff hF102).1 rfl ?_
            refine jj_aload_n (pc := 208) kRO_smith_d208 rfl ?_
            refine jj_getf (pc := 209) kRO_smith_d209 (kfRO_w hG) (hO.ff hF102).1 rfl ?_
            refine jj_aload_n (pc := 212) kRO_smith_d212 rfl ?_
            refine jj_getf (pc := 213) kRO_smith_d213 (kfRO_w hG) (hO.ff hF102).1 rfl ?_
            refine jj_aload_n (pc := 216) kRO_smith_d216 rfl ?_
            refine jj_getf (pc := 217) kRO_smith_d217 (kfRO_w hG) (hO.ff hF102).1 rfl ?_
            refine jj_iload (pc := 220) kRO_smith_d220 rfl ?_
            refine jj_callV (pc := 222) (b := w) (As := [.int (nI (px))]) kRO_smith_d222 (kvRO_RW_size hG) (kG_cl hG rfl) rfl hw103 rfl rfl rfl (Nat.le_of_ble_eq_true rfl) (Nat.le_of_ble_eq_true rfl) (jj_bare0 rfl) ?_
            refine ri_size (a := s) hG hS102 a3_102 sx (by omega) (fun M104 D104 T104 p104 rc104 rs104 hS104 t104 u104 ho104 hf104 hI104 => ?_)
            show jj G kRO_smith (d + 14) Q rc104 rs104 225 [some (.ref o), some (.int (nI (b))), some (.int (nI (T))), some (.int (nI (t))), some (.int (nI (t))), some (.int (nI (0))), some (.int (nI (n))), some (.int (nI (kk))), some (.int (nI (i))), some (.int (nI (j))), some (.int (nI (px))), some (.int (nI (py))), some (.int (nI (p102))), (o13), (o14), (o15), (o16), (o17)] [.int (nI (p104)), .ref w, .ref w, .ref w] M104
            have hC104 := hC102.rf hf104
            have hF104 := hF102.trans (FF.ofRF hC102 hf104)
            have a3_104 := a3_102.congr t104 ho104
            have b3_104 := b3_102.congr t104 ho104
            have hrg_104 := hrg.congr t104 ho104
            obtain ⟨hW105, hB105, hTD105, hz105, hp105⟩ := id hS104
            obtain ⟨dd105, hw105, hd105⟩ := id hW105
            have hcap105 := hB105.cap
            refine jj_iload (pc := 225) kRO_smith_d225 rfl ?_
            refine jj_callV (pc := 227) (b := w) (As := [.int (nI (p104)), .int (nI (p102))]) kRO_smith_d227 (kvRO_RW_divide hG) (kG_cl hG rfl) rfl hw105 rfl rfl rfl (Nat.le_of_ble_eq_true rfl) (Nat.le_of_ble_eq_true rfl) (jj_bare0 rfl) ?_
            refine ri_divide (a := s) (b := s) hG hS104 hI104 hrg_104 hgp sxa bg' (by omega) (fun M106 D106 T106 p106 s106 rc106 rs106 hS106 t106 u106 ho106 hf106 hI106 hJ106 => ?_)
            show jj G kRO_smith (d + 14) Q rc106 rs106 230 [some (.ref o), some (.int (nI (b))), some (.int (nI (T))), some (.int (nI (t))), some (.int (nI (t))), some (.int (nI (0))), some (.int (nI (n))), some (.int (nI (kk))), some (.int (nI (i))), some (.int (nI (j))), some (.int (nI (px))), some (.int (nI (py))), some (.int (nI (p102))), (o13), (o14), (o15), (o16), (o17)] [.int (nI (p106)), .ref w, .ref w] M106
            have hC106 := hC104.rf hf106
            have hF106 := hF104.trans (FF.ofRF hC104 hf106)
            have a3_106 := a3_104.congr t106.1 ho106
            have b3_106 := b3_104.congr t106.1 ho106
            have hrg_106 := hrg_104.congr t106.1 ho106
            have hI104_106 := hI104.congr t106.1 ho106
            obtain ⟨hW107, hB107, hTD107, hz107, hp107⟩ := id hS106
            obtain ⟨dd107, hw107, hd107⟩ := id hW107
            have hcap107 := hB107.cap
            refine jj_iload (pc := 230) kRO_smith_d230 rfl ?_
            refine jj_callV (pc := 232) (b := w) (As := [.int (nI (p106)), .int (nI (py))]) kRO_smith_d232 (kvRO_RW_multiply hG) (kG_cl hG rfl) rfl hw107 rfl rfl rfl (Nat.le_of_ble_eq_true rfl) (Nat.le_of_ble_eq_true rfl) (jj_bare0 rfl) ?_
            refine rs_multiply (a := s) (b := s) hG hS106 hI106 b3_106 bq sy (by omega) (fun M108 D108 T108 p108 rc108 rs108 hS108 t108 u108 ho108 hf108 hI108 => ?_)
            show jj G kRO_smith (d + 14) Q rc108 rs108 235 [some (.ref o), some (.int (nI (b))), some (.int (nI (T))), some (.int (nI (t))), some (.int (nI (t))), some (.int (nI (0))), some (.int (nI (n))), some (.int (nI (kk))), some (.int (nI (i))), some (.int (nI (j))), some (.int (nI (px))), some (.int (nI (py))), some (.int (nI (p102))), (o13), (o14), (o15), (o16), (o17)] [.int (nI (p108)), .ref w] M108
            have hC108 := hC106.rf hf108
            have hF108 := hF106.trans (FF.ofRF hC106 hf108)
            have a3_108 := a3_106.congr t108.1 ho108
            have b3_108 := b3_106.congr t108.1 ho108
            have hrg_108 := hrg_106.congr t108.1 ho108
            have hI104_108 := hI104_106.congr t108.1 ho108
            have hI106_108 := hI106.congr t108.1 ho108
            have hJ106_108 := hJ106.congr t108.1 ho108
            obtain ⟨hW109, hB109, hTD109, hz109, hp109⟩ := id hS108
            obtain ⟨dd109, hw109, hd109⟩ := id hW109
            have hcap109 := hB109.cap
            refine jj_callV (pc := 235) (b := w) (As := [.int (nI (p108))]) kRO_smith_d235 (kvRO_RW_size hG) (kG_cl hG rfl) rfl hw109 rfl rfl rfl (Nat.le_of_ble_eq_true rfl) (Nat.le_of_ble_eq_true rfl) (jj_bare0 rfl) ?_
            refine ri_size (a := s + s) hG hS108 hI108 bp (by omega) (fun M110 D110 T110 p110 rc110 rs110 hS110 t110 u110 ho110 hf110 hI110 => ?_)
            show jj G kRO_smith (d + 14) Q rc110 rs110 238 [some (.ref o), some (.int (nI (b))), some (.int (nI (T))), some (.int (nI (t))), some (.int (nI (t))), some (.int (nI (0))), some (.int (nI (n))), some (.int (nI (kk))), some (.int (nI (i))), some (.int (nI (j))), some (.int (nI (px))), some (.int (nI (py))), some (.int (nI (p102))), (o13), (o14), (o15), (o16), (o17)] [.int (nI (p110))] M110
            have hC110 := hC108.rf hf110
            have hF110 := hF108.trans (FF.ofRF hC108 hf110)
            have a3_110 := a3_108.congr t110 ho110
            have b3_110 := b3_108.congr t110 ho110
            have hrg_110 := hrg_108.congr t110 ho110
            have hI104_110 := hI104_108.congr t110 ho110
            have hI106_110 := hI106_108.congr t110 ho110
            have hJ106_110 := hJ106_108.congr t110 ho110
            have hI108_110 := hI108.congr t110 ho110
            obtain ⟨hW111, hB111, hTD111, hz111, hp111⟩ := id hS110
            obtain ⟨dd111, hw111, hd111⟩ := id hW111
            have hcap111 := hB111.cap
            show jj G kRO_smith (d + 14) Q rc110 rs110 238 [some (.ref o), some (.int (nI (b))), some (.int (nI (T))), some (.int (nI (t))), some (.int (nI (t))), some (.int (nI (0))), some (.int (nI (n))), some (.int (nI (kk))), some (.int (nI (i))), some (.int (nI (j))), some (.int (nI (px))), some (.int (nI (py))), some (.int (nI (p102))), (o13), (o14), (o15), (o16), (o17)] [.int (nI (p110))] M110
            exact k238 p102 p110 _ _ _ _ _ M110 D110 T110 _ _ _ rc110 rs110 hF110 hC110 hS110 (by omega) (by omega) (fun i hi => by rw [ho110 i (by omega), ho108 i (by omega), ho106 i (by omega), ho104 i (by omega), ho102 i (by omega)]) (by rw [hzg]; exact hrg_110) (by rw [sml_of hg0, hzg]; exact hI110)
          · skip
            have hg0 : Int.gcd zx zy = 0 := by have h9 := hI102; rw [show p102 = 0 by omega] at h9; have := h9.z0 hz103 (by omega); omega
            have hl0 : sml zx zy = 0 := if_pos hg0
            refine jn_iconst (pc := 200) 0 kRO_smith_d200 (by decide) ?_
            refine jj_goto (pc := 201) (tgt := 238) kRO_smith_d201 (by decide) ?_
            show jj G kRO_smith (d + 14) Q rc102 rs102 238 [some (.ref o), some (.int (nI (b))), some (.int (nI (T))), some (.int (nI (t))), some (.int (nI (t))), some (.int (nI (0))), some (.int (nI (n))), some (.int (nI (kk))), some (.int (nI (i))), some (.int (nI (j))), some (.int (nI (px))), some (.int (nI (py))), some (.int (nI (p102))), (o13), (o14), (o15), (o16), (o17)] [.int (nI (0))] M102
            exact k238 p102 0 _ _ _ _ _ M102 D102 T102 _ _ _ rc102 rs102 hF102 hC102 hS102 (by omega) (by omega) (fun i hi => by rw [ho102 i (by omega)]) hI102 (by rw [hl0]; exact RI.zero hz103 (by omega))
      exact inner (kk - (i + 1)) (i + 1) (by omega) (by omega) _ _ _ _ _ _ _ _ B9 M9 vv D9 T9 V9 up9 low9 X9 Y9 v9 rc9 rs9 hJ9 hF9 hC9 hS9 hX9 t9 u9 ho9 hv9 hl9 hz9
  refine jj_aload_n (pc := 94) kRO_smith_d94 rfl ?_
  refine jj_getf (pc := 95) kRO_smith_d95 (kfRO_f hG) hO.1 rfl ?_
  refine jj_iload (pc := 98) kRO_smith_d98 rfl ?_
  refine jj_callV (pc := 100) (b := f) (As := [.int (nI (t))]) kRO_smith_d100 (kvRO_RF_columns hG) (kG_cl hG rfl) rfl hC.1 rfl rfl rfl (Nat.le_of_ble_eq_true rfl) (Nat.le_of_ble_eq_true rfl) (jj_bare0 rfl) ?_
  refine rf_columns hG hC (by omega) (by omega) ?_
  show jj G kRO_smith (d + 14) Q rc rs 103 [some (.ref o), some (.int (nI (b))), some (.int (nI (T))), some (.int (nI (t))), some (.int (nI (t))), some (.int (nI (0))), (o6), (o7), (o8), (o9), (o10), (o11), (o12), (o13), (o14), (o15), (o16), (o17)] [.int (V0.getD (t + 1) 0)] M
  refine jn_top (.int (nI (n))) (by rw [hz.2.2.1]) ?_
  refine jj_istore (pc := 103) kRO_smith_d103 (Nat.le_of_ble_eq_true rfl) ?_
  refine jj_aload_n (pc := 105) kRO_smith_d105 rfl ?_
  refine jj_getf (pc := 106) kRO_smith_d106 (kfRO_f hG) hO.1 rfl ?_
  refine jj_iload (pc := 109) kRO_smith_d109 rfl ?_
  refine jj_callV (pc := 111) (b := f) (As := [.int (nI (t))]) kRO_smith_d111 (kvRO_RF_rows hG) (kG_cl hG rfl) rfl hC.1 rfl rfl rfl (Nat.le_of_ble_eq_true rfl) (Nat.le_of_ble_eq_true rfl) (jj_bare0 rfl) ?_
  refine rf_rows hG hC (by omega) (by omega) ?_
  show jj G kRO_smith (d + 14) Q rc rs 114 [some (.ref o), some (.int (nI (b))), some (.int (nI (T))), some (.int (nI (t))), some (.int (nI (t))), some (.int (nI (0))), some (.int (nI (n))), (o7), (o8), (o9), (o10), (o11), (o12), (o13), (o14), (o15), (o16), (o17)] [.int (V0.getD t 0)] M
  refine jn_top (.int (nI (m))) (by rw [hz.2.1]) ?_
  refine jj_iload (pc := 114) kRO_smith_d114 rfl ?_
  refine jj_callS (pc := 116) (As := [.int (nI (m)), .int (nI (n))]) kRO_smith_d116 (kvRO_JM_min_1 hG) rfl rfl rfl (Nat.le_of_ble_eq_true rfl) (Nat.le_of_ble_eq_true rfl) (jj_bare0 rfl) ?_
  refine jm_min_1 ?_
  show jj G kRO_smith (d + 14) Q rc rs 119 [some (.ref o), some (.int (nI (b))), some (.int (nI (T))), some (.int (nI (t))), some (.int (nI (t))), some (.int (nI (0))), some (.int (nI (n))), (o7), (o8), (o9), (o10), (o11), (o12), (o13), (o14), (o15), (o16), (o17)] [.int (if nI (n) < nI (m) then nI (n) else nI (m))] M
  refine jn_top (.int (nI (kk))) (by rw [nI_min (by omega) (by omega), hkk]) ?_
  refine jj_istore (pc := 119) kRO_smith_d119 (Nat.le_of_ble_eq_true rfl) ?_
  refine jn_iconst (pc := 121) 0 kRO_smith_d121 (by decide) ?_
  refine jj_istore (pc := 122) kRO_smith_d122 (Nat.le_of_ble_eq_true rfl) ?_
  show jj G kRO_smith (d + 14) Q rc rs 124 [some (.ref o), some (.int (nI (b))), some (.int (nI (T))), some (.int (nI (t))), some (.int (nI (t))), some (.int (nI (0))), some (.int (nI (n))), some (.int (nI (kk))), some (.int (nI (0))), (o9), (o10), (o11), (o12), (o13), (o14), (o15), (o16), (o17)] [] M
  show jj G kRO_smith (d + 14) Q rc rs 124 [some (.ref o), some (.int (nI (b))), some (.int (nI (T))), some (.int (nI (t))), some (.int (nI (t))), some (.int (nI (0))), some (.int (nI (n))), some (.int (nI (kk))), some (.int (nI (0))), (o9), (o10), (o11), (o12), (o13), (o14), (o15), (o16), (o17)] [] M
  exact loop kk 0 (by omega) _ _ _ _ _ _ _ _ _ B0 M vv D0 T0 V0 up low X Z v2 rc rs hJ0 (FF.refl M f) hC hS hX hTT hT0 (fun _ _ => rfl) (fun _ _ => rfl) htV hz
end RO17
