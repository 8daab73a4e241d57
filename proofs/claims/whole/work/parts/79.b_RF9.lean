/-! ===== Fractions: part, beside, unit, sum (printed by wip/gen/rf9.py) ===== -/
theorem part_lt {k rows cols row col r c : Nat} (h : k < rows * cols) (h1 : row + rows ≤ r) (h2 : col + cols ≤ c) : (row + k / cols) * c + col + k % cols < r * c := by
  have hc : 0 < cols := Nat.pos_of_ne_zero (fun e => by rw [e, Nat.mul_zero] at h; omega)
  have h3 := Nat.mod_lt k hc
  have h4 : k / cols < rows := (Nat.div_lt_iff_lt_mul hc).mpr h
  have h5 : (row + k / cols + 1) * c ≤ r * c := Nat.mul_le_mul_right _ (by omega)
  rw [Nat.succ_mul] at h5
  omega
section RF9
variable {G : jg} {d : Nat} {Q : jq} {rc rs : Nat} {M : mheap} {f w vv pv : Nat} {v2 : Value} {D V P : List Int32} {t : Nat} {up low rk : Int32}
theorem rf_part {b row col rows cols r c lob T s S cm cv X Z X' Z' : Nat} {qb : Nat → Rat} (hG : kG G) (hC : FC M f w vv pv V t up low P rk) (hS : RS M w D T v2 cm X Z rc rs) (hX : FXB cv V X Z X' Z') (htV : t ≤ V.length) (h1 : RI D T 1 1) (hT3 : 3 ≤ T) (hb : MX D T V t b r c lob qb) (hrb : r < 1024) (hcb : c < 1024) (hqb : ∀ k, k < r * c → ZB s (qb k).num ∧ ZB s ((qb k).den : Int)) (hrow : row + rows ≤ r) (hcol : col + cols ≤ c) (hs : S = 2 * s + 2) (ht : t + 2 + 2 * (rows * cols) ≤ cv) (hT : T + rows * cols * S ≤ cm)
    (K : MKP Q M f w pv D V t P rk T cm cv X' Z' (rows) (cols) (T + rows * cols * S) (fun k => qb ((row + k / cols) * c + col + k % cols))) : jj G kRF_part (d + 5) Q rc rs 0 (jj_ent [.ref f, .int (nI (b)), .int (nI (row)), .int (nI (col)), .int (nI (rows)), .int (nI (cols))] 8) [] M := by
  have hcap := hX.cap
  have hcr : (rows) * (cols) = rows * cols := rfl
  unfold MKP at K
  rw [hcr] at K
  have hcapD := hS.2.1.cap
  obtain ⟨hb1, hb2, hb3, hb4⟩ := id hb
  show jj G kRF_part (d + 5) Q rc rs 0 [some (.ref f), some (.int (nI (b))), some (.int (nI (row))), some (.int (nI (col))), some (.int (nI (rows))), some (.int (nI (cols))), none, none] [] M
  refine jj_aload_n (pc := 0) kRF_part_d0 rfl ?_
  refine jj_iload (pc := 1) kRF_part_d1 rfl ?_
  refine jj_iload (pc := 3) kRF_part_d3 rfl ?_
  refine jj_callV (pc := 5) (b := f) (As := [.int (nI (rows)), .int (nI (cols))]) kRF_part_d5 (kvRF_RF_make hG) (kG_cl hG rfl) rfl hC.1 rfl rfl rfl (Nat.le_of_ble_eq_true rfl) (Nat.le_of_ble_eq_true rfl) (jj_bare0 rfl) ?_
  refine rf_make hG hC hS hX htV (by omega) (by omega) (by rw [hcr]; exact ht) (fun M1 vv V1 X1 Z1 rc1 rs1 hC1 hS1 hX1 hl1 hr1 hc1 ho1 hF1 => ?_)
  show jj G kRF_part (d + 5) Q rc1 rs1 8 [some (.ref f), some (.int (nI (b))), some (.int (nI (row))), some (.int (nI (col))), some (.int (nI (rows))), some (.int (nI (cols))), none, none] [.int (nI (t))] M1
  rw [hcr] at hC1 hl1
  have hcap1 := hX1.cap
  refine jj_istore (pc := 8) kRF_part_d8 (Nat.le_of_ble_eq_true rfl) ?_
  refine jn_iconst (pc := 10) 0 kRF_part_d10 (by decide) ?_
  refine jj_istore (pc := 11) kRF_part_d11 (Nat.le_of_ble_eq_true rfl) ?_
  show jj G kRF_part (d + 5) Q rc1 rs1 13 [some (.ref f), some (.int (nI (b))), some (.int (nI (row))), some (.int (nI (col))), some (.int (nI (rows))), some (.int (nI (cols))), some (.int (nI (t))), some (.int (nI (0)))] [] M1
  have loop : ∀ m k, rows * cols = k + m → ∀ (M9 : mheap) (D9 : List Int32) (T9 : Nat) (V9 : List Int32) (up9 low9 : Int32) (v9 : Value) (rc9 rs9 : Nat), FC M9 f w vv pv V9 (t + 2 + 2 * (rows * cols)) up9 low9 P rk → RS M9 w D9 T9 v9 cm X1 Z1 rc9 rs9 → T ≤ T9 → T9 ≤ T + k * S → (∀ i, i < T → D9.getD i 0 = D.getD i 0) → V9.length = V1.length → (∀ i, i < t → V9.getD i 0 = V.getD i 0) → V9.getD t 0 = nI (rows) → V9.getD (t + 1) 0 = nI (cols) → FF M M9 f → (∀ k', k' < k → MC D9 T9 V9 t T k' ((fun k => qb ((row + k / cols) * c + col + k % cols)) k')) → jj G kRF_part (d + 5) Q rc9 rs9 13 [some (.ref f), some (.int (nI (b))), some (.int (nI (row))), some (.int (nI (col))), some (.int (nI (rows))), some (.int (nI (cols))), some (.int (nI (t))), some (.int (nI (k)))] [] M9 := by
    intro m
    induction m with
    | zero =>
      intro k hk  M9 D9 T9 V9 up9 low9 v9 rc9 rs9 hC9 hS9 t9 u9 ho9 hlen9 hV9 hr9 hc9 hF9 hm9
      have e : rows * cols = k := by omega
      subst e
      refine jj_iload (pc := 13) kRF_part_d13 rfl ?_
      refine jj_iload (pc := 15) kRF_part_d15 rfl ?_
      refine jj_iload (pc := 17) kRF_part_d17 rfl ?_
      refine jn_imul (pc := 19) (rows * cols) kRF_part_d19 rfl ?_
      refine jn_icmp_ge (pc := 20) (tgt := 59) kRF_part_d20 (by decide) (by omega) (by omega) (fun _ => ?_) (fun c => by exfalso; omega)
      refine jj_iload (pc := 59) kRF_part_d59 rfl ?_
      exact jj_iret (pc := 61) kRF_part_d61 rfl (by rfl) (K M9 vv D9 T9 V9 up9 low9 X1 Z1 v9 rc9 rs9 hC9 hS9 (hX1.same hlen9) t9 u9 ho9 hV9 (by omega) hF9 ⟨by rw [hcr]; exact Nat.le_refl _, hr9, hc9, fun k' hk' => hm9 k' (by rw [hcr] at hk'; exact hk')⟩)
    | succ m ih =>
      intro k hk  M9 D9 T9 V9 up9 low9 v9 rc9 rs9 hC9 hS9 t9 u9 ho9 hlen9 hV9 hr9 hc9 hF9 hm9
      have hk1 : (k + 1) * S ≤ rows * cols * S := Nat.mul_le_mul_right _ (by omega)
      rw [Nat.succ_mul] at hk1
      have h19 := h1.congr t9 ho9
      refine jj_iload (pc := 13) kRF_part_d13 rfl ?_
      refine jj_iload (pc := 15) kRF_part_d15 rfl ?_
      refine jj_iload (pc := 17) kRF_part_d17 rfl ?_
      refine jn_imul (pc := 19) (rows * cols) kRF_part_d19 rfl ?_
      refine jn_icmp_ge (pc := 20) (tgt := 59) kRF_part_d20 (by decide) (by omega) (by omega) (fun c => by exfalso; omega) (fun _ => ?_)
      obtain ⟨ix, hix⟩ : ∃ ix, (row + k / cols) * c + col + k % cols = ix := ⟨_, rfl⟩
      have hil : ix < r * c := by rw [← hix]; exact part_lt (by omega) hrow hcol
      obtain ⟨hn1, hn2⟩ := hqb ix hil
      have hmc : MC D9 T9 V9 b lob ix (qb ix) := (hb4 ix hil).congr t9 ho9 (fun i _ h6 => hV9 i (by omega)) (Nat.le_refl _)
      have hb9' : V9.getD (b + 1) 0 = nI c := by rw [hV9 (b + 1) (by omega)]; exact hb3
      have hc0 : 0 < cols := Nat.pos_of_ne_zero (fun e => by rw [e, Nat.mul_zero] at hk; omega)
      refine jj_aload_n (pc := 23) kRF_part_d23 rfl ?_
      refine jj_iload (pc := 24) kRF_part_d24 rfl ?_
      refine jj_iload (pc := 26) kRF_part_d26 rfl ?_
      refine jj_iload_n (pc := 28) kRF_part_d28 rfl ?_
      refine jj_iload_n (pc := 29) kRF_part_d29 rfl ?_
      refine jj_iload (pc := 30) kRF_part_d30 rfl ?_
      refine jj_iload (pc := 32) kRF_part_d32 rfl ?_
      refine jn_idiv (pc := 34) (k / cols) kRF_part_d34 (by omega) (by omega) (by omega) rfl ?_
      refine jn_iadd (pc := 35) (row + k / cols) kRF_part_d35 (by omega) ?_
      refine jj_aload_n (pc := 36) kRF_part_d36 rfl ?_
      refine jj_iload_n (pc := 37) kRF_part_d37 rfl ?_
      refine jj_callV (pc := 38) (b := f) (As := [.int (nI (b))]) kRF_part_d38 (kvRF_RF_columns hG) (kG_cl hG rfl) rfl hC9.1 rfl rfl rfl (Nat.le_of_ble_eq_true rfl) (Nat.le_of_ble_eq_true rfl) (jj_bare0 rfl) ?_
      refine rf_columns hG hC9 (by omega) (by omega) ?_
      show jj G kRF_part (d + 5) Q rc9 rs9 41 [some (.ref f), some (.int (nI (b))), some (.int (nI (row))), some (.int (nI (col))), some (.int (nI (rows))), some (.int (nI (cols))), some (.int (nI (t))), some (.int (nI (k)))] [.int (V9.getD (b + 1) 0), .int (nI (row + k / cols)), .int (nI (b)), .int (nI (k)), .int (nI (t)), .ref f] M9
      refine jn_top (.int (nI (c))) (by rw [hb9']) ?_
      refine jn_imul (pc := 41) ((row + k / cols) * c) kRF_part_d41 rfl ?_
      refine jj_iload_n (pc := 42) kRF_part_d42 rfl ?_
      refine jn_iadd (pc := 43) ((row + k / cols) * c + col) kRF_part_d43 (by omega) ?_
      refine jj_iload (pc := 44) kRF_part_d44 rfl ?_
      refine jj_iload (pc := 46) kRF_part_d46 rfl ?_
      refine jn_irem (pc := 48) (k % cols) kRF_part_d48 (by omega) (by omega) (by omega) rfl ?_
      refine jn_iadd (pc := 49) (ix) kRF_part_d49 hix ?_
      refine jj_callV (pc := 50) (b := f) (As := [.int (nI (t)), .int (nI (k)), .int (nI (b)), .int (nI (ix))]) kRF_part_d50 (kvRF_RF_same hG) (kG_cl hG rfl) rfl hC9.1 rfl rfl rfl (Nat.le_of_ble_eq_true rfl) (Nat.le_of_ble_eq_true rfl) (jj_bare0 rfl) ?_
      refine rf_same (a := t) (i := k) (b := b) (j := ix) (c := s) hG hC9 hS9 h19 (by omega) (by omega) hmc (by omega) (by omega) hn1 hn2 (by omega) (fun M5 D5 T5 V5 up5 low5 rc5 rs5 hC5 hS5 t5 u5 ho5 hl5 hv5 hF5 hm5 => ?_)
      show jj G kRF_part (d + 5) Q rc5 rs5 53 [some (.ref f), some (.int (nI (b))), some (.int (nI (row))), some (.int (nI (col))), some (.int (nI (rows))), some (.int (nI (cols))), some (.int (nI (t))), some (.int (nI (k)))] [] M5
      rw [← hix] at hm5
      refine jn_iinc (pc := 53) (k + 1) kRF_part_d53 rfl (nI_1 _) ?_
      refine jj_goto (pc := 56) (tgt := 13) kRF_part_d56 (by decide) ?_
      show jj G kRF_part (d + 5) Q rc5 rs5 13 [some (.ref f), some (.int (nI (b))), some (.int (nI (row))), some (.int (nI (col))), some (.int (nI (rows))), some (.int (nI (cols))), some (.int (nI (t))), some (.int (nI (k + 1)))] [] M5
      refine ih (k + 1) (by omega)  M5 D5 T5 V5 _ _ v9 rc5 rs5 hC5 hS5 (by omega) (by rw [Nat.succ_mul]; omega) (fun i hi => by rw [ho5 i (by omega), ho9 i hi]) (by omega) (fun i hi => by rw [hv5 i (by omega), hV9 i hi]) (by rw [hv5 _ (by omega)]; exact hr9) (by rw [hv5 _ (by omega)]; exact hc9) (hF9.trans hF5) (fun k' hk' => ?_)
      by_cases e : k' = k
      · subst e
        exact hm5.congr (lo' := T) (Nat.le_refl _) (fun _ _ => rfl) (fun _ _ _ => rfl) t9
      · exact (hm9 k' (by omega)).congr t5 ho5 (fun i h6 h7 => hv5 i (by omega)) (Nat.le_refl _)
  exact loop (rows * cols) 0 (by omega)  M1 D T V1 up low v2 rc1 rs1 hC1 hS1 (Nat.le_refl _) (by omega) (fun _ _ => rfl) rfl ho1 hr1 hc1 hF1 (fun k' hk' => by omega)
theorem side_lt1 {k r cb n : Nat} (h : k < r * n) (h2 : k % n < cb) : k / n * cb + k % n < r * cb := by
  have hn : 0 < n := Nat.pos_of_ne_zero (fun e => by rw [e, Nat.mul_zero] at h; omega)
  have h4 : k / n < r := (Nat.div_lt_iff_lt_mul hn).mpr h
  have h5 : (k / n + 1) * cb ≤ r * cb := Nat.mul_le_mul_right _ h4
  rw [Nat.succ_mul] at h5
  omega
theorem side_lt2 {k r cb cc n : Nat} (h : k < r * n) (hn : n = cb + cc) (h2 : cb ≤ k % n) : k / n * cc + k % n - cb < r * cc := by
  have hn0 : 0 < n := Nat.pos_of_ne_zero (fun e => by rw [e, Nat.mul_zero] at h; omega)
  have h3 := Nat.mod_lt k hn0
  have h4 : k / n < r := (Nat.div_lt_iff_lt_mul hn0).mpr h
  have h5 : (k / n + 1) * cc ≤ r * cc := Nat.mul_le_mul_right _ h4
  rw [Nat.succ_mul] at h5
  omega
theorem rf_beside {b c r cb cc lob loc T s S cm cv X Z X' Z' : Nat} {qb qc : Nat → Rat} (hG : kG G) (hC : FC M f w vv pv V t up low P rk) (hS : RS M w D T v2 cm X Z rc rs) (hX : FXB cv V X Z X' Z') (htV : t ≤ V.length) (h1 : RI D T 1 1) (hT3 : 3 ≤ T) (hb : MX D T V t b r cb lob qb) (hrb : r < 1024) (hcb : cb < 1024) (hqb : ∀ k, k < r * cb → ZB s (qb k).num ∧ ZB s ((qb k).den : Int)) (hc : MX D T V t c r cc loc qc) (hrc : r < 1024) (hcc : cc < 1024) (hqc : ∀ k, k < r * cc → ZB s (qc k).num ∧ ZB s ((qc k).den : Int)) (hs : S = 2 * s + 2) (ht : t + 2 + 2 * (r * (cb + cc)) ≤ cv) (hT : T + r * (cb + cc) * S ≤ cm)
    (K : MKP Q M f w pv D V t P rk T cm cv X' Z' r (cb + cc) (T + r * (cb + cc) * S) (fun k => if k % (cb + cc) < cb then qb (k / (cb + cc) * cb + k % (cb + cc)) else qc (k / (cb + cc) * cc + k % (cb + cc) - cb))) : jj G kRF_beside (d + 5) Q rc rs 0 (jj_ent [.ref f, .int (nI (b)), .int (nI (c))] 8) [] M := by
  have hcap := hX.cap
  have hcr : r * (cb + cc) = r * (cb + cc) := rfl
  unfold MKP at K
  rw [hcr] at K
  have hcapD := hS.2.1.cap
  obtain ⟨hb1, hb2, hb3, hb4⟩ := id hb
  obtain ⟨hc1, hc2, hc3, hc4⟩ := id hc
  show jj G kRF_beside (d + 5) Q rc rs 0 [some (.ref f), some (.int (nI (b))), some (.int (nI (c))), none, none, none, none, none] [] M
  refine jj_aload_n (pc := 0) kRF_beside_d0 rfl ?_
  refine jj_iload_n (pc := 1) kRF_beside_d1 rfl ?_
  refine jj_callV (pc := 2) (b := f) (As := [.int (nI (b))]) kRF_beside_d2 (kvRF_RF_columns hG) (kG_cl hG rfl) rfl hC.1 rfl rfl rfl (Nat.le_of_ble_eq_true rfl) (Nat.le_of_ble_eq_true rfl) (jj_bare0 rfl) ?_
  refine rf_columns hG hC (by omega) (by omega) ?_
  show jj G kRF_beside (d + 5) Q rc rs 5 [some (.ref f), some (.int (nI (b))), some (.int (nI (c))), none, none, none, none, none] [.int (V.getD (b + 1) 0)] M
  refine jn_top (.int (nI (cb))) (by rw [hb3]) ?_
  refine jj_aload_n (pc := 5) kRF_beside_d5 rfl ?_
  refine jj_iload_n (pc := 6) kRF_beside_d6 rfl ?_
  refine jj_callV (pc := 7) (b := f) (As := [.int (nI (c))]) kRF_beside_d7 (kvRF_RF_columns hG) (kG_cl hG rfl) rfl hC.1 rfl rfl rfl (Nat.le_of_ble_eq_true rfl) (Nat.le_of_ble_eq_true rfl) (jj_bare0 rfl) ?_
  refine rf_columns hG hC (by omega) (by omega) ?_
  show jj G kRF_beside (d + 5) Q rc rs 10 [some (.ref f), some (.int (nI (b))), some (.int (nI (c))), none, none, none, none, none] [.int (V.getD (c + 1) 0), .int (nI (cb))] M
  refine jn_top (.int (nI (cc))) (by rw [hc3]) ?_
  refine jn_iadd (pc := 10) (cb + cc) kRF_beside_d10 (by omega) ?_
  obtain ⟨n, hn⟩ : ∃ n, cb + cc = n := ⟨_, rfl⟩
  rw [hn] at K hcr ht hT
  refine jn_top (.int (nI (n))) (by rw [hn]) ?_
  refine jj_istore_n (pc := 11) kRF_beside_d11 (Nat.le_of_ble_eq_true rfl) ?_
  refine jj_aload_n (pc := 12) kRF_beside_d12 rfl ?_
  refine jj_aload_n (pc := 13) kRF_beside_d13 rfl ?_
  refine jj_iload_n (pc := 14) kRF_beside_d14 rfl ?_
  refine jj_callV (pc := 15) (b := f) (As := [.int (nI (b))]) kRF_beside_d15 (kvRF_RF_rows hG) (kG_cl hG rfl) rfl hC.1 rfl rfl rfl (Nat.le_of_ble_eq_true rfl) (Nat.le_of_ble_eq_true rfl) (jj_bare0 rfl) ?_
  refine rf_rows hG hC (by omega) (by omega) ?_
  show jj G kRF_beside (d + 5) Q rc rs 18 [some (.ref f), some (.int (nI (b))), some (.int (nI (c))), some (.int (nI (n))), none, none, none, none] [.int (V.getD b 0), .ref f] M
  refine jn_top (.int (nI (r))) (by rw [hb2]) ?_
  refine jj_iload_n (pc := 18) kRF_beside_d18 rfl ?_
  refine jj_callV (pc := 19) (b := f) (As := [.int (nI (r)), .int (nI (n))]) kRF_beside_d19 (kvRF_RF_make hG) (kG_cl hG rfl) rfl hC.1 rfl rfl rfl (Nat.le_of_ble_eq_true rfl) (Nat.le_of_ble_eq_true rfl) (jj_bare0 rfl) ?_
  refine rf_make hG hC hS hX htV (by omega) (by omega) (by rw [hcr]; exact ht) (fun M1 vv V1 X1 Z1 rc1 rs1 hC1 hS1 hX1 hl1 hr1 hc1 ho1 hF1 => ?_)
  show jj G kRF_beside (d + 5) Q rc1 rs1 22 [some (.ref f), some (.int (nI (b))), some (.int (nI (c))), some (.int (nI (n))), none, none, none, none] [.int (nI (t))] M1
  rw [hcr] at hC1 hl1
  have hcap1 := hX1.cap
  refine jj_istore (pc := 22) kRF_beside_d22 (Nat.le_of_ble_eq_true rfl) ?_
  refine jn_iconst (pc := 24) 0 kRF_beside_d24 (by decide) ?_
  refine jj_istore (pc := 25) kRF_beside_d25 (Nat.le_of_ble_eq_true rfl) ?_
  show jj G kRF_beside (d + 5) Q rc1 rs1 27 [some (.ref f), some (.int (nI (b))), some (.int (nI (c))), some (.int (nI (n))), some (.int (nI (t))), some (.int (nI (0))), none, none] [] M1
  have loop : ∀ m k, r * n = k + m → ∀ (o6 o7 : Option Value) (M9 : mheap) (D9 : List Int32) (T9 : Nat) (V9 : List Int32) (up9 low9 : Int32) (v9 : Value) (rc9 rs9 : Nat), FC M9 f w vv pv V9 (t + 2 + 2 * (r * n)) up9 low9 P rk → RS M9 w D9 T9 v9 cm X1 Z1 rc9 rs9 → T ≤ T9 → T9 ≤ T + k * S → (∀ i, i < T → D9.getD i 0 = D.getD i 0) → V9.length = V1.length → (∀ i, i < t → V9.getD i 0 = V.getD i 0) → V9.getD t 0 = nI (r) → V9.getD (t + 1) 0 = nI (n) → FF M M9 f → (∀ k', k' < k → MC D9 T9 V9 t T k' ((fun k => if k % n < cb then qb (k / n * cb + k % n) else qc (k / n * cc + k % n - cb)) k')) → jj G kRF_beside (d + 5) Q rc9 rs9 27 [some (.ref f), some (.int (nI (b))), some (.int (nI (c))), some (.int (nI (n))), some (.int (nI (t))), some (.int (nI (k))), (o6), (o7)] [] M9 := by
    intro m
    induction m with
    | zero =>
      intro k hk o6 o7 M9 D9 T9 V9 up9 low9 v9 rc9 rs9 hC9 hS9 t9 u9 ho9 hlen9 hV9 hr9 hc9 hF9 hm9
      have e : r * n = k := by omega
      subst e
      refine jj_iload (pc := 27) kRF_beside_d27 rfl ?_
      refine jj_aload_n (pc := 29) kRF_beside_d29 rfl ?_
      refine jj_iload (pc := 30) kRF_beside_d30 rfl ?_
      refine jj_callV (pc := 32) (b := f) (As := [.int (nI (t))]) kRF_beside_d32 (kvRF_RF_cells hG) (kG_cl hG rfl) rfl hC9.1 rfl rfl rfl (Nat.le_of_ble_eq_true rfl) (Nat.le_of_ble_eq_true rfl) (jj_bare0 rfl) ?_
      refine rf_cells (r := r) (c := n) hG hC9 (by omega) (by omega) hr9 hc9 ?_
      show jj G kRF_beside (d + 5) Q rc9 rs9 35 [some (.ref f), some (.int (nI (b))), some (.int (nI (c))), some (.int (nI (n))), some (.int (nI (t))), some (.int (nI (r * n))), (o6), (o7)] [.int (nI (r * n)), .int (nI (r * n))] M9
      refine jn_icmp_ge (pc := 35) (tgt := 115) kRF_beside_d35 (by decide) (by omega) (by omega) (fun _ => ?_) (fun c => by exfalso; omega)
      refine jj_iload (pc := 115) kRF_beside_d115 rfl ?_
      exact jj_iret (pc := 117) kRF_beside_d117 rfl (by rfl) (K M9 vv D9 T9 V9 up9 low9 X1 Z1 v9 rc9 rs9 hC9 hS9 (hX1.same hlen9) t9 u9 ho9 hV9 (by omega) hF9 ⟨by rw [hcr]; exact Nat.le_refl _, hr9, hc9, fun k' hk' => hm9 k' (by rw [hcr] at hk'; exact hk')⟩)
    | succ m ih =>
      intro k hk o6 o7 M9 D9 T9 V9 up9 low9 v9 rc9 rs9 hC9 hS9 t9 u9 ho9 hlen9 hV9 hr9 hc9 hF9 hm9
      have hk1 : (k + 1) * S ≤ r * n * S := Nat.mul_le_mul_right _ (by omega)
      rw [Nat.succ_mul] at hk1
      have h19 := h1.congr t9 ho9
      refine jj_iload (pc := 27) kRF_beside_d27 rfl ?_
      refine jj_aload_n (pc := 29) kRF_beside_d29 rfl ?_
      refine jj_iload (pc := 30) kRF_beside_d30 rfl ?_
      refine jj_callV (pc := 32) (b := f) (As := [.int (nI (t))]) kRF_beside_d32 (kvRF_RF_cells hG) (kG_cl hG rfl) rfl hC9.1 rfl rfl rfl (Nat.le_of_ble_eq_true rfl) (Nat.le_of_ble_eq_true rfl) (jj_bare0 rfl) ?_
      refine rf_cells (r := r) (c := n) hG hC9 (by omega) (by omega) hr9 hc9 ?_
      show jj G kRF_beside (d + 5) Q rc9 rs9 35 [some (.ref f), some (.int (nI (b))), some (.int (nI (c))), some (.int (nI (n))), some (.int (nI (t))), some (.int (nI (k))), (o6), (o7)] [.int (nI (r * n)), .int (nI (k))] M9
      refine jn_icmp_ge (pc := 35) (tgt := 115) kRF_beside_d35 (by decide) (by omega) (by omega) (fun c => by exfalso; omega) (fun _ => ?_)
      have hn0 : 0 < n := Nat.pos_of_ne_zero (fun e => by rw [e, Nat.mul_zero] at hk; omega)
      have hkn : k < r * n := by omega
      obtain ⟨rr, hrr⟩ : ∃ rr, k / n = rr := ⟨_, rfl⟩
      obtain ⟨kk, hkk⟩ : ∃ kk, k % n = kk := ⟨_, rfl⟩
      have hkl := Nat.mod_lt k hn0
      rw [hkk] at hkl
      have hb9' : V9.getD (b + 1) 0 = nI cb := by rw [hV9 (b + 1) (by omega)]; exact hb3
      have hc9' : V9.getD (c + 1) 0 = nI cc := by rw [hV9 (c + 1) (by omega)]; exact hc3
      refine jj_iload (pc := 38) kRF_beside_d38 rfl ?_
      refine jj_iload_n (pc := 40) kRF_beside_d40 rfl ?_
      refine jn_idiv (pc := 41) (rr) kRF_beside_d41 (by omega) (by omega) (by omega) hrr ?_
      refine jj_istore (pc := 42) kRF_beside_d42 (Nat.le_of_ble_eq_true rfl) ?_
      refine jj_iload (pc := 44) kRF_beside_d44 rfl ?_
      refine jj_iload_n (pc := 46) kRF_beside_d46 rfl ?_
      refine jn_irem (pc := 47) (kk) kRF_beside_d47 (by omega) (by omega) (by omega) hkk ?_
      refine jj_istore (pc := 48) kRF_beside_d48 (Nat.le_of_ble_eq_true rfl) ?_
      refine jj_iload (pc := 50) kRF_beside_d50 rfl ?_
      refine jj_aload_n (pc := 52) kRF_beside_d52 rfl ?_
      refine jj_iload_n (pc := 53) kRF_beside_d53 rfl ?_
      refine jj_callV (pc := 54) (b := f) (As := [.int (nI (b))]) kRF_beside_d54 (kvRF_RF_columns hG) (kG_cl hG rfl) rfl hC9.1 rfl rfl rfl (Nat.le_of_ble_eq_true rfl) (Nat.le_of_ble_eq_true rfl) (jj_bare0 rfl) ?_
      refine rf_columns hG hC9 (by omega) (by omega) ?_
      show jj G kRF_beside (d + 5) Q rc9 rs9 57 [some (.ref f), some (.int (nI (b))), some (.int (nI (c))), some (.int (nI (n))), some (.int (nI (t))), some (.int (nI (k))), some (.int (nI (rr))), some (.int (nI (kk)))] [.int (V9.getD (b + 1) 0), .int (nI (kk))] M9
      refine jn_top (.int (nI (cb))) (by rw [hb9']) ?_
      refine jn_icmp_ge (pc := 57) (tgt := 83) kRF_beside_d57 (by decide) (by omega) (by omega) (fun c2 => ?_) (fun c2 => ?_)
      · skip
        obtain ⟨ix, hix⟩ : ∃ ix, k / n * cc + k % n - cb = ix := ⟨_, rfl⟩
        have hil : ix < r * cc := by rw [← hix]; exact side_lt2 hkn hn.symm (by rw [hkk]; exact c2)
        obtain ⟨hn1, hn2⟩ := hqc ix hil
        have hmc : MC D9 T9 V9 c loc ix (qc ix) := (hc4 ix hil).congr t9 ho9 (fun i _ h6 => hV9 i (by omega)) (Nat.le_refl _)
        rw [hrr, hkk] at hix
        refine jj_aload_n (pc := 83) kRF_beside_d83 rfl ?_
        refine jj_iload (pc := 84) kRF_beside_d84 rfl ?_
        refine jj_iload (pc := 86) kRF_beside_d86 rfl ?_
        refine jj_iload_n (pc := 88) kRF_beside_d88 rfl ?_
        refine jj_iload (pc := 89) kRF_beside_d89 rfl ?_
        refine jj_aload_n (pc := 91) kRF_beside_d91 rfl ?_
        refine jj_iload_n (pc := 92) kRF_beside_d92 rfl ?_
        refine jj_callV (pc := 93) (b := f) (As := [.int (nI (c))]) kRF_beside_d93 (kvRF_RF_columns hG) (kG_cl hG rfl) rfl hC9.1 rfl rfl rfl (Nat.le_of_ble_eq_true rfl) (Nat.le_of_ble_eq_true rfl) (jj_bare0 rfl) ?_
        refine rf_columns hG hC9 (by omega) (by omega) ?_
        show jj G kRF_beside (d + 5) Q rc9 rs9 96 [some (.ref f), some (.int (nI (b))), some (.int (nI (c))), some (.int (nI (n))), some (.int (nI (t))), some (.int (nI (k))), some (.int (nI (rr))), some (.int (nI (kk)))] [.int (V9.getD (c + 1) 0), .int (nI (rr)), .int (nI (c)), .int (nI (k)), .int (nI (t)), .ref f] M9
        refine jn_top (.int (nI (cc))) (by rw [hc9']) ?_
        refine jn_imul (pc := 96) (rr * cc) kRF_beside_d96 rfl ?_
        refine jj_iload (pc := 97) kRF_beside_d97 rfl ?_
        refine jn_iadd (pc := 99) (rr * cc + kk) kRF_beside_d99 (by omega) ?_
        refine jj_aload_n (pc := 100) kRF_beside_d100 rfl ?_
        refine jj_iload_n (pc := 101) kRF_beside_d101 rfl ?_
        refine jj_callV (pc := 102) (b := f) (As := [.int (nI (b))]) kRF_beside_d102 (kvRF_RF_columns hG) (kG_cl hG rfl) rfl hC9.1 rfl rfl rfl (Nat.le_of_ble_eq_true rfl) (Nat.le_of_ble_eq_true rfl) (jj_bare0 rfl) ?_
        refine rf_columns hG hC9 (by omega) (by omega) ?_
        show jj G kRF_beside (d + 5) Q rc9 rs9 105 [some (.ref f), some (.int (nI (b))), some (.int (nI (c))), some (.int (nI (n))), some (.int (nI (t))), some (.int (nI (k))), some (.int (nI (rr))), some (.int (nI (kk)))] [.int (V9.getD (b + 1) 0), .int (nI (rr * cc + kk)), .int (nI (c)), .int (nI (k)), .int (nI (t)), .ref f] M9
        refine jn_top (.int (nI (cb))) (by rw [hb9']) ?_
        refine jn_isub (pc := 105) (ix) kRF_beside_d105 (by omega) ?_
        refine jj_callV (pc := 106) (b := f) (As := [.int (nI (t)), .int (nI (k)), .int (nI (c)), .int (nI (ix))]) kRF_beside_d106 (kvRF_RF_same hG) (kG_cl hG rfl) rfl hC9.1 rfl rfl rfl (Nat.le_of_ble_eq_true rfl) (Nat.le_of_ble_eq_true rfl) (jj_bare0 rfl) ?_
        refine rf_same (a := t) (i := k) (b := c) (j := ix) (c := s) hG hC9 hS9 h19 (by omega) (by omega) hmc (by omega) (by omega) hn1 hn2 (by omega) (fun M5 D5 T5 V5 up5 low5 rc5 rs5 hC5 hS5 t5 u5 ho5 hl5 hv5 hF5 hm5 => ?_)
        show jj G kRF_beside (d + 5) Q rc5 rs5 109 [some (.ref f), some (.int (nI (b))), some (.int (nI (c))), some (.int (nI (n))), some (.int (nI (t))), some (.int (nI (k))), some (.int (nI (rr))), some (.int (nI (kk)))] [] M5
        have e9 : (if k % n < cb then qb (k / n * cb + k % n) else qc (k / n * cc + k % n - cb)) = qc ix := by rw [hrr, hkk, if_neg (by omega), hix]
        rw [← e9] at hm5
        refine jn_iinc (pc := 109) (k + 1) kRF_beside_d109 rfl (nI_1 _) ?_
        refine jj_goto (pc := 112) (tgt := 27) kRF_beside_d112 (by decide) ?_
        show jj G kRF_beside (d + 5) Q rc5 rs5 27 [some (.ref f), some (.int (nI (b))), some (.int (nI (c))), some (.int (nI (n))), some (.int (nI (t))), some (.int (nI (k + 1))), some (.int (nI (rr))), some (.int (nI (kk)))] [] M5
        refine ih (k + 1) (by omega) _ _ M5 D5 T5 V5 _ _ v9 rc5 rs5 hC5 hS5 (by omega) (by rw [Nat.succ_mul]; omega) (fun i hi => by rw [ho5 i (by omega), ho9 i hi]) (by omega) (fun i hi => by rw [hv5 i (by omega), hV9 i hi]) (by rw [hv5 _ (by omega)]; exact hr9) (by rw [hv5 _ (by omega)]; exact hc9) (hF9.trans hF5) (fun k' hk' => ?_)
        by_cases e : k' = k
        · subst e
          exact hm5.congr (lo' := T) (Nat.le_refl _) (fun _ _ => rfl) (fun _ _ _ => rfl) t9
        · exact (hm9 k' (by omega)).congr t5 ho5 (fun i h6 h7 => hv5 i (by omega)) (Nat.le_refl _)
      · skip
        obtain ⟨ix, hix⟩ : ∃ ix, k / n * cb + k % n = ix := ⟨_, rfl⟩
        have hil : ix < r * cb := by rw [← hix]; exact side_lt1 hkn (by rw [hkk]; exact c2)
        obtain ⟨hn1, hn2⟩ := hqb ix hil
        have hmc : MC D9 T9 V9 b lob ix (qb ix) := (hb4 ix hil).congr t9 ho9 (fun i _ h6 => hV9 i (by omega)) (Nat.le_refl _)
        rw [hrr, hkk] at hix
        refine jj_aload_n (pc := 60) kRF_beside_d60 rfl ?_
        refine jj_iload (pc := 61) kRF_beside_d61 rfl ?_
        refine jj_iload (pc := 63) kRF_beside_d63 rfl ?_
        refine jj_iload_n (pc := 65) kRF_beside_d65 rfl ?_
        refine jj_iload (pc := 66) kRF_beside_d66 rfl ?_
        refine jj_aload_n (pc := 68) kRF_beside_d68 rfl ?_
        refine jj_iload_n (pc := 69) kRF_beside_d69 rfl ?_
        refine jj_callV (pc := 70) (b := f) (As := [.int (nI (b))]) kRF_beside_d70 (kvRF_RF_columns hG) (kG_cl hG rfl) rfl hC9.1 rfl rfl rfl (Nat.le_of_ble_eq_true rfl) (Nat.le_of_ble_eq_true rfl) (jj_bare0 rfl) ?_
        refine rf_columns hG hC9 (by omega) (by omega) ?_
        show jj G kRF_beside (d + 5) Q rc9 rs9 73 [some (.ref f), some (.int (nI (b))), some (.int (nI (c))), some (.int (nI (n))), some (.int (nI (t))), some (.int (nI (k))), some (.int (nI (rr))), some (.int (nI (kk)))] [.int (V9.getD (b + 1) 0), .int (nI (rr)), .int (nI (b)), .int (nI (k)), .int (nI (t)), .ref f] M9
        refine jn_top (.int (nI (cb))) (by rw [hb9']) ?_
        refine jn_imul (pc := 73) (rr * cb) kRF_beside_d73 rfl ?_
        refine jj_iload (pc := 74) kRF_beside_d74 rfl ?_
        refine jn_iadd (pc := 76) (ix) kRF_beside_d76 hix ?_
        refine jj_callV (pc := 77) (b := f) (As := [.int (nI (t)), .int (nI (k)), .int (nI (b)), .int (nI (ix))]) kRF_beside_d77 (kvRF_RF_same hG) (kG_cl hG rfl) rfl hC9.1 rfl rfl rfl (Nat.le_of_ble_eq_true rfl) (Nat.le_of_ble_eq_true rfl) (jj_bare0 rfl) ?_
        refine rf_same (a := t) (i := k) (b := b) (j := ix) (c := s) hG hC9 hS9 h19 (by omega) (by omega) hmc (by omega) (by omega) hn1 hn2 (by omega) (fun M5 D5 T5 V5 up5 low5 rc5 rs5 hC5 hS5 t5 u5 ho5 hl5 hv5 hF5 hm5 => ?_)
        show jj G kRF_beside (d + 5) Q rc5 rs5 80 [some (.ref f), some (.int (nI (b))), some (.int (nI (c))), some (.int (nI (n))), some (.int (nI (t))), some (.int (nI (k))), some (.int (nI (rr))), some (.int (nI (kk)))] [] M5
        have e9 : (if k % n < cb then qb (k / n * cb + k % n) else qc (k / n * cc + k % n - cb)) = qb ix := by rw [hrr, hkk, if_pos c2, hix]
        rw [← e9] at hm5
        refine jj_goto (pc := 80) (tgt := 109) kRF_beside_d80 (by decide) ?_
        refine jn_iinc (pc := 109) (k + 1) kRF_beside_d109 rfl (nI_1 _) ?_
        refine jj_goto (pc := 112) (tgt := 27) kRF_beside_d112 (by decide) ?_
        show jj G kRF_beside (d + 5) Q rc5 rs5 27 [some (.ref f), some (.int (nI (b))), some (.int (nI (c))), some (.int (nI (n))), some (.int (nI (t))), some (.int (nI (k + 1))), some (.int (nI (rr))), some (.int (nI (kk)))] [] M5
        refine ih (k + 1) (by omega) _ _ M5 D5 T5 V5 _ _ v9 rc5 rs5 hC5 hS5 (by omega) (by rw [Nat.succ_mul]; omega) (fun i hi => by rw [ho5 i (by omega), ho9 i hi]) (by omega) (fun i hi => by rw [hv5 i (by omega), hV9 i hi]) (by rw [hv5 _ (by omega)]; exact hr9) (by rw [hv5 _ (by omega)]; exact hc9) (hF9.trans hF5) (fun k' hk' => ?_)
        by_cases e : k' = k
        · subst e
          exact hm5.congr (lo' := T) (Nat.le_refl _) (fun _ _ => rfl) (fun _ _ _ => rfl) t9
        · exact (hm9 k' (by omega)).congr t5 ho5 (fun i h6 h7 => hv5 i (by omega)) (Nat.le_refl _)
  exact loop (r * n) 0 (by omega) none none M1 D T V1 up low v2 rc1 rs1 hC1 hS1 (Nat.le_refl _) (by omega) (fun _ _ => rfl) rfl ho1 hr1 hc1 hF1 (fun k' hk' => by omega)
end RF9
