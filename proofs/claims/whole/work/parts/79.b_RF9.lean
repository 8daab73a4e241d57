/-! ===== Fractions: part, beside, unit, sum (printed by wip/gen/rf9.py) ===== -/
theorem part_lt {k rows cols row col r c : Nat} (h : k < rows * cols) (h1 : row + rows ≤ r) (h2 : col + cols ≤ c) : (row + k / cols) * c + col + k % cols < r * c := by
  have hc : 0 < cols := Nat.pos_of_ne_zero (fun e => by rw [e, Nat.mul_zero] at h; omega)
  have h3 := Nat.mod_lt k hc
  have h4 : k / cols < rows := (Nat.div_lt_iff_lt_mul hc).mpr h
  have h5 : (row + k / cols + 1) * c ≤ r * c := Nat.mul_le_mul_right _ (by omega)
  rw [Nat.succ_mul] at h5
  omega
section RF9
variable {G : jg} {d : Nat} {Q : jq} {rc rs : Nat} {M : mheap} {f w vv pv : Nat} {v2 : Value} {D V P : List Int32} {t : Nat} {up low rk : Int32}
theorem rf_part {b row col rows cols r c lob T s S cm cv X Z X' Z' : Nat} {qb : Nat → Rat} (hG : kG G) (hC : FC M f w vv pv V t up low P rk) (hS : RS M w D T v2 cm X Z rc rs) (hX : FXB cv V X Z X' Z') (htV : t ≤ V.length) (h1 : RI D T 1 1) (hT3 : 3 ≤ T) (hb : MX D T V t b r c lob qb) (hrb : r < 1024) (hcb : c < 1024) (hqb : ∀ k, k < r * c → ZB s (qb k).num ∧ ZB s ((qb k).den : Int)) (hrow : row + rows ≤ r) (hcol : col + cols ≤ c) (hs : S = 2 * s + 2) (ht : t + 2 + 2 * (rows * cols) ≤ cv) (hT : T + rows * cols * S ≤ cm)
    (K : MKP Q M f w pv D V t P rk T cm cv X' Z' (rows) (cols) (T + rows * cols * S) (fun k => qb ((row + k / cols) * c + col + k % cols))) : jj G kRF_part (d + 5) Q rc rs 0 (jj_ent [.ref f, .int (nI (b)), .int (nI (row)), .int (nI (col)), .int (nI (rows)), .int (nI (cols))] 8) [] M := by
  have hcap := hX.cap
  have hcr : (rows) * (cols) = rows * cols := rfl
  unfold MKP at K
  rw [hcr] at K
  have hcapD := hS.2.1.cap
  obtain ⟨hb1, hb2, hb3, hb4⟩ := id hb
  show jj G kRF_part (d + 5) Q rc rs 0 [some (.ref f), some (.int (nI (b))), some (.int (nI (row))), some (.int (nI (col))), some (.int (nI (rows))), some (.int (nI (cols))), none, none] [] M
  refine jj_aload_n (pc := 0) kRF_part_d0 rfl ?_
  refine jj_iload (pc := 1) kRF_part_d1 rfl ?_
  refine jj_iload (pc := 3) kRF_part_d3 rfl ?_
  refine jj_callV (pc := 5) (b := f) (As := [.int (nI (rows)), .int (nI (cols))]) kRF_part_d5 (kvRF_RF_make hG) (kG_cl hG rfl) rfl hC.1 rfl rfl rfl (Nat.le_of_ble_eq_true rfl) (Nat.le_of_ble_eq_true rfl) (jj_bare0 rfl) ?_
  refine rf_make hG hC hS hX htV (by omega) (by omega) (by rw [hcr]; exact ht) (fun M1 vv V1 X1 Z1 rc1 rs1 hC1 hS1 hX1 hl1 hr1 hc1 ho1 hF1 => ?_)
  show jj G kRF_part (d + 5) Q rc1 rs1 8 [some (.ref f), some (.int (nI (b))), some (.int (nI (row))), some (.int (nI (col))), some (.int (nI (rows))), some (.int (nI (cols))), none, none] [.int (nI (t))] M1
  rw [hcr] at hC1 hl1
  have hcap1 := hX1.cap
  refine jj_istore (pc := 8) kRF_part_d8 (Nat.le_of_ble_eq_true rfl) ?_
  refine jn_iconst (pc := 10) 0 kRF_part_d10 (by decide) ?_
  refine jj_istore (pc := 11) kRF_part_d11 (Nat.le_of_ble_eq_true rfl) ?_
  show jj G kRF_part (d + 5) Q rc1 rs1 13 [some (.ref f), some (.int (nI (b))), some (.int (nI (row))), some (.int (nI (col))), some (.int (nI (rows))), some (.int (nI (cols))), some (.int (nI (t))), some (.int (nI (0)))] [] M1
  have loop : ∀ m k, rows * cols = k + m → ∀ (M9 : mheap) (D9 : List Int32) (T9 : Nat) (V9 : List Int32) (up9 low9 : Int32) (v9 : Value) (rc9 rs9 : Nat), FC M9 f w vv pv V9 (t + 2 + 2 * (rows * cols)) up9 low9 P rk → RS M9 w D9 T9 v9 cm X1 Z1 rc9 rs9 → T ≤ T9 → T9 ≤ T + k * S → (∀ i, i < T → D9.getD i 0 = D.getD i 0) → V9.length = V1.length → (∀ i, i < t → V9.getD i 0 = V.getD i 0) → V9.getD t 0 = nI (rows) → V9.getD (t + 1) 0 = nI (cols) → FF M M9 f → (∀ k', k' < k → MC D9 T9 V9 t T k' ((fun k => qb ((row + k / cols) * c + col + k % cols)) k')) → jj G kRF_part (d + 5) Q rc9 rs9 13 [some (.ref f), some (.int (nI (b))), some (.int (nI (row))), some (.int (nI (col))), some (.int (nI (rows))), some (.int (nI (cols))), some (.int (nI (t))), some (.int (nI (k)))] [] M9 := by
    intro m
    induction m with
    | zero =>
      intro k hk  M9 D9 T9 V9 up9 low9 v9 rc9 rs9 hC9 hS9 t9 u9 ho9 hlen9 hV9 hr9 hc9 hF9 hm9
      have e : rows * cols = k := by omega
      subst e
      refine jj_iload (pc := 13) kRF_part_d13 rfl ?_
      refine jj_iload (pc := 15) kRF_part_d15 rfl ?_
      refine jj_iload (pc := 17) kRF_part_d17 rfl ?_
      refine jn_imul (pc := 19) (rows * cols) kRF_part_d19 rfl ?_
      refine jn_icmp_ge (pc := 20) (tgt := 59) kRF_part_d20 (by decide) (by omega) (by omega) (fun _ => ?_) (fun c => by exfalso; omega)
      refine jj_iload (pc := 59) kRF_part_d59 rfl ?_
      exact jj_iret (pc := 61) kRF_part_d61 rfl (by rfl) (K M9 vv D9 T9 V9 up9 low9 X1 Z1 v9 rc9 rs9 hC9 hS9 (hX1.same hlen9) t9 u9 ho9 hV9 (by omega) hF9 ⟨by rw [hcr]; exact Nat.le_refl _, hr9, hc9, fun k' hk' => hm9 k' (by rw [hcr] at hk'; exact hk')⟩)
    | succ m ih =>
      intro k hk  M9 D9 T9 V9 up9 low9 v9 rc9 rs9 hC9 hS9 t9 u9 ho9 hlen9 hV9 hr9 hc9 hF9 hm9
      have hk1 : (k + 1) * S ≤ rows * cols * S := Nat.mul_le_mul_right _ (by omega)
      rw [Nat.succ_mul] at hk1
      have h19 := h1.congr t9 ho9
      refine jj_iload (pc := 13) kRF_part_d13 rfl ?_
      refine jj_iload (pc := 15) kRF_part_d15 rfl ?_
      refine jj_iload (pc := 17) kRF_part_d17 rfl ?_
      refine jn_imul (pc := 19) (rows * cols) kRF_part_d19 rfl ?_
      refine jn_icmp_ge (pc := 20) (tgt := 59) kRF_part_d20 (by decide) (by omega) (by omega) (fun c => by exfalso; omega) (fun _ => ?_)
      obtain ⟨ix, hix⟩ : ∃ ix, (row + k / cols) * c + col + k % cols = ix := ⟨_, rfl⟩
      have hil : ix < r * c := by rw [← hix]; exact part_lt (by omega) hrow hcol
      obtain ⟨hn1, hn2⟩ := hqb ix hil
      have hmc : MC D9 T9 V9 b lob ix (qb ix) := (hb4 ix hil).congr t9 ho9 (fun i _ h6 => hV9 i (by omega)) (Nat.le_refl _)
      have hb9' : V9.getD (b + 1) 0 = nI c := by rw [hV9 (b + 1) (by omega)]; exact hb3
      have hc0 : 0 < cols := Nat.pos_of_ne_zero (fun e => by rw [e, Nat.mul_zero] at hk; omega)
      refine jj_aload_n (pc := 23) kRF_part_d23 rfl ?_
      refine jj_iload (pc := 24) kRF_part_d24 rfl ?_
      refine jj_iload (pc := 26) kRF_part_d26 rfl ?_
      refine jj_iload_n (pc := 28) kRF_part_d28 rfl ?_
      refine jj_iload_n (pc := 29) kRF_part_d29 rfl ?_
      refine jj_iload (pc := 30) kRF_part_d30 rfl ?_
      refine jj_iload (pc := 32) kRF_part_d32 rfl ?_
      refine jn_idiv (pc := 34) (k / cols) kRF_part_d34 (by omega) (by omega) (by omega) rfl ?_
      refine jn_iadd (pc := 35) (row + k / cols) kRF_part_d35 (by omega) ?_
      refine jj_aload_n (pc := 36) kRF_part_d36 rfl ?_
      refine jj_iload_n (pc := 37) kRF_part_d37 rfl ?_
      refine jj_callV (pc := 38) (b := f) (As := [.int (nI (b))]) kRF_part_d38 (kvRF_RF_columns hG) (kG_cl hG rfl) rfl hC9.1 rfl rfl rfl (Nat.le_of_ble_eq_true rfl) (Nat.le_of_ble_eq_true rfl) (jj_bare0 rfl) ?_
      refine rf_columns hG hC9 (by omega) (by omega) ?_
      show jj G kRF_part (d + 5) Q rc9 rs9 41 [some (.ref f), some (.int (nI (b))), some (.int (nI (row))), some (.int (nI (col))), some (.int (nI (rows))), some (.int (nI (cols))), some (.int (nI (t))), some (.int (nI (k)))] [.int (V9.getD (b + 1) 0), .int (nI (row + k / cols)), .int (nI (b)), .int (nI (k)), .int (nI (t)), .ref f] M9
      refine jn_top (.int (nI (c))) (by rw [hb9']) ?_
      refine jn_imul (pc := 41) ((row + k / cols) * c) kRF_part_d41 rfl ?_
      refine jj_iload_n (pc := 42) kRF_part_d42 rfl ?_
      refine jn_iadd (pc := 43) ((row + k / cols) * c + col) kRF_part_d43 (by omega) ?_
      refine jj_iload (pc := 44) kRF_part_d44 rfl ?_
      refine jj_iload (pc := 46) kRF_part_d46 rfl ?_
      refine jn_irem (pc := 48) (k % cols) kRF_part_d48 (by omega) (by omega) (by omega) rfl ?_
      refine jn_iadd (pc := 49) (ix) kRF_part_d49 hix ?_
      refine jj_callV (pc := 50) (b := f) (As := [.int (nI (t)), .int (nI (k)), .int (nI (b)), .int (nI (ix))]) kRF_part_d50 (kvRF_RF_same hG) (kG_cl hG rfl) rfl hC9.1 rfl rfl rfl (Nat.le_of_ble_eq_true rfl) (Nat.le_of_ble_eq_true rfl) (jj_bare0 rfl) ?_
      refine rf_same (a := t) (i := k) (b := b) (j := ix) (c := s) hG hC9 hS9 h19 (by omega) (by omega) hmc (by omega) (by omega) hn1 hn2 (by omega) (fun M5 D5 T5 V5 up5 low5 rc5 rs5 hC5 hS5 t5 u5 ho5 hl5 hv5 hF5 hm5 => ?_)
      show jj G kRF_part (d + 5) Q rc5 rs5 53 [some (.ref f), some (.int (nI (b))), some (.int (nI (row))), some (.int (nI (col))), some (.int (nI (rows))), some (.int (nI (cols))), some (.int (nI (t))), some (.int (nI (k)))] [] M5
      rw [← hix] at hm5
      refine jn_iinc (pc := 53) (k + 1) kRF_part_d53 rfl (nI_1 _) ?_
      refine jj_goto (pc := 56) (tgt := 13) kRF_part_d56 (by decide) ?_
      show jj G kRF_part (d + 5) Q rc5 rs5 13 [some (.ref f), some (.int (nI (b))), some (.int (nI (row))), some (.int (nI (col))), some (.int (nI (rows))), some (.int (nI (cols))), some (.int (nI (t))), some (.int (nI (k + 1)))] [] M5
      refine ih (k + 1) (by omega)  M5 D5 T5 V5 _ _ v9 rc5 rs5 hC5 hS5 (by omega) (by rw [Nat.succ_mul]; omega) (fun i hi => by rw [ho5 i (by omega), ho9 i hi]) (by omega) (fun i hi => by rw [hv5 i (by omega), hV9 i hi]) (by rw [hv5 _ (by omega)]; exact hr9) (by rw [hv5 _ (by omega)]; exact hc9) (hF9.trans hF5) (fun k' hk' => ?_)
      by_cases e : k' = k
      · subst e
        exact hm5.congr (lo' := T) (Nat.le_refl _) (fun _ _ => rfl) (fun _ _ _ => rfl) t9
      · exact (hm9 k' (by omega)).congr t5 ho5 (fun i h6 h7 => hv5 i (by omega)) (Nat.le_refl _)
  exact loop (rows * cols) 0 (by omega)  M1 D T V1 up low v2 rc1 rs1 hC1 hS1 (Nat.le_refl _) (by omega) (fun _ _ => rfl) rfl ho1 hr1 hc1 hF1 (fun k' hk' => by omega)
theorem side_lt1 {k r cb n : Nat} (h : k < r * n) (h2 : k % n < cb) : k / n * cb + k % n < r * cb := by
  have hn : 0 < n := Nat.pos_of_ne_zero (fun e => by rw [e, Nat.mul_zero] at h; omega)
  have h4 : k / n < r := (Nat.div_lt_iff_lt_mul hn).mpr h
  have h5 : (k / n + 1) * cb ≤ r * cb := Nat.mul_le_mul_right _ h4
  rw [Nat.succ_mul] at h5
  omega
theorem side_lt2 {k r cb cc n : Nat} (h : k < r * n) (hn : n = cb + cc) (h2 : cb ≤ k % n) : k / n * cc + k % n - cb < r * cc := by
  have hn0 : 0 < n := Nat.pos_of_ne_zero (fun e => by rw [e, Nat.mul_zero] at h; omega)
  have h3 := Nat.mod_lt k hn0
  have h4 : k / n < r := (Nat.div_lt_iff_lt_mul hn0).mpr h
  have h5 : (k / n + 1) * cc ≤ r * cc := Nat.mul_le_mul_right _ h4
  rw [Nat.succ_mul] at h5
  omega
theorem rf_beside {b c r cb cc lob loc T s S cm cv X Z X' Z' : Nat} {qb qc : Nat → Rat} (hG : kG G) (hC : FC M f w vv pv V t up low P rk) (hS : RS M w D T v2 cm X Z rc rs) (hX : FXB cv V X Z X' Z') (htV : t ≤ V.length) (h1 : RI D T 1 1) (hT3 : 3 ≤ T) (hb : MX D T V t b r cb lob qb) (hrb : r < 1024) (hcb : cb < 1024) (hqb : ∀ k, k < r * cb → ZB s (qb k).num ∧ ZB s ((qb k).den : Int)) (hc : MX D T V t c r cc loc qc) (hrc : r < 1024) (hcc : cc < 1024) (hqc : ∀ k, k < r * cc → ZB s (qc k).num ∧ ZB s ((qc k).den : Int)) (hs : S = 2 * s + 2) (ht : t + 2 + 2 * (r * (cb + cc)) ≤ cv) (hT : T + r * (cb + cc) * S ≤ cm)
    (K : MKP Q M f w pv D V t P rk T cm cv X' Z' r (cb + cc) (T + r * (cb + cc) * S) (fun k => if k % (cb + cc) < cb then qb (k / (cb + cc) * cb + k % (cb + cc)) else qc (k / (cb + cc) * cc + k % (cb + cc) - cb))) : jj G kRF_beside (d + 5) Q rc rs 0 (jj_ent [.ref f, .int (nI (b)), .int (nI (c))] 8) [] M := by
  have hcap := hX.cap
  have hcr : r * (cb + cc) = r * (cb + cc) := rfl
  unfold MKP at K
  rw [hcr] at K
  have hcapD := hS.2.1.cap
  obtain ⟨hb1, hb2, hb3, hb4⟩ := id hb
  obtain ⟨hc1, hc2, hc3, hc4⟩ := id hc
  show jj G kRF_beside (d + 5) Q rc rs 0 [some (.ref f), some (.int (nI (b))), some (.int (nI (c))), none, none, none, none, none] [] M
  refine jj_aload_n (pc := 0) kRF_beside_d0 rfl ?_
  refine jj_iload_n (pc := 1) kRF_beside_d1 rfl ?_
  refine jj_callV (pc := 2) (b := f) (As := [.int (nI (b))]) kRF_beside_d2 (kvRF_RF_columns hG) (kG_cl hG rfl) rfl hC.1 rfl rfl rfl (Nat.le_of_ble_eq_true rfl) (Nat.le_of_ble_eq_true rfl) (jj_bare0 rfl) ?_
  refine rf_columns hG hC (by omega) (by omega) ?_
  show jj G kRF_beside (d + 5) Q rc rs 5 [some (.ref f), some (.int (nI (b))), some (.int (nI (c))), none, none, none, none, none] [.int (V.getD (b + 1) 0)] M
  refine jn_top (.int (nI (cb))) (by rw [hb3]) ?_
  refine jj_aload_n (pc := 5) kRF_beside_d5 rfl ?_
  refine jj_iload_n (pc := 6) kRF_beside_d6 rfl ?_
  refine jj_callV (pc := 7) (b := f) (As := [.int (nI (c))]) kRF_beside_d7 (kvRF_RF_columns hG) (kG_cl hG rfl) rfl hC.1 rfl rfl rfl (Nat.le_of_ble_eq_true rfl) (Nat.le_of_ble_eq_true rfl) (jj_bare0 rfl) ?_
  refine rf_columns hG hC (by omega) (by omega) ?_
  show jj G kRF_beside (d + 5) Q rc rs 10 [some (.ref f), some (.int (nI (b))), some (.int (nI (c))), none, none, none, none, none] [.int (V.getD (c + 1) 0), .int (nI (cb))] M
  refine jn_top (.int (nI (cc))) (by rw [hc3]) ?_
  refine jn_iadd (pc := 10) (cb + cc) kRF_beside_d10 (by omega) ?_
  obtain ⟨n, hn⟩ : ∃ n, cb + cc = n := ⟨_, rfl⟩
  rw [hn] at K hcr ht hT
  refine jn_top (.int (nI (n))) (by rw [hn]) ?_
  refine jj_istore_n (pc := 11) kRF_beside_d11 (Nat.le_of_ble_eq_true rfl) ?_
  refine jj_aload_n (pc := 12) kRF_beside_d12 rfl ?_
  refine jj_aload_n (pc := 13) kRF_beside_d13 rfl ?_
  refine jj_iload_n (pc := 14) kRF_beside_d14 rfl ?_
  refine jj_callV (pc := 15) (b := f) (As := [.int (nI (b))]) kRF_beside_d15 (kvRF_RF_rows hG) (kG_cl hG rfl) rfl hC.1 rfl rfl rfl (Nat.le_of_ble_eq_true rfl) (Nat.le_of_ble_eq_true rfl) (jj_bare0 rfl) ?_
  refine rf_rows hG hC (by omega) (by omega) ?_
  show jj G kRF_beside (d + 5) Q rc rs 18 [some (.ref f), some (.int (nI (b))), some (.int (nI (c))), some (.int (nI (n))), none, none, none, none] [.int (V.getD b 0), .ref f] M
  refine jn_top (.int (nI (r))) (by rw [hb2]) ?_
  refine jj_iload_n (pc := 18) kRF_beside_d18 rfl ?_
  refine jj_callV (pc := 19) (b := f) (As := [.int (nI (r)), .int (nI (n))]) kRF_beside_d19 (kvRF_RF_make hG) (kG_cl hG rfl) rfl hC.1 rfl rfl rfl (Nat.le_of_ble_eq_true rfl) (Nat.le_of_ble_eq_true rfl) (jj_bare0 rfl) ?_
  refine rf_make hG hC hS hX htV (by omega) (by omega) (by rw [hcr]; exact ht) (fun M1 vv V1 X1 Z1 rc1 rs1 hC1 hS1 hX1 hl1 hr1 hc1 ho1 hF1 => ?_)
  show jj G kRF_beside (d + 5) Q rc1 rs1 22 [some (.ref f), some (.int (nI (b))), some (.int (nI (c))), some (.int (nI (n))), none, none, none, none] [.int (nI (t))] M1
  rw [hcr] at hC1 hl1
  have hcap1 := hX1.cap
  refine jj_istore (pc := 22) kRF_beside_d22 (Nat.le_of_ble_eq_true rfl) ?_
  refine jn_iconst (pc := 24) 0 kRF_beside_d24 (by decide) ?_
  refine jj_istore (pc := 25) kRF_beside_d25 (Nat.le_of_ble_eq_true rfl) ?_
  show jj G kRF_beside (d + 5) Q rc1 rs1 27 [some (.ref f), some (.int (nI (b))), some (.int (nI (c))), some (.int (nI (n))), some (.int (nI (t))), some (.int (nI (0))), none, none] [] M1
  have loop : ∀ m k, r * n = k + m → ∀ (o6 o7 : Option Value) (M9 : mheap) (D9 : List Int32) (T9 : Nat) (V9 : List Int32) (up9 low9 : Int32) (v9 : Value) (rc9 rs9 : Nat), FC M9 f w vv pv V9 (t + 2 + 2 * (r * n)) up9 low9 P rk → RS M9 w D9 T9 v9 cm X1 Z1 rc9 rs9 → T ≤ T9 → T9 ≤ T + k * S → (∀ i, i < T → D9.getD i 0 = D.getD i 0) → V9.length = V1.length → (∀ i, i < t → V9.getD i 0 = V.getD i 0) → V9.getD t 0 = nI (r) → V9.getD (t + 1) 0 = nI (n) → FF M M9 f → (∀ k', k' < k → MC D9 T9 V9 t T k' ((fun k => if k % n < cb then qb (k / n * cb + k % n) else qc (k / n * cc + k % n - cb)) k')) → jj G kRF_beside (d + 5) Q rc9 rs9 27 [some (.ref f), some (.int (nI (b))), some (.int (nI (c))), some (.int (nI (n))), some (.int (nI (t))), some (.int (nI (k))), (o6), (o7)] [] M9 := by
    intro m
    induction m with
    | zero =>
      intro k hk o6 o7 M9 D9 T9 V9 up9 low9 v9 rc9 rs9 hC9 hS9 t9 u9 ho9 hlen9 hV9 hr9 hc9 hF9 hm9
      have e : r * n = k := by omega
      subst e
      refine jj_iload (pc := 27) kRF_beside_d27 rfl ?_
      refine jj_aload_n (pc := 29) kRF_beside_d29 rfl ?_
      refine jj_iload (pc := 30) kRF_beside_d30 rfl ?_
      refine jj_callV (pc := 32) (b := f) (As := [.int (nI (t))]) kRF_beside_d32 (kvRF_RF_cells hG) (kG_cl hG rfl) rfl hC9.1 rfl rfl rfl (Nat.le_of_ble_eq_true rfl) (Nat.le_of_ble_eq_true rfl) (jj_bare0 rfl) ?_
      refine rf_cells (r := r) (c := n) hG hC9 (by omega) (by omega) hr9 hc9 ?_
      show jj G kRF_beside (d + 5) Q rc9 rs9 35 [some (.ref f), some (.int (nI (b))), some (.int (nI (c))), some (.int (nI (n))), some (.int (nI (t))), some (.int (nI (r * n))), (o6), (o7)] [.int (nI (r * n)), .int (nI (r * n))] M9
      refine jn_icmp_ge (pc := 35) (tgt := 115) kRF_beside_d35 (by decide) (by omega) (by omega) (fun _ => ?_) (fun c => by exfalso; omega)
      refine jj_iload (pc := 115) kRF_beside_d115 rfl ?_
      exact jj_iret (pc := 117) kRF_beside_d117 rfl (by rfl) (K M9 vv D9 T9 V9 up9 low9 X1 Z1 v9 rc9 rs9 hC9 hS9 (hX1.same hlen9) t9 u9 ho9 hV9 (by omega) hF9 ⟨by rw [hcr]; exact Nat.le_refl _, hr9, hc9, fun k' hk' => hm9 k' (by rw [hcr] at hk'; exact hk')⟩)
    | succ m ih =>
      intro k hk o6 o7 M9 D9 T9 V9 up9 low9 v9 rc9 rs9 hC9 hS9 t9 u9 ho9 hlen9 hV9 hr9 hc9 hF9 hm9
      have hk1 : (k + 1) * S ≤ r * n * S := Nat.mul_le_mul_right _ (by omega)
      rw [Nat.succ_mul] at hk1
      have h19 := h1.congr t9 ho9
      refine jj_iload (pc := 27) kRF_beside_d27 rfl ?_
      refine jj_aload_n (pc := 29) kRF_beside_d29 rfl ?_
      refine jj_iload (pc := 30) kRF_beside_d30 rfl ?_
      refine jj_callV (pc := 32) (b := f) (As := [.int (nI (t))]) kRF_beside_d32 (kvRF_RF_cells hG) (kG_cl hG rfl) rfl hC9.1 rfl rfl rfl (Nat.le_of_ble_eq_true rfl) (Nat.le_of_ble_eq_true rfl) (jj_bare0 rfl) ?_
      refine rf_cells (r := r) (c := n) hG hC9 (by omega) (by omega) hr9 hc9 ?_
      show jj G kRF_beside (d + 5) Q rc9 rs9 35 [some (.ref f), some (.int (nI (b))), some (.int (nI (c))), some (.int (nI (n))), some (.int (nI (t))), some (.int (nI (k))), (o6), (o7)] [.int (nI (r * n)), .int (nI (k))] M9
      refine jn_icmp_ge (pc := 35) (tgt := 115) kRF_beside_d35 (by decide) (by omega) (by omega) (fun c => by exfalso; omega) (fun _ => ?_)
      have hn0 : 0 < n := Nat.pos_of_ne_zero (fun e => by rw [e, Nat.mul_zero] at hk; omega)
      have hkn : k < r * n := by omega
      obtain ⟨rr, hrr⟩ : ∃ rr, k / n = rr := ⟨_, rfl⟩
      obtain ⟨kk, hkk⟩ : ∃ kk, k % n = kk := ⟨_, rfl⟩
      have hkl := Nat.mod_lt k hn0
      rw [hkk] at hkl
      have hb9' : V9.getD (b + 1) 0 = nI cb := by rw [hV9 (b + 1) (by omega)]; exact hb3
      have hc9' : V9.getD (c + 1) 0 = nI cc := by rw [hV9 (c + 1) (by omega)]; exact hc3
      refine jj_iload (pc := 38) kRF_beside_d38 rfl ?_
      refine jj_iload_n (pc := 40) kRF_beside_d40 rfl ?_
      refine jn_idiv (pc := 41) (rr) kRF_beside_d41 (by omega) (by omega) (by omega) hrr ?_
      refine jj_istore (pc := 42) kRF_beside_d42 (Nat.le_of_ble_eq_true rfl) ?_
      refine jj_iload (pc := 44) kRF_beside_d44 rfl ?_
      refine jj_iload_n (pc := 46) kRF_beside_d46 rfl ?_
      refine jn_irem (pc := 47) (kk) kRF_beside_d47 (by omega) (by omega) (by omega) hkk ?_
      refine jj_istore (pc := 48) kRF_beside_d48 (Nat.le_of_ble_eq_true rfl) ?_
      refine jj_iload (pc := 50) kRF_beside_d50 rfl ?_
      refine jj_aload_n (pc := 52) kRF_beside_d52 rfl ?_
      refine jj_iload_n (pc := 53) kRF_beside_d53 rfl ?_
      refine jj_callV (pc := 54) (b := f) (As := [.int (nI (b))]) kRF_beside_d54 (kvRF_RF_columns hG) (kG_cl hG rfl) rfl hC9.1 rfl rfl rfl (Nat.le_of_ble_eq_true rfl) (Nat.le_of_ble_eq_true rfl) (jj_bare0 rfl) ?_
      refine rf_columns hG hC9 (by omega) (by omega) ?_
      show jj G kRF_beside (d + 5) Q rc9 rs9 57 [some (.ref f), some (.int (nI (b))), some (.int (nI (c))), some (.int (nI (n))), some (.int (nI (t))), some (.int (nI (k))), some (.int (nI (rr))), some (.int (nI (kk)))] [.int (V9.getD (b + 1) 0), .int (nI (kk))] M9
      refine jn_top (.int (nI (cb))) (by rw [hb9']) ?_
      refine jn_icmp_ge (pc := 57) (tgt := 83) kRF_beside_d57 (by decide) (by omega) (by omega) (fun c2 => ?_) (fun c2 => ?_)
      · skip
        obtain ⟨ix, hix⟩ : ∃ ix, k / n * cc + k % n - cb = ix := ⟨_, rfl⟩
        have hil : ix < r * cc := by rw [← hix]; exact side_lt2 hkn hn.symm (by rw [hkk]; exact c2)
        obtain ⟨hn1, hn2⟩ := hqc ix hil
        have hmc : MC D9 T9 V9 c loc ix (qc ix) := (hc4 ix hil).congr t9 ho9 (fun i _ h6 => hV9 i (by omega)) (Nat.le_refl _)
        rw [hrr, hkk] at hix
        refine jj_aload_n (pc := 83) kRF_beside_d83 rfl ?_
        refine jj_iload (pc := 84) kRF_beside_d84 rfl ?_
        refine jj_iload (pc := 86) kRF_beside_d86 rfl ?_
        refine jj_iload_n (pc := 88) kRF_beside_d88 rfl ?_
        refine jj_iload (pc := 89) kRF_beside_d89 rfl ?_
        refine jj_aload_n (pc := 91) kRF_beside_d91 rfl ?_
        refine jj_iload_n (pc := 92) kRF_beside_d92 rfl ?_
        refine jj_callV (pc := 93) (b := f) (As := [.int (nI (c))]) kRF_beside_d93 (kvRF_RF_columns hG) (kG_cl hG rfl) rfl hC9.1 rfl rfl rfl (Nat.le_of_ble_eq_true rfl) (Nat.le_of_ble_eq_true rfl) (jj_bare0 rfl) ?_
        refine rf_columns hG hC9 (by omega) (by omega) ?_
        show jj G kRF_beside (d + 5) Q rc9 rs9 96 [some (.ref f), some (.int (nI (b))), some (.int (nI (c))), some (.int (nI (n))), some (.int (nI (t))), some (.int (nI (k))), some (.int (nI (rr))), some (.int (nI (kk)))] [.int (V9.getD (c + 1) 0), .int (nI (rr)), .int (nI (c)), .int (nI (k)), .int (nI (t)), .ref f] M9
        refine jn_top (.int (nI (cc))) (by rw [hc9']) ?_
        refine jn_imul (pc := 96) (rr * cc) kRF_beside_d96 rfl ?_
        refine jj_iload (pc := 97) kRF_beside_d97 rfl ?_
        refine jn_iadd (pc := 99) (rr * cc + kk) kRF_beside_d99 (by omega) ?_
        refine jj_aload_n (pc := 100) kRF_beside_d100 rfl ?_
        refine jj_iload_n (pc := 101) kRF_beside_d101 rfl ?_
        refine jj_callV (pc := 102) (b := f) (As := [.int (nI (b))]) kRF_beside_d102 (kvRF_RF_columns hG) (kG_cl hG rfl) rfl hC9.1 rfl rfl rfl (Nat.le_of_ble_eq_true rfl) (Nat.le_of_ble_eq_true rfl) (jj_bare0 rfl) ?_
        refine rf_columns hG hC9 (by omega) (by omega) ?_
        show jj G kRF_beside (d + 5) Q rc9 rs9 105 [some (.ref f), some (.int (nI (b))), some (.int (nI (c))), some (.int (nI (n))), some (.int (nI (t))), some (.int (nI (k))), some (.int (nI (rr))), some (.int (nI (kk)))] [.int (V9.getD (b + 1) 0), .int (nI (rr * cc + kk)), .int (nI (c)), .int (nI (k)), .int (nI (t)), .ref f] M9
        refine jn_top (.int (nI (cb))) (by rw [hb9']) ?_
        refine jn_isub (pc := 105) (ix) kRF_beside_d105 (by omega) ?_
        refine jj_callV (pc := 106) (b := f) (As := [.int (nI (t)), .int (nI (k)), .int (nI (c)), .int (nI (ix))]) kRF_beside_d106 (kvRF_RF_same hG) (kG_cl hG rfl) rfl hC9.1 rfl rfl rfl (Nat.le_of_ble_eq_true rfl) (Nat.le_of_ble_eq_true rfl) (jj_bare0 rfl) ?_
        refine rf_same (a := t) (i := k) (b := c) (j := ix) (c := s) hG hC9 hS9 h19 (by omega) (by omega) hmc (by omega) (by omega) hn1 hn2 (by omega) (fun M5 D5 T5 V5 up5 low5 rc5 rs5 hC5 hS5 t5 u5 ho5 hl5 hv5 hF5 hm5 => ?_)
        show jj G kRF_beside (d + 5) Q rc5 rs5 109 [some (.ref f), some (.int (nI (b))), some (.int (nI (c))), some (.int (nI (n))), some (.int (nI (t))), some (.int (nI (k))), some (.int (nI (rr))), some (.int (nI (kk)))] [] M5
        have e9 : (if k % n < cb then qb (k / n * cb + k % n) else qc (k / n * cc + k % n - cb)) = qc ix := by rw [hrr, hkk, if_neg (by omega), hix]
        rw [← e9] at hm5
        refine jn_iinc (pc := 109) (k + 1) kRF_beside_d109 rfl (nI_1 _) ?_
        refine jj_goto (pc := 112) (tgt := 27) kRF_beside_d112 (by decide) ?_
        show jj G kRF_beside (d + 5) Q rc5 rs5 27 [some (.ref f), some (.int (nI (b))), some (.int (nI (c))), some (.int (nI (n))), some (.int (nI (t))), some (.int (nI (k + 1))), some (.int (nI (rr))), some (.int (nI (kk)))] [] M5
        refine ih (k + 1) (by omega) _ _ M5 D5 T5 V5 _ _ v9 rc5 rs5 hC5 hS5 (by omega) (by rw [Nat.succ_mul]; omega) (fun i hi => by rw [ho5 i (by omega), ho9 i hi]) (by omega) (fun i hi => by rw [hv5 i (by omega), hV9 i hi]) (by rw [hv5 _ (by omega)]; exact hr9) (by rw [hv5 _ (by omega)]; exact hc9) (hF9.trans hF5) (fun k' hk' => ?_)
        by_cases e : k' = k
        · subst e
          exact hm5.congr (lo' := T) (Nat.le_refl _) (fun _ _ => rfl) (fun _ _ _ => rfl) t9
        · exact (hm9 k' (by omega)).congr t5 ho5 (fun i h6 h7 => hv5 i (by omega)) (Nat.le_refl _)
      · skip
        obtain ⟨ix, hix⟩ : ∃ ix, k / n * cb + k % n = ix := ⟨_, rfl⟩
        have hil : ix < r * cb := by rw [← hix]; exact side_lt1 hkn (by rw [hkk]; exact c2)
        obtain ⟨hn1, hn2⟩ := hqb ix hil
        have hmc : MC D9 T9 V9 b lob ix (qb ix) := (hb4 ix hil).congr t9 ho9 (fun i _ h6 => hV9 i (by omega)) (Nat.le_refl _)
        rw [hrr, hkk] at hix
        refine jj_aload_n (pc := 60) kRF_beside_d60 rfl ?_
        refine jj_iload (pc := 61) kRF_beside_d61 rfl ?_
        refine jj_iload (pc := 63) kRF_beside_d63 rfl ?_
        refine jj_iload_n (pc := 65) kRF_beside_d65 rfl ?_
        refine jj_iload (pc := 66) kRF_beside_d66 rfl ?_
        refine jj_aload_n (pc := 68) kRF_beside_d68 rfl ?_
        refine jj_iload_n (pc := 69) kRF_beside_d69 rfl ?_
        refine jj_callV (pc := 70) (b := f) (As := [.int (nI (b))]) kRF_beside_d70 (kvRF_RF_columns hG) (kG_cl hG rfl) rfl hC9.1 rfl rfl rfl (Nat.le_of_ble_eq_true rfl) (Nat.le_of_ble_eq_true rfl) (jj_bare0 rfl) ?_
        refine rf_columns hG hC9 (by omega) (by omega) ?_
        show jj G kRF_beside (d + 5) Q rc9 rs9 73 [some (.ref f), some (.int (nI (b))), some (.int (nI (c))), some (.int (nI (n))), some (.int (nI (t))), some (.int (nI (k))), some (.int (nI (rr))), some (.int (nI (kk)))] [.int (V9.getD (b + 1) 0), .int (nI (rr)), .int (nI (b)), .int (nI (k)), .int (nI (t)), .ref f] M9
        refine jn_top (.int (nI (cb))) (by rw [hb9']) ?_
        refine jn_imul (pc := 73) (rr * cb) kRF_beside_d73 rfl ?_
        refine jj_iload (pc := 74) kRF_beside_d74 rfl ?_
        refine jn_iadd (pc := 76) (ix) kRF_beside_d76 hix ?_
        refine jj_callV (pc := 77) (b := f) (As := [.int (nI (t)), .int (nI (k)), .int (nI (b)), .int (nI (ix))]) kRF_beside_d77 (kvRF_RF_same hG) (kG_cl hG rfl) rfl hC9.1 rfl rfl rfl (Nat.le_of_ble_eq_true rfl) (Nat.le_of_ble_eq_true rfl) (jj_bare0 rfl) ?_
        refine rf_same (a := t) (i := k) (b := b) (j := ix) (c := s) hG hC9 hS9 h19 (by omega) (by omega) hmc (by omega) (by omega) hn1 hn2 (by omega) (fun M5 D5 T5 V5 up5 low5 rc5 rs5 hC5 hS5 t5 u5 ho5 hl5 hv5 hF5 hm5 => ?_)
        show jj G kRF_beside (d + 5) Q rc5 rs5 80 [some (.ref f), some (.int (nI (b))), some (.int (nI (c))), some (.int (nI (n))), some (.int (nI (t))), some (.int (nI (k))), some (.int (nI (rr))), some (.int (nI (kk)))] [] M5
        have e9 : (if k % n < cb then qb (k / n * cb + k % n) else qc (k / n * cc + k % n - cb)) = qb ix := by rw [hrr, hkk, if_pos c2, hix]
        rw [← e9] at hm5
        refine jj_goto (pc := 80) (tgt := 109) kRF_beside_d80 (by decide) ?_
        refine jn_iinc (pc := 109) (k + 1) kRF_beside_d109 rfl (nI_1 _) ?_
        refine jj_goto (pc := 112) (tgt := 27) kRF_beside_d112 (by decide) ?_
        show jj G kRF_beside (d + 5) Q rc5 rs5 27 [some (.ref f), some (.int (nI (b))), some (.int (nI (c))), some (.int (nI (n))), some (.int (nI (t))), some (.int (nI (k + 1))), some (.int (nI (rr))), some (.int (nI (kk)))] [] M5
        refine ih (k + 1) (by omega) _ _ M5 D5 T5 V5 _ _ v9 rc5 rs5 hC5 hS5 (by omega) (by rw [Nat.succ_mul]; omega) (fun i hi => by rw [ho5 i (by omega), ho9 i hi]) (by omega) (fun i hi => by rw [hv5 i (by omega), hV9 i hi]) (by rw [hv5 _ (by omega)]; exact hr9) (by rw [hv5 _ (by omega)]; exact hc9) (hF9.trans hF5) (fun k' hk' => ?_)
        by_cases e : k' = k
        · subst e
          exact hm5.congr (lo' := T) (Nat.le_refl _) (fun _ _ => rfl) (fun _ _ _ => rfl) t9
        · exact (hm9 k' (by omega)).congr t5 ho5 (fun i h6 h7 => hv5 i (by omega)) (Nat.le_refl _)
  exact loop (r * n) 0 (by omega) none none M1 D T V1 up low v2 rc1 rs1 hC1 hS1 (Nat.le_refl _) (by omega) (fun _ _ => rfl) rfl ho1 hr1 hc1 hF1 (fun k' hk' => by omega)
theorem rf_unit {n T cm cv X Z X' Z' : Nat} (hG : kG G) (hC : FC M f w vv pv V t up low P rk) (hS : RS M w D T v2 cm X Z rc rs) (hX : FXB cv V X Z X' Z') (htV : t ≤ V.length) (h1 : RI D T 1 1) (hT3 : 3 ≤ T) (hn : n < 1024) (ht : t + 2 + 2 * (n * n) ≤ cv) (hT : T + n * n * 7 ≤ cm)
    (K : MKP Q M f w pv D V t P rk T cm cv X' Z' (n) (n) (T + n * n * 7) (fun k => if k / n = k % n then (1 : Rat) else 0)) : jj G kRF_unit (d + 5) Q rc rs 0 (jj_ent [.ref f, .int (nI (n))] 4) [] M := by
  have hcap := hX.cap
  have hcr : (n) * (n) = n * n := rfl
  unfold MKP at K
  rw [hcr] at K
  have hcapD := hS.2.1.cap
  show jj G kRF_unit (d + 5) Q rc rs 0 [some (.ref f), some (.int (nI (n))), none, none] [] M
  refine jj_aload_n (pc := 0) kRF_unit_d0 rfl ?_
  refine jj_iload_n (pc := 1) kRF_unit_d1 rfl ?_
  refine jj_iload_n (pc := 2) kRF_unit_d2 rfl ?_
  refine jj_callV (pc := 3) (b := f) (As := [.int (nI (n)), .int (nI (n))]) kRF_unit_d3 (kvRF_RF_make hG) (kG_cl hG rfl) rfl hC.1 rfl rfl rfl (Nat.le_of_ble_eq_true rfl) (Nat.le_of_ble_eq_true rfl) (jj_bare0 rfl) ?_
  refine rf_make hG hC hS hX htV (by omega) (by omega) (by rw [hcr]; exact ht) (fun M1 vv V1 X1 Z1 rc1 rs1 hC1 hS1 hX1 hl1 hr1 hc1 ho1 hF1 => ?_)
  show jj G kRF_unit (d + 5) Q rc1 rs1 6 [some (.ref f), some (.int (nI (n))), none, none] [.int (nI (t))] M1
  rw [hcr] at hC1 hl1
  have hcap1 := hX1.cap
  refine jj_istore_n (pc := 6) kRF_unit_d6 (Nat.le_of_ble_eq_true rfl) ?_
  refine jn_iconst (pc := 7) 0 kRF_unit_d7 (by decide) ?_
  refine jj_istore_n (pc := 8) kRF_unit_d8 (Nat.le_of_ble_eq_true rfl) ?_
  show jj G kRF_unit (d + 5) Q rc1 rs1 9 [some (.ref f), some (.int (nI (n))), some (.int (nI (t))), some (.int (nI (0)))] [] M1
  have loop : ∀ m k, n * n = k + m → ∀ (M9 : mheap) (D9 : List Int32) (T9 : Nat) (V9 : List Int32) (up9 low9 : Int32) (v9 : Value) (rc9 rs9 : Nat), FC M9 f w vv pv V9 (t + 2 + 2 * (n * n)) up9 low9 P rk → RS M9 w D9 T9 v9 cm X1 Z1 rc9 rs9 → T ≤ T9 → T9 ≤ T + k * 7 → (∀ i, i < T → D9.getD i 0 = D.getD i 0) → V9.length = V1.length → (∀ i, i < t → V9.getD i 0 = V.getD i 0) → V9.getD t 0 = nI (n) → V9.getD (t + 1) 0 = nI (n) → FF M M9 f → (∀ k', k' < k → MC D9 T9 V9 t T k' ((fun k => if k / n = k % n then (1 : Rat) else 0) k')) → jj G kRF_unit (d + 5) Q rc9 rs9 9 [some (.ref f), some (.int (nI (n))), some (.int (nI (t))), some (.int (nI (k)))] [] M9 := by
    intro m
    induction m with
    | zero =>
      intro k hk  M9 D9 T9 V9 up9 low9 v9 rc9 rs9 hC9 hS9 t9 u9 ho9 hlen9 hV9 hr9 hc9 hF9 hm9
      have e : n * n = k := by omega
      subst e
      refine jj_iload_n (pc := 9) kRF_unit_d9 rfl ?_
      refine jj_iload_n (pc := 10) kRF_unit_d10 rfl ?_
      refine jj_iload_n (pc := 11) kRF_unit_d11 rfl ?_
      refine jn_imul (pc := 12) (n * n) kRF_unit_d12 rfl ?_
      refine jn_icmp_ge (pc := 13) (tgt := 46) kRF_unit_d13 (by decide) (by omega) (by omega) (fun _ => ?_) (fun c => by exfalso; omega)
      refine jj_iload_n (pc := 46) kRF_unit_d46 rfl ?_
      exact jj_iret (pc := 47) kRF_unit_d47 rfl (by rfl) (K M9 vv D9 T9 V9 up9 low9 X1 Z1 v9 rc9 rs9 hC9 hS9 (hX1.same hlen9) t9 u9 ho9 hV9 (by omega) hF9 ⟨by rw [hcr]; exact Nat.le_refl _, hr9, hc9, fun k' hk' => hm9 k' (by rw [hcr] at hk'; exact hk')⟩)
    | succ m ih =>
      intro k hk  M9 D9 T9 V9 up9 low9 v9 rc9 rs9 hC9 hS9 t9 u9 ho9 hlen9 hV9 hr9 hc9 hF9 hm9
      have hk1 : (k + 1) * 7 ≤ n * n * 7 := Nat.mul_le_mul_right _ (by omega)
      rw [Nat.succ_mul] at hk1
      have h19 := h1.congr t9 ho9
      refine jj_iload_n (pc := 9) kRF_unit_d9 rfl ?_
      refine jj_iload_n (pc := 10) kRF_unit_d10 rfl ?_
      refine jj_iload_n (pc := 11) kRF_unit_d11 rfl ?_
      refine jn_imul (pc := 12) (n * n) kRF_unit_d12 rfl ?_
      refine jn_icmp_ge (pc := 13) (tgt := 46) kRF_unit_d13 (by decide) (by omega) (by omega) (fun c => by exfalso; omega) (fun _ => ?_)
      have hn0 : 0 < n := Nat.pos_of_ne_zero (fun e => by rw [e, Nat.mul_zero] at hk; omega)
      obtain ⟨rr, hrr⟩ : ∃ rr, k / n = rr := ⟨_, rfl⟩
      obtain ⟨kk, hkk⟩ : ∃ kk, k % n = kk := ⟨_, rfl⟩
      have hrl : k / n ≤ k := Nat.div_le_self _ _
      have hkl := Nat.mod_lt k hn0
      refine jj_aload_n (pc := 16) kRF_unit_d16 rfl ?_
      refine jj_iload_n (pc := 17) kRF_unit_d17 rfl ?_
      refine jj_iload_n (pc := 18) kRF_unit_d18 rfl ?_
      refine jn_idiv (pc := 19) (rr) kRF_unit_d19 (by omega) (by omega) (by omega) hrr ?_
      refine jj_iload_n (pc := 20) kRF_unit_d20 rfl ?_
      refine jj_iload_n (pc := 21) kRF_unit_d21 rfl ?_
      refine jn_irem (pc := 22) (kk) kRF_unit_d22 (by omega) (by omega) (by omega) hkk ?_
      refine jn_icmp_ne (pc := 23) (tgt := 30) kRF_unit_d23 (by decide) (by omega) (by omega) (fun c2 => ?_) (fun c2 => ?_)
      · skip
        refine jj_lconst (pc := 30) (v := lN 0) kRF_unit_d30 (by decide) ?_
        refine jj_callV (pc := 31) (b := f) (As := [.long (lN (0))]) kRF_unit_d31 (kvRF_RF_whole hG) (kG_cl hG rfl) rfl hC9.1 rfl rfl rfl (Nat.le_of_ble_eq_true rfl) (Nat.le_of_ble_eq_true rfl) (jj_bare0 rfl) ?_
        refine rf_whole hG hC9 hS9 h19 (by omega) (by omega) (fun M6 D5 T5 p6 l6 v6 rc5 rs5 hC6 hS6 t5 u6 ho5 hF6 hq6 g1 g2 => ?_)
        show jj G kRF_unit (d + 5) Q rc5 rs5 34 [some (.ref f), some (.int (nI (n))), some (.int (nI (t))), some (.int (nI (k)))] [] M6
        refine jj_aload_n (pc := 34) kRF_unit_d34 rfl ?_
        refine jj_iload_n (pc := 35) kRF_unit_d35 rfl ?_
        refine jj_iload_n (pc := 36) kRF_unit_d36 rfl ?_
        rw [show ((lN 0).toInt : Int) = 0 by decide] at hq6
        refine jj_callV (pc := 37) (b := f) (As := [.int (nI (t)), .int (nI (k))]) kRF_unit_d37 (kvRF_RF_put hG) (kG_cl hG rfl) rfl hC6.1 rfl rfl rfl (Nat.le_of_ble_eq_true rfl) (Nat.le_of_ble_eq_true rfl) (jj_bare0 rfl) ?_
        refine rf_put (a := t) (i := k) hG hC6 hS6 (by omega) (by omega) (fun M5 hC5 hS5 hF7 => ?_)
        show jj G kRF_unit (d + 5) Q rc5 rs5 40 [some (.ref f), some (.int (nI (n))), some (.int (nI (t))), some (.int (nI (k)))] [] M5
        obtain ⟨V5, hV5⟩ : ∃ V5, (V9.set (t + 2 + 2 * k) (nI p6)).set (t + 3 + 2 * k) (nI l6) = V5 := ⟨_, rfl⟩
        rw [hV5] at hC5
        have hl5 : V5.length = V9.length := by rw [← hV5, List.length_set, List.length_set]
        have hv5 : ∀ i, i < t + 2 + 2 * k ∨ t + 4 + 2 * k ≤ i → V5.getD i 0 = V9.getD i 0 := fun i hi => by rw [← hV5, gd_set_ne (by omega), gd_set_ne (by omega)]
        have hF5 := hF6.trans hF7
        have hm5 : MC D5 T5 V5 t T9 k (((0 : Int) : Rat)) := ⟨p6, l6, by rw [← hV5, gd_set_ne (by omega)]; exact gd_set_eq (by omega), by rw [← hV5]; exact gd_set_eq (by rw [List.length_set]; omega), hq6, g1, g2⟩
        have e9 : (if k / n = k % n then (1 : Rat) else 0) = ((0 : Int) : Rat) := by rw [hrr, hkk, if_neg c2]; rfl
        rw [← e9] at hm5
        refine jn_iinc (pc := 40) (k + 1) kRF_unit_d40 rfl (nI_1 _) ?_
        refine jj_goto (pc := 43) (tgt := 9) kRF_unit_d43 (by decide) ?_
        show jj G kRF_unit (d + 5) Q rc5 rs5 9 [some (.ref f), some (.int (nI (n))), some (.int (nI (t))), some (.int (nI (k + 1)))] [] M5
        refine ih (k + 1) (by omega)  M5 D5 T5 V5 _ _ v6 rc5 rs5 hC5 hS5 (by omega) (by rw [Nat.succ_mul]; omega) (fun i hi => by rw [ho5 i (by omega), ho9 i hi]) (by omega) (fun i hi => by rw [hv5 i (by omega), hV9 i hi]) (by rw [hv5 _ (by omega)]; exact hr9) (by rw [hv5 _ (by omega)]; exact hc9) (hF9.trans hF5) (fun k' hk' => ?_)
        by_cases e : k' = k
        · subst e
          exact hm5.congr (lo' := T) (Nat.le_refl _) (fun _ _ => rfl) (fun _ _ _ => rfl) t9
        · exact (hm9 k' (by omega)).congr t5 ho5 (fun i h6 h7 => hv5 i (by omega)) (Nat.le_refl _)
      · skip
        refine jj_lconst (pc := 26) (v := lN 1) kRF_unit_d26 (by decide) ?_
        refine jj_goto (pc := 27) (tgt := 31) kRF_unit_d27 (by decide) ?_
        refine jj_callV (pc := 31) (b := f) (As := [.long (lN (1))]) kRF_unit_d31 (kvRF_RF_whole hG) (kG_cl hG rfl) rfl hC9.1 rfl rfl rfl (Nat.le_of_ble_eq_true rfl) (Nat.le_of_ble_eq_true rfl) (jj_bare0 rfl) ?_
        refine rf_whole hG hC9 hS9 h19 (by omega) (by omega) (fun M6 D5 T5 p6 l6 v6 rc5 rs5 hC6 hS6 t5 u6 ho5 hF6 hq6 g1 g2 => ?_)
        show jj G kRF_unit (d + 5) Q rc5 rs5 34 [some (.ref f), some (.int (nI (n))), some (.int (nI (t))), some (.int (nI (k)))] [] M6
        refine jj_aload_n (pc := 34) kRF_unit_d34 rfl ?_
        refine jj_iload_n (pc := 35) kRF_unit_d35 rfl ?_
        refine jj_iload_n (pc := 36) kRF_unit_d36 rfl ?_
        rw [show ((lN 1).toInt : Int) = 1 by decide] at hq6
        refine jj_callV (pc := 37) (b := f) (As := [.int (nI (t)), .int (nI (k))]) kRF_unit_d37 (kvRF_RF_put hG) (kG_cl hG rfl) rfl hC6.1 rfl rfl rfl (Nat.le_of_ble_eq_true rfl) (Nat.le_of_ble_eq_true rfl) (jj_bare0 rfl) ?_
        refine rf_put (a := t) (i := k) hG hC6 hS6 (by omega) (by omega) (fun M5 hC5 hS5 hF7 => ?_)
        show jj G kRF_unit (d + 5) Q rc5 rs5 40 [some (.ref f), some (.int (nI (n))), some (.int (nI (t))), some (.int (nI (k)))] [] M5
        obtain ⟨V5, hV5⟩ : ∃ V5, (V9.set (t + 2 + 2 * k) (nI p6)).set (t + 3 + 2 * k) (nI l6) = V5 := ⟨_, rfl⟩
        rw [hV5] at hC5
        have hl5 : V5.length = V9.length := by rw [← hV5, List.length_set, List.length_set]
        have hv5 : ∀ i, i < t + 2 + 2 * k ∨ t + 4 + 2 * k ≤ i → V5.getD i 0 = V9.getD i 0 := fun i hi => by rw [← hV5, gd_set_ne (by omega), gd_set_ne (by omega)]
        have hF5 := hF6.trans hF7
        have hm5 : MC D5 T5 V5 t T9 k (((1 : Int) : Rat)) := ⟨p6, l6, by rw [← hV5, gd_set_ne (by omega)]; exact gd_set_eq (by omega), by rw [← hV5]; exact gd_set_eq (by rw [List.length_set]; omega), hq6, g1, g2⟩
        have e9 : (if k / n = k % n then (1 : Rat) else 0) = ((1 : Int) : Rat) := by rw [hrr, hkk, if_pos c2]; rfl
        rw [← e9] at hm5
        refine jn_iinc (pc := 40) (k + 1) kRF_unit_d40 rfl (nI_1 _) ?_
        refine jj_goto (pc := 43) (tgt := 9) kRF_unit_d43 (by decide) ?_
        show jj G kRF_unit (d + 5) Q rc5 rs5 9 [some (.ref f), some (.int (nI (n))), some (.int (nI (t))), some (.int (nI (k + 1)))] [] M5
        refine ih (k + 1) (by omega)  M5 D5 T5 V5 _ _ v6 rc5 rs5 hC5 hS5 (by omega) (by rw [Nat.succ_mul]; omega) (fun i hi => by rw [ho5 i (by omega), ho9 i hi]) (by omega) (fun i hi => by rw [hv5 i (by omega), hV9 i hi]) (by rw [hv5 _ (by omega)]; exact hr9) (by rw [hv5 _ (by omega)]; exact hc9) (hF9.trans hF5) (fun k' hk' => ?_)
        by_cases e : k' = k
        · subst e
          exact hm5.congr (lo' := T) (Nat.le_refl _) (fun _ _ => rfl) (fun _ _ _ => rfl) t9
        · exact (hm9 k' (by omega)).congr t5 ho5 (fun i h6 h7 => hv5 i (by omega)) (Nat.le_refl _)
  exact loop (n * n) 0 (by omega)  M1 D T V1 up low v2 rc1 rs1 hC1 hS1 (Nat.le_refl _) (by omega) (fun _ _ => rfl) rfl ho1 hr1 hc1 hF1 (fun k' hk' => by omega)
theorem rf_sum {b c r cc lob loc T s s2 S cm cv X Z X' Z' : Nat} {z : Int32} {qb qc : Nat → Rat} (hG : kG G) (hC : FC M f w vv pv V t up low P rk) (hS : RS M w D T v2 cm X Z rc rs) (hX : FXB cv V X Z X' Z') (htV : t ≤ V.length) (h1 : RI D T 1 1) (hT3 : 3 ≤ T) (hb : MX D T V t b r cc lob qb) (hrb : r < 1024) (hcb : cc < 1024) (hqb : ∀ k, k < r * cc → ZB s (qb k).num ∧ ZB s ((qb k).den : Int)) (hc : MX D T V t c r cc loc qc) (hrc : r < 1024) (hcc : cc < 1024) (hqc : ∀ k, k < r * cc → ZB s (qc k).num ∧ ZB s ((qc k).den : Int)) (hs : S = 2 * s2 + s + 4) (hs2 : 2 * s + 1 ≤ 9000) (hres : ∀ k, k < r * cc → ZB s2 (if z = 0 then qb k + qc k else qb k - qc k).num ∧ ZB s2 ((if z = 0 then qb k + qc k else qb k - qc k).den : Int)) (ht : t + 2 + 2 * (r * cc) ≤ cv) (hT : T + r * cc * S + 20000 + 60 * s + 300 ≤ cm)
    (K : MKP Q M f w pv D V t P rk T cm cv X' Z' (r) (cc) (T + r * cc * S) (fun k => if z = 0 then qb k + qc k else qb k - qc k)) : jj G kRF_sum (d + 10) Q rc rs 0 (jj_ent [.ref f, .int (nI (b)), .int (nI (c)), .int (z)] 6) [] M := by
  have hcap := hX.cap
  have hcr : (r) * (cc) = r * cc := rfl
  unfold MKP at K
  rw [hcr] at K
  have hcapD := hS.2.1.cap
  obtain ⟨hb1, hb2, hb3, hb4⟩ := id hb
  obtain ⟨hc1, hc2, hc3, hc4⟩ := id hc
  show jj G kRF_sum (d + 10) Q rc rs 0 [some (.ref f), some (.int (nI (b))), some (.int (nI (c))), some (.int (z)), none, none] [] M
  refine jj_aload_n (pc := 0) kRF_sum_d0 rfl ?_
  refine jj_aload_n (pc := 1) kRF_sum_d1 rfl ?_
  refine jj_iload_n (pc := 2) kRF_sum_d2 rfl ?_
  refine jj_callV (pc := 3) (b := f) (As := [.int (nI (b))]) kRF_sum_d3 (kvRF_RF_rows hG) (kG_cl hG rfl) rfl hC.1 rfl rfl rfl (Nat.le_of_ble_eq_true rfl) (Nat.le_of_ble_eq_true rfl) (jj_bare0 rfl) ?_
  refine rf_rows hG hC (by omega) (by omega) ?_
  show jj G kRF_sum (d + 10) Q rc rs 6 [some (.ref f), some (.int (nI (b))), some (.int (nI (c))), some (.int (z)), none, none] [.int (V.getD b 0), .ref f] M
  refine jn_top (.int (nI (r))) (by rw [hb2]) ?_
  refine jj_aload_n (pc := 6) kRF_sum_d6 rfl ?_
  refine jj_iload_n (pc := 7) kRF_sum_d7 rfl ?_
  refine jj_callV (pc := 8) (b := f) (As := [.int (nI (b))]) kRF_sum_d8 (kvRF_RF_columns hG) (kG_cl hG rfl) rfl hC.1 rfl rfl rfl (Nat.le_of_ble_eq_true rfl) (Nat.le_of_ble_eq_true rfl) (jj_bare0 rfl) ?_
  refine rf_columns hG hC (by omega) (by omega) ?_
  show jj G kRF_sum (d + 10) Q rc rs 11 [some (.ref f), some (.int (nI (b))), some (.int (nI (c))), some (.int (z)), none, none] [.int (V.getD (b + 1) 0), .int (nI (r)), .ref f] M
  refine jn_top (.int (nI (cc))) (by rw [hb3]) ?_
  refine jj_callV (pc := 11) (b := f) (As := [.int (nI (r)), .int (nI (cc))]) kRF_sum_d11 (kvRF_RF_make hG) (kG_cl hG rfl) rfl hC.1 rfl rfl rfl (Nat.le_of_ble_eq_true rfl) (Nat.le_of_ble_eq_true rfl) (jj_bare0 rfl) ?_
  refine rf_make hG hC hS hX htV (by omega) (by omega) (by rw [hcr]; exact ht) (fun M1 vv V1 X1 Z1 rc1 rs1 hC1 hS1 hX1 hl1 hr1 hc1 ho1 hF1 => ?_)
  show jj G kRF_sum (d + 10) Q rc1 rs1 14 [some (.ref f), some (.int (nI (b))), some (.int (nI (c))), some (.int (z)), none, none] [.int (nI (t))] M1
  rw [hcr] at hC1 hl1
  have hcap1 := hX1.cap
  refine jj_istore (pc := 14) kRF_sum_d14 (Nat.le_of_ble_eq_true rfl) ?_
  refine jn_iconst (pc := 16) 0 kRF_sum_d16 (by decide) ?_
  refine jj_istore (pc := 17) kRF_sum_d17 (Nat.le_of_ble_eq_true rfl) ?_
  show jj G kRF_sum (d + 10) Q rc1 rs1 19 [some (.ref f), some (.int (nI (b))), some (.int (nI (c))), some (.int (z)), some (.int (nI (t))), some (.int (nI (0)))] [] M1
  have loop : ∀ m k, r * cc = k + m → ∀ (M9 : mheap) (D9 : List Int32) (T9 : Nat) (V9 : List Int32) (up9 low9 : Int32) (v9 : Value) (rc9 rs9 : Nat), FC M9 f w vv pv V9 (t + 2 + 2 * (r * cc)) up9 low9 P rk → RS M9 w D9 T9 v9 cm X1 Z1 rc9 rs9 → T ≤ T9 → T9 ≤ T + k * S → (∀ i, i < T → D9.getD i 0 = D.getD i 0) → V9.length = V1.length → (∀ i, i < t → V9.getD i 0 = V.getD i 0) → V9.getD t 0 = nI (r) → V9.getD (t + 1) 0 = nI (cc) → FF M M9 f → (∀ k', k' < k → MC D9 T9 V9 t T k' ((fun k => if z = 0 then qb k + qc k else qb k - qc k) k')) → jj G kRF_sum (d + 10) Q rc9 rs9 19 [some (.ref f), some (.int (nI (b))), some (.int (nI (c))), some (.int (z)), some (.int (nI (t))), some (.int (nI (k)))] [] M9 := by
    intro m
    induction m with
    | zero =>
      intro k hk  M9 D9 T9 V9 up9 low9 v9 rc9 rs9 hC9 hS9 t9 u9 ho9 hlen9 hV9 hr9 hc9 hF9 hm9
      have e : r * cc = k := by omega
      subst e
      refine jj_iload (pc := 19) kRF_sum_d19 rfl ?_
      refine jj_aload_n (pc := 21) kRF_sum_d21 rfl ?_
      refine jj_iload_n (pc := 22) kRF_sum_d22 rfl ?_
      refine jj_callV (pc := 23) (b := f) (As := [.int (nI (b))]) kRF_sum_d23 (kvRF_RF_cells hG) (kG_cl hG rfl) rfl hC9.1 rfl rfl rfl (Nat.le_of_ble_eq_true rfl) (Nat.le_of_ble_eq_true rfl) (jj_bare0 rfl) ?_
      refine rf_cells (r := r) (c := cc) hG hC9 (by omega) (by omega) (by rw [hV9 b (by omega)]; exact hb2) (by rw [hV9 (b + 1) (by omega)]; exact hb3) ?_
      show jj G kRF_sum (d + 10) Q rc9 rs9 26 [some (.ref f), some (.int (nI (b))), some (.int (nI (c))), some (.int (z)), some (.int (nI (t))), some (.int (nI (r * cc)))] [.int (nI (r * cc)), .int (nI (r * cc))] M9
      refine jn_icmp_ge (pc := 26) (tgt := 76) kRF_sum_d26 (by decide) (by omega) (by omega) (fun _ => ?_) (fun c => by exfalso; omega)
      refine jj_iload (pc := 76) kRF_sum_d76 rfl ?_
      exact jj_iret (pc := 78) kRF_sum_d78 rfl (by rfl) (K M9 vv D9 T9 V9 up9 low9 X1 Z1 v9 rc9 rs9 hC9 hS9 (hX1.same hlen9) t9 u9 ho9 hV9 (by omega) hF9 ⟨by rw [hcr]; exact Nat.le_refl _, hr9, hc9, fun k' hk' => hm9 k' (by rw [hcr] at hk'; exact hk')⟩)
    | succ m ih =>
      intro k hk  M9 D9 T9 V9 up9 low9 v9 rc9 rs9 hC9 hS9 t9 u9 ho9 hlen9 hV9 hr9 hc9 hF9 hm9
      have hk1 : (k + 1) * S ≤ r * cc * S := Nat.mul_le_mul_right _ (by omega)
      rw [Nat.succ_mul] at hk1
      have h19 := h1.congr t9 ho9
      refine jj_iload (pc := 19) kRF_sum_d19 rfl ?_
      refine jj_aload_n (pc := 21) kRF_sum_d21 rfl ?_
      refine jj_iload_n (pc := 22) kRF_sum_d22 rfl ?_
      refine jj_callV (pc := 23) (b := f) (As := [.int (nI (b))]) kRF_sum_d23 (kvRF_RF_cells hG) (kG_cl hG rfl) rfl hC9.1 rfl rfl rfl (Nat.le_of_ble_eq_true rfl) (Nat.le_of_ble_eq_true rfl) (jj_bare0 rfl) ?_
      refine rf_cells (r := r) (c := cc) hG hC9 (by omega) (by omega) (by rw [hV9 b (by omega)]; exact hb2) (by rw [hV9 (b + 1) (by omega)]; exact hb3) ?_
      show jj G kRF_sum (d + 10) Q rc9 rs9 26 [some (.ref f), some (.int (nI (b))), some (.int (nI (c))), some (.int (z)), some (.int (nI (t))), some (.int (nI (k)))] [.int (nI (r * cc)), .int (nI (k))] M9
      refine jn_icmp_ge (pc := 26) (tgt := 76) kRF_sum_d26 (by decide) (by omega) (by omega) (fun c => by exfalso; omega) (fun _ => ?_)
      obtain ⟨hn1, hn2⟩ := hqb k (by omega)
      obtain ⟨hn3, hn4⟩ := hqc k (by omega)
      obtain ⟨hn5, hn6⟩ := hres k (by omega)
      obtain ⟨p1, l1, g1, g2, g3, -⟩ := (hb4 k (by omega)).congr (lo' := lob) t9 ho9 (fun i _ h6 => hV9 i (by omega)) (Nat.le_refl _)
      obtain ⟨p2, l2, g4, g5, g6, -⟩ := (hc4 k (by omega)).congr (lo' := loc) t9 ho9 (fun i _ h6 => hV9 i (by omega)) (Nat.le_refl _)
      have b1 := g3.1.lt
      have b2 := g3.2.1.lt
      have b3 := g6.1.lt
      have b4 := g6.2.1.lt
      refine jj_aload_n (pc := 29) kRF_sum_d29 rfl ?_
      refine jj_aload_n (pc := 30) kRF_sum_d30 rfl ?_
      refine jj_iload_n (pc := 31) kRF_sum_d31 rfl ?_
      refine jj_iload (pc := 32) kRF_sum_d32 rfl ?_
      refine jj_callV (pc := 34) (b := f) (As := [.int (nI (b)), .int (nI (k))]) kRF_sum_d34 (kvRF_RF_upper hG) (kG_cl hG rfl) rfl hC9.1 rfl rfl rfl (Nat.le_of_ble_eq_true rfl) (Nat.le_of_ble_eq_true rfl) (jj_bare0 rfl) ?_
      refine rf_upper hG hC9 (by omega) (by omega) ?_
      show jj G kRF_sum (d + 10) Q rc9 rs9 37 [some (.ref f), some (.int (nI (b))), some (.int (nI (c))), some (.int (z)), some (.int (nI (t))), some (.int (nI (k)))] [.int (V9.getD (b + 2 + 2 * k) 0), .ref f] M9
      refine jn_top (.int (nI (p1))) (by rw [g1]) ?_
      refine jj_aload_n (pc := 37) kRF_sum_d37 rfl ?_
      refine jj_iload_n (pc := 38) kRF_sum_d38 rfl ?_
      refine jj_iload (pc := 39) kRF_sum_d39 rfl ?_
      refine jj_callV (pc := 41) (b := f) (As := [.int (nI (b)), .int (nI (k))]) kRF_sum_d41 (kvRF_RF_lower hG) (kG_cl hG rfl) rfl hC9.1 rfl rfl rfl (Nat.le_of_ble_eq_true rfl) (Nat.le_of_ble_eq_true rfl) (jj_bare0 rfl) ?_
      refine rf_lower hG hC9 (by omega) (by omega) ?_
      show jj G kRF_sum (d + 10) Q rc9 rs9 44 [some (.ref f), some (.int (nI (b))), some (.int (nI (c))), some (.int (z)), some (.int (nI (t))), some (.int (nI (k)))] [.int (V9.getD (b + 3 + 2 * k) 0), .int (nI (p1)), .ref f] M9
      refine jn_top (.int (nI (l1))) (by rw [g2]) ?_
      refine jj_aload_n (pc := 44) kRF_sum_d44 rfl ?_
      refine jj_iload_n (pc := 45) kRF_sum_d45 rfl ?_
      refine jj_iload (pc := 46) kRF_sum_d46 rfl ?_
      refine jj_callV (pc := 48) (b := f) (As := [.int (nI (c)), .int (nI (k))]) kRF_sum_d48 (kvRF_RF_upper hG) (kG_cl hG rfl) rfl hC9.1 rfl rfl rfl (Nat.le_of_ble_eq_true rfl) (Nat.le_of_ble_eq_true rfl) (jj_bare0 rfl) ?_
      refine rf_upper hG hC9 (by omega) (by omega) ?_
      show jj G kRF_sum (d + 10) Q rc9 rs9 51 [some (.ref f), some (.int (nI (b))), some (.int (nI (c))), some (.int (z)), some (.int (nI (t))), some (.int (nI (k)))] [.int (V9.getD (c + 2 + 2 * k) 0), .int (nI (l1)), .int (nI (p1)), .ref f] M9
      refine jn_top (.int (nI (p2))) (by rw [g4]) ?_
      refine jj_aload_n (pc := 51) kRF_sum_d51 rfl ?_
      refine jj_iload_n (pc := 52) kRF_sum_d52 rfl ?_
      refine jj_iload (pc := 53) kRF_sum_d53 rfl ?_
      refine jj_callV (pc := 55) (b := f) (As := [.int (nI (c)), .int (nI (k))]) kRF_sum_d55 (kvRF_RF_lower hG) (kG_cl hG rfl) rfl hC9.1 rfl rfl rfl (Nat.le_of_ble_eq_true rfl) (Nat.le_of_ble_eq_true rfl) (jj_bare0 rfl) ?_
      refine rf_lower hG hC9 (by omega) (by omega) ?_
      show jj G kRF_sum (d + 10) Q rc9 rs9 58 [some (.ref f), some (.int (nI (b))), some (.int (nI (c))), some (.int (z)), some (.int (nI (t))), some (.int (nI (k)))] [.int (V9.getD (c + 3 + 2 * k) 0), .int (nI (p2)), .int (nI (l1)), .int (nI (p1)), .ref f] M9
      refine jn_top (.int (nI (l2))) (by rw [g5]) ?_
      refine jj_iload_n (pc := 58) kRF_sum_d58 rfl ?_
      have hrz : (z = 0 ∧ (if z = 0 then qb k + qc k else qb k - qc k) = qb k + qc k) ∨ (¬ z = 0 ∧ (if z = 0 then qb k + qc k else qb k - qc k) = qb k - qc k) := by
        by_cases e : z = 0
        · exact Or.inl ⟨e, if_pos e⟩
        · exact Or.inr ⟨e, if_neg e⟩
      clear g1 g2 g4 g5
      refine jj_callV (pc := 59) (b := f) (As := [.int (nI (p1)), .int (nI (l1)), .int (nI (p2)), .int (nI (l2)), .int (z)]) kRF_sum_d59 (kvRF_RF_add hG) (kG_cl hG rfl) rfl hC9.1 rfl rfl rfl (Nat.le_of_ble_eq_true rfl) (Nat.le_of_ble_eq_true rfl) (jj_bare0 rfl) ?_
      refine rf_add (a := s) (c := s2) hG hC9 hS9 h19 (by omega) g3 g6 hn1 hn2 hn3 hn4 (by omega) hrz hn5 hn6 (by omega) (fun M6 D5 T5 p6 l6 v6 rc5 rs5 hC6 hS6 t5 u6 ho5 hF6 hq6 g1 g2 => ?_)
      show jj G kRF_sum (d + 10) Q rc5 rs5 62 [some (.ref f), some (.int (nI (b))), some (.int (nI (c))), some (.int (z)), some (.int (nI (t))), some (.int (nI (k)))] [] M6
      refine jj_aload_n (pc := 62) kRF_sum_d62 rfl ?_
      refine jj_iload (pc := 63) kRF_sum_d63 rfl ?_
      refine jj_iload (pc := 65) kRF_sum_d65 rfl ?_
      refine jj_callV (pc := 67) (b := f) (As := [.int (nI (t)), .int (nI (k))]) kRF_sum_d67 (kvRF_RF_put hG) (kG_cl hG rfl) rfl hC6.1 rfl rfl rfl (Nat.le_of_ble_eq_true rfl) (Nat.le_of_ble_eq_true rfl) (jj_bare0 rfl) ?_
      refine rf_put (a := t) (i := k) hG hC6 hS6 (by omega) (by omega) (fun M5 hC5 hS5 hF7 => ?_)
      show jj G kRF_sum (d + 10) Q rc5 rs5 70 [some (.ref f), some (.int (nI (b))), some (.int (nI (c))), some (.int (z)), some (.int (nI (t))), some (.int (nI (k)))] [] M5
      obtain ⟨V5, hV5⟩ : ∃ V5, (V9.set (t + 2 + 2 * k) (nI p6)).set (t + 3 + 2 * k) (nI l6) = V5 := ⟨_, rfl⟩
      rw [hV5] at hC5
      have hl5 : V5.length = V9.length := by rw [← hV5, List.length_set, List.length_set]
      have hv5 : ∀ i, i < t + 2 + 2 * k ∨ t + 4 + 2 * k ≤ i → V5.getD i 0 = V9.getD i 0 := fun i hi => by rw [← hV5, gd_set_ne (by omega), gd_set_ne (by omega)]
      have hF5 := hF6.trans hF7
      have hm5 : MC D5 T5 V5 t T9 k (if z = 0 then qb k + qc k else qb k - qc k) := ⟨p6, l6, by rw [← hV5, gd_set_ne (by omega)]; exact gd_set_eq (by omega), by rw [← hV5]; exact gd_set_eq (by rw [List.length_set]; omega), hq6, g1, g2⟩
      refine jn_iinc (pc := 70) (k + 1) kRF_sum_d70 rfl (nI_1 _) ?_
      refine jj_goto (pc := 73) (tgt := 19) kRF_sum_d73 (by decide) ?_
      show jj G kRF_sum (d + 10) Q rc5 rs5 19 [some (.ref f), some (.int (nI (b))), some (.int (nI (c))), some (.int (z)), some (.int (nI (t))), some (.int (nI (k + 1)))] [] M5
      refine ih (k + 1) (by omega)  M5 D5 T5 V5 _ _ v6 rc5 rs5 hC5 hS5 (by omega) (by rw [Nat.succ_mul]; omega) (fun i hi => by rw [ho5 i (by omega), ho9 i hi]) (by omega) (fun i hi => by rw [hv5 i (by omega), hV9 i hi]) (by rw [hv5 _ (by omega)]; exact hr9) (by rw [hv5 _ (by omega)]; exact hc9) (hF9.trans hF5) (fun k' hk' => ?_)
      by_cases e : k' = k
      · subst e
        exact hm5.congr (lo' := T) (Nat.le_refl _) (fun _ _ => rfl) (fun _ _ _ => rfl) t9
      · exact (hm9 k' (by omega)).congr t5 ho5 (fun i h6 h7 => hv5 i (by omega)) (Nat.le_refl _)
  exact loop (r * cc) 0 (by omega)  M1 D T V1 up low v2 rc1 rs1 hC1 hS1 (Nat.le_refl _) (by omega) (fun _ _ => rfl) rfl ho1 hr1 hc1 hF1 (fun k' hk' => by omega)
end RF9
