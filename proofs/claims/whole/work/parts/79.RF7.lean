/-! ===== Fractions: copy, turned (printed by wip/gen/rf7.py) ===== -/
theorem turn_lt {k r c : Nat} (h : k < r * c) : k % r * c + k / r < r * c := by
  have hr : 0 < r := Nat.pos_of_ne_zero (fun e => by rw [e, Nat.zero_mul] at h; omega)
  have h1 := Nat.mod_lt k hr
  have h2 : k / r < c := (Nat.div_lt_iff_lt_mul hr).mpr (by rw [Nat.mul_comm]; exact h)
  have h3 : (k % r + 1) * c ≤ r * c := Nat.mul_le_mul_right _ h1
  rw [Nat.succ_mul] at h3
  omega
section RF7
variable {G : jg} {d : Nat} {Q : jq} {rc rs : Nat} {M : mheap} {f w vv pv : Nat} {v2 : Value} {D V P : List Int32} {t : Nat} {up low rk : Int32}
/-- what holds behind a call that makes the matrix q of r rows and c columns at the top -/
def MKP (Q : jq) (M : mheap) (f w pv : Nat) (D V : List Int32) (t : Nat) (P : List Int32) (rk : Int32) (T cm cv X' Z' r c E : Nat) (q : Nat → Rat) : Prop := ∀ M' vv' D' T' V' up' low' X1 Z1 v2' rc' rs', FC M' f w vv' pv V' (t + 2 + 2 * (r * c)) up' low' P rk → RS M' w D' T' v2' cm X1 Z1 rc' rs' → FXB cv V' X1 Z1 X' Z' → T ≤ T' → T' ≤ E → (∀ i, i < T → D'.getD i 0 = D.getD i 0) → (∀ i, i < t → V'.getD i 0 = V.getD i 0) → t + 2 + 2 * (r * c) ≤ V'.length → FF M M' f → MX D' T' V' (t + 2 + 2 * (r * c)) t r c T q → Q (.returned (some (.int (nI t)))) M' rc' rs'
theorem rf_copy {b r c lo T s S cm cv X Z X' Z' : Nat} {q : Nat → Rat} (hG : kG G) (hC : FC M f w vv pv V t up low P rk) (hS : RS M w D T v2 cm X Z rc rs) (hX : FXB cv V X Z X' Z') (htV : t ≤ V.length) (h1 : RI D T 1 1) (hT3 : 3 ≤ T) (hb : MX D T V t b r c lo q) (hr : r < 1024) (hc : c < 1024) (hs : S = 2 * s + 2) (hq : ∀ k, k < r * c → ZB s (q k).num ∧ ZB s ((q k).den : Int)) (ht : t + 2 + 2 * (r * c) ≤ cv) (hT : T + r * c * S ≤ cm)
    (K : MKP Q M f w pv D V t P rk T cm cv X' Z' r c (T + r * c * S) (fun k => q k)) : jj G kRF_copy (d + 5) Q rc rs 0 (jj_ent [.ref f, .int (nI b)] 4) [] M := by
  have hcap := hX.cap
  have hcr : r * c = r * c := rfl
  unfold MKP at K
  rw [hcr] at K
  obtain ⟨hb1, hb2, hb3, hb4⟩ := id hb
  have hcapD := hS.2.1.cap
  show jj G kRF_copy (d + 5) Q rc rs 0 [some (.ref f), some (.int (nI (b))), none, none] [] M
  refine jj_aload_n (pc := 0) kRF_copy_d0 rfl ?_
  refine jj_aload_n (pc := 1) kRF_copy_d1 rfl ?_
  refine jj_iload_n (pc := 2) kRF_copy_d2 rfl ?_
  refine jj_callV (pc := 3) (b := f) (As := [.int (nI (b))]) kRF_copy_d3 (kvRF_RF_rows hG) (kG_cl hG rfl) rfl hC.1 rfl rfl rfl (Nat.le_of_ble_eq_true rfl) (Nat.le_of_ble_eq_true rfl) (jj_bare0 rfl) ?_
  refine rf_rows hG hC (by omega) (by omega) ?_
  show jj G kRF_copy (d + 5) Q rc rs 6 [some (.ref f), some (.int (nI (b))), none, none] [.int (V.getD b 0), .ref f] M
  refine jn_top (.int (nI (r))) (by rw [hb2]) ?_
  refine jj_aload_n (pc := 6) kRF_copy_d6 rfl ?_
  refine jj_iload_n (pc := 7) kRF_copy_d7 rfl ?_
  refine jj_callV (pc := 8) (b := f) (As := [.int (nI (b))]) kRF_copy_d8 (kvRF_RF_columns hG) (kG_cl hG rfl) rfl hC.1 rfl rfl rfl (Nat.le_of_ble_eq_true rfl) (Nat.le_of_ble_eq_true rfl) (jj_bare0 rfl) ?_
  refine rf_columns hG hC (by omega) (by omega) ?_
  show jj G kRF_copy (d + 5) Q rc rs 11 [some (.ref f), some (.int (nI (b))), none, none] [.int (V.getD (b + 1) 0), .int (nI (r)), .ref f] M
  refine jn_top (.int (nI (c))) (by rw [hb3]) ?_
  refine jj_callV (pc := 11) (b := f) (As := [.int (nI (r)), .int (nI (c))]) kRF_copy_d11 (kvRF_RF_make hG) (kG_cl hG rfl) rfl hC.1 rfl rfl rfl (Nat.le_of_ble_eq_true rfl) (Nat.le_of_ble_eq_true rfl) (jj_bare0 rfl) ?_
  refine rf_make hG hC hS hX htV (by omega) (by omega) (by rw [hcr]; exact ht) (fun M1 vv V1 X1 Z1 rc1 rs1 hC1 hS1 hX1 hl1 hr1 hc1 ho1 hF1 => ?_)
  show jj G kRF_copy (d + 5) Q rc1 rs1 14 [some (.ref f), some (.int (nI (b))), none, none] [.int (nI (t))] M1
  rw [hcr] at hC1 hl1
  have hcap1 := hX1.cap
  refine jj_istore_n (pc := 14) kRF_copy_d14 (Nat.le_of_ble_eq_true rfl) ?_
  refine jn_iconst (pc := 15) 0 kRF_copy_d15 (by decide) ?_
  refine jj_istore_n (pc := 16) kRF_copy_d16 (Nat.le_of_ble_eq_true rfl) ?_
  show jj G kRF_copy (d + 5) Q rc1 rs1 17 [some (.ref f), some (.int (nI (b))), some (.int (nI (t))), some (.int (nI (0)))] [] M1
  have loop : ∀ m k, r * c = k + m → ∀ (M9 : mheap) (D9 : List Int32) (T9 : Nat) (V9 : List Int32) (up9 low9 : Int32) (rc9 rs9 : Nat), FC M9 f w vv pv V9 (t + 2 + 2 * (r * c)) up9 low9 P rk → RS M9 w D9 T9 v2 cm X1 Z1 rc9 rs9 → T ≤ T9 → T9 ≤ T + k * S → (∀ i, i < T → D9.getD i 0 = D.getD i 0) → V9.length = V1.length → (∀ i, i < t → V9.getD i 0 = V.getD i 0) → V9.getD t 0 = nI r → V9.getD (t + 1) 0 = nI c → FF M M9 f → (∀ k', k' < k → MC D9 T9 V9 t T k' ((fun k => q k) k')) → jj G kRF_copy (d + 5) Q rc9 rs9 17 [some (.ref f), some (.int (nI (b))), some (.int (nI (t))), some (.int (nI (k)))] [] M9 := by
    intro m
    induction m with
    | zero =>
      intro k hk M9 D9 T9 V9 up9 low9 rc9 rs9 hC9 hS9 t9 u9 ho9 hlen9 hV9 hr9 hc9 hF9 hm9
      have e : r * c = k := by omega
      subst e
      refine jj_iload_n (pc := 17) kRF_copy_d17 rfl ?_
      refine jj_aload_n (pc := 18) kRF_copy_d18 rfl ?_
      refine jj_iload_n (pc := 19) kRF_copy_d19 rfl ?_
      refine jj_callV (pc := 20) (b := f) (As := [.int (nI (b))]) kRF_copy_d20 (kvRF_RF_cells hG) (kG_cl hG rfl) rfl hC9.1 rfl rfl rfl (Nat.le_of_ble_eq_true rfl) (Nat.le_of_ble_eq_true rfl) (jj_bare0 rfl) ?_
      refine rf_cells (r := r) (c := c) hG hC9 (by omega) (by omega) (by rw [hV9 b (by omega)]; exact hb2) (by rw [hV9 (b + 1) (by omega)]; exact hb3) ?_
      show jj G kRF_copy (d + 5) Q rc9 rs9 23 [some (.ref f), some (.int (nI (b))), some (.int (nI (t))), some (.int (nI (r * c)))] [.int (nI (r * c)), .int (nI (r * c))] M9
      have hrc : r * c < 2 ^ 31 := by omega
      refine jn_icmp_ge (pc := 23) (tgt := 40) kRF_copy_d23 (by decide) (by omega) (by omega) (fun _ => ?_) (fun c => by exfalso; omega)
      refine jj_iload_n (pc := 40) kRF_copy_d40 rfl ?_
      exact jj_iret (pc := 41) kRF_copy_d41 rfl (by rfl) (K M9 vv D9 T9 V9 up9 low9 X1 Z1 v2 rc9 rs9 hC9 hS9 (hX1.same hlen9) t9 u9 ho9 hV9 (by omega) hF9 ⟨by omega, hr9, hc9, fun k' hk' => hm9 k' (by omega)⟩)
    | succ m ih =>
      intro k hk M9 D9 T9 V9 up9 low9 rc9 rs9 hC9 hS9 t9 u9 ho9 hlen9 hV9 hr9 hc9 hF9 hm9
      have hk1 : (k + 1) * S ≤ r * c * S := Nat.mul_le_mul_right _ (by omega)
      rw [Nat.succ_mul] at hk1
      have h19 := h1.congr t9 ho9
      have hb9 : V9.getD b 0 = nI r := by rw [hV9 b (by omega)]; exact hb2
      have hb9' : V9.getD (b + 1) 0 = nI c := by rw [hV9 (b + 1) (by omega)]; exact hb3
      obtain ⟨ix, hix⟩ : ∃ ix, k = ix := ⟨_, rfl⟩
      have hil : ix < r * c := by rw [← hix]; exact (by omega)
      obtain ⟨hn1, hn2⟩ := hq ix hil
      have hmc : MC D9 T9 V9 b lo ix (q ix) := (hb4 ix hil).congr t9 ho9 (fun i _ h6 => hV9 i (by omega)) (Nat.le_refl _)
      refine jj_iload_n (pc := 17) kRF_copy_d17 rfl ?_
      refine jj_aload_n (pc := 18) kRF_copy_d18 rfl ?_
      refine jj_iload_n (pc := 19) kRF_copy_d19 rfl ?_
      refine jj_callV (pc := 20) (b := f) (As := [.int (nI (b))]) kRF_copy_d20 (kvRF_RF_cells hG) (kG_cl hG rfl) rfl hC9.1 rfl rfl rfl (Nat.le_of_ble_eq_true rfl) (Nat.le_of_ble_eq_true rfl) (jj_bare0 rfl) ?_
      refine rf_cells (r := r) (c := c) hG hC9 (by omega) (by omega) hb9 hb9' ?_
      show jj G kRF_copy (d + 5) Q rc9 rs9 23 [some (.ref f), some (.int (nI (b))), some (.int (nI (t))), some (.int (nI (k)))] [.int (nI (r * c)), .int (nI (k))] M9
      refine jn_icmp_ge (pc := 23) (tgt := 40) kRF_copy_d23 (by decide) (by omega) (by omega) (fun c => by exfalso; omega) (fun _ => ?_)
      refine jj_aload_n (pc := 26) kRF_copy_d26 rfl ?_
      refine jj_iload_n (pc := 27) kRF_copy_d27 rfl ?_
      refine jj_iload_n (pc := 28) kRF_copy_d28 rfl ?_
      refine jj_iload_n (pc := 29) kRF_copy_d29 rfl ?_
      refine jj_iload_n (pc := 30) kRF_copy_d30 rfl ?_
      refine jn_top (.int (nI ix)) (by rw [hix]) ?_
      refine jj_callV (pc := 31) (b := f) (As := [.int (nI (t)), .int (nI (k)), .int (nI (b)), .int (nI (ix))]) kRF_copy_d31 (kvRF_RF_same hG) (kG_cl hG rfl) rfl hC9.1 rfl rfl rfl (Nat.le_of_ble_eq_true rfl) (Nat.le_of_ble_eq_true rfl) (jj_bare0 rfl) ?_
      refine rf_same (a := t) (i := k) (b := b) (j := ix) (c := s) hG hC9 hS9 h19 (by omega) (by omega) hmc (by omega) (by omega) hn1 hn2 (by omega) (fun M5 D5 T5 V5 up5 low5 rc5 rs5 hC5 hS5 t5 u5 ho5 hl5 hv5 hF5 hm5 => ?_)
      show jj G kRF_copy (d + 5) Q rc5 rs5 34 [some (.ref f), some (.int (nI (b))), some (.int (nI (t))), some (.int (nI (k)))] [] M5
      refine jn_iinc (pc := 34) (k + 1) kRF_copy_d34 rfl (nI_1 _) ?_
      refine jj_goto (pc := 37) (tgt := 17) kRF_copy_d37 (by decide) ?_
      show jj G kRF_copy (d + 5) Q rc5 rs5 17 [some (.ref f), some (.int (nI (b))), some (.int (nI (t))), some (.int (nI (k + 1)))] [] M5
      refine ih (k + 1) (by omega) M5 D5 T5 V5 up5 low5 rc5 rs5 hC5 hS5 (by omega) (by rw [Nat.succ_mul]; omega) (fun i hi => by rw [ho5 i (by omega), ho9 i hi]) (by omega) (fun i hi => by rw [hv5 i (by omega), hV9 i hi]) (by rw [hv5 _ (by omega)]; exact hr9) (by rw [hv5 _ (by omega)]; exact hc9) (hF9.trans hF5) (fun k' hk' => ?_)
      by_cases e : k' = k
      · subst e
        have h9 := hm5.congr (lo' := T) (Nat.le_refl _) (fun _ _ => rfl) (fun _ _ _ => rfl) t9
        rw [← hix] at h9
        exact h9
      · exact (hm9 k' (by omega)).congr t5 ho5 (fun i h6 h7 => hv5 i (by omega)) (Nat.le_refl _)
  exact loop (r * c) 0 (by omega) M1 D T V1 up low rc1 rs1 hC1 hS1 (Nat.le_refl _) (by omega) (fun _ _ => rfl) rfl ho1 hr1 hc1 hF1 (fun k' hk' => by omega)
theorem rf_turned {b r c lo T s S cm cv X Z X' Z' : Nat} {q : Nat → Rat} (hG : kG G) (hC : FC M f w vv pv V t up low P rk) (hS : RS M w D T v2 cm X Z rc rs) (hX : FXB cv V X Z X' Z') (htV : t ≤ V.length) (h1 : RI D T 1 1) (hT3 : 3 ≤ T) (hb : MX D T V t b r c lo q) (hr : r < 1024) (hc : c < 1024) (hs : S = 2 * s + 2) (hq : ∀ k, k < r * c → ZB s (q k).num ∧ ZB s ((q k).den : Int)) (ht : t + 2 + 2 * (r * c) ≤ cv) (hT : T + r * c * S ≤ cm)
    (K : MKP Q M f w pv D V t P rk T cm cv X' Z' c r (T + r * c * S) (fun k => q (k % r * c + k / r))) : jj G kRF_turned (d + 5) Q rc rs 0 (jj_ent [.ref f, .int (nI b)] 4) [] M := by
  have hcap := hX.cap
  have hcr : c * r = r * c := Nat.mul_comm c r
  unfold MKP at K
  rw [hcr] at K
  obtain ⟨hb1, hb2, hb3, hb4⟩ := id hb
  have hcapD := hS.2.1.cap
  show jj G kRF_turned (d + 5) Q rc rs 0 [some (.ref f), some (.int (nI (b))), none, none] [] M
  refine jj_aload_n (pc := 0) kRF_turned_d0 rfl ?_
  refine jj_aload_n (pc := 1) kRF_turned_d1 rfl ?_
  refine jj_iload_n (pc := 2) kRF_turned_d2 rfl ?_
  refine jj_callV (pc := 3) (b := f) (As := [.int (nI (b))]) kRF_turned_d3 (kvRF_RF_columns hG) (kG_cl hG rfl) rfl hC.1 rfl rfl rfl (Nat.le_of_ble_eq_true rfl) (Nat.le_of_ble_eq_true rfl) (jj_bare0 rfl) ?_
  refine rf_columns hG hC (by omega) (by omega) ?_
  show jj G kRF_turned (d + 5) Q rc rs 6 [some (.ref f), some (.int (nI (b))), none, none] [.int (V.getD (b + 1) 0), .ref f] M
  refine jn_top (.int (nI (c))) (by rw [hb3]) ?_
  refine jj_aload_n (pc := 6) kRF_turned_d6 rfl ?_
  refine jj_iload_n (pc := 7) kRF_turned_d7 rfl ?_
  refine jj_callV (pc := 8) (b := f) (As := [.int (nI (b))]) kRF_turned_d8 (kvRF_RF_rows hG) (kG_cl hG rfl) rfl hC.1 rfl rfl rfl (Nat.le_of_ble_eq_true rfl) (Nat.le_of_ble_eq_true rfl) (jj_bare0 rfl) ?_
  refine rf_rows hG hC (by omega) (by omega) ?_
  show jj G kRF_turned (d + 5) Q rc rs 11 [some (.ref f), some (.int (nI (b))), none, none] [.int (V.getD b 0), .int (nI (c)), .ref f] M
  refine jn_top (.int (nI (r))) (by rw [hb2]) ?_
  refine jj_callV (pc := 11) (b := f) (As := [.int (nI (c)), .int (nI (r))]) kRF_turned_d11 (kvRF_RF_make hG) (kG_cl hG rfl) rfl hC.1 rfl rfl rfl (Nat.le_of_ble_eq_true rfl) (Nat.le_of_ble_eq_true rfl) (jj_bare0 rfl) ?_
  refine rf_make hG hC hS hX htV (by omega) (by omega) (by rw [hcr]; exact ht) (fun M1 vv V1 X1 Z1 rc1 rs1 hC1 hS1 hX1 hl1 hr1 hc1 ho1 hF1 => ?_)
  show jj G kRF_turned (d + 5) Q rc1 rs1 14 [some (.ref f), some (.int (nI (b))), none, none] [.int (nI (t))] M1
  rw [hcr] at hC1 hl1
  have hcap1 := hX1.cap
  refine jj_istore_n (pc := 14) kRF_turned_d14 (Nat.le_of_ble_eq_true rfl) ?_
  refine jn_iconst (pc := 15) 0 kRF_turned_d15 (by decide) ?_
  refine jj_istore_n (pc := 16) kRF_turned_d16 (Nat.le_of_ble_eq_true rfl) ?_
  show jj G kRF_turned (d + 5) Q rc1 rs1 17 [some (.ref f), some (.int (nI (b))), some (.int (nI (t))), some (.int (nI (0)))] [] M1
  have loop : ∀ m k, r * c = k + m → ∀ (M9 : mheap) (D9 : List Int32) (T9 : Nat) (V9 : List Int32) (up9 low9 : Int32) (rc9 rs9 : Nat), FC M9 f w vv pv V9 (t + 2 + 2 * (r * c)) up9 low9 P rk → RS M9 w D9 T9 v2 cm X1 Z1 rc9 rs9 → T ≤ T9 → T9 ≤ T + k * S → (∀ i, i < T → D9.getD i 0 = D.getD i 0) → V9.length = V1.length → (∀ i, i < t → V9.getD i 0 = V.getD i 0) → V9.getD t 0 = nI c → V9.getD (t + 1) 0 = nI r → FF M M9 f → (∀ k', k' < k → MC D9 T9 V9 t T k' ((fun k => q (k % r * c + k / r)) k')) → jj G kRF_turned (d + 5) Q rc9 rs9 17 [some (.ref f), some (.int (nI (b))), some (.int (nI (t))), some (.int (nI (k)))] [] M9 := by
    intro m
    induction m with
    | zero =>
      intro k hk M9 D9 T9 V9 up9 low9 rc9 rs9 hC9 hS9 t9 u9 ho9 hlen9 hV9 hr9 hc9 hF9 hm9
      have e : r * c = k := by omega
      subst e
      refine jj_iload_n (pc := 17) kRF_turned_d17 rfl ?_
      refine jj_aload_n (pc := 18) kRF_turned_d18 rfl ?_
      refine jj_iload_n (pc := 19) kRF_turned_d19 rfl ?_
      refine jj_callV (pc := 20) (b := f) (As := [.int (nI (b))]) kRF_turned_d20 (kvRF_RF_cells hG) (kG_cl hG rfl) rfl hC9.1 rfl rfl rfl (Nat.le_of_ble_eq_true rfl) (Nat.le_of_ble_eq_true rfl) (jj_bare0 rfl) ?_
      refine rf_cells (r := r) (c := c) hG hC9 (by omega) (by omega) (by rw [hV9 b (by omega)]; exact hb2) (by rw [hV9 (b + 1) (by omega)]; exact hb3) ?_
      show jj G kRF_turned (d + 5) Q rc9 rs9 23 [some (.ref f), some (.int (nI (b))), some (.int (nI (t))), some (.int (nI (r * c)))] [.int (nI (r * c)), .int (nI (r * c))] M9
      have hrc : r * c < 2 ^ 31 := by omega
      refine jn_icmp_ge (pc := 23) (tgt := 60) kRF_turned_d23 (by decide) (by omega) (by omega) (fun _ => ?_) (fun c => by exfalso; omega)
      refine jj_iload_n (pc := 60) kRF_turned_d60 rfl ?_
      exact jj_iret (pc := 61) kRF_turned_d61 rfl (by rfl) (K M9 vv D9 T9 V9 up9 low9 X1 Z1 v2 rc9 rs9 hC9 hS9 (hX1.same hlen9) t9 u9 ho9 hV9 (by omega) hF9 ⟨by omega, hr9, hc9, fun k' hk' => hm9 k' (by omega)⟩)
    | succ m ih =>
      intro k hk M9 D9 T9 V9 up9 low9 rc9 rs9 hC9 hS9 t9 u9 ho9 hlen9 hV9 hr9 hc9 hF9 hm9
      have hk1 : (k + 1) * S ≤ r * c * S := Nat.mul_le_mul_right _ (by omega)
      rw [Nat.succ_mul] at hk1
      have h19 := h1.congr t9 ho9
      have hb9 : V9.getD b 0 = nI r := by rw [hV9 b (by omega)]; exact hb2
      have hb9' : V9.getD (b + 1) 0 = nI c := by rw [hV9 (b + 1) (by omega)]; exact hb3
      obtain ⟨ix, hix⟩ : ∃ ix, k % r * c + k / r = ix := ⟨_, rfl⟩
      have hil : ix < r * c := by rw [← hix]; exact turn_lt (by omega)
      obtain ⟨hn1, hn2⟩ := hq ix hil
      have hmc : MC D9 T9 V9 b lo ix (q ix) := (hb4 ix hil).congr t9 ho9 (fun i _ h6 => hV9 i (by omega)) (Nat.le_refl _)
      refine jj_iload_n (pc := 17) kRF_turned_d17 rfl ?_
      refine jj_aload_n (pc := 18) kRF_turned_d18 rfl ?_
      refine jj_iload_n (pc := 19) kRF_turned_d19 rfl ?_
      refine jj_callV (pc := 20) (b := f) (As := [.int (nI (b))]) kRF_turned_d20 (kvRF_RF_cells hG) (kG_cl hG rfl) rfl hC9.1 rfl rfl rfl (Nat.le_of_ble_eq_true rfl) (Nat.le_of_ble_eq_true rfl) (jj_bare0 rfl) ?_
      refine rf_cells (r := r) (c := c) hG hC9 (by omega) (by omega) hb9 hb9' ?_
      show jj G kRF_turned (d + 5) Q rc9 rs9 23 [some (.ref f), some (.int (nI (b))), some (.int (nI (t))), some (.int (nI (k)))] [.int (nI (r * c)), .int (nI (k))] M9
      refine jn_icmp_ge (pc := 23) (tgt := 60) kRF_turned_d23 (by decide) (by omega) (by omega) (fun c => by exfalso; omega) (fun _ => ?_)
      have hr0 : 0 < r := Nat.pos_of_ne_zero (fun e => by rw [e, Nat.zero_mul] at hil; omega)
      refine jj_aload_n (pc := 26) kRF_turned_d26 rfl ?_
      refine jj_iload_n (pc := 27) kRF_turned_d27 rfl ?_
      refine jj_iload_n (pc := 28) kRF_turned_d28 rfl ?_
      refine jj_iload_n (pc := 29) kRF_turned_d29 rfl ?_
      refine jj_iload_n (pc := 30) kRF_turned_d30 rfl ?_
      refine jj_aload_n (pc := 31) kRF_turned_d31 rfl ?_
      refine jj_iload_n (pc := 32) kRF_turned_d32 rfl ?_
      refine jj_callV (pc := 33) (b := f) (As := [.int (nI (b))]) kRF_turned_d33 (kvRF_RF_rows hG) (kG_cl hG rfl) rfl hC9.1 rfl rfl rfl (Nat.le_of_ble_eq_true rfl) (Nat.le_of_ble_eq_true rfl) (jj_bare0 rfl) ?_
      refine rf_rows hG hC9 (by omega) (by omega) ?_
      show jj G kRF_turned (d + 5) Q rc9 rs9 36 [some (.ref f), some (.int (nI (b))), some (.int (nI (t))), some (.int (nI (k)))] [.int (V9.getD b 0), .int (nI (k)), .int (nI (b)), .int (nI (k)), .int (nI (t)), .ref f] M9
      refine jn_top (.int (nI (r))) (by rw [hb9]) ?_
      refine jn_irem (pc := 36) (k % r) kRF_turned_d36 (by omega) (by omega) (by omega) rfl ?_
      refine jj_aload_n (pc := 37) kRF_turned_d37 rfl ?_
      refine jj_iload_n (pc := 38) kRF_turned_d38 rfl ?_
      refine jj_callV (pc := 39) (b := f) (As := [.int (nI (b))]) kRF_turned_d39 (kvRF_RF_columns hG) (kG_cl hG rfl) rfl hC9.1 rfl rfl rfl (Nat.le_of_ble_eq_true rfl) (Nat.le_of_ble_eq_true rfl) (jj_bare0 rfl) ?_
      refine rf_columns hG hC9 (by omega) (by omega) ?_
      show jj G kRF_turned (d + 5) Q rc9 rs9 42 [some (.ref f), some (.int (nI (b))), some (.int (nI (t))), some (.int (nI (k)))] [.int (V9.getD (b + 1) 0), .int (nI (k % r)), .int (nI (b)), .int (nI (k)), .int (nI (t)), .ref f] M9
      refine jn_top (.int (nI (c))) (by rw [hb9']) ?_
      refine jn_imul (pc := 42) ((k % r) * c) kRF_turned_d42 rfl ?_
      refine jj_iload_n (pc := 43) kRF_turned_d43 rfl ?_
      refine jj_aload_n (pc := 44) kRF_turned_d44 rfl ?_
      refine jj_iload_n (pc := 45) kRF_turned_d45 rfl ?_
      refine jj_callV (pc := 46) (b := f) (As := [.int (nI (b))]) kRF_turned_d46 (kvRF_RF_rows hG) (kG_cl hG rfl) rfl hC9.1 rfl rfl rfl (Nat.le_of_ble_eq_true rfl) (Nat.le_of_ble_eq_true rfl) (jj_bare0 rfl) ?_
      refine rf_rows hG hC9 (by omega) (by omega) ?_
      show jj G kRF_turned (d + 5) Q rc9 rs9 49 [some (.ref f), some (.int (nI (b))), some (.int (nI (t))), some (.int (nI (k)))] [.int (V9.getD b 0), .int (nI (k)), .int (nI ((k % r) * c)), .int (nI (b)), .int (nI (k)), .int (nI (t)), .ref f] M9
      refine jn_top (.int (nI (r))) (by rw [hb9]) ?_
      refine jn_idiv (pc := 49) (k / r) kRF_turned_d49 (by omega) (by omega) (by omega) rfl ?_
      refine jn_iadd (pc := 50) (ix) kRF_turned_d50 hix ?_
      refine jj_callV (pc := 51) (b := f) (As := [.int (nI (t)), .int (nI (k)), .int (nI (b)), .int (nI (ix))]) kRF_turned_d51 (kvRF_RF_same hG) (kG_cl hG rfl) rfl hC9.1 rfl rfl rfl (Nat.le_of_ble_eq_true rfl) (Nat.le_of_ble_eq_true rfl) (jj_bare0 rfl) ?_
      refine rf_same (a := t) (i := k) (b := b) (j := ix) (c := s) hG hC9 hS9 h19 (by omega) (by omega) hmc (by omega) (by omega) hn1 hn2 (by omega) (fun M5 D5 T5 V5 up5 low5 rc5 rs5 hC5 hS5 t5 u5 ho5 hl5 hv5 hF5 hm5 => ?_)
      show jj G kRF_turned (d + 5) Q rc5 rs5 54 [some (.ref f), some (.int (nI (b))), some (.int (nI (t))), some (.int (nI (k)))] [] M5
      refine jn_iinc (pc := 54) (k + 1) kRF_turned_d54 rfl (nI_1 _) ?_
      refine jj_goto (pc := 57) (tgt := 17) kRF_turned_d57 (by decide) ?_
      show jj G kRF_turned (d + 5) Q rc5 rs5 17 [some (.ref f), some (.int (nI (b))), some (.int (nI (t))), some (.int (nI (k + 1)))] [] M5
      refine ih (k + 1) (by omega) M5 D5 T5 V5 up5 low5 rc5 rs5 hC5 hS5 (by omega) (by rw [Nat.succ_mul]; omega) (fun i hi => by rw [ho5 i (by omega), ho9 i hi]) (by omega) (fun i hi => by rw [hv5 i (by omega), hV9 i hi]) (by rw [hv5 _ (by omega)]; exact hr9) (by rw [hv5 _ (by omega)]; exact hc9) (hF9.trans hF5) (fun k' hk' => ?_)
      by_cases e : k' = k
      · subst e
        have h9 := hm5.congr (lo' := T) (Nat.le_refl _) (fun _ _ => rfl) (fun _ _ _ => rfl) t9
        rw [← hix] at h9
        exact h9
      · exact (hm9 k' (by omega)).congr t5 ho5 (fun i h6 h7 => hv5 i (by omega)) (Nat.le_refl _)
  exact loop (r * c) 0 (by omega) M1 D T V1 up low rc1 rs1 hC1 hS1 (Nat.le_refl _) (by omega) (fun _ _ => rfl) rfl ho1 hr1 hc1 hF1 (fun k' hk' => by omega)
end RF7
