/-! ===== Fractions.product (printed by wip/gen/rf12.py) ===== -/
section RF12
variable {G : jg} {d : Nat} {Q : jq} {rc rs : Nat} {M : mheap} {f w vv pv : Nat} {v2 : Value} {D V P : List Int32} {t : Nat} {up low rk : Int32}
theorem rf_product_mid {b c tt nu he r n m lob lot T s mm e S cm cv X Z X' Z' : Nat} {qb qt : Nat → Rat} {L : Int} (hG : kG G) (hC : FC M f w vv pv V t up low P rk) (hS : RS M w D T v2 cm X Z rc rs) (hX : FXB cv V X Z X' Z') (htV : t ≤ V.length) (h1 : RI D T 1 1) (hT3 : 3 ≤ T) (hb : MX D T V t b r n lob qb) (hrb : r < 1024) (hn : n < 1024) (hqb : ∀ k, k < r * n → ZB s (qb k).num ∧ ZB s ((qb k).den : Int)) (ht_ : MX D T V t tt m n lot qt) (hrt : m < 1024) (hqt : ∀ k, k < m * n → ZB s (qt k).num ∧ ZB s ((qt k).den : Int)) (hc3 : V.getD (c + 1) 0 = nI m) (hct : c + 1 < t) (hsm : 2 * s ≤ mm) (hm' : mm ≤ 9000) (hL : 0 < L) (hLm : ZB mm L) (hLd : ∀ i j, i < r → j < m → ∀ k, k < n → ((qb (i * n + k)).den : Int) * ((qt (j * n + k)).den : Int) ∣ L) (hLs : ∀ i j, i < r → j < m → ∀ k, k ≤ n → ∃ z : Int, qsum (fun k => qb (i * n + k) * qt (j * n + k)) k * L = z ∧ ZB mm z) (hres : ∀ i j, i < r → j < m → ZB e (qsum (fun k => qb (i * n + k) * qt (j * n + k)) n).num ∧ ZB e ((qsum (fun k => qb (i * n + k) * qt (j * n + k)) n).den : Int)) (hs : S = 2 * e + 2) (ht : t + 2 + 2 * (r * m) ≤ cv) (hT : T + r * m * S + 40000 + 60 * mm + 600 ≤ cm)
    (K : MKP (fun _ M' rc' rs' => jj G kRF_product (d + 10) Q rc' rs' 97 [some (.ref f), some (.int (nI (b))), some (.int (nI (c))), some (.int (nI (nu))), some (.int (nI (he))), some (.int (nI (tt))), some (.int (nI (T))), some (.int (nI (t))), some (.int (nI (r * m)))] [] M') M f w pv D V t P rk T cm cv X' Z' (r) (m) (T + r * m * S) (fun k => qsum (fun x => qb (k / m * n + x) * qt (k % m * n + x)) n)) : jj G kRF_product (d + 10) Q rc rs 30 [some (.ref f), some (.int (nI (b))), some (.int (nI (c))), some (.int (nI (nu))), some (.int (nI (he))), some (.int (nI (tt))), some (.int (nI (T))), none, none] [] M := by
  have hcap := hX.cap
  have hcr : (r) * (m) = r * m := rfl
  unfold MKP at K
  rw [hcr] at K
  have hcapD := hS.2.1.cap
  obtain ⟨hb1, hb2, hb3, hb4⟩ := id hb
  obtain ⟨hW101, hB101, hTD101, hz101, hp101⟩ := id hS
  obtain ⟨dd101, hw101, hd101⟩ := id hW101
  have hcap101 := hB101.cap
  refine jj_aload_n (pc := 30) kRF_product_d30 rfl ?_
  refine jj_aload_n (pc := 31) kRF_product_d31 rfl ?_
  refine jj_iload_n (pc := 32) kRF_product_d32 rfl ?_
  refine jj_callV (pc := 33) (b := f) (As := [.int (nI (b))]) kRF_product_d33 (kvRF_RF_rows hG) (kG_cl hG rfl) rfl hC.1 rfl rfl rfl (Nat.le_of_ble_eq_true rfl) (Nat.le_of_ble_eq_true rfl) (jj_bare0 rfl) ?_
  refine rf_rows hG hC (by omega) (by omega) ?_
  show jj G kRF_product (d + 10) Q rc rs 36 [some (.ref f), some (.int (nI (b))), some (.int (nI (c))), some (.int (nI (nu))), some (.int (nI (he))), some (.int (nI (tt))), some (.int (nI (T))), none, none] [.int (V.getD b 0), .ref f] M
  refine jn_top (.int (nI (r))) (by rw [hb2]) ?_
  refine jj_aload_n (pc := 36) kRF_product_d36 rfl ?_
  refine jj_iload_n (pc := 37) kRF_product_d37 rfl ?_
  refine jj_callV (pc := 38) (b := f) (As := [.int (nI (c))]) kRF_product_d38 (kvRF_RF_columns hG) (kG_cl hG rfl) rfl hC.1 rfl rfl rfl (Nat.le_of_ble_eq_true rfl) (Nat.le_of_ble_eq_true rfl) (jj_bare0 rfl) ?_
  refine rf_columns hG hC (by omega) (by omega) ?_
  show jj G kRF_product (d + 10) Q rc rs 41 [some (.ref f), some (.int (nI (b))), some (.int (nI (c))), some (.int (nI (nu))), some (.int (nI (he))), some (.int (nI (tt))), some (.int (nI (T))), none, none] [.int (V.getD (c + 1) 0), .int (nI (r)), .ref f] M
  refine jn_top (.int (nI (m))) (by rw [hc3]) ?_
  refine jj_callV (pc := 41) (b := f) (As := [.int (nI (r)), .int (nI (m))]) kRF_product_d41 (kvRF_RF_make hG) (kG_cl hG rfl) rfl hC.1 rfl rfl rfl (Nat.le_of_ble_eq_true rfl) (Nat.le_of_ble_eq_true rfl) (jj_bare0 rfl) ?_
  refine rf_make hG hC hS hX htV (by omega) (by omega) (by rw [hcr]; exact ht) (fun M1 vv V1 X1 Z1 rc1 rs1 hC1 hS1 hX1 hl1 hr1 hc1 ho1 hF1 => ?_)
  show jj G kRF_product (d + 10) Q rc1 rs1 44 [some (.ref f), some (.int (nI (b))), some (.int (nI (c))), some (.int (nI (nu))), some (.int (nI (he))), some (.int (nI (tt))), some (.int (nI (T))), none, none] [.int (nI (t))] M1
  rw [hcr] at hC1 hl1
  have hcap1 := hX1.cap
  refine jj_istore (pc := 44) kRF_product_d44 (Nat.le_of_ble_eq_true rfl) ?_
  refine jn_iconst (pc := 46) 0 kRF_product_d46 (by decide) ?_
  refine jj_istore (pc := 47) kRF_product_d47 (Nat.le_of_ble_eq_true rfl) ?_
  show jj G kRF_product (d + 10) Q rc1 rs1 49 [some (.ref f), some (.int (nI (b))), some (.int (nI (c))), some (.int (nI (nu))), some (.int (nI (he))), some (.int (nI (tt))), some (.int (nI (T))), some (.int (nI (t))), some (.int (nI (0)))] [] M1
  have loop : ∀ mu k, r * m = k + mu → ∀ (M9 : mheap) (D9 : List Int32) (T9 : Nat) (V9 : List Int32) (up9 low9 : Int32) (v9 : Value) (rc9 rs9 : Nat), FC M9 f w vv pv V9 (t + 2 + 2 * (r * m)) up9 low9 P rk → RS M9 w D9 T9 v9 cm X1 Z1 rc9 rs9 → T ≤ T9 → T9 ≤ T + k * S → (∀ i, i < T → D9.getD i 0 = D.getD i 0) → V9.length = V1.length → (∀ i, i < t → V9.getD i 0 = V.getD i 0) → V9.getD t 0 = nI (r) → V9.getD (t + 1) 0 = nI (m) → FF M M9 f → (∀ k', k' < k → MC D9 T9 V9 t T k' ((fun k => qsum (fun x => qb (k / m * n + x) * qt (k % m * n + x)) n) k')) → jj G kRF_product (d + 10) Q rc9 rs9 49 [some (.ref f), some (.int (nI (b))), some (.int (nI (c))), some (.int (nI (nu))), some (.int (nI (he))), some (.int (nI (tt))), some (.int (nI (T))), some (.int (nI (t))), some (.int (nI (k)))] [] M9 := by
    intro mu
    induction mu with
    | zero =>
      intro k hk   M9 D9 T9 V9 up9 low9 v9 rc9 rs9 hC9 hS9 t9 u9 ho9 hlen9 hV9 hr9 hc9 hF9 hm9 
      have e : r * m = k := by omega
      subst e
      refine jj_iload (pc := 49) kRF_product_d49 rfl ?_
      refine jj_aload_n (pc := 51) kRF_product_d51 rfl ?_
      refine jj_iload (pc := 52) kRF_product_d52 rfl ?_
      refine jj_callV (pc := 54) (b := f) (As := [.int (nI (t))]) kRF_product_d54 (kvRF_RF_cells hG) (kG_cl hG rfl) rfl hC9.1 rfl rfl rfl (Nat.le_of_ble_eq_true rfl) (Nat.le_of_ble_eq_true rfl) (jj_bare0 rfl) ?_
      refine rf_cells (r := r) (c := m) hG hC9 (by omega) (by omega) hr9 hc9 ?_
      show jj G kRF_product (d + 10) Q rc9 rs9 57 [some (.ref f), some (.int (nI (b))), some (.int (nI (c))), some (.int (nI (nu))), some (.int (nI (he))), some (.int (nI (tt))), some (.int (nI (T))), some (.int (nI (t))), some (.int (nI (r * m)))] [.int (nI (r * m)), .int (nI (r * m))] M9
      refine jn_icmp_ge (pc := 57) (tgt := 97) kRF_product_d57 (by decide) (by omega) (by omega) (fun _ => ?_) (fun c => by exfalso; omega)
      show jj G kRF_product (d + 10) Q rc9 rs9 97 [some (.ref f), some (.int (nI (b))), some (.int (nI (c))), some (.int (nI (nu))), some (.int (nI (he))), some (.int (nI (tt))), some (.int (nI (T))), some (.int (nI (t))), some (.int (nI (r * m)))] [] M9
      exact K M9 vv D9 T9 V9 up9 low9 X1 Z1 v9 rc9 rs9 hC9 hS9 (hX1.same hlen9) t9 u9 ho9 hV9 (by omega) hF9 ⟨by rw [hcr]; exact Nat.le_refl _, hr9, hc9, fun k' hk' => hm9 k' (by rw [hcr] at hk'; exact hk')⟩  
    | succ mu ih =>
      intro k hk   M9 D9 T9 V9 up9 low9 v9 rc9 rs9 hC9 hS9 t9 u9 ho9 hlen9 hV9 hr9 hc9 hF9 hm9 
      have hk1 : (k + 1) * S ≤ r * m * S := Nat.mul_le_mul_right _ (by omega)
      rw [Nat.succ_mul] at hk1
      have h19 := h1.congr t9 ho9
      refine jj_iload (pc := 49) kRF_product_d49 rfl ?_
      refine jj_aload_n (pc := 51) kRF_product_d51 rfl ?_
      refine jj_iload (pc := 52) kRF_product_d52 rfl ?_
      refine jj_callV (pc := 54) (b := f) (As := [.int (nI (t))]) kRF_product_d54 (kvRF_RF_cells hG) (kG_cl hG rfl) rfl hC9.1 rfl rfl rfl (Nat.le_of_ble_eq_true rfl) (Nat.le_of_ble_eq_true rfl) (jj_bare0 rfl) ?_
      refine rf_cells (r := r) (c := m) hG hC9 (by omega) (by omega) hr9 hc9 ?_
      show jj G kRF_product (d + 10) Q rc9 rs9 57 [some (.ref f), some (.int (nI (b))), some (.int (nI (c))), some (.int (nI (nu))), some (.int (nI (he))), some (.int (nI (tt))), some (.int (nI (T))), some (.int (nI (t))), some (.int (nI (k)))] [.int (nI (r * m)), .int (nI (k))] M9
      refine jn_icmp_ge (pc := 57) (tgt := 97) kRF_product_d57 (by decide) (by omega) (by omega) (fun c => by exfalso; omega) (fun _ => ?_)
      have hm0 : 0 < m := Nat.pos_of_ne_zero (fun e => by rw [e, Nat.mul_zero] at hk; omega)
      obtain ⟨rr, hrr⟩ : ∃ rr, k / m = rr := ⟨_, rfl⟩
      obtain ⟨kk, hkk⟩ : ∃ kk, k % m = kk := ⟨_, rfl⟩
      have hkl := Nat.mod_lt k hm0
      have hrl : k / m < r := (Nat.div_lt_iff_lt_mul hm0).mpr (by omega)
      rw [hkk] at hkl
      rw [hrr] at hrl
      have hcm9 : V9.getD (c + 1) 0 = nI m := by rw [hV9 (c + 1) (by omega)]; exact hc3
      have hmb := hb.congr (lo' := lob) t9 ho9 (show t ≤ t + 2 + 2 * (r * m) by omega) hV9 (Nat.le_refl _)
      have hmt := ht_.congr (lo' := lot) t9 ho9 (show t ≤ t + 2 + 2 * (r * m) by omega) hV9 (Nat.le_refl _)
      obtain ⟨he1, he2⟩ := hres rr kk hrl hkl
      refine jj_aload_n (pc := 60) kRF_product_d60 rfl ?_
      refine jj_iload_n (pc := 61) kRF_product_d61 rfl ?_
      refine jj_iload (pc := 62) kRF_product_d62 rfl ?_
      refine jj_aload_n (pc := 64) kRF_product_d64 rfl ?_
      refine jj_iload_n (pc := 65) kRF_product_d65 rfl ?_
      refine jj_callV (pc := 66) (b := f) (As := [.int (nI (c))]) kRF_product_d66 (kvRF_RF_columns hG) (kG_cl hG rfl) rfl hC9.1 rfl rfl rfl (Nat.le_of_ble_eq_true rfl) (Nat.le_of_ble_eq_true rfl) (jj_bare0 rfl) ?_
      refine rf_columns hG hC9 (by omega) (by omega) ?_
      show jj G kRF_product (d + 10) Q rc9 rs9 69 [some (.ref f), some (.int (nI (b))), some (.int (nI (c))), some (.int (nI (nu))), some (.int (nI (he))), some (.int (nI (tt))), some (.int (nI (T))), some (.int (nI (t))), some (.int (nI (k)))] [.int (V9.getD (c + 1) 0), .int (nI (k)), .int (nI (b)), .ref f] M9
      refine jn_top (.int (nI (m))) (by rw [hcm9]) ?_
      refine jn_idiv (pc := 69) (rr) kRF_product_d69 (by omega) (by omega) (by omega) hrr ?_
      refine jj_iload (pc := 70) kRF_product_d70 rfl ?_
      refine jj_iload (pc := 72) kRF_product_d72 rfl ?_
      refine jj_aload_n (pc := 74) kRF_product_d74 rfl ?_
      refine jj_iload_n (pc := 75) kRF_product_d75 rfl ?_
      refine jj_callV (pc := 76) (b := f) (As := [.int (nI (c))]) kRF_product_d76 (kvRF_RF_columns hG) (kG_cl hG rfl) rfl hC9.1 rfl rfl rfl (Nat.le_of_ble_eq_true rfl) (Nat.le_of_ble_eq_true rfl) (jj_bare0 rfl) ?_
      refine rf_columns hG hC9 (by omega) (by omega) ?_
      show jj G kRF_product (d + 10) Q rc9 rs9 79 [some (.ref f), some (.int (nI (b))), some (.int (nI (c))), some (.int (nI (nu))), some (.int (nI (he))), some (.int (nI (tt))), some (.int (nI (T))), some (.int (nI (t))), some (.int (nI (k)))] [.int (V9.getD (c + 1) 0), .int (nI (k)), .int (nI (tt)), .int (nI (rr)), .int (nI (b)), .ref f] M9
      refine jn_top (.int (nI (m))) (by rw [hcm9]) ?_
      refine jn_irem (pc := 79) (kk) kRF_product_d79 (by omega) (by omega) (by omega) hkk ?_
      refine jj_callV (pc := 80) (b := f) (As := [.int (nI (b)), .int (nI (rr)), .int (nI (tt)), .int (nI (kk))]) kRF_product_d80 (kvRF_RF_rowProduct hG) (kG_cl hG rfl) rfl hC9.1 rfl rfl rfl (Nat.le_of_ble_eq_true rfl) (Nat.le_of_ble_eq_true rfl) (jj_bare0 rfl) ?_
      refine rf_rowProduct (s := s) (m := mm) (e := e) (L := L) hG hC9 hS9 h19 (by omega) (by omega) (by omega) hmb hmt hrl hkl hn hrb hrt hqb hqt hsm hm' hL hLm (hLd rr kk hrl hkl) (hLs rr kk hrl hkl) he1 he2 (by omega) (fun M6 D5 T5 p6 l6 v6 rc5 rs5 hC6 hS6 t5 u6 ho5 hF6 hq6 g1 g2 => ?_)
      show jj G kRF_product (d + 10) Q rc5 rs5 83 [some (.ref f), some (.int (nI (b))), some (.int (nI (c))), some (.int (nI (nu))), some (.int (nI (he))), some (.int (nI (tt))), some (.int (nI (T))), some (.int (nI (t))), some (.int (nI (k)))] [] M6
      refine jj_aload_n (pc := 83) kRF_product_d83 rfl ?_
      refine jj_iload (pc := 84) kRF_product_d84 rfl ?_
      refine jj_iload (pc := 86) kRF_product_d86 rfl ?_
      refine jj_callV (pc := 88) (b := f) (As := [.int (nI (t)), .int (nI (k))]) kRF_product_d88 (kvRF_RF_put hG) (kG_cl hG rfl) rfl hC6.1 rfl rfl rfl (Nat.le_of_ble_eq_true rfl) (Nat.le_of_ble_eq_true rfl) (jj_bare0 rfl) ?_
      refine rf_put (a := t) (i := k) hG hC6 hS6 (by omega) (by omega) (fun M5 hC5 hS5 hF7 => ?_)
      show jj G kRF_product (d + 10) Q rc5 rs5 91 [some (.ref f), some (.int (nI (b))), some (.int (nI (c))), some (.int (nI (nu))), some (.int (nI (he))), some (.int (nI (tt))), some (.int (nI (T))), some (.int (nI (t))), some (.int (nI (k)))] [] M5
      obtain ⟨V5, hV5⟩ : ∃ V5, (V9.set (t + 2 + 2 * k) (nI p6)).set (t + 3 + 2 * k) (nI l6) = V5 := ⟨_, rfl⟩
      rw [hV5] at hC5
      have hl5 : V5.length = V9.length := by rw [← hV5, List.length_set, List.length_set]
      have hv5 : ∀ i, i < t + 2 + 2 * k ∨ t + 4 + 2 * k ≤ i → V5.getD i 0 = V9.getD i 0 := fun i hi => by rw [← hV5, gd_set_ne (by omega), gd_set_ne (by omega)]
      have hF5 := hF6.trans hF7
      have hm5 : MC D5 T5 V5 t T9 k (qsum (fun x => qb (rr * n + x) * qt (kk * n + x)) n) := ⟨p6, l6, by rw [← hV5, gd_set_ne (by omega)]; exact gd_set_eq (by omega), by rw [← hV5]; exact gd_set_eq (by rw [List.length_set]; omega), hq6, g1, g2⟩
      rw [← hrr, ← hkk] at hm5
      refine jn_iinc (pc := 91) (k + 1) kRF_product_d91 rfl (nI_1 _) ?_
      refine jj_goto (pc := 94) (tgt := 49) kRF_product_d94 (by decide) ?_
      show jj G kRF_product (d + 10) Q rc5 rs5 49 [some (.ref f), some (.int (nI (b))), some (.int (nI (c))), some (.int (nI (nu))), some (.int (nI (he))), some (.int (nI (tt))), some (.int (nI (T))), some (.int (nI (t))), some (.int (nI (k + 1)))] [] M5
      refine ih (k + 1) (by omega)   M5 D5 T5 V5 _ _ v6 rc5 rs5 hC5 hS5 (by omega) (by rw [Nat.succ_mul]; omega) (fun i hi => by rw [ho5 i (by omega), ho9 i hi]) (by omega) (fun i hi => by rw [hv5 i (by omega), hV9 i hi]) (by rw [hv5 _ (by omega)]; exact hr9) (by rw [hv5 _ (by omega)]; exact hc9) (hF9.trans hF5) (fun k' hk' => ?_) 
      by_cases e : k' = k
      · subst e
        exact hm5.congr (lo' := T) (Nat.le_refl _) (fun _ _ => rfl) (fun _ _ _ => rfl) t9
      · exact (hm9 k' (by omega)).congr t5 ho5 (fun i h6 h7 => hv5 i (by omega)) (Nat.le_refl _)
  exact loop (r * m) 0 (by omega)   M1 D T V1 up low v2 rc1 rs1 hC1 hS1 (Nat.le_refl _) (by omega) (fun _ _ => rfl) rfl ho1 hr1 hc1 hF1 (fun k' hk' => by omega) 
theorem turn_at {n m j k : Nat} (h : k < n) : (j * n + k) % n * m + (j * n + k) / n = k * m + j := by
  have h1 : (j * n + k) % n = k := by rw [Nat.add_comm, Nat.add_mul_mod_self_right]; exact Nat.mod_eq_of_lt h
  have h2 : (j * n + k) / n = j := by rw [Nat.add_comm, Nat.add_mul_div_right _ _ (by omega), Nat.div_eq_of_lt h]; omega
  rw [h1, h2]
theorem rf_product {b c r n m lob loc T s mm e S cm cv X Z X' Z' : Nat} {qb qc : Nat → Rat} {L : Int} (hG : kG G) (hC : FC M f w vv pv V t up low P rk) (hS : RS M w D T v2 cm X Z rc rs) (hX : FXB cv V X Z X' Z') (htV : t ≤ V.length) (h1 : RI D T 1 1) (hT3 : 3 ≤ T) (hb : MX D T V t b r n lob qb) (hrb : r < 1024) (hn : n < 1024) (hqb : ∀ k, k < r * n → ZB s (qb k).num ∧ ZB s ((qb k).den : Int)) (hc : MX D T V t c n m loc qc) (hrt : m < 1024) (hqc : ∀ k, k < n * m → ZB s (qc k).num ∧ ZB s ((qc k).den : Int)) (hsm : 2 * s ≤ mm) (hm' : mm ≤ 9000) (hL : 0 < L) (hLm : ZB mm L) (hLd : ∀ i j, i < r → j < m → ∀ k, k < n → ((qb (i * n + k)).den : Int) * ((qc (k * m + j)).den : Int) ∣ L) (hLs : ∀ i j, i < r → j < m → ∀ k, k ≤ n → ∃ z : Int, qsum (fun k => qb (i * n + k) * qc (k * m + j)) k * L = z ∧ ZB mm z) (hres : ∀ i j, i < r → j < m → ZB e (qsum (fun k => qb (i * n + k) * qc (k * m + j)) n).num ∧ ZB e ((qsum (fun k => qb (i * n + k) * qc (k * m + j)) n).den : Int)) (hs : S = 2 * e + 2) (ht : t + 2 + 2 * (n * m) + 2 + 2 * (r * m) ≤ cv) (hT : T + n * m * (2 * s + 2) + r * m * S + 40000 + 60 * mm + 600 ≤ cm)
    (K : MKP Q M f w pv D V t P rk T cm cv X' Z' r m (T + r * m * S) (fun k => qsum (fun x => qb (k / m * n + x) * qc (x * m + k % m)) n)) : jj G kRF_product (d + 10) Q rc rs 0 (jj_ent [.ref f, .int (nI b), .int (nI c)] 9) [] M := by
  have hcap := hX.cap
  have hcapD := hS.2.1.cap
  obtain ⟨hb1, hb2, hb3, hb4⟩ := id hb
  obtain ⟨hc1, hc2, hc3, hc4⟩ := id hc
  have e1 : ∀ i j k0, k0 ≤ n → qsum (fun k => qb (i * n + k) * (fun k => qc (k % n * m + k / n)) (j * n + k)) k0 = qsum (fun k => qb (i * n + k) * qc (k * m + j)) k0 := fun i j k0 h0 => qsum_congr (fun x hx => by dsimp only; rw [turn_at (by omega)])
  have e2 : ∀ j k, k < n → (fun k => qc (k % n * m + k / n)) (j * n + k) = qc (k * m + j) := fun j k hk => by dsimp only; rw [turn_at hk]
  have hrm : r * m < 1024 * 1024 := Nat.mul_lt_mul_of_lt_of_le hrb (by omega) (by decide)
  have hmn : n * m = m * n := Nat.mul_comm n m
  have hqt : ∀ k, k < m * n → ZB s ((fun k => qc (k % n * m + k / n)) k).num ∧ ZB s (((fun k => qc (k % n * m + k / n)) k).den : Int) := fun k hk => hqc _ (by
    have hn0 : 0 < n := Nat.pos_of_ne_zero (fun e => by rw [e, Nat.mul_zero] at hk; omega)
    have h3 := Nat.mod_lt k hn0
    have h4 : k / n < m := (Nat.div_lt_iff_lt_mul hn0).mpr hk
    have h5 : (k % n + 1) * m ≤ n * m := Nat.mul_le_mul_right _ h3
    rw [Nat.succ_mul] at h5
    omega)
  obtain ⟨hW102, hB102, hTD102, hz102, hp102⟩ := id hS
  obtain ⟨dd102, hw102, hd102⟩ := id hW102
  have hcap102 := hB102.cap
  show jj G kRF_product (d + 10) Q rc rs 0 [some (.ref f), some (.int (nI (b))), some (.int (nI (c))), none, none, none, none, none, none] [] M
  refine jj_aload_n (pc := 0) kRF_product_d0 rfl ?_
  refine jj_getf (pc := 1) kRF_product_d1 (kfRF_w hG) hC.1 rfl ?_
  refine jj_getf (pc := 4) kRF_product_d4 (kfRF_RW_top hG) hw102 rfl ?_
  refine jj_istore_n (pc := 7) kRF_product_d7 (Nat.le_of_ble_eq_true rfl) ?_
  refine jj_aload_n (pc := 8) kRF_product_d8 rfl ?_
  refine jj_getf (pc := 9) kRF_product_d9 (kfRF_top hG) hC.1 rfl ?_
  refine jj_istore (pc := 12) kRF_product_d12 (Nat.le_of_ble_eq_true rfl) ?_
  refine jj_aload_n (pc := 14) kRF_product_d14 rfl ?_
  refine jj_iload_n (pc := 15) kRF_product_d15 rfl ?_
  refine jj_callV (pc := 16) (b := f) (As := [.int (nI (c))]) kRF_product_d16 (kvRF_RF_turned hG) (kG_cl hG rfl) rfl hC.1 rfl rfl rfl (Nat.le_of_ble_eq_true rfl) (Nat.le_of_ble_eq_true rfl) (jj_bare0 rfl) ?_
  refine rf_turned (lo := loc) (s := s) (S := 2 * s + 2) hG hC hS hX htV h1 hT3 hc hn hrt rfl hqc (by omega) (by omega) (fun M1 vv D1 T1 V1 up1 low1 X1 Z1 v1 rc1 rs1 hC1 hS1 hX1 t1 u1 ho1 hv1 hl1 hF1 hm1 => ?_)
  show jj G kRF_product (d + 10) Q rc1 rs1 19 [some (.ref f), some (.int (nI (b))), some (.int (nI (c))), some (.int (nI (T))), some (.int (nI (t))), none, none, none, none] [.int (nI (t))] M1
  have hcap1 := hX1.cap
  obtain ⟨tt, htt⟩ : ∃ tt, t + 2 + 2 * (m * n) = tt := ⟨_, rfl⟩
  rw [htt] at hC1 hl1 hm1
  obtain ⟨hW103, hB103, hTD103, hz103, hp103⟩ := id hS1
  obtain ⟨dd103, hw103, hd103⟩ := id hW103
  have hcap103 := hB103.cap
  refine jj_istore (pc := 19) kRF_product_d19 (Nat.le_of_ble_eq_true rfl) ?_
  refine jj_aload_n (pc := 21) kRF_product_d21 rfl ?_
  refine jj_getf (pc := 22) kRF_product_d22 (kfRF_w hG) hC1.1 rfl ?_
  refine jj_getf (pc := 25) kRF_product_d25 (kfRF_RW_top hG) hw103 rfl ?_
  refine jj_istore (pc := 28) kRF_product_d28 (Nat.le_of_ble_eq_true rfl) ?_
  show jj G kRF_product (d + 10) Q rc1 rs1 30 [some (.ref f), some (.int (nI (b))), some (.int (nI (c))), some (.int (nI (T))), some (.int (nI (t))), some (.int (nI (t))), some (.int (nI (T1))), none, none] [] M1
  have hb' := hb.congr (lo' := lob) t1 ho1 (show t ≤ tt by omega) hv1 (Nat.le_refl _)
  refine rf_product_mid (lob := lob) (s := s) (mm := mm) (e := e) (S := S) (L := L) (X' := X') (Z' := Z') hG hC1 hS1 hX1 hl1 (h1.congr t1 ho1) (by omega) hb' hrb hn hqb hm1 hrt hqt (by rw [hv1 (c + 1) (by omega)]; exact hc3) (by omega) hsm hm' hL hLm (fun i j hi hj k hk => by have h9 := hLd i j hi hj k hk; rw [← e2 j k hk] at h9; exact h9) (fun i j hi hj k hk => by have h9 := hLs i j hi hj k hk; rw [← e1 i j k hk] at h9; exact h9) (fun i j hi hj => by have h9 := hres i j hi hj; rw [← e1 i j n (Nat.le_refl _)] at h9; exact h9) hs (by omega) (by omega) (fun M2 vv D2 T2 V2 up2 low2 X2 Z2 v3 rc2 rs2 hC2 hS2 hX2 t2 u2 ho2 hv2 hl2 hF2 hm2 => ?_)
  have hcap2 := hX2.cap
  show jj G kRF_product (d + 10) Q rc2 rs2 97 [some (.ref f), some (.int (nI (b))), some (.int (nI (c))), some (.int (nI (T))), some (.int (nI (t))), some (.int (nI (t))), some (.int (nI (T1))), some (.int (nI (tt))), some (.int (nI (r * m)))] [] M2
  refine jj_aload_n (pc := 97) kRF_product_d97 rfl ?_
  refine jj_iload_n (pc := 98) kRF_product_d98 rfl ?_
  refine jj_iload (pc := 99) kRF_product_d99 rfl ?_
  refine jj_iload (pc := 101) kRF_product_d101 rfl ?_
  refine jj_iload (pc := 103) kRF_product_d103 rfl ?_
  have h12 : RI D2 T 1 1 := h1.congr (Nat.le_refl _) (fun i hi => by rw [ho2 i (by omega), ho1 i hi])
  refine jj_callV (pc := 105) (b := f) (As := [.int (nI (T)), .int (nI (t)), .int (nI (T1)), .int (nI (tt))]) kRF_product_d105 (kvRF_RF_slide hG) (kG_cl hG rfl) rfl hC2.1 rfl rfl rfl (Nat.le_of_ble_eq_true rfl) (Nat.le_of_ble_eq_true rfl) (jj_bare0 rfl) ?_
  refine rf_slide hG hC2 hS2 (by omega) (by omega) hm2 h12 hT3 t1 t2 (by omega) (by omega) (by omega) (by omega) (fun M3 D3 T3 V3 hC3 hS3 t3 ho3 hl3 hv3 hF3 hm3 => ?_)
  show jj G kRF_product (d + 10) Q rc2 rs2 108 [some (.ref f), some (.int (nI (b))), some (.int (nI (c))), some (.int (nI (T))), some (.int (nI (t))), some (.int (nI (t))), some (.int (nI (T1))), some (.int (nI (tt))), some (.int (nI (r * m)))] [.int (nI (t))] M3
  have hfe : (fun k => qsum (fun x => qb (k / m * n + x) * (fun k => qc (k % n * m + k / n)) (k % m * n + x)) n) = (fun k => qsum (fun x => qb (k / m * n + x) * qc (x * m + k % m)) n) := funext (fun k => e1 (k / m) (k % m) n (Nat.le_refl _))
  rw [hfe] at hm3
  exact jj_iret (pc := 108) kRF_product_d108 rfl (by rfl) (K M3 vv D3 T3 V3 _ _ X2 Z2 _ rc2 rs2 hC3 hS3 (hX2.same hl3) (by omega) (by omega) (fun i hi => by rw [ho3 i hi, ho2 i (by omega), ho1 i hi]) (fun i hi => by rw [hv3 i hi, hv2 i (by omega), hv1 i hi]) (by omega) ((hF1.trans hF2).trans hF3) hm3)
end RF12
