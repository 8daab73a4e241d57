/-! ===== the reference: move (printed by wip/gen/rm2.py) ===== -/
section RM2
variable {G : jg} {d : Nat} {Q : jq} {rc rs : Nat} {M : mheap} {f w vv pv g u vg pg de : Nat} {v2 v3 : Value} {D V P E Vg Pg : List Int32} {t tg TE : Nat} {up low rk upg lowg rkg : Int32}
theorem rm_move_mid {a r c lo T cm cv X Z X' Z' : Nat} {q : Nat → Rat} {sn sd Sf : Nat → Nat} (hG : kG G) (hC : FC M f w vv pv V t up low P rk) (hg : FG M f g u vg pg de E TE v3 Vg tg upg lowg Pg rkg) (hS : RS M w D T v2 cm X Z rc rs) (hX : FXB cv V X Z X' Z') (htV : t ≤ V.length) (h1 : RI D T 1 1) (hT3 : 3 ≤ T) (hEl : E.length < 2 ^ 31) (hTE : TE ≤ E.length) (hVg : Vg.length < 2 ^ 31) (htg : tg ≤ Vg.length) (h1g : RI E TE 1 1) (hb : MX E TE Vg tg a r c lo q) (hr : r < 1024) (hc : c < 1024) (hq : ∀ k, k < r * c → ZB (sn k) (q k).num ∧ ((q k).den = 1 ∧ sn k + 1 ≤ Sf k ∨ ZB (sd k) ((q k).den : Int) ∧ sn k + sd k + 2 ≤ Sf k)) (ht : t + 2 + 2 * (r * c) ≤ cv) (hT : T + nsum Sf (r * c) ≤ cm)
    (K : MKP (fun _ M' rc' rs' => jj G kR_move (d + 5) Q rc' rs' 100 [some (.ref f), some (.ref g), some (.int (nI (a))), some (.int (nI (t))), some (.int (nI (r * c)))] [] M') M f w pv D V t P rk T cm cv X' Z' (r) (c) (T + nsum Sf (r * c)) (fun k => q k)) : jj G kR_move (d + 5) Q rc rs 0 [some (.ref f), some (.ref g), some (.int (nI (a))), none, none] [] M := by
  have hcap := hX.cap
  have hcr : (r) * (c) = r * c := rfl
  unfold MKP at K
  rw [hcr] at K
  have hcapD := hS.2.1.cap
  obtain ⟨hb1, hb2, hb3, hb4⟩ := id hb
  refine jj_aload_n (pc := 0) kR_move_d0 rfl ?_
  refine jj_aload_n (pc := 1) kR_move_d1 rfl ?_
  refine jj_iload_n (pc := 2) kR_move_d2 rfl ?_
  refine jj_callV (pc := 3) (b := g) (As := [.int (nI (a))]) kR_move_d3 (kvR_RF_rows hG) (kG_cl hG rfl) rfl hg.1.1 rfl rfl rfl (Nat.le_of_ble_eq_true rfl) (Nat.le_of_ble_eq_true rfl) (jj_bare0 rfl) ?_
  refine rf_rows hG hg.1 (by omega) (by omega) ?_
  show jj G kR_move (d + 5) Q rc rs 6 [some (.ref f), some (.ref g), some (.int (nI (a))), none, none] [.int (Vg.getD a 0), .ref f] M
  refine jn_top (.int (nI (r))) (by rw [hb2]) ?_
  refine jj_aload_n (pc := 6) kR_move_d6 rfl ?_
  refine jj_iload_n (pc := 7) kR_move_d7 rfl ?_
  refine jj_callV (pc := 8) (b := g) (As := [.int (nI (a))]) kR_move_d8 (kvR_RF_columns hG) (kG_cl hG rfl) rfl hg.1.1 rfl rfl rfl (Nat.le_of_ble_eq_true rfl) (Nat.le_of_ble_eq_true rfl) (jj_bare0 rfl) ?_
  refine rf_columns hG hg.1 (by omega) (by omega) ?_
  show jj G kR_move (d + 5) Q rc rs 11 [some (.ref f), some (.ref g), some (.int (nI (a))), none, none] [.int (Vg.getD (a + 1) 0), .int (nI (r)), .ref f] M
  refine jn_top (.int (nI (c))) (by rw [hb3]) ?_
  refine jj_callV (pc := 11) (b := f) (As := [.int (nI (r)), .int (nI (c))]) kR_move_d11 (kvR_RF_make hG) (kG_cl hG rfl) rfl hC.1 rfl rfl rfl (Nat.le_of_ble_eq_true rfl) (Nat.le_of_ble_eq_true rfl) (jj_bare0 rfl) ?_
  refine rf_make hG hC hS hX htV (by omega) (by omega) (by rw [hcr]; exact ht) (fun M1 vv V1 X1 Z1 rc1 rs1 hC1 hS1 hX1 hl1 hr1 hc1 ho1 hF1 => ?_)
  show jj G kR_move (d + 5) Q rc1 rs1 14 [some (.ref f), some (.ref g), some (.int (nI (a))), none, none] [.int (nI (t))] M1
  rw [hcr] at hC1 hl1
  have hcap1 := hX1.cap
  refine jj_istore_n (pc := 14) kR_move_d14 (Nat.le_of_ble_eq_true rfl) ?_
  refine jn_iconst (pc := 15) 0 kR_move_d15 (by decide) ?_
  refine jj_istore (pc := 16) kR_move_d16 (Nat.le_of_ble_eq_true rfl) ?_
  show jj G kR_move (d + 5) Q rc1 rs1 18 [some (.ref f), some (.ref g), some (.int (nI (a))), some (.int (nI (t))), some (.int (nI (0)))] [] M1
  show jj G kR_move (d + 5) Q rc1 rs1 18 [some (.ref f), some (.ref g), some (.int (nI (a))), some (.int (nI (t))), some (.int (nI (0)))] [] M1
  have loop : ∀ mu k, r * c = k + mu → ∀ (M9 : mheap) (D9 : List Int32) (T9 : Nat) (V9 : List Int32) (up9 low9 : Int32) (v9 : Value) (rc9 rs9 : Nat), FC M9 f w vv pv V9 (t + 2 + 2 * (r * c)) up9 low9 P rk → RS M9 w D9 T9 v9 cm X1 Z1 rc9 rs9 → T ≤ T9 → T9 ≤ T + nsum Sf (k) → (∀ i, i < T → D9.getD i 0 = D.getD i 0) → V9.length = V1.length → (∀ i, i < t → V9.getD i 0 = V.getD i 0) → V9.getD t 0 = nI (r) → V9.getD (t + 1) 0 = nI (c) → FF M M9 f → (∀ k', k' < k → MC D9 T9 V9 t T k' ((fun k => q k) k')) → jj G kR_move (d + 5) Q rc9 rs9 18 [some (.ref f), some (.ref g), some (.int (nI (a))), some (.int (nI (t))), some (.int (nI (k)))] [] M9 := by
    intro mu
    induction mu with
    | zero =>
      intro k hk   M9 D9 T9 V9 up9 low9 v9 rc9 rs9 hC9 hS9 t9 u9 ho9 hlen9 hV9 hr9 hc9 hF9 hm9 
      have e : r * c = k := by omega
      subst e
      refine jj_iload (pc := 18) kR_move_d18 rfl ?_
      refine jj_aload_n (pc := 20) kR_move_d20 rfl ?_
      refine jj_iload_n (pc := 21) kR_move_d21 rfl ?_
      refine jj_callV (pc := 22) (b := g) (As := [.int (nI (a))]) kR_move_d22 (kvR_RF_cells hG) (kG_cl hG rfl) rfl (hg.ff hF9).1.1 rfl rfl rfl (Nat.le_of_ble_eq_true rfl) (Nat.le_of_ble_eq_true rfl) (jj_bare0 rfl) ?_
      refine rf_cells (r := r) (c := c) hG (hg.ff hF9).1 (by omega) (by omega) hb2 hb3 ?_
      show jj G kR_move (d + 5) Q rc9 rs9 25 [some (.ref f), some (.ref g), some (.int (nI (a))), some (.int (nI (t))), some (.int (nI (r * c)))] [.int (nI (r * c)), .int (nI (r * c))] M9
      refine jn_icmp_ge (pc := 25) (tgt := 100) kR_move_d25 (by decide) (by omega) (by omega) (fun _ => ?_) (fun c => by exfalso; omega)
      show jj G kR_move (d + 5) Q rc9 rs9 100 [some (.ref f), some (.ref g), some (.int (nI (a))), some (.int (nI (t))), some (.int (nI (r * c)))] [] M9
      exact K M9 vv D9 T9 V9 up9 low9 X1 Z1 v9 rc9 rs9 hC9 hS9 (hX1.same hlen9) t9 u9 ho9 hV9 (by omega) hF9 ⟨by rw [hcr]; exact Nat.le_refl _, hr9, hc9, fun k' hk' => hm9 k' (by rw [hcr] at hk'; exact hk')⟩  
    | succ mu ih =>
      intro k hk   M9 D9 T9 V9 up9 low9 v9 rc9 rs9 hC9 hS9 t9 u9 ho9 hlen9 hV9 hr9 hc9 hF9 hm9 
      have hk1 : nsum Sf (k + 1) ≤ nsum Sf (r * c) := nsum_le (by omega)
      have hk0 : nsum Sf (k + 1) = nsum Sf k + Sf k := rfl
      rw [hk0] at hk1
      have h19 := h1.congr t9 ho9
      refine jj_iload (pc := 18) kR_move_d18 rfl ?_
      refine jj_aload_n (pc := 20) kR_move_d20 rfl ?_
      refine jj_iload_n (pc := 21) kR_move_d21 rfl ?_
      refine jj_callV (pc := 22) (b := g) (As := [.int (nI (a))]) kR_move_d22 (kvR_RF_cells hG) (kG_cl hG rfl) rfl (hg.ff hF9).1.1 rfl rfl rfl (Nat.le_of_ble_eq_true rfl) (Nat.le_of_ble_eq_true rfl) (jj_bare0 rfl) ?_
      refine rf_cells (r := r) (c := c) hG (hg.ff hF9).1 (by omega) (by omega) hb2 hb3 ?_
      show jj G kR_move (d + 5) Q rc9 rs9 25 [some (.ref f), some (.ref g), some (.int (nI (a))), some (.int (nI (t))), some (.int (nI (k)))] [.int (nI (r * c)), .int (nI (k))] M9
      refine jn_icmp_ge (pc := 25) (tgt := 100) kR_move_d25 (by decide) (by omega) (by omega) (fun c => by exfalso; omega) (fun _ => ?_)
      obtain ⟨tz, htz⟩ : ∃ tz, t + 2 + 2 * (r * c) = tz := ⟨_, rfl⟩
      rw [htz] at hC9
      have hcg := hg.ff hF9
      obtain ⟨hn1, hn2⟩ := hq k (by omega)
      obtain ⟨pu, pl, a1, a2, a3, -⟩ := hb4 k (by omega)
      obtain ⟨r1, r2, r3⟩ := id a3
      have lpu := r1.lt
      have lpl := r2.lt
      have hcap9 := hS9.2.1.cap
      have hz90 := hS9.2.2.2.1
      obtain ⟨hW101, hB101, hTD101, hz101, hp101⟩ := id hS9
      obtain ⟨dd101, hw101, hd101⟩ := id hW101
      have hcap101 := hB101.cap
      refine jj_aload_n (pc := 28) kR_move_d28 rfl ?_
      refine jj_aload_n (pc := 29) kR_move_d29 rfl ?_
      refine jj_getf (pc := 30) kR_move_d30 (kfR_RF_w hG) hC9.1 rfl ?_
      refine jj_aload_n (pc := 33) kR_move_d33 rfl ?_
      refine jj_getf (pc := 34) kR_move_d34 (kfR_RF_w hG) (hg.ff hF9).1.1 rfl ?_
      refine jj_aload_n (pc := 37) kR_move_d37 rfl ?_
      refine jj_iload_n (pc := 38) kR_move_d38 rfl ?_
      refine jj_iload (pc := 39) kR_move_d39 rfl ?_
      refine jj_callV (pc := 41) (b := g) (As := [.int (nI (a)), .int (nI (k))]) kR_move_d41 (kvR_RF_upper hG) (kG_cl hG rfl) rfl (hg.ff hF9).1.1 rfl rfl rfl (Nat.le_of_ble_eq_true rfl) (Nat.le_of_ble_eq_true rfl) (jj_bare0 rfl) ?_
      refine rf_upper hG hcg.1 (by omega) (by omega) ?_
      show jj G kR_move (d + 5) Q rc9 rs9 44 [some (.ref f), some (.ref g), some (.int (nI (a))), some (.int (nI (t))), some (.int (nI (k)))] [.int (Vg.getD (a + 2 + 2 * k) 0), .ref u, .ref w, .ref f] M9
      refine jn_top (.int (nI (pu))) (by rw [a1]) ?_
      refine jj_callS (pc := 44) (As := [.ref w, .ref u, .int (nI (pu))]) kR_move_d44 (kvR_R_across hG) rfl rfl rfl (Nat.le_of_ble_eq_true rfl) (Nat.le_of_ble_eq_true rfl) (jj_bare0 rfl) ?_
      refine rm_across (a := sn k) hG hS9 hcg.2.1 hcg.2.2.1 (hcg.nro hC9).1 (hcg.nro hC9).2 hEl hTE r1 hn1 (by omega) (fun M1_ D1_ T1_ p1_ rc1_ rs1_ hS1_ t1_ u1_ ho1_ hf1_ hI1_ => ?_)
      show jj G kR_move (d + 5) Q rc1_ rs1_ 47 [some (.ref f), some (.ref g), some (.int (nI (a))), some (.int (nI (t))), some (.int (nI (k)))] [.int (nI (p1_)), .ref f] M1_
      have hC1_ := hC9.rf hf1_
      have hF1_ := hF9.trans (FF.ofRF hC9 hf1_)
      have hcg1 := hg.ff hF1_
      obtain ⟨hW102, hB102, hTD102, hz102, hp102⟩ := id hS1_
      obtain ⟨dd102, hw102, hd102⟩ := id hW102
      have hcap102 := hB102.cap
      refine jj_putf (pc := 47) kR_move_d47 (kpR_RF_up hG) hC1_.1 (by rfl) rfl ?_
      refine jn_gen (fun M103 hM104 => ?_)
      have hC105 : FC M103 f w vv pv V9 (tz) (nI (p1_)) (low9) P (rk) := by rw [hM104]; exact hC1_.putf
      have hF105 : FF M M103 f := by rw [hM104]; exact hF1_.trans (FF.putf hC1_)
      have hS105 : RS M103 w D1_ (T1_) v9 cm X1 Z1 rc1_ rs1_ := by rw [hM104]; exact hS1_.other hC1_.2.2.2.2.1
      obtain ⟨hW106, hB106, hTD106, hz106, hp106⟩ := id hS105
      obtain ⟨dd106, hw106, hd106⟩ := id hW106
      have hcap106 := hB106.cap
      refine jj_aload_n (pc := 50) kR_move_d50 rfl ?_
      refine jj_aload_n (pc := 51) kR_move_d51 rfl ?_
      refine jj_iload_n (pc := 52) kR_move_d52 rfl ?_
      refine jj_iload (pc := 53) kR_move_d53 rfl ?_
      refine jj_callV (pc := 55) (b := g) (As := [.int (nI (a)), .int (nI (k))]) kR_move_d55 (kvR_RF_lower hG) (kG_cl hG rfl) rfl (hg.ff hF105).1.1 rfl rfl rfl (Nat.le_of_ble_eq_true rfl) (Nat.le_of_ble_eq_true rfl) (jj_bare0 rfl) ?_
      refine rf_lower hG (hg.ff hF105).1 (by omega) (by omega) ?_
      show jj G kR_move (d + 5) Q rc1_ rs1_ 58 [some (.ref f), some (.ref g), some (.int (nI (a))), some (.int (nI (t))), some (.int (nI (k)))] [.int (Vg.getD (a + 3 + 2 * k) 0), .ref f] M103
      refine jn_top (.int (nI (pl))) (by rw [a2]) ?_
      refine jn_iconst (pc := 58) 1 kR_move_d58 (by decide) ?_
      have k84 : ∀ (l6 : Nat) (M7 : mheap) (D5 : List Int32) (T5 rc5 rs5 : Nat), FF M M7 f → FC M7 f w vv pv V9 (tz) (nI (p1_)) (low9) P (rk) → RS M7 w D5 T5 v9 cm X1 Z1 rc5 rs5 → T9 ≤ T5 → T5 ≤ T9 + Sf k → (∀ i, i < T9 → D5.getD i 0 = D9.getD i 0) → FQ D5 T5 p1_ l6 (q k) → (l6 = 1 ∨ T9 ≤ l6) → jj G kR_move (d + 5) Q rc5 rs5 84 [some (.ref f), some (.ref g), some (.int (nI (a))), some (.int (nI (t))), some (.int (nI (k)))] [.int (nI (l6)), .ref f] M7 := by
        intro l6 M7 D5 T5 rc5 rs5 hF7 hC7 hS7 t5 u5 ho5 hq6 hl6
        refine jj_putf (pc := 84) kR_move_d84 (kpR_RF_low hG) hC7.1 (by rfl) rfl ?_
        refine jn_gen (fun M107 hM108 => ?_)
        have hC109 : FC M107 f w vv pv V9 (tz) (nI (p1_)) (nI (l6)) P (rk) := by rw [hM108]; exact hC7.putf
        have hF109 : FF M M107 f := by rw [hM108]; exact hF7.trans (FF.putf hC7)
        have hS109 : RS M107 w D5 (T5) v9 cm X1 Z1 rc5 rs5 := by rw [hM108]; exact hS7.other hC7.2.2.2.2.1
        refine jj_aload_n (pc := 87) kR_move_d87 rfl ?_
        refine jj_iload_n (pc := 88) kR_move_d88 rfl ?_
        refine jj_iload (pc := 89) kR_move_d89 rfl ?_
        refine jj_callV (pc := 91) (b := f) (As := [.int (nI (t)), .int (nI (k))]) kR_move_d91 (kvR_RF_put hG) (kG_cl hG rfl) rfl hC109.1 rfl rfl rfl (Nat.le_of_ble_eq_true rfl) (Nat.le_of_ble_eq_true rfl) (jj_bare0 rfl) ?_
        refine rf_put (a := t) (i := k) hG hC109 hS109 (by omega) (by omega) (fun M5 hC5 hS5 hF8 => ?_)
        show jj G kR_move (d + 5) Q rc5 rs5 94 [some (.ref f), some (.ref g), some (.int (nI (a))), some (.int (nI (t))), some (.int (nI (k)))] [] M5
        obtain ⟨V5, hV5⟩ : ∃ V5, (V9.set (t + 2 + 2 * k) (nI p1_)).set (t + 3 + 2 * k) (nI l6) = V5 := ⟨_, rfl⟩
        rw [hV5] at hC5
        have hl5 : V5.length = V9.length := by rw [← hV5, List.length_set, List.length_set]
        have hv5 : ∀ i, i < t + 2 + 2 * k ∨ t + 4 + 2 * k ≤ i → V5.getD i 0 = V9.getD i 0 := fun i hi => by rw [← hV5, gd_set_ne (by omega), gd_set_ne (by omega)]
        have hF5x := hF109.trans hF8
        have hp1 := t1_.2
        have hm5 : MC D5 T5 V5 t T9 k (q k) := ⟨p1_, l6, by rw [← hV5, gd_set_ne (by omega)]; exact gd_set_eq (by omega), by rw [← hV5]; exact gd_set_eq (by rw [List.length_set]; omega), hq6, hp1, hl6⟩
        refine jn_iinc (pc := 94) (k + 1) kR_move_d94 rfl (nI_1 _) ?_
        refine jj_goto (pc := 97) (tgt := 18) kR_move_d97 (by decide) ?_
        show jj G kR_move (d + 5) Q rc5 rs5 18 [some (.ref f), some (.ref g), some (.int (nI (a))), some (.int (nI (t))), some (.int (nI (k + 1)))] [] M5
        rw [← htz] at hC5
        refine ih (k + 1) (by omega) M5 D5 T5 V5 _ _ _ rc5 rs5 hC5 hS5 (by omega) (by rw [hk0]; omega) (fun i hi => by rw [ho5 i (by omega), ho9 i hi]) (by omega) (fun i hi => by rw [hv5 i (by omega), hV9 i hi]) (by rw [hv5 _ (by omega)]; exact hr9) (by rw [hv5 _ (by omega)]; exact hc9) hF5x (fun k' hk' => ?_)
        by_cases e : k' = k
        · subst e
          exact hm5.congr (lo' := T) (Nat.le_refl _) (fun _ _ => rfl) (fun _ _ _ => rfl) t9
        · exact (hm9 k' (by omega)).congr t5 ho5 (fun i h6 h7 => hv5 i (by omega)) (Nat.le_refl _)
      clear ih
      refine jn_icmp_ne (pc := 59) (tgt := 66) kR_move_d59 (by decide) (by omega) (by omega) (fun c1 => ?_) (fun c1 => ?_)
      · skip
        have hd1 : (q k).den ≠ 1 := fun e => c1 (r3 e)
        obtain ⟨hn3, hn4⟩ : ZB (sd k) ((q k).den : Int) ∧ sn k + sd k + 2 ≤ Sf k := by
          rcases hn2 with h | h
          · exact absurd h.1 hd1
          · exact h
        refine jj_aload_n (pc := 66) kR_move_d66 rfl ?_
        refine jj_getf (pc := 67) kR_move_d67 (kfR_RF_w hG) hC105.1 rfl ?_
        refine jj_aload_n (pc := 70) kR_move_d70 rfl ?_
        refine jj_getf (pc := 71) kR_move_d71 (kfR_RF_w hG) (hg.ff hF105).1.1 rfl ?_
        refine jj_aload_n (pc := 74) kR_move_d74 rfl ?_
        refine jj_iload_n (pc := 75) kR_move_d75 rfl ?_
        refine jj_iload (pc := 76) kR_move_d76 rfl ?_
        refine jj_callV (pc := 78) (b := g) (As := [.int (nI (a)), .int (nI (k))]) kR_move_d78 (kvR_RF_lower hG) (kG_cl hG rfl) rfl (hg.ff hF105).1.1 rfl rfl rfl (Nat.le_of_ble_eq_true rfl) (Nat.le_of_ble_eq_true rfl) (jj_bare0 rfl) ?_
        refine rf_lower hG (hg.ff hF105).1 (by omega) (by omega) ?_
        show jj G kR_move (d + 5) Q rc1_ rs1_ 81 [some (.ref f), some (.ref g), some (.int (nI (a))), some (.int (nI (t))), some (.int (nI (k)))] [.int (Vg.getD (a + 3 + 2 * k) 0), .ref u, .ref w, .ref f] M103
        refine jn_top (.int (nI (pl))) (by rw [a2]) ?_
        have hcg2 := (hg.ff hF105)
        refine jj_callS (pc := 81) (As := [.ref w, .ref u, .int (nI (pl))]) kR_move_d81 (kvR_R_across hG) rfl rfl rfl (Nat.le_of_ble_eq_true rfl) (Nat.le_of_ble_eq_true rfl) (jj_bare0 rfl) ?_
        refine rm_across (a := sd k) hG hS105 hcg2.2.1 hcg2.2.2.1 (hcg2.nro hC105).1 (hcg2.nro hC105).2 hEl hTE r2 hn3 (by omega) (fun M2_ D2_ T2_ p2_ rc2_ rs2_ hS2_ t2_ u2_ ho2_ hf2_ hI2_ => ?_)
        show jj G kR_move (d + 5) Q rc2_ rs2_ 84 [some (.ref f), some (.ref g), some (.int (nI (a))), some (.int (nI (t))), some (.int (nI (k)))] [.int (nI (p2_)), .ref f] M2_
        have hC2_ := hC105.rf hf2_
        have hF2_ := hF105.trans (FF.ofRF hC105 hf2_)
        have hz2_ := hS2_.2.2.2.1
        have hcap2_ := hS2_.2.1.cap
        have hTD2_ := hS2_.2.2.1
        have hp2 : p2_ ≠ 0 := fun e => by have h9 := hI2_; rw [e] at h9; have := h9.z0 hz2_ (by omega); have := (q k).den_nz; omega
        have t1q := t1_.1
        have t2q := t2_.1
        exact k84 p2_ M2_ D2_ T2_ rc2_ rs2_ hF2_ hC2_ hS2_ (by omega) (by omega) (fun i hi => by rw [ho2_ i (by omega), ho1_ i hi]) ⟨hI1_.congr t2q ho2_, hI2_, fun e => absurd e hd1⟩ (by omega)
      · skip
        subst c1
        have hd1 : ((q k).den : Int) = 1 := r2.uniq h1g (by omega) (by omega)
        have t1q := t1_.1
        have hs1 : sn k + 1 ≤ Sf k := by rcases hn2 with h | h <;> omega
        refine jn_iconst (pc := 62) 1 kR_move_d62 (by decide) ?_
        refine jj_goto (pc := 63) (tgt := 84) kR_move_d63 (by decide) ?_
        show jj G kR_move (d + 5) Q rc1_ rs1_ 84 [some (.ref f), some (.ref g), some (.int (nI (a))), some (.int (nI (t))), some (.int (nI (k)))] [.int (nI (1)), .ref f] M103
        exact k84 1 M103 D1_ T1_ rc1_ rs1_ hF105 hC105 hS105 t1q (by omega) ho1_ ⟨hI1_, by rw [hd1]; exact h19.congr t1q ho1_, fun _ => rfl⟩ (Or.inl rfl)
  exact loop (r * c) 0 (by omega)   M1 D T V1 up low v2 rc1 rs1 hC1 hS1 (Nat.le_refl _) (by omega) (fun _ _ => rfl) rfl ho1 hr1 hc1 hF1 (fun k' hk' => by omega) 
theorem rm_move {a r c lo T cm cv X Z X' Z' : Nat} {q : Nat → Rat} {sn sd Sf : Nat → Nat} (hG : kG G) (hC : FC M f w vv pv V t up low P rk) (hg : FG M f g u vg pg de E TE v3 Vg tg upg lowg Pg rkg) (hS : RS M w D T v2 cm X Z rc rs) (hX : FXB cv V X Z X' Z') (htV : t ≤ V.length) (h1 : RI D T 1 1) (hT3 : 3 ≤ T) (hEl : E.length < 2 ^ 31) (hTE : TE ≤ E.length) (hVg : Vg.length < 2 ^ 31) (htg : tg ≤ Vg.length) (h1g : RI E TE 1 1) (hb : MX E TE Vg tg a r c lo q) (hr : r < 1024) (hc : c < 1024) (hq : ∀ k, k < r * c → ZB (sn k) (q k).num ∧ ((q k).den = 1 ∧ sn k + 1 ≤ Sf k ∨ ZB (sd k) ((q k).den : Int) ∧ sn k + sd k + 2 ≤ Sf k)) (ht : t + 2 + 2 * (r * c) ≤ cv) (hT : T + nsum Sf (r * c) ≤ cm)
    (K : MKP Q M f w pv D V t P rk T cm cv X' Z' r c (T + nsum Sf (r * c)) (fun k => q k)) : jj G kR_move (d + 5) Q rc rs 0 (jj_ent [.ref f, .ref g, .int (nI a)] 5) [] M := by
  show jj G kR_move (d + 5) Q rc rs 0 [some (.ref f), some (.ref g), some (.int (nI (a))), none, none] [] M
  refine rm_move_mid (sn := sn) (sd := sd) (Sf := Sf) (q := q) hG hC hg hS hX htV h1 hT3 hEl hTE hVg htg h1g hb hr hc hq ht hT (fun M2 vv D2 T2 V2 up2 low2 X2 Z2 v3_ rc2 rs2 hC2 hS2 hX2 t2 u2 ho2 hv2 hl2 hF2 hm2 => ?_)
  show jj G kR_move (d + 5) Q rc2 rs2 100 [some (.ref f), some (.ref g), some (.int (nI (a))), some (.int (nI (t))), some (.int (nI (r * c)))] [] M2
  refine jj_iload_n (pc := 100) kR_move_d100 rfl ?_
  exact jj_iret (pc := 101) kR_move_d101 rfl (by rfl) (K M2 vv D2 T2 V2 up2 low2 X2 Z2 v3_ rc2 rs2 hC2 hS2 hX2 t2 u2 ho2 hv2 hl2 hF2 hm2)
end RM2
