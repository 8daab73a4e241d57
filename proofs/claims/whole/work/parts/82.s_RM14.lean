/-! ===== the reference: set (printed by wip/gen/rm14.py) ===== -/
theorem ratdiv_sizes {u l : Int} (hu : ZB 5 u) (hl : ZB 5 l) (h0 : l ≠ 0) : ZB 5 ((u : Rat) / (l : Rat)).num ∧ ZB 5 (((u : Rat) / (l : Rat)).den : Int) := by
  have hl0 : (l : Rat) ≠ 0 := fun e => h0 (Rat.intCast_inj.mp (e.trans (show (0 : Rat) = ((0 : Int) : Rat) from rfl)))
  obtain ⟨r1, r2⟩ := qle_ratio (q := (u : Rat) / (l : Rat)) (a := u.natAbs) (b := l.natAbs) ⟨u, rfl, Nat.le_refl _⟩ ⟨l, rfl, Nat.le_refl _⟩ hl0 (by generalize (l : Rat) = b at *; grind)
  unfold ZB at *
  omega
theorem ZB5 (x : Int64) : ZB 5 x.toInt := by
  have h1 := Int64.le_toInt x
  have h2 := Int64.toInt_lt x
  unfold ZB
  have e : (32768 : Nat) ^ 5 = 37778931862957161709568 := by decide
  rw [e]
  omega
section RM14
variable {G : jg} {d : Nat} {Q : jq} {rc rs : Nat} {M : mheap} {F : Nat → Nat} {r o f st w vv pv ca ra : Nat} {v2 : Value} {D V P CA RA : List Int32} {t : Nat} {up low rk fi se code : Int32} {σ : rst} {pt zt : Nat → Nat}
theorem rm_set_mid {R c b kr i j ic px py lob T S cm cv X Z X' Z' : Nat} {u l : Int} {uu ll : Int64} {q : Nat → Rat} (hG : kG G) (e0 : F 0 = f) (e9 : F 9 = r) (e10 : F 10 = o) (e11 : F 11 = st) (hP : RPX M F code 0 pt zt (SA σ)) (hC : FC M f w vv pv V t up low P rk) (hS : RS M w D T v2 cm X Z rc rs) (hX : FXB cv V X Z X' Z') (htV : t ≤ V.length) (h1 : RI D T 1 1) (hT3 : 3 ≤ T) (hb : MX D T V t b R c lob q) (hR : R ≤ 16) (hc : c ≤ 16) (hi : i < 16) (hj : j < 16) (hic : i * c = ic) (hq : ∀ k, k < R * c → ZB 267 (q k).num ∧ ZB 267 ((q k).den : Int)) (hx : RI D T px u) (hy : RI D T py l) (hu : ZB 5 u) (hl : ZB 5 l) (hl0 : l ≠ 0) (hSS : S = 536) (ht : t + 2 + 2 * (R * c) ≤ cv) (hT : T + R * c * S + 30000 ≤ cm)
    (K : MKP (fun _ M' rc' rs' => jj G kR_set (d + 11) Q rc' rs' 183 [some (.ref r), some (.int (nI (kr))), some (.int (nI (i))), some (.int (nI (j))), some (.long (uu)), none, some (.long (ll)), none, some (.int (nI (b))), some (.int (nI (px))), some (.int (nI (py))), some (.int (nI (t))), some (.int (nI (R * c)))] [] M') M f w pv D V t P rk T cm cv X' Z' (R) (c) (T + R * c * S) (fun k => if k = ic + j then (u : Rat) / (l : Rat) else q k)) : jj G kR_set (d + 11) Q rc rs 73 [some (.ref r), some (.int (nI (kr))), some (.int (nI (i))), some (.int (nI (j))), some (.long (uu)), none, some (.long (ll)), none, some (.int (nI (b))), some (.int (nI (px))), some (.int (nI (py))), none, none] [] M := by
  have hcap := hX.cap
  have hcr : (R) * (c) = R * c := rfl
  unfold MKP at K
  rw [hcr] at K
  have hcapD := hS.2.1.cap
  obtain ⟨hb1, hb2, hb3, hb4⟩ := id hb
  have hRc : R * c ≤ 16 * 16 := Nat.mul_le_mul hR hc
  have hicl : ic ≤ 16 * 16 := by rw [← hic]; exact Nat.mul_le_mul (by omega) hc
  obtain ⟨hW101, hB101, hTD101, hz101, hp101⟩ := id hS
  obtain ⟨dd101, hw101, hd101⟩ := id hW101
  have hcap101 := hB101.cap
  refine jj_aload_n (pc := 73) kR_set_d73 rfl ?_
  refine jj_getf (pc := 74) kR_set_d74 (kfR_f hG) (RPX.rr e0 e9 e10 e11 hP) rfl ?_
  refine jj_aload_n (pc := 77) kR_set_d77 rfl ?_
  refine jj_getf (pc := 78) kR_set_d78 (kfR_f hG) (RPX.rr e0 e9 e10 e11 hP) rfl ?_
  refine jj_iload (pc := 81) kR_set_d81 rfl ?_
  refine jj_callV (pc := 83) (b := f) (As := [.int (nI (b))]) kR_set_d83 (kvR_RF_rows hG) (kG_cl hG rfl) rfl hC.1 rfl rfl rfl (Nat.le_of_ble_eq_true rfl) (Nat.le_of_ble_eq_true rfl) (jj_bare0 rfl) ?_
  refine rf_rows hG hC (by omega) (by omega) ?_
  show jj G kR_set (d + 11) Q rc rs 86 [some (.ref r), some (.int (nI (kr))), some (.int (nI (i))), some (.int (nI (j))), some (.long (uu)), none, some (.long (ll)), none, some (.int (nI (b))), some (.int (nI (px))), some (.int (nI (py))), none, none] [.int (V.getD b 0), .ref f] M
  refine jn_top (.int (nI (R))) (by rw [hb2]) ?_
  refine jj_aload_n (pc := 86) kR_set_d86 rfl ?_
  refine jj_getf (pc := 87) kR_set_d87 (kfR_f hG) (RPX.rr e0 e9 e10 e11 hP) rfl ?_
  refine jj_iload (pc := 90) kR_set_d90 rfl ?_
  refine jj_callV (pc := 92) (b := f) (As := [.int (nI (b))]) kR_set_d92 (kvR_RF_columns hG) (kG_cl hG rfl) rfl hC.1 rfl rfl rfl (Nat.le_of_ble_eq_true rfl) (Nat.le_of_ble_eq_true rfl) (jj_bare0 rfl) ?_
  refine rf_columns hG hC (by omega) (by omega) ?_
  show jj G kR_set (d + 11) Q rc rs 95 [some (.ref r), some (.int (nI (kr))), some (.int (nI (i))), some (.int (nI (j))), some (.long (uu)), none, some (.long (ll)), none, some (.int (nI (b))), some (.int (nI (px))), some (.int (nI (py))), none, none] [.int (V.getD (b + 1) 0), .int (nI (R)), .ref f] M
  refine jn_top (.int (nI (c))) (by rw [hb3]) ?_
  refine jj_callV (pc := 95) (b := f) (As := [.int (nI (R)), .int (nI (c))]) kR_set_d95 (kvR_RF_make hG) (kG_cl hG rfl) rfl hC.1 rfl rfl rfl (Nat.le_of_ble_eq_true rfl) (Nat.le_of_ble_eq_true rfl) (jj_bare0 rfl) ?_
  refine rf_make hG hC hS hX htV (by omega) (by omega) (by rw [hcr]; exact ht) (fun M1 vv V1 X1 Z1 rc1 rs1 hC1 hS1 hX1 hl1 hr1 hc1 ho1 hF1 => ?_)
  show jj G kR_set (d + 11) Q rc1 rs1 98 [some (.ref r), some (.int (nI (kr))), some (.int (nI (i))), some (.int (nI (j))), some (.long (uu)), none, some (.long (ll)), none, some (.int (nI (b))), some (.int (nI (px))), some (.int (nI (py))), none, none] [.int (nI (t))] M1
  rw [hcr] at hC1 hl1
  have hcap1 := hX1.cap
  refine jj_istore (pc := 98) kR_set_d98 (Nat.le_of_ble_eq_true rfl) ?_
  refine jn_iconst (pc := 100) 0 kR_set_d100 (by decide) ?_
  refine jj_istore (pc := 101) kR_set_d101 (Nat.le_of_ble_eq_true rfl) ?_
  show jj G kR_set (d + 11) Q rc1 rs1 103 [some (.ref r), some (.int (nI (kr))), some (.int (nI (i))), some (.int (nI (j))), some (.long (uu)), none, some (.long (ll)), none, some (.int (nI (b))), some (.int (nI (px))), some (.int (nI (py))), some (.int (nI (t))), some (.int (nI (0)))] [] M1
  show jj G kR_set (d + 11) Q rc1 rs1 103 [some (.ref r), some (.int (nI (kr))), some (.int (nI (i))), some (.int (nI (j))), some (.long (uu)), none, some (.long (ll)), none, some (.int (nI (b))), some (.int (nI (px))), some (.int (nI (py))), some (.int (nI (t))), some (.int (nI (0)))] [] M1
  have loop : ∀ mu k, R * c = k + mu → ∀ (M9 : mheap) (D9 : List Int32) (T9 : Nat) (V9 : List Int32) (up9 low9 : Int32) (v9 : Value) (rc9 rs9 : Nat), FC M9 f w vv pv V9 (t + 2 + 2 * (R * c)) up9 low9 P rk → RS M9 w D9 T9 v9 cm X1 Z1 rc9 rs9 → T ≤ T9 → T9 ≤ T + k * S → (∀ i, i < T → D9.getD i 0 = D.getD i 0) → V9.length = V1.length → (∀ i, i < t → V9.getD i 0 = V.getD i 0) → V9.getD t 0 = nI (R) → V9.getD (t + 1) 0 = nI (c) → FF M M9 f → (∀ k', k' < k → MC D9 T9 V9 t T k' ((fun k => if k = ic + j then (u : Rat) / (l : Rat) else q k) k')) → jj G kR_set (d + 11) Q rc9 rs9 103 [some (.ref r), some (.int (nI (kr))), some (.int (nI (i))), some (.int (nI (j))), some (.long (uu)), none, some (.long (ll)), none, some (.int (nI (b))), some (.int (nI (px))), some (.int (nI (py))), some (.int (nI (t))), some (.int (nI (k)))] [] M9 := by
    intro mu
    induction mu with
    | zero =>
      intro k hk   M9 D9 T9 V9 up9 low9 v9 rc9 rs9 hC9 hS9 t9 u9 ho9 hlen9 hV9 hr9 hc9 hF9 hm9 
      have e : R * c = k := by omega
      subst e
      refine jj_iload (pc := 103) kR_set_d103 rfl ?_
      refine jj_aload_n (pc := 105) kR_set_d105 rfl ?_
      refine jj_getf (pc := 106) kR_set_d106 (kfR_f hG) (RPX.rr e0 e9 e10 e11 (hP.ffe e0 hF9)) rfl ?_
      refine jj_iload (pc := 109) kR_set_d109 rfl ?_
      refine jj_callV (pc := 111) (b := f) (As := [.int (nI (b))]) kR_set_d111 (kvR_RF_cells hG) (kG_cl hG rfl) rfl hC9.1 rfl rfl rfl (Nat.le_of_ble_eq_true rfl) (Nat.le_of_ble_eq_true rfl) (jj_bare0 rfl) ?_
      refine rf_cells (r := R) (c := c) hG hC9 (by omega) (by omega) (by rw [hV9 b (by omega)]; exact hb2) (by rw [hV9 (b + 1) (by omega)]; exact hb3) ?_
      show jj G kR_set (d + 11) Q rc9 rs9 114 [some (.ref r), some (.int (nI (kr))), some (.int (nI (i))), some (.int (nI (j))), some (.long (uu)), none, some (.long (ll)), none, some (.int (nI (b))), some (.int (nI (px))), some (.int (nI (py))), some (.int (nI (t))), some (.int (nI (R * c)))] [.int (nI (R * c)), .int (nI (R * c))] M9
      refine jn_icmp_ge (pc := 114) (tgt := 183) kR_set_d114 (by decide) (by omega) (by omega) (fun _ => ?_) (fun c => by exfalso; omega)
      show jj G kR_set (d + 11) Q rc9 rs9 183 [some (.ref r), some (.int (nI (kr))), some (.int (nI (i))), some (.int (nI (j))), some (.long (uu)), none, some (.long (ll)), none, some (.int (nI (b))), some (.int (nI (px))), some (.int (nI (py))), some (.int (nI (t))), some (.int (nI (R * c)))] [] M9
      exact K M9 vv D9 T9 V9 up9 low9 X1 Z1 v9 rc9 rs9 hC9 hS9 (hX1.same hlen9) t9 u9 ho9 hV9 (by omega) hF9 ⟨by rw [hcr]; exact Nat.le_refl _, hr9, hc9, fun k' hk' => hm9 k' (by rw [hcr] at hk'; exact hk')⟩  
    | succ mu ih =>
      intro k hk   M9 D9 T9 V9 up9 low9 v9 rc9 rs9 hC9 hS9 t9 u9 ho9 hlen9 hV9 hr9 hc9 hF9 hm9 
      have hk1 : (k + 1) * S ≤ R * c * S := Nat.mul_le_mul_right _ (by omega)
      rw [Nat.succ_mul] at hk1
      have h19 := h1.congr t9 ho9
      refine jj_iload (pc := 103) kR_set_d103 rfl ?_
      refine jj_aload_n (pc := 105) kR_set_d105 rfl ?_
      refine jj_getf (pc := 106) kR_set_d106 (kfR_f hG) (RPX.rr e0 e9 e10 e11 (hP.ffe e0 hF9)) rfl ?_
      refine jj_iload (pc := 109) kR_set_d109 rfl ?_
      refine jj_callV (pc := 111) (b := f) (As := [.int (nI (b))]) kR_set_d111 (kvR_RF_cells hG) (kG_cl hG rfl) rfl hC9.1 rfl rfl rfl (Nat.le_of_ble_eq_true rfl) (Nat.le_of_ble_eq_true rfl) (jj_bare0 rfl) ?_
      refine rf_cells (r := R) (c := c) hG hC9 (by omega) (by omega) (by rw [hV9 b (by omega)]; exact hb2) (by rw [hV9 (b + 1) (by omega)]; exact hb3) ?_
      show jj G kR_set (d + 11) Q rc9 rs9 114 [some (.ref r), some (.int (nI (kr))), some (.int (nI (i))), some (.int (nI (j))), some (.long (uu)), none, some (.long (ll)), none, some (.int (nI (b))), some (.int (nI (px))), some (.int (nI (py))), some (.int (nI (t))), some (.int (nI (k)))] [.int (nI (R * c)), .int (nI (k))] M9
      refine jn_icmp_ge (pc := 114) (tgt := 183) kR_set_d114 (by decide) (by omega) (by omega) (fun c => by exfalso; omega) (fun _ => ?_)
      refine jj_iload (pc := 117) kR_set_d117 rfl ?_
      refine jj_iload_n (pc := 119) kR_set_d119 rfl ?_
      refine jj_aload_n (pc := 120) kR_set_d120 rfl ?_
      refine jj_getf (pc := 121) kR_set_d121 (kfR_f hG) (RPX.rr e0 e9 e10 e11 (hP.ffe e0 hF9)) rfl ?_
      refine jj_iload (pc := 124) kR_set_d124 rfl ?_
      refine jj_callV (pc := 126) (b := f) (As := [.int (nI (b))]) kR_set_d126 (kvR_RF_columns hG) (kG_cl hG rfl) rfl hC9.1 rfl rfl rfl (Nat.le_of_ble_eq_true rfl) (Nat.le_of_ble_eq_true rfl) (jj_bare0 rfl) ?_
      refine rf_columns hG hC9 (by omega) (by omega) ?_
      show jj G kR_set (d + 11) Q rc9 rs9 129 [some (.ref r), some (.int (nI (kr))), some (.int (nI (i))), some (.int (nI (j))), some (.long (uu)), none, some (.long (ll)), none, some (.int (nI (b))), some (.int (nI (px))), some (.int (nI (py))), some (.int (nI (t))), some (.int (nI (k)))] [.int (V9.getD (b + 1) 0), .int (nI (i)), .int (nI (k))] M9
      refine jn_top (.int (nI (c))) (by rw [hV9 (b + 1) (by omega), hb3]) ?_
      refine jn_imul (pc := 129) (ic) kR_set_d129 hic ?_
      refine jj_iload_n (pc := 130) kR_set_d130 rfl ?_
      refine jn_iadd (pc := 131) (ic + j) kR_set_d131 (by omega) ?_
      refine jn_icmp_ne (pc := 132) (tgt := 162) kR_set_d132 (by decide) (by omega) (by omega) (fun c1 => ?_) (fun c1 => ?_)
      · skip
        obtain ⟨ix, hix⟩ : ∃ ix, k = ix := ⟨_, rfl⟩
        have hmc : MC D9 T9 V9 b lob ix (q ix) := by rw [← hix]; exact (hb4 k (by omega)).congr t9 ho9 (fun i _ h6 => hV9 i (by omega)) (Nat.le_refl _)
        obtain ⟨hn1, hn2⟩ := hq ix (by omega)
        have eq9 : (if k = ic + j then (u : Rat) / (l : Rat) else q k) = q ix := by rw [if_neg c1, hix]
        refine jj_aload_n (pc := 162) kR_set_d162 rfl ?_
        refine jj_getf (pc := 163) kR_set_d163 (kfR_f hG) (RPX.rr e0 e9 e10 e11 (hP.ffe e0 hF9)) rfl ?_
        refine jj_iload (pc := 166) kR_set_d166 rfl ?_
        refine jj_iload (pc := 168) kR_set_d168 rfl ?_
        refine jj_iload (pc := 170) kR_set_d170 rfl ?_
        refine jj_iload (pc := 172) kR_set_d172 rfl ?_
        refine jn_top (.int (nI (ix))) (by rw [hix]) ?_
        refine jj_callV (pc := 174) (b := f) (As := [.int (nI (t)), .int (nI (k)), .int (nI (b)), .int (nI (ix))]) kR_set_d174 (kvR_RF_same hG) (kG_cl hG rfl) rfl hC9.1 rfl rfl rfl (Nat.le_of_ble_eq_true rfl) (Nat.le_of_ble_eq_true rfl) (jj_bare0 rfl) ?_
        refine rf_same (a := t) (i := k) (b := b) (j := ix) (c := 267) hG hC9 hS9 h19 (by omega) (by omega) hmc (by omega) (by omega) hn1 hn2 (by omega) (fun M5 D5 T5 V5 up5 low5 rc5 rs5 hC5 hS5 t5 u5 ho5 hl5 hv5 hF5 hm5 => ?_)
        show jj G kR_set (d + 11) Q rc5 rs5 177 [some (.ref r), some (.int (nI (kr))), some (.int (nI (i))), some (.int (nI (j))), some (.long (uu)), none, some (.long (ll)), none, some (.int (nI (b))), some (.int (nI (px))), some (.int (nI (py))), some (.int (nI (t))), some (.int (nI (k)))] [] M5
        rw [← eq9] at hm5
        refine jn_iinc (pc := 177) (k + 1) kR_set_d177 rfl (nI_1 _) ?_
        refine jj_goto (pc := 180) (tgt := 103) kR_set_d180 (by decide) ?_
        show jj G kR_set (d + 11) Q rc5 rs5 103 [some (.ref r), some (.int (nI (kr))), some (.int (nI (i))), some (.int (nI (j))), some (.long (uu)), none, some (.long (ll)), none, some (.int (nI (b))), some (.int (nI (px))), some (.int (nI (py))), some (.int (nI (t))), some (.int (nI (k + 1)))] [] M5
        refine ih (k + 1) (by omega)   M5 D5 T5 V5 _ _ v9 rc5 rs5 hC5 hS5 (by omega) (by rw [Nat.succ_mul]; omega) (fun i hi => by rw [ho5 i (by omega), ho9 i hi]) (by omega) (fun i hi => by rw [hv5 i (by omega), hV9 i hi]) (by rw [hv5 _ (by omega)]; exact hr9) (by rw [hv5 _ (by omega)]; exact hc9) (hF9.trans hF5) (fun k' hk' => ?_) 
        by_cases e : k' = k
        · subst e
          exact hm5.congr (lo' := T) (Nat.le_refl _) (fun _ _ => rfl) (fun _ _ _ => rfl) t9
        · exact (hm9 k' (by omega)).congr t5 ho5 (fun i h6 h7 => hv5 i (by omega)) (Nat.le_refl _)
      · skip
        have eq9 : (if k = ic + j then (u : Rat) / (l : Rat) else q k) = (u : Rat) / (l : Rat) := if_pos c1
        have hfx : FQ D9 T9 px 1 (u : Rat) := ⟨hx.congr t9 ho9, h19, fun _ => rfl⟩
        have hfy : FQ D9 T9 py 1 (l : Rat) := ⟨hy.congr t9 ho9, h19, fun _ => rfl⟩
        obtain ⟨z1, z2⟩ := ratdiv_sizes hu hl hl0
        have hl0' : (l : Rat) ≠ 0 := fun e => hl0 (Rat.intCast_inj.mp (e.trans (show (0 : Rat) = ((0 : Int) : Rat) from rfl)))
        have hlx := hfx.1.lt
        have hly := hfy.1.lt
        refine jj_aload_n (pc := 135) kR_set_d135 rfl ?_
        refine jj_getf (pc := 136) kR_set_d136 (kfR_f hG) (RPX.rr e0 e9 e10 e11 (hP.ffe e0 hF9)) rfl ?_
        refine jj_iload (pc := 139) kR_set_d139 rfl ?_
        refine jn_iconst (pc := 141) 1 kR_set_d141 (by decide) ?_
        refine jj_iload (pc := 142) kR_set_d142 rfl ?_
        refine jn_iconst (pc := 144) 1 kR_set_d144 (by decide) ?_
        refine jj_callV (pc := 145) (b := f) (As := [.int (nI (px)), .int (nI (1)), .int (nI (py)), .int (nI (1))]) kR_set_d145 (kvR_RF_divide hG) (kG_cl hG rfl) rfl hC9.1 rfl rfl rfl (Nat.le_of_ble_eq_true rfl) (Nat.le_of_ble_eq_true rfl) (jj_bare0 rfl) ?_
        refine rf_divide (a := 5) (c := 5) hG hC9 hS9 h19 (by omega) hfx hfy hl0' hu (by show ZB 5 ((1 : Nat) : Int); unfold ZB; decide) hl (by show ZB 5 ((1 : Nat) : Int); unfold ZB; decide) (by omega) z1 z2 (by omega) (fun M6 D5 T5 p6 l6 v6 rc5 rs5 hC6 hS6 t5 u6 ho5 hF6 hq6 g1 g2 => ?_)
        show jj G kR_set (d + 11) Q rc5 rs5 148 [some (.ref r), some (.int (nI (kr))), some (.int (nI (i))), some (.int (nI (j))), some (.long (uu)), none, some (.long (ll)), none, some (.int (nI (b))), some (.int (nI (px))), some (.int (nI (py))), some (.int (nI (t))), some (.int (nI (k)))] [] M6
        refine jj_aload_n (pc := 148) kR_set_d148 rfl ?_
        refine jj_getf (pc := 149) kR_set_d149 (kfR_f hG) (RPX.rr e0 e9 e10 e11 (hP.ffe e0 (hF9.trans hF6))) rfl ?_
        refine jj_iload (pc := 152) kR_set_d152 rfl ?_
        refine jj_iload (pc := 154) kR_set_d154 rfl ?_
        rw [← eq9] at hq6
        refine jj_callV (pc := 156) (b := f) (As := [.int (nI (t)), .int (nI (k))]) kR_set_d156 (kvR_RF_put hG) (kG_cl hG rfl) rfl hC6.1 rfl rfl rfl (Nat.le_of_ble_eq_true rfl) (Nat.le_of_ble_eq_true rfl) (jj_bare0 rfl) ?_
        refine rf_put (a := t) (i := k) hG hC6 hS6 (by omega) (by omega) (fun M5 hC5 hS5 hF7 => ?_)
        show jj G kR_set (d + 11) Q rc5 rs5 159 [some (.ref r), some (.int (nI (kr))), some (.int (nI (i))), some (.int (nI (j))), some (.long (uu)), none, some (.long (ll)), none, some (.int (nI (b))), some (.int (nI (px))), some (.int (nI (py))), some (.int (nI (t))), some (.int (nI (k)))] [] M5
        obtain ⟨V5, hV5⟩ : ∃ V5, (V9.set (t + 2 + 2 * k) (nI p6)).set (t + 3 + 2 * k) (nI l6) = V5 := ⟨_, rfl⟩
        rw [hV5] at hC5
        have hl5 : V5.length = V9.length := by rw [← hV5, List.length_set, List.length_set]
        have hv5 : ∀ i, i < t + 2 + 2 * k ∨ t + 4 + 2 * k ≤ i → V5.getD i 0 = V9.getD i 0 := fun i hi => by rw [← hV5, gd_set_ne (by omega), gd_set_ne (by omega)]
        have hF5 := hF6.trans hF7
        have hm5 : MC D5 T5 V5 t T9 k (if k = ic + j then (u : Rat) / (l : Rat) else q k) := ⟨p6, l6, by rw [← hV5, gd_set_ne (by omega)]; exact gd_set_eq (by omega), by rw [← hV5]; exact gd_set_eq (by rw [List.length_set]; omega), hq6, g1, g2⟩
        refine jj_goto (pc := 159) (tgt := 177) kR_set_d159 (by decide) ?_
        refine jn_iinc (pc := 177) (k + 1) kR_set_d177 rfl (nI_1 _) ?_
        refine jj_goto (pc := 180) (tgt := 103) kR_set_d180 (by decide) ?_
        show jj G kR_set (d + 11) Q rc5 rs5 103 [some (.ref r), some (.int (nI (kr))), some (.int (nI (i))), some (.int (nI (j))), some (.long (uu)), none, some (.long (ll)), none, some (.int (nI (b))), some (.int (nI (px))), some (.int (nI (py))), some (.int (nI (t))), some (.int (nI (k + 1)))] [] M5
        refine ih (k + 1) (by omega)   M5 D5 T5 V5 _ _ v6 rc5 rs5 hC5 hS5 (by omega) (by rw [Nat.succ_mul]; omega) (fun i hi => by rw [ho5 i (by omega), ho9 i hi]) (by omega) (fun i hi => by rw [hv5 i (by omega), hV9 i hi]) (by rw [hv5 _ (by omega)]; exact hr9) (by rw [hv5 _ (by omega)]; exact hc9) (hF9.trans hF5) (fun k' hk' => ?_) 
        by_cases e : k' = k
        · subst e
          exact hm5.congr (lo' := T) (Nat.le_refl _) (fun _ _ => rfl) (fun _ _ _ => rfl) t9
        · exact (hm9 k' (by omega)).congr t5 ho5 (fun i h6 h7 => hv5 i (by omega)) (Nat.le_refl _)
  exact loop (R * c) 0 (by omega)   M1 D T V1 up low v2 rc1 rs1 hC1 hS1 (Nat.le_refl _) (by omega) (fun _ _ => rfl) rfl ho1 hr1 hc1 hF1 (fun k' hk' => by omega) 
end RM14
section RM14b
variable {G : jg} {d : Nat} {Q : jq} {rc rs : Nat} {M : mheap} {F : Nat → Nat} {r : Nat} {code : Int32} {σ : rst} {X Z : Nat}
theorem rp_set {x y z : Int32} {uu ll : Int64} (hG : kG G) (e9 : F 9 = r) (hT : RT M F code σ X Z rc rs) (hL : LG σ)
    (K : ∀ M' cd σ' rc' rs', semSet σ x y z uu ll cd σ' → LG σ' → RT M' F (nI cd) σ' X Z rc' rs' → RTF M M' F → Q (.returned none) M' rc' rs') : jj G kR_set (d + 12) Q rc rs 0 (jj_ent [.ref r, .int x, .int y, .int z, .long uu, .long ll] 13) [] M := by
  obtain ⟨pt, zt, w, vv, pv, D, T, v2, V, t, up, low, P, rk, CA, RA, fi, se, X1, Z1, hP, hO, hCA, hRA, hC, hS, hX, hT3, h1, htV, hPL⟩ := hT.opn
  obtain ⟨f, e0⟩ : ∃ f, F 0 = f := ⟨_, rfl⟩
  obtain ⟨o, e10⟩ : ∃ o, F 10 = o := ⟨_, rfl⟩
  obtain ⟨st, e11⟩ : ∃ st, F 11 = st := ⟨_, rfl⟩
  obtain ⟨ca, e12⟩ : ∃ ca, F 12 = ca := ⟨_, rfl⟩
  obtain ⟨ra, e13⟩ : ∃ ra, F 13 = ra := ⟨_, rfl⟩
  rw [e10, e0, e12, e13] at hO
  rw [e0] at hC
  have hcap := hX.cap
  show jj G kR_set (d + 12) Q rc rs 0 [some (.ref r), some (.int (x)), some (.int (y)), some (.int (z)), some (.long (uu)), none, some (.long (ll)), none, none, none, none, none, none] [] M
  refine jj_aload_n (pc := 0) kR_set_d0 rfl ?_
  refine jj_aload_n (pc := 1) kR_set_d1 rfl ?_
  refine jj_iload_n (pc := 2) kR_set_d2 rfl ?_
  refine jj_iload_n (pc := 3) kR_set_d3 rfl ?_
  refine jj_iload_n (pc := 4) kR_set_d4 rfl ?_
  refine jj_callV (pc := 5) (b := r) (As := [.int (x), .int (y), .int (z)]) kR_set_d5 (kvR_R_isCell hG) (kG_cl hG rfl) rfl (RPX.rr e0 e9 e10 e11 hP) rfl rfl rfl (Nat.le_of_ble_eq_true rfl) (Nat.le_of_ble_eq_true rfl) (jj_bare0 rfl) ?_
  refine rm_isCell (x := x) (y := y) (z := z) hG e0 e9 e10 e11 hP hC hL (fun k i j hk ek hi ei hj ej => ?_) (fun hn => ?_)
  · skip
    subst ek ei ej
    obtain ⟨q1, q2, q3, q4, q5, q6⟩ := hL k hk
    show jj G kR_set (d + 12) Q rc rs 8 [some (.ref r), some (.int (nI (k))), some (.int (nI (i))), some (.int (nI (j))), some (.long (uu)), none, some (.long (ll)), none, none, none, none, none, none] [.int (nI (1)), .ref r] M
    refine jn_if_ne (pc := 8) (tgt := 15) kR_set_d8 (by decide) (by omega) (fun _ => ?_) (fun c => by exfalso; omega)
    refine jj_lload (pc := 15) kR_set_d15 rfl ?_
    refine jj_lconst (pc := 17) (v := lN 0) kR_set_d17 (by decide) ?_
    refine jj_lcmp (pc := 18) kR_set_d18 ?_
    refine jj_if_ne (pc := 19) (tgt := 26) kR_set_d19 (by decide) (fun c0 => ?_) (fun c0 => ?_)
    · skip
      have hl0 : ll ≠ 0 := fun e => c0 ((lg_cmp_eq _ _).mpr e)
      refine jn_iconst (pc := 26) 0 kR_set_d26 (by decide) ?_
      have hP_q102 := hP
      have hO_q102 := hO
      refine jj_callV (pc := 27) (b := r) (As := [.int (nI (0))]) kR_set_d27 (kvR_R_refuses hG) (kG_cl hG rfl) rfl (RPX.rr e0 e9 e10 e11 hP) rfl rfl rfl (Nat.le_of_ble_eq_true rfl) (Nat.le_of_ble_eq_true rfl) (jj_bare0 rfl) ?_
      refine rm_refuses (c := 0) hG (RPX.rr e0 e9 e10 e11 hP) (by omega) (fun hp => ?_) (fun hp => ?_)
      · skip
        exact absurd hp (by omega)
      · skip
        obtain ⟨Mq102, hMq102⟩ : ∃ Mq102, Mq102 = jj_up M r (.inl nR, [.int (nI (0)), .ref f, .ref o, .ref st]) := ⟨_, rfl⟩
        rw [← hMq102]
        obtain ⟨hPq102, hOq102, hCq102, hSq102, hTq102⟩ := RPX.refuse (code' := nI (0)) (M' := Mq102) hP_q102 (by rw [e10, e0, e12, e13]; exact hO_q102) (by rw [e0]; exact hC) hS (by rw [hMq102, e0, e9, e10, e11])
        rw [e0] at hCq102
        rw [e10, e0, e12, e13] at hOq102
        have hFq102 := (RTF.refl M F).trans hTq102
        show jj G kR_set (d + 12) Q rc rs 30 [some (.ref r), some (.int (nI (k))), some (.int (nI (i))), some (.int (nI (j))), some (.long (uu)), none, some (.long (ll)), none, none, none, none, none, none] [.int (nI (0))] Mq102
        refine jn_if_eq (pc := 30) (tgt := 34) kR_set_d30 (by decide) (by omega) (fun _ => ?_) (fun c => by exfalso; omega)
        refine jj_aload_n (pc := 34) kR_set_d34 rfl ?_
        refine jj_callV (pc := 35) (b := r) (As := []) kR_set_d35 (kvR_R_begin hG) (kG_cl hG rfl) rfl (RPX.rr e0 e9 e10 e11 hPq102) rfl rfl rfl (Nat.le_of_ble_eq_true rfl) (Nat.le_of_ble_eq_true rfl) (jj_bare0 rfl) ?_
        refine rm_begin hG e0 e9 e10 e11 hPq102 hCq102 hSq102 hT3 (fun Mb103 hCb103 hSb103 hFb103 => ?_)
        show jj G kR_set (d + 12) Q rc rs 38 [some (.ref r), some (.int (nI (k))), some (.int (nI (i))), some (.int (nI (j))), some (.long (uu)), none, some (.long (ll)), none, none, none, none, none, none] [] Mb103
        have hGb103 := (FF.refl Mq102 f).trans hFb103
        refine jj_aload_n (pc := 38) kR_set_d38 rfl ?_
        refine jj_iload_n (pc := 39) kR_set_d39 rfl ?_
        refine jj_callV (pc := 40) (b := r) (As := [.int (nI (k))]) kR_set_d40 (kvR_R_load hG) (kG_cl hG rfl) rfl (RPX.rr e0 e9 e10 e11 (hPq102.ffe e0 hGb103)) rfl rfl rfl (Nat.le_of_ble_eq_true rfl) (Nat.le_of_ble_eq_true rfl) (jj_bare0 rfl) ?_
        refine rm_load hG e0 e9 e10 e11 (hPq102.ffe e0 hGb103) hCb103 hSb103 hX (Nat.zero_le _) h1 (Nat.le_refl 3) hL hk (by omega) (by omega) (fun Ml104 vv Dl104 Tl104 Vl104 upl104 lowl104 Xl104 Zl104 vl104 rcl104 rsl104 hCl104 hSl104 hXl104 tl104 ul104 hol104 hvl104 hll104 hFl104 hml104 => ?_)
        show jj G kR_set (d + 12) Q rcl104 rsl104 43 [some (.ref r), some (.int (nI (k))), some (.int (nI (i))), some (.int (nI (j))), some (.long (uu)), none, some (.long (ll)), none, none, none, none, none, none] [.int (nI (0))] Ml104
        obtain ⟨l1l104, l2l104, l3l104, l4l104, l5l104, l6l104⟩ := hL k hk
        obtain ⟨nl104, hnl104⟩ : ∃ nl104, σ.1 k * σ.2.1 k = nl104 := ⟨_, rfl⟩
        have hbl104 : nl104 ≤ 16 * 16 := by rw [← hnl104]; exact Nat.mul_le_mul l3l104 l4l104
        obtain ⟨ttl104, httl104⟩ : ∃ ttl104, 0 + 2 + 2 * nl104 = ttl104 := ⟨_, rfl⟩
        rw [hnl104, httl104] at hCl104 hll104 hml104
        obtain ⟨ldl104, hldl104⟩ : ∃ ldl104, ldS (σ.2.2 k) (σ.1 k * σ.2.1 k) = ldl104 := ⟨_, rfl⟩
        have hlbl104 : ldl104 ≤ 137216 := by rw [← hldl104]; exact ldS_fit l5l104 (by omega)
        rw [hldl104] at ul104
        have hGl104 := hGb103.trans hFl104
        have hcapl104 := hXl104.cap
        have hsl104 : ∀ k', k' < σ.1 k * σ.2.1 k → ZB 267 (σ.2.2 k k').num ∧ ZB 267 ((σ.2.2 k k').den : Int) := fun k' h => ⟨(fit_sizes l5l104 h).1, (fit_sizes l5l104 h).2.1⟩
        have h1l104 : RI Dl104 3 1 1 := h1.congr (Nat.le_refl _) (fun i hi => hol104 i (by omega))
        have hT3l104 : 3 ≤ Tl104 := by omega
        refine jj_istore (pc := 43) kR_set_d43 (Nat.le_of_ble_eq_true rfl) ?_
        refine jj_aload_n (pc := 45) kR_set_d45 rfl ?_
        refine jj_getf (pc := 46) kR_set_d46 (kfR_f hG) (RPX.rr e0 e9 e10 e11 (hPq102.ffe e0 hGl104)) rfl ?_
        refine jj_getf (pc := 49) kR_set_d49 (kfR_RF_w hG) hCl104.1 rfl ?_
        refine jj_lload (pc := 52) kR_set_d52 rfl ?_
        obtain ⟨hW105, hB105, hTD105, hz105, hp105⟩ := id hSl104
        obtain ⟨dd105, hw105, hd105⟩ := id hW105
        have hcap105 := hB105.cap
        refine jj_callV (pc := 54) (b := w) (As := [.long (uu)]) kR_set_d54 (kvR_RW_of hG) (kG_cl hG rfl) rfl hw105 rfl rfl rfl (Nat.le_of_ble_eq_true rfl) (Nat.le_of_ble_eq_true rfl) (jj_bare0 rfl) ?_
        refine ri_of hG hSl104 (by omega) (fun M106 D106 T106 p106 rc106 rs106 hS106 t106 u106 ho106 hf106 hI106 => ?_)
        show jj G kR_set (d + 12) Q rc106 rs106 57 [some (.ref r), some (.int (nI (k))), some (.int (nI (i))), some (.int (nI (j))), some (.long (uu)), none, some (.long (ll)), none, some (.int (nI (0))), none, none, none, none] [.int (nI (p106))] M106
        have hC106 := hCl104.rf hf106
        have hF106 := hGl104.trans (FF.ofRF hCl104 hf106)
        obtain ⟨hW107, hB107, hTD107, hz107, hp107⟩ := id hS106
        obtain ⟨dd107, hw107, hd107⟩ := id hW107
        have hcap107 := hB107.cap
        refine jj_istore (pc := 57) kR_set_d57 (Nat.le_of_ble_eq_true rfl) ?_
        refine jj_aload_n (pc := 59) kR_set_d59 rfl ?_
        refine jj_getf (pc := 60) kR_set_d60 (kfR_f hG) (RPX.rr e0 e9 e10 e11 (hPq102.ffe e0 hF106)) rfl ?_
        refine jj_getf (pc := 63) kR_set_d63 (kfR_RF_w hG) hC106.1 rfl ?_
        refine jj_lload (pc := 66) kR_set_d66 rfl ?_
        refine jj_callV (pc := 68) (b := w) (As := [.long (ll)]) kR_set_d68 (kvR_RW_of hG) (kG_cl hG rfl) rfl hw107 rfl rfl rfl (Nat.le_of_ble_eq_true rfl) (Nat.le_of_ble_eq_true rfl) (jj_bare0 rfl) ?_
        refine ri_of hG hS106 (by omega) (fun M108 D108 T108 p108 rc108 rs108 hS108 t108 u108 ho108 hf108 hI108 => ?_)
        show jj G kR_set (d + 12) Q rc108 rs108 71 [some (.ref r), some (.int (nI (k))), some (.int (nI (i))), some (.int (nI (j))), some (.long (uu)), none, some (.long (ll)), none, some (.int (nI (0))), some (.int (nI (p106))), none, none, none] [.int (nI (p108))] M108
        have hC108 := hC106.rf hf108
        have hF108 := hF106.trans (FF.ofRF hC106 hf108)
        have hI106_108 := hI106.congr t108.1 ho108
        obtain ⟨hW109, hB109, hTD109, hz109, hp109⟩ := id hS108
        obtain ⟨dd109, hw109, hd109⟩ := id hW109
        have hcap109 := hB109.cap
        refine jj_istore (pc := 71) kR_set_d71 (Nat.le_of_ble_eq_true rfl) ?_
        show jj G kR_set (d + 12) Q rc108 rs108 73 [some (.ref r), some (.int (nI (k))), some (.int (nI (i))), some (.int (nI (j))), some (.long (uu)), none, some (.long (ll)), none, some (.int (nI (0))), some (.int (nI (p106))), some (.int (nI (p108))), none, none] [] M108
        have hb9 := hml104.congr (lo' := 3) (show Tl104 ≤ T108 by omega) (show ∀ i, i < Tl104 → D108.getD i 0 = Dl104.getD i 0 from fun i hi => by rw [ho108 i (by omega), ho106 i hi]) (Nat.le_refl _) (fun _ _ => rfl) (Nat.le_refl _)
        have h19 : RI D108 3 1 1 := h1l104.congr (Nat.le_refl _) (fun i hi => by rw [ho108 i (by omega), ho106 i (by omega)])
        obtain ⟨ic, hic⟩ : ∃ ic, i * σ.2.1 k = ic := ⟨_, rfl⟩
        have hl0' : ll.toInt ≠ 0 := fun e => hl0 (Int64.toInt_inj.mp e)
        refine rm_set_mid (b := 0) (kr := k) (i := i) (j := j) (ic := ic) (lob := 3) (S := 536) (u := uu.toInt) (l := ll.toInt) (q := σ.2.2 k) hG e0 e9 e10 e11 (hPq102.ffe e0 hF108) hC108 hS108 hXl104 hll104 (h19.congr (by omega) (fun _ _ => rfl)) (by omega) hb9 q3 q4 (by omega) (by omega) hic hsl104 hI106_108 hI108 (ZB5 uu) (ZB5 ll) hl0' rfl (by rw [hnl104]; omega) (by rw [hnl104]; omega) (fun M7 vv D7 T7 V7 up7 low7 X7 Z7 v7 rc7 rs7 hC7 hS7 hX7 t7 u7 ho7 hv7 hl7 hF7 hm7 => ?_)
        rw [hnl104] at hC7 hl7 hm7
        show jj G kR_set (d + 12) Q rc7 rs7 183 [some (.ref r), some (.int (nI (k))), some (.int (nI (i))), some (.int (nI (j))), some (.long (uu)), none, some (.long (ll)), none, some (.int (nI (0))), some (.int (nI (p106))), some (.int (nI (p108))), some (.int (nI (ttl104))), some (.int (nI (σ.1 k * σ.2.1 k)))] [] M7
        obtain ⟨tt7, htt7⟩ : ∃ tt7, ttl104 + 2 + 2 * (nl104) = tt7 := ⟨_, rfl⟩
        rw [htt7] at hC7 hl7 hm7
        have hG7 := hF108.trans hF7
        have hcap7 := hX7.cap
        have h17 : RI D7 3 1 1 := h19.congr (Nat.le_refl _) (fun i hi => ho7 i (by omega))
        have hT37 : 3 ≤ T7 := by omega
        have hsz : ∀ k', k' < σ.1 k * σ.2.1 k → ZB 267 ((fun n => if n = ic + j then (uu.toInt : Rat) / (ll.toInt : Rat) else σ.2.2 k n) k').num ∧ ZB 267 (((fun n => if n = ic + j then (uu.toInt : Rat) / (ll.toInt : Rat) else σ.2.2 k n) k').den : Int) := fun k' hk' => by
          dsimp only
          split
          · exact ⟨(ratdiv_sizes (ZB5 uu) (ZB5 ll) hl0').1.up (by decide), (ratdiv_sizes (ZB5 uu) (ZB5 ll) hl0').2.up (by decide)⟩
          · exact hsl104 _ hk'
        refine jj_aload_n (pc := 183) kR_set_d183 rfl ?_
        refine jj_iload_n (pc := 184) kR_set_d184 rfl ?_
        refine jj_iload (pc := 185) kR_set_d185 rfl ?_
        refine jn_iconst (pc := 187) 3 kR_set_d187 (by decide) ?_
        refine jj_callV (pc := 188) (b := r) (As := [.int (nI (k)), .int (nI (ttl104)), .int (nI (3))]) kR_set_d188 (kvR_R_puts hG) (kG_cl hG rfl) rfl (RPX.rr e0 e9 e10 e11 (hPq102.ffe e0 hG7)) rfl rfl rfl (Nat.le_of_ble_eq_true rfl) (Nat.le_of_ble_eq_true rfl) (jj_bare0 rfl) ?_
        refine rm_puts (s := 267) (lo := T108) (qn := fun n => if n = ic + j then (uu.toInt : Rat) / (ll.toInt : Rat) else σ.2.2 k n) (Rn := σ.1 k) (cn := σ.2.1 k) hG e0 e9 e10 e11 (hPq102.ffe e0 hG7) hC7 e12 e13 (hOq102.ff hG7) hCA hRA hS7 hX7 hl7 h17 hT37 hPL hk (by omega) (by omega) hm7 (by omega) (by omega) hsz (by omega) (by omega) (fun M8 rc8 rs8 hnf hR8 hT8 => ?_) (fun M8 rc8 rs8 w8 vv8 pv8 V8 t8 up8 low8 P8 rk8 hfit hR8 hT8 hC8 hg8 hl8 hb8 => ?_)
        · skip
          show jj G kR_set (d + 12) Q rc8 rs8 191 [some (.ref r), some (.int (nI (k))), some (.int (nI (i))), some (.int (nI (j))), some (.long (uu)), none, some (.long (ll)), none, some (.int (nI (0))), some (.int (nI (p106))), some (.int (nI (p108))), some (.int (nI (ttl104))), some (.int (nI (σ.1 k * σ.2.1 k)))] [.int (nI (0))] M8
          refine jj_pop (pc := 191) kR_set_d191 rfl ?_
          exact jj_vret (pc := 192) kR_set_d192 rfl (K M8 3 σ rc8 rs8 (Or.inr ⟨k, i, j, hk, rfl, hi, rfl, hj, rfl, Or.inr ⟨hl0, by rw [hic]; exact Or.inr ⟨hnf, rfl, rfl⟩⟩⟩) hL hR8 ((hFq102.trans (RPX.rte e0 hPq102 hG7)).trans hT8))
        · skip
          show jj G kR_set (d + 12) Q rc8 rs8 191 [some (.ref r), some (.int (nI (k))), some (.int (nI (i))), some (.int (nI (j))), some (.long (uu)), none, some (.long (ll)), none, some (.int (nI (0))), some (.int (nI (p106))), some (.int (nI (p108))), some (.int (nI (ttl104))), some (.int (nI (σ.1 k * σ.2.1 k)))] [.int (nI (1))] M8
          refine jj_pop (pc := 191) kR_set_d191 rfl ?_
          exact jj_vret (pc := 192) kR_set_d192 rfl (K M8 0 _ rc8 rs8 (Or.inr ⟨k, i, j, hk, rfl, hi, rfl, hj, rfl, Or.inr ⟨hl0, by rw [hic]; exact Or.inl ⟨hfit, rfl, rfl⟩⟩⟩) (hL.rup (by omega) (by omega) hfit) hR8 ((hFq102.trans (RPX.rte e0 hPq102 hG7)).trans hT8))
    · skip
      have hl0 : ll = 0 := (lg_cmp_eq _ _).mp c0
      refine jn_iconst (pc := 22) 2 kR_set_d22 (by decide) ?_
      refine jj_goto (pc := 23) (tgt := 27) kR_set_d23 (by decide) ?_
      have hP_q110 := hP
      have hO_q110 := hO
      refine jj_callV (pc := 27) (b := r) (As := [.int (nI (2))]) kR_set_d27 (kvR_R_refuses hG) (kG_cl hG rfl) rfl (RPX.rr e0 e9 e10 e11 hP) rfl rfl rfl (Nat.le_of_ble_eq_true rfl) (Nat.le_of_ble_eq_true rfl) (jj_bare0 rfl) ?_
      refine rm_refuses (c := 2) hG (RPX.rr e0 e9 e10 e11 hP) (by omega) (fun hp => ?_) (fun hp => ?_)
      · skip
        obtain ⟨Mq110, hMq110⟩ : ∃ Mq110, Mq110 = jj_up M r (.inl nR, [.int (nI (2)), .ref f, .ref o, .ref st]) := ⟨_, rfl⟩
        rw [← hMq110]
        obtain ⟨hPq110, hOq110, hCq110, hSq110, hTq110⟩ := RPX.refuse (code' := nI (2)) (M' := Mq110) hP_q110 (by rw [e10, e0, e12, e13]; exact hO_q110) (by rw [e0]; exact hC) hS (by rw [hMq110, e0, e9, e10, e11])
        rw [e0] at hCq110
        rw [e10, e0, e12, e13] at hOq110
        have hFq110 := (RTF.refl M F).trans hTq110
        show jj G kR_set (d + 12) Q rc rs 30 [some (.ref r), some (.int (nI (k))), some (.int (nI (i))), some (.int (nI (j))), some (.long (uu)), none, some (.long (ll)), none, none, none, none, none, none] [.int (nI (1))] Mq110
        refine jn_if_eq (pc := 30) (tgt := 34) kR_set_d30 (by decide) (by omega) (fun c => by exfalso; omega) (fun _ => ?_)
        exact jj_vret (pc := 33) kR_set_d33 rfl (K Mq110 2 σ rc rs (Or.inr ⟨k, i, j, hk, rfl, hi, rfl, hj, rfl, Or.inl ⟨hl0, rfl, rfl⟩⟩) hL (RT.cls hPq110 (by rw [e10, e0, e12, e13]; exact hOq110) hCA hRA (by rw [e0]; exact hCq110) hSq110 hX hT3 h1 htV hPL) hFq110)
      · skip
        exact absurd hp (by omega)
  · skip
    show jj G kR_set (d + 12) Q rc rs 8 [some (.ref r), some (.int (x)), some (.int (y)), some (.int (z)), some (.long (uu)), none, some (.long (ll)), none, none, none, none, none, none] [.int (nI (0)), .ref r] M
    refine jn_if_ne (pc := 8) (tgt := 15) kR_set_d8 (by decide) (by omega) (fun c => by exfalso; omega) (fun _ => ?_)
    refine jn_iconst (pc := 11) 1 kR_set_d11 (by decide) ?_
    refine jj_goto (pc := 12) (tgt := 27) kR_set_d12 (by decide) ?_
    have hP_q111 := hP
    have hO_q111 := hO
    refine jj_callV (pc := 27) (b := r) (As := [.int (nI (1))]) kR_set_d27 (kvR_R_refuses hG) (kG_cl hG rfl) rfl (RPX.rr e0 e9 e10 e11 hP) rfl rfl rfl (Nat.le_of_ble_eq_true rfl) (Nat.le_of_ble_eq_true rfl) (jj_bare0 rfl) ?_
    refine rm_refuses (c := 1) hG (RPX.rr e0 e9 e10 e11 hP) (by omega) (fun hp => ?_) (fun hp => ?_)
    · skip
      obtain ⟨Mq111, hMq111⟩ : ∃ Mq111, Mq111 = jj_up M r (.inl nR, [.int (nI (1)), .ref f, .ref o, .ref st]) := ⟨_, rfl⟩
      rw [← hMq111]
      obtain ⟨hPq111, hOq111, hCq111, hSq111, hTq111⟩ := RPX.refuse (code' := nI (1)) (M' := Mq111) hP_q111 (by rw [e10, e0, e12, e13]; exact hO_q111) (by rw [e0]; exact hC) hS (by rw [hMq111, e0, e9, e10, e11])
      rw [e0] at hCq111
      rw [e10, e0, e12, e13] at hOq111
      have hFq111 := (RTF.refl M F).trans hTq111
      show jj G kR_set (d + 12) Q rc rs 30 [some (.ref r), some (.int (x)), some (.int (y)), some (.int (z)), some (.long (uu)), none, some (.long (ll)), none, none, none, none, none, none] [.int (nI (1))] Mq111
      refine jn_if_eq (pc := 30) (tgt := 34) kR_set_d30 (by decide) (by omega) (fun c => by exfalso; omega) (fun _ => ?_)
      exact jj_vret (pc := 33) kR_set_d33 rfl (K Mq111 1 σ rc rs (Or.inl ⟨hn, rfl, rfl⟩) hL (RT.cls hPq111 (by rw [e10, e0, e12, e13]; exact hOq111) hCA hRA (by rw [e0]; exact hCq111) hSq111 hX hT3 h1 htV hPL) hFq111)
    · skip
      exact absurd hp (by omega)
end RM14b
