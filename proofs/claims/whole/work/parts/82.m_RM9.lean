/-! ===== the reference: empty, puts (printed by wip/gen/rm9.py) ===== -/
theorem limbC_le {q : Nat → Rat} {n : Nat} (h : fitC q n) : limbC q n ≤ 126 + n * 126 := by
  have h1 := h.1 n (Nat.le_refl _)
  have h2 : ∀ m, m ≤ n → nsum (fun j => (blen (lcmf 1 (fun j => (q j).den) n / ((q j).den : Int) * (q j).num) + 31) / 32) m ≤ m * 126 := by
    intro m
    induction m with
    | zero => intro _; exact Nat.zero_le _
    | succ m ih =>
      intro hm
      have e1 := ih (by omega)
      have e2 := h.2 m (by omega)
      show nsum _ m + _ ≤ (m + 1) * 126
      dsimp only
      omega
  have h3 := h2 n (Nat.le_refl _)
  unfold limbC
  omega
/-- digits of 15 bits for limbs of 32 -/
def dgt (l : Nat) : Nat := (32 * l + 14) / 15
theorem nsum_dgt (l : Nat → Nat) : ∀ n, 15 * nsum (fun j => dgt (l j) + 269) n ≤ 32 * nsum l n + (14 + 15 * 269) * n
  | 0 => Nat.le_refl _
  | n + 1 => by
    have h := nsum_dgt l n
    show 15 * (nsum (fun j => dgt (l j) + 269) n + (dgt (l n) + 269)) ≤ 32 * (nsum l n + l n) + _
    have h2 : 15 * dgt (l n) ≤ 32 * l n + 14 := by unfold dgt; omega
    omega
theorem ZB_dgt {z : Int} {b : Nat} (h : blen z ≤ b) : ZB (dgt ((b + 31) / 32)) z := by
  unfold ZB
  have h1 : z.natAbs < 2 ^ b := by
    unfold blen at h
    by_cases e : z = 0
    · rw [e]; exact Nat.pow_pos (by decide)
    · rw [if_neg e] at h
      exact (Nat.log2_lt (by omega)).mp (by omega)
  refine Nat.lt_of_lt_of_le h1 ?_
  rw [show (32768 : Nat) = 2 ^ 15 from rfl, ← Nat.pow_mul]
  exact Nat.pow_le_pow_right (by decide) (by unfold dgt; omega)
theorem ZB.le_abs {s : Nat} {a b : Int} (h : ZB s b) (hab : a.natAbs ≤ b.natAbs) : ZB s a := by
  unfold ZB at *; omega
section RM9
variable {G : jg} {d : Nat} {Q : jq} {rc rs : Nat} {M : mheap} {F : Nat → Nat} {r o f st w vv pv ca ra : Nat} {v2 : Value} {D V P CA RA : List Int32} {t : Nat} {up low rk fi se code : Int32} {σ : rst} {pt zt : Nat → Nat}
theorem rm_empty_mid {R c kr T cm cv X Z X' Z' : Nat} (hG : kG G) (hC : FC M f w vv pv V t up low P rk) (hS : RS M w D T v2 cm X Z rc rs) (hX : FXB cv V X Z X' Z') (htV : t ≤ V.length) (h1 : RI D T 1 1) (hT3 : 3 ≤ T) (hR : R < 1024) (hc : c < 1024) (ht : t + 2 + 2 * (R * c) ≤ cv) (hT : T + R * c * 7 ≤ cm)
    (K : MKP (fun _ M' rc' rs' => jj G kR_empty (d + 5) Q rc' rs' 64 [some (.ref r), some (.int (nI (kr))), some (.int (nI (R))), some (.int (nI (c))), some (.ref f), some (.int (nI (t))), some (.int (nI (R * c)))] [] M') M f w pv D V t P rk T cm cv X' Z' (R) (c) (T + R * c * 7) (fun k => (0 : Rat))) : jj G kR_empty (d + 5) Q rc rs 23 [some (.ref r), some (.int (nI (kr))), some (.int (nI (R))), some (.int (nI (c))), some (.ref f), none, none] [] M := by
  have hcap := hX.cap
  have hcr : (R) * (c) = R * c := rfl
  unfold MKP at K
  rw [hcr] at K
  have hcapD := hS.2.1.cap
  have hRc : R * c < 1024 * 1024 := Nat.mul_lt_mul_of_lt_of_le hR (by omega) (by decide)
  refine jj_aload (pc := 23) kR_empty_d23 rfl ?_
  refine jj_iload_n (pc := 25) kR_empty_d25 rfl ?_
  refine jj_iload_n (pc := 26) kR_empty_d26 rfl ?_
  refine jj_callV (pc := 27) (b := f) (As := [.int (nI (R)), .int (nI (c))]) kR_empty_d27 (kvR_RF_make hG) (kG_cl hG rfl) rfl hC.1 rfl rfl rfl (Nat.le_of_ble_eq_true rfl) (Nat.le_of_ble_eq_true rfl) (jj_bare0 rfl) ?_
  refine rf_make hG hC hS hX htV (by omega) (by omega) (by rw [hcr]; exact ht) (fun M1 vv V1 X1 Z1 rc1 rs1 hC1 hS1 hX1 hl1 hr1 hc1 ho1 hF1 => ?_)
  show jj G kR_empty (d + 5) Q rc1 rs1 30 [some (.ref r), some (.int (nI (kr))), some (.int (nI (R))), some (.int (nI (c))), some (.ref f), none, none] [.int (nI (t))] M1
  rw [hcr] at hC1 hl1
  have hcap1 := hX1.cap
  refine jj_istore (pc := 30) kR_empty_d30 (Nat.le_of_ble_eq_true rfl) ?_
  refine jn_iconst (pc := 32) 0 kR_empty_d32 (by decide) ?_
  refine jj_istore (pc := 33) kR_empty_d33 (Nat.le_of_ble_eq_true rfl) ?_
  show jj G kR_empty (d + 5) Q rc1 rs1 35 [some (.ref r), some (.int (nI (kr))), some (.int (nI (R))), some (.int (nI (c))), some (.ref f), some (.int (nI (t))), some (.int (nI (0)))] [] M1
  show jj G kR_empty (d + 5) Q rc1 rs1 35 [some (.ref r), some (.int (nI (kr))), some (.int (nI (R))), some (.int (nI (c))), some (.ref f), some (.int (nI (t))), some (.int (nI (0)))] [] M1
  have loop : ∀ mu k, R * c = k + mu → ∀ (M9 : mheap) (D9 : List Int32) (T9 : Nat) (V9 : List Int32) (up9 low9 : Int32) (v9 : Value) (rc9 rs9 : Nat), FC M9 f w vv pv V9 (t + 2 + 2 * (R * c)) up9 low9 P rk → RS M9 w D9 T9 v9 cm X1 Z1 rc9 rs9 → T ≤ T9 → T9 ≤ T + k * 7 → (∀ i, i < T → D9.getD i 0 = D.getD i 0) → V9.length = V1.length → (∀ i, i < t → V9.getD i 0 = V.getD i 0) → V9.getD t 0 = nI (R) → V9.getD (t + 1) 0 = nI (c) → FF M M9 f → (∀ k', k' < k → MC D9 T9 V9 t T k' ((fun k => (0 : Rat)) k')) → jj G kR_empty (d + 5) Q rc9 rs9 35 [some (.ref r), some (.int (nI (kr))), some (.int (nI (R))), some (.int (nI (c))), some (.ref f), some (.int (nI (t))), some (.int (nI (k)))] [] M9 := by
    intro mu
    induction mu with
    | zero =>
      intro k hk   M9 D9 T9 V9 up9 low9 v9 rc9 rs9 hC9 hS9 t9 u9 ho9 hlen9 hV9 hr9 hc9 hF9 hm9 
      have e : R * c = k := by omega
      subst e
      refine jj_iload (pc := 35) kR_empty_d35 rfl ?_
      refine jj_iload_n (pc := 37) kR_empty_d37 rfl ?_
      refine jj_iload_n (pc := 38) kR_empty_d38 rfl ?_
      refine jn_imul (pc := 39) (R * c) kR_empty_d39 rfl ?_
      refine jn_icmp_ge (pc := 40) (tgt := 64) kR_empty_d40 (by decide) (by omega) (by omega) (fun _ => ?_) (fun c => by exfalso; omega)
      show jj G kR_empty (d + 5) Q rc9 rs9 64 [some (.ref r), some (.int (nI (kr))), some (.int (nI (R))), some (.int (nI (c))), some (.ref f), some (.int (nI (t))), some (.int (nI (R * c)))] [] M9
      exact K M9 vv D9 T9 V9 up9 low9 X1 Z1 v9 rc9 rs9 hC9 hS9 (hX1.same hlen9) t9 u9 ho9 hV9 (by omega) hF9 ⟨by rw [hcr]; exact Nat.le_refl _, hr9, hc9, fun k' hk' => hm9 k' (by rw [hcr] at hk'; exact hk')⟩  
    | succ mu ih =>
      intro k hk   M9 D9 T9 V9 up9 low9 v9 rc9 rs9 hC9 hS9 t9 u9 ho9 hlen9 hV9 hr9 hc9 hF9 hm9 
      have hk1 : (k + 1) * 7 ≤ R * c * 7 := Nat.mul_le_mul_right _ (by omega)
      rw [Nat.succ_mul] at hk1
      have h19 := h1.congr t9 ho9
      refine jj_iload (pc := 35) kR_empty_d35 rfl ?_
      refine jj_iload_n (pc := 37) kR_empty_d37 rfl ?_
      refine jj_iload_n (pc := 38) kR_empty_d38 rfl ?_
      refine jn_imul (pc := 39) (R * c) kR_empty_d39 rfl ?_
      refine jn_icmp_ge (pc := 40) (tgt := 64) kR_empty_d40 (by decide) (by omega) (by omega) (fun c => by exfalso; omega) (fun _ => ?_)
      refine jj_aload (pc := 43) kR_empty_d43 rfl ?_
      refine jj_lconst (pc := 45) (v := lN 0) kR_empty_d45 (by decide) ?_
      refine jj_callV (pc := 46) (b := f) (As := [.long (lN (0))]) kR_empty_d46 (kvR_RF_whole hG) (kG_cl hG rfl) rfl hC9.1 rfl rfl rfl (Nat.le_of_ble_eq_true rfl) (Nat.le_of_ble_eq_true rfl) (jj_bare0 rfl) ?_
      refine rf_whole hG hC9 hS9 h19 (by omega) (by omega) (fun M6 D5 T5 p6 l6 v6 rc5 rs5 hC6 hS6 t5 u6 ho5 hF6 hq6 g1 g2 => ?_)
      show jj G kR_empty (d + 5) Q rc5 rs5 49 [some (.ref r), some (.int (nI (kr))), some (.int (nI (R))), some (.int (nI (c))), some (.ref f), some (.int (nI (t))), some (.int (nI (k)))] [] M6
      refine jj_aload (pc := 49) kR_empty_d49 rfl ?_
      refine jj_iload (pc := 51) kR_empty_d51 rfl ?_
      refine jj_iload (pc := 53) kR_empty_d53 rfl ?_
      rw [show (((lN 0).toInt : Int) : Rat) = (0 : Rat) from rfl] at hq6
      refine jj_callV (pc := 55) (b := f) (As := [.int (nI (t)), .int (nI (k))]) kR_empty_d55 (kvR_RF_put hG) (kG_cl hG rfl) rfl hC6.1 rfl rfl rfl (Nat.le_of_ble_eq_true rfl) (Nat.le_of_ble_eq_true rfl) (jj_bare0 rfl) ?_
      refine rf_put (a := t) (i := k) hG hC6 hS6 (by omega) (by omega) (fun M5 hC5 hS5 hF7 => ?_)
      show jj G kR_empty (d + 5) Q rc5 rs5 58 [some (.ref r), some (.int (nI (kr))), some (.int (nI (R))), some (.int (nI (c))), some (.ref f), some (.int (nI (t))), some (.int (nI (k)))] [] M5
      obtain ⟨V5, hV5⟩ : ∃ V5, (V9.set (t + 2 + 2 * k) (nI p6)).set (t + 3 + 2 * k) (nI l6) = V5 := ⟨_, rfl⟩
      rw [hV5] at hC5
      have hl5 : V5.length = V9.length := by rw [← hV5, List.length_set, List.length_set]
      have hv5 : ∀ i, i < t + 2 + 2 * k ∨ t + 4 + 2 * k ≤ i → V5.getD i 0 = V9.getD i 0 := fun i hi => by rw [← hV5, gd_set_ne (by omega), gd_set_ne (by omega)]
      have hF5 := hF6.trans hF7
      have hm5 : MC D5 T5 V5 t T9 k ((0 : Rat)) := ⟨p6, l6, by rw [← hV5, gd_set_ne (by omega)]; exact gd_set_eq (by omega), by rw [← hV5]; exact gd_set_eq (by rw [List.length_set]; omega), hq6, g1, g2⟩
      refine jn_iinc (pc := 58) (k + 1) kR_empty_d58 rfl (nI_1 _) ?_
      refine jj_goto (pc := 61) (tgt := 35) kR_empty_d61 (by decide) ?_
      show jj G kR_empty (d + 5) Q rc5 rs5 35 [some (.ref r), some (.int (nI (kr))), some (.int (nI (R))), some (.int (nI (c))), some (.ref f), some (.int (nI (t))), some (.int (nI (k + 1)))] [] M5
      refine ih (k + 1) (by omega)   M5 D5 T5 V5 _ _ v6 rc5 rs5 hC5 hS5 (by omega) (by rw [Nat.succ_mul]; omega) (fun i hi => by rw [ho5 i (by omega), ho9 i hi]) (by omega) (fun i hi => by rw [hv5 i (by omega), hV9 i hi]) (by rw [hv5 _ (by omega)]; exact hr9) (by rw [hv5 _ (by omega)]; exact hc9) (hF9.trans hF5) (fun k' hk' => ?_) 
      by_cases e : k' = k
      · subst e
        exact hm5.congr (lo' := T) (Nat.le_refl _) (fun _ _ => rfl) (fun _ _ _ => rfl) t9
      · exact (hm9 k' (by omega)).congr t5 ho5 (fun i h6 h7 => hv5 i (by omega)) (Nat.le_refl _)
  exact loop (R * c) 0 (by omega)   M1 D T V1 up low v2 rc1 rs1 hC1 hS1 (Nat.le_refl _) (by omega) (fun _ _ => rfl) rfl ho1 hr1 hc1 hF1 (fun k' hk' => by omega) 
theorem rm_empty {R c k T cm cv X Z X' Z' f0 : Nat} {A : Nat → List Int32 → Nat → List Int32 → Nat → Prop} (hG : kG G) (e0 : F 0 = f0) (e9 : F 9 = r) (e10 : F 10 = o) (e11 : F 11 = st) (ek : F (k + 1) = f) (hk : k < 8) (hP : RPX M F code (k + 1) pt zt A) (hC : FC M f w vv pv V t up low P rk) (hS : RS M w D T v2 cm X Z rc rs) (hX : FXB cv V X Z X' Z') (htV : t ≤ V.length) (h1 : RI D 3 1 1) (hT3 : 3 ≤ T) (hR : R ≤ 16) (hc : c ≤ 16) (hcv : 514 ≤ cv) (hcm : 1795 ≤ cm)
    (K : ∀ M' vv' D' T' V' up' low' X1 Z1 v2' rc' rs', FC M' f w vv' pv V' (2 + 2 * (R * c)) up' low' P rk → RS M' w D' T' v2' cm X1 Z1 rc' rs' → FXB cv V' X1 Z1 X' Z' → 3 ≤ T' → RI D' 3 1 1 → 2 + 2 * (R * c) ≤ V'.length → FF M M' f → MX D' T' V' (2 + 2 * (R * c)) 0 R c 3 (fun _ => (0 : Rat)) → Q (.returned none) M' rc' rs') : jj G kR_empty (d + 5) Q rc rs 0 (jj_ent [.ref r, .int (nI k), .int (nI R), .int (nI c)] 7) [] M := by
  have hRc : R * c ≤ 16 * 16 := Nat.mul_le_mul hR hc
  obtain ⟨hW101, hB101, hTD101, hz101, hp101⟩ := id hS
  obtain ⟨dd101, hw101, hd101⟩ := id hW101
  have hcap101 := hB101.cap
  show jj G kR_empty (d + 5) Q rc rs 0 [some (.ref r), some (.int (nI (k))), some (.int (nI (R))), some (.int (nI (c))), none, none, none] [] M
  refine jj_aload_n (pc := 0) kR_empty_d0 rfl ?_
  refine jj_getf (pc := 1) kR_empty_d1 (kfR_store hG) (RPX.rr e0 e9 e10 e11 hP) rfl ?_
  refine jj_iload_n (pc := 4) kR_empty_d4 rfl ?_
  refine jj_aald (pc := 5) kR_empty_d5 (kG_t hG rfl) (RPX.ss e11 hP) rfl (by rw [List.length_map, List.length_range]; decide) (by rw [st_at hk, ek]) ?_
  show jj G kR_empty (d + 5) Q rc rs 6 [some (.ref r), some (.int (nI (k))), some (.int (nI (R))), some (.int (nI (c))), none, none, none] [.ref f] M
  refine jj_astore (pc := 6) kR_empty_d6 (Nat.le_of_ble_eq_true rfl) ?_
  refine jj_aload (pc := 8) kR_empty_d8 rfl ?_
  refine jj_getf (pc := 10) kR_empty_d10 (kfR_RF_w hG) hC.1 rfl ?_
  refine jn_iconst (pc := 13) 3 kR_empty_d13 (by decide) ?_
  refine jj_putf (pc := 14) kR_empty_d14 (kpR_RW_top hG) hw101 (by rfl) rfl ?_
  refine jn_gen (fun M102 hM103 => ?_)
  have hf104 : RF M M102 w := by rw [hM103]; exact RF.top hw101
  have hS104 : RS M102 w D (3) v2 cm X Z rc rs := ⟨⟨dd101, by rw [hM103]; exact jj_up_at _ _ _, by rw [hM103, jj_up_ne _ _ (fun e => by have q1 := hd101; rw [e, hw101] at q1; cases q1)]; exact hd101⟩, hB101, by omega, hz101, by omega⟩
  have hC104 := hC.rf hf104
  have hF104 := (FF.refl M f).trans (FF.ofRF hC hf104)
  obtain ⟨hW105, hB105, hTD105, hz105, hp105⟩ := id hS104
  obtain ⟨dd105, hw105, hd105⟩ := id hW105
  have hcap105 := hB105.cap
  refine jj_aload (pc := 17) kR_empty_d17 rfl ?_
  refine jn_iconst (pc := 19) 0 kR_empty_d19 (by decide) ?_
  refine jj_putf (pc := 20) kR_empty_d20 (kpR_RF_top hG) hC104.1 (by rfl) rfl ?_
  refine jn_gen (fun M106 hM107 => ?_)
  have hC108 : FC M106 f w vv pv V (0) (up) (low) P (rk) := by rw [hM107]; exact hC104.putf
  have hF108 : FF M M106 f := by rw [hM107]; exact hF104.trans (FF.putf hC104)
  have hS108 : RS M106 w D (3) v2 cm X Z rc rs := by rw [hM107]; exact hS104.other hC104.2.2.2.2.1
  obtain ⟨hW109, hB109, hTD109, hz109, hp109⟩ := id hS108
  obtain ⟨dd109, hw109, hd109⟩ := id hW109
  have hcap109 := hB109.cap
  show jj G kR_empty (d + 5) Q rc rs 23 [some (.ref r), some (.int (nI (k))), some (.int (nI (R))), some (.int (nI (c))), some (.ref f), none, none] [] M106
  refine rm_empty_mid (T := 3) (t := 0) (R := R) (c := c) (kr := k) hG hC108 hS108 hX (Nat.zero_le _) h1 (Nat.le_refl _) (by omega) (by omega) (by omega) (by omega) (fun M1 vv D1 T1 V1 up1 low1 X1 Z1 v1 rc1 rs1 hC1 hS1 hX1 t1 u1 ho1 hv1 hl1 hF1 hm1 => ?_)
  show jj G kR_empty (d + 5) Q rc1 rs1 64 [some (.ref r), some (.int (nI (k))), some (.int (nI (R))), some (.int (nI (c))), some (.ref f), some (.int (nI (0))), some (.int (nI (R * c)))] [] M1
  rw [Nat.zero_add] at hC1 hl1 hm1
  exact jj_vret (pc := 64) kR_empty_d64 rfl (K M1 vv D1 T1 V1 _ _ X1 Z1 _ rc1 rs1 hC1 hS1 hX1 t1 (h1.congr (Nat.le_refl _) ho1) hl1 (hF108.trans hF1) hm1)
end RM9
