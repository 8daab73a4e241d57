/-! ===== Fractions.determinant: both matrices slide down (printed by wip/gen/rf16.py) ===== -/
section RF16
variable {G : jg} {d : Nat} {Q : jq} {rc rs : Nat} {M : mheap} {f w vv pv : Nat} {v2 : Value} {D V P : List Int32} {t : Nat} {up low rk : Int32}
theorem rf_det_slide {b nu he a n m u l bz c p pu pl fr x0 fu fl ii T e cm cv X Z X' Z' : Nat} {p18 p19 p20 p21 p22 : Option Value} {q : Nat → Rat} {pq : Rat} (hG : kG G) (hC : FC M f w vv pv V t up low P rk) (hS : RS M w D T v2 cm X Z rc rs) (hX : FXB cv V X Z X' Z') (htV : t ≤ V.length) (hx0 : t = x0 + 2 + 2 * m) (hmm : n * n = m) (hn : n < 1024) (hm : MX D T V t x0 n n fr q) (h1 : RI D nu 1 1) (hnu : 3 ≤ nu) (hnf : nu ≤ fr) (hfT : fr ≤ T) (hha : he ≤ x0) (hpq : FQ D T pu pl pq) (hzn : ZB e pq.num) (hzd : ZB e (pq.den : Int)) (ht : t + 4 ≤ cv) (hT : T + 2 * e + 2 ≤ cm)
    (K : ∀ (M' : mheap) (vv' : Nat) (D' : List Int32) (T' : Nat) (V' : List Int32) (up' low' : Int32) (u' l' X1 Z1 : Nat) (v2' : Value) (rc' rs' : Nat) (o10 o11 o12 o13 o14 o15 o16 o17 o18 o19 o20 o21 o22 : Option Value), FC M' f w vv' pv V' (he + 6 + 2 * m) up' low' P rk → RS M' w D' T' v2' cm X1 Z1 rc' rs' → FXB cv V' X1 Z1 X' Z' → nu ≤ T' → T' + fr ≤ nu + T + 2 * e + 2 → (∀ i, i < nu → D'.getD i 0 = D.getD i 0) → (∀ i, i < he → V'.getD i 0 = V.getD i 0) → he + 6 + 2 * m ≤ V'.length → FF M M' f → MX D' T' V' (he + 6 + 2 * m) he n n nu q → FQ D' T' u' l' pq → jj G kRF_determinant (d + 10) Q rc' rs' 50 [some (.ref f), some (.int (nI (b))), some (.int (nI (nu))), some (.int (nI (he))), some (.int (nI (he))), some (.int (nI (n))), some (.int (nI (u'))), some (.int (nI (l'))), some (.int (nI (bz))), some (.int (nI (c + 1))), (o10), (o11), (o12), (o13), (o14), (o15), (o16), (o17), (o18), (o19), (o20), (o21), (o22)] [] M') : jj G kRF_determinant (d + 10) Q rc rs 469 [some (.ref f), some (.int (nI (b))), some (.int (nI (nu))), some (.int (nI (he))), some (.int (nI (a))), some (.int (nI (n))), some (.int (nI (u))), some (.int (nI (l))), some (.int (nI (bz))), some (.int (nI (c))), some (.int (nI (p))), some (.int (nI (pu))), some (.int (nI (pl))), some (.int (nI (fr))), some (.int (nI (x0))), some (.int (nI (fu))), some (.int (nI (fl))), some (.int (nI (ii))), (p18), (p19), (p20), (p21), (p22)] [] M := by
  have hcap := hX.cap
  have hm24 : m < 1024 * 1024 := by rw [← hmm]; exact Nat.mul_lt_mul_of_lt_of_le hn (by omega) (by decide)
  obtain ⟨ls, hls⟩ : ∃ ls, fr = ls + nu := ⟨fr - nu, by omega⟩
  obtain ⟨hm1, hm2, hm3, hm4⟩ := id hm
  rw [hmm] at hm1 hm4
  obtain ⟨hpu, hpl, hpl1⟩ := id hpq
  have hT1 : RI D T 1 1 := h1.congr (by omega) (fun _ _ => rfl)
  have lpl := hpl.lt
  have lpu := hpu.lt
  obtain ⟨hW101, hB101, hTD101, hz101, hp101⟩ := id hS
  obtain ⟨dd101, hw101, hd101⟩ := id hW101
  have hcap101 := hB101.cap
  refine jj_aload_n (pc := 469) kRF_determinant_d469 rfl ?_
  refine jn_iconst (pc := 470) 1 kRF_determinant_d470 (by decide) ?_
  refine jn_iconst (pc := 471) 1 kRF_determinant_d471 (by decide) ?_
  refine jj_callV (pc := 472) (b := f) (As := [.int (nI (1)), .int (nI (1))]) kRF_determinant_d472 (kvRF_RF_make hG) (kG_cl hG rfl) rfl hC.1 rfl rfl rfl (Nat.le_of_ble_eq_true rfl) (Nat.le_of_ble_eq_true rfl) (jj_bare0 rfl) ?_
  refine rf_make (r := 1) (c := 1) hG hC hS hX htV (by omega) (by omega) (by omega) (fun M1 vv V1 X1 Z1 rc1 rs1 hC1 hS1 hX1 hl1 hr1 hc1 ho1 hF1 => ?_)
  show jj G kRF_determinant (d + 10) Q rc1 rs1 475 [some (.ref f), some (.int (nI (b))), some (.int (nI (nu))), some (.int (nI (he))), some (.int (nI (a))), some (.int (nI (n))), some (.int (nI (u))), some (.int (nI (l))), some (.int (nI (bz))), some (.int (nI (c))), some (.int (nI (p))), some (.int (nI (pu))), some (.int (nI (pl))), some (.int (nI (fr))), some (.int (nI (x0))), some (.int (nI (fu))), some (.int (nI (fl))), some (.int (nI (ii))), (p18), (p19), (p20), (p21), (p22)] [.int (nI (t))] M1
  rw [show t + 2 + 2 * (1 * 1) = t + 4 by omega] at hC1 hl1
  have hcap1 := hX1.cap
  obtain ⟨hW102, hB102, hTD102, hz102, hp102⟩ := id hS1
  obtain ⟨dd102, hw102, hd102⟩ := id hW102
  have hcap102 := hB102.cap
  refine jj_istore (pc := 475) kRF_determinant_d475 (Nat.le_of_ble_eq_true rfl) ?_
  refine jj_aload_n (pc := 477) kRF_determinant_d477 rfl ?_
  refine jj_aload_n (pc := 478) kRF_determinant_d478 rfl ?_
  refine jj_getf (pc := 479) kRF_determinant_d479 (kfRF_w hG) hC1.1 rfl ?_
  refine jj_iload (pc := 482) kRF_determinant_d482 rfl ?_
  refine jj_callV (pc := 484) (b := w) (As := [.int (nI (pu))]) kRF_determinant_d484 (kvRF_RW_copy hG) (kG_cl hG rfl) rfl hw102 rfl rfl rfl (Nat.le_of_ble_eq_true rfl) (Nat.le_of_ble_eq_true rfl) (jj_bare0 rfl) ?_
  refine ri_copy (a := e) hG hS1 hpu hzn (by omega) (fun M103 D103 T103 p103 rc103 rs103 hS103 t103 u103 ho103 hf103 hI103 => ?_)
  show jj G kRF_determinant (d + 10) Q rc103 rs103 487 [some (.ref f), some (.int (nI (b))), some (.int (nI (nu))), some (.int (nI (he))), some (.int (nI (a))), some (.int (nI (n))), some (.int (nI (u))), some (.int (nI (l))), some (.int (nI (bz))), some (.int (nI (c))), some (.int (nI (p))), some (.int (nI (pu))), some (.int (nI (pl))), some (.int (nI (fr))), some (.int (nI (x0))), some (.int (nI (fu))), some (.int (nI (fl))), some (.int (nI (t))), (p18), (p19), (p20), (p21), (p22)] [.int (nI (p103)), .ref f] M103
  have hC103 := hC1.rf hf103
  have hF103 := hF1.trans (FF.ofRF hC1 hf103)
  have hpu_103 := hpu.congr t103.1 ho103
  have hpl_103 := hpl.congr t103.1 ho103
  obtain ⟨hW104, hB104, hTD104, hz104, hp104⟩ := id hS103
  obtain ⟨dd104, hw104, hd104⟩ := id hW104
  have hcap104 := hB104.cap
  refine jj_putf (pc := 487) kRF_determinant_d487 (kpRF_up hG) hC103.1 (by rfl) rfl ?_
  refine jn_gen (fun M105 hM106 => ?_)
  have hC107 : FC M105 f w vv pv V1 (t + 4) (nI (p103)) (low) P (rk) := by rw [hM106]; exact hC103.putf
  have hF107 : FF M M105 f := by rw [hM106]; exact hF103.trans (FF.putf hC103)
  have hS107 : RS M105 w D103 (T103) v2 cm X1 Z1 rc103 rs103 := by rw [hM106]; exact hS103.other hC103.2.2.2.2.1
  obtain ⟨hW108, hB108, hTD108, hz108, hp108⟩ := id hS107
  obtain ⟨dd108, hw108, hd108⟩ := id hW108
  have hcap108 := hB108.cap
  refine jj_aload_n (pc := 490) kRF_determinant_d490 rfl ?_
  refine jj_iload (pc := 491) kRF_determinant_d491 rfl ?_
  refine jn_iconst (pc := 493) 1 kRF_determinant_d493 (by decide) ?_
  have k510 : ∀ (lp : Nat) (hlp1 : pq.den = 1 → lp = 1) (hlp2 : lp = 1 ∨ T ≤ lp) (M8 : mheap) (D8 : List Int32) (T8 : Nat) (v8 : Value) (rc8 rs8 : Nat), FC M8 f w vv pv V1 (t + 4) (nI (p103)) (low) P (rk) → RS M8 w D8 T8 v8 cm X1 Z1 rc8 rs8 → T ≤ T8 → T8 ≤ T + 2 * e + 2 → (∀ i, i < T → D8.getD i 0 = D.getD i 0) → FF M M8 f → RI D8 T8 p103 (pq.num) → RI D8 T8 lp ((pq.den : Int)) → jj G kRF_determinant (d + 10) Q rc8 rs8 510 [some (.ref f), some (.int (nI (b))), some (.int (nI (nu))), some (.int (nI (he))), some (.int (nI (a))), some (.int (nI (n))), some (.int (nI (u))), some (.int (nI (l))), some (.int (nI (bz))), some (.int (nI (c))), some (.int (nI (p))), some (.int (nI (pu))), some (.int (nI (pl))), some (.int (nI (fr))), some (.int (nI (x0))), some (.int (nI (fu))), some (.int (nI (fl))), some (.int (nI (t))), (p18), (p19), (p20), (p21), (p22)] [.int (nI (lp)), .ref f] M8 := by
    intro lp hlp1 hlp2 M8 D8 T8 v8 rc8 rs8 hC8 hS8 t8 u8 ho8 hF8 hN8x0 hN8x1
    obtain ⟨hW109, hB109, hTD109, hz109, hp109⟩ := id hS8
    obtain ⟨dd109, hw109, hd109⟩ := id hW109
    have hcap109 := hB109.cap
    refine jj_putf (pc := 510) kRF_determinant_d510 (kpRF_low hG) hC8.1 (by rfl) rfl ?_
    refine jn_gen (fun M110 hM111 => ?_)
    have hC112 : FC M110 f w vv pv V1 (t + 4) (nI (p103)) (nI (lp)) P (rk) := by rw [hM111]; exact hC8.putf
    have hF112 : FF M M110 f := by rw [hM111]; exact hF8.trans (FF.putf hC8)
    have hS112 : RS M110 w D8 (T8) v8 cm X1 Z1 rc8 rs8 := by rw [hM111]; exact hS8.other hC8.2.2.2.2.1
    obtain ⟨hW113, hB113, hTD113, hz113, hp113⟩ := id hS112
    obtain ⟨dd113, hw113, hd113⟩ := id hW113
    have hcap113 := hB113.cap
    refine jj_aload_n (pc := 513) kRF_determinant_d513 rfl ?_
    refine jj_iload (pc := 514) kRF_determinant_d514 rfl ?_
    refine jn_iconst (pc := 516) 0 kRF_determinant_d516 (by decide) ?_
    refine jj_callV (pc := 517) (b := f) (As := [.int (nI (t)), .int (nI (0))]) kRF_determinant_d517 (kvRF_RF_put hG) (kG_cl hG rfl) rfl hC112.1 rfl rfl rfl (Nat.le_of_ble_eq_true rfl) (Nat.le_of_ble_eq_true rfl) (jj_bare0 rfl) ?_
    refine rf_put (a := t) (i := 0) hG hC112 hS112 (by omega) (by omega) (fun M2 hC2 hS2 hF2' => ?_)
    show jj G kRF_determinant (d + 10) Q rc8 rs8 520 [some (.ref f), some (.int (nI (b))), some (.int (nI (nu))), some (.int (nI (he))), some (.int (nI (a))), some (.int (nI (n))), some (.int (nI (u))), some (.int (nI (l))), some (.int (nI (bz))), some (.int (nI (c))), some (.int (nI (p))), some (.int (nI (pu))), some (.int (nI (pl))), some (.int (nI (fr))), some (.int (nI (x0))), some (.int (nI (fu))), some (.int (nI (fl))), some (.int (nI (t))), (p18), (p19), (p20), (p21), (p22)] [] M2
    obtain ⟨V5, hV5⟩ : ∃ V5, (V1.set (t + 2 + 2 * 0) (nI p103)).set (t + 3 + 2 * 0) (nI lp) = V5 := ⟨_, rfl⟩
    rw [hV5] at hC2
    have hl5 : V5.length = V1.length := by rw [← hV5, List.length_set, List.length_set]
    have hv5 : ∀ i, i < t + 2 → V5.getD i 0 = V1.getD i 0 := fun i hi => by rw [← hV5, gd_set_ne (by omega), gd_set_ne (by omega)]
    have hv6 : V5.getD (t + 2) 0 = nI p103 := by rw [← hV5, gd_set_ne (by omega)]; exact gd_set_eq (by omega)
    have hv7 : V5.getD (t + 3) 0 = nI lp := by rw [← hV5]; exact gd_set_eq (by rw [List.length_set]; omega)
    have hF2 := hF112.trans hF2'
    obtain ⟨hW114, hB114, hTD114, hz114, hp114⟩ := id hS2
    obtain ⟨dd114, hw114, hd114⟩ := id hW114
    have hcap114 := hB114.cap
    obtain ⟨n6, hn6⟩ : ∃ n6, T8 = n6 + fr := ⟨T8 - fr, by omega⟩
    have hwd : w ≠ dd114 := fun e => by have q1 := hd114; rw [← e, hw114] at q1; cases q1
    refine jn_iconst (pc := 520) 2 kRF_determinant_d520 (by decide) ?_
    refine jn_iconst (pc := 521) 2 kRF_determinant_d521 (by decide) ?_
    refine jj_iload (pc := 522) kRF_determinant_d522 rfl ?_
    refine jn_imul (pc := 524) (2 * n) kRF_determinant_d524 (by omega) ?_
    refine jj_iload (pc := 525) kRF_determinant_d525 rfl ?_
    refine jn_imul (pc := 527) (2 * m) kRF_determinant_d527 (by rw [Nat.mul_assoc, hmm]) ?_
    refine jn_iadd (pc := 528) (2 * m + 2) kRF_determinant_d528 (by omega) ?_
    refine jj_istore (pc := 529) kRF_determinant_d529 (Nat.le_of_ble_eq_true rfl) ?_
    refine jj_iload (pc := 531) kRF_determinant_d531 rfl ?_
    refine jj_iload_n (pc := 533) kRF_determinant_d533 rfl ?_
    refine jn_isub (pc := 534) (ls) kRF_determinant_d534 (by omega) ?_
    refine jj_istore (pc := 535) kRF_determinant_d535 (Nat.le_of_ble_eq_true rfl) ?_
    refine jj_aload_n (pc := 537) kRF_determinant_d537 rfl ?_
    refine jj_getf (pc := 538) kRF_determinant_d538 (kfRF_w hG) hC2.1 rfl ?_
    refine jj_getf (pc := 541) kRF_determinant_d541 (kfRF_RW_d hG) hw114 rfl ?_
    refine jj_iload (pc := 544) kRF_determinant_d544 rfl ?_
    refine jj_aload_n (pc := 546) kRF_determinant_d546 rfl ?_
    refine jj_getf (pc := 547) kRF_determinant_d547 (kfRF_w hG) hC2.1 rfl ?_
    refine jj_getf (pc := 550) kRF_determinant_d550 (kfRF_RW_d hG) hw114 rfl ?_
    refine jj_iload_n (pc := 553) kRF_determinant_d553 rfl ?_
    refine jj_aload_n (pc := 554) kRF_determinant_d554 rfl ?_
    refine jj_getf (pc := 555) kRF_determinant_d555 (kfRF_w hG) hC2.1 rfl ?_
    refine jj_getf (pc := 558) kRF_determinant_d558 (kfRF_RW_top hG) hw114 rfl ?_
    refine jj_iload (pc := 561) kRF_determinant_d561 rfl ?_
    refine jn_isub (pc := 563) (n6) kRF_determinant_d563 (by omega) ?_
    refine jj_acopy (pc := 564) (sp := fr) (dp := nu) (n := n6) kRF_determinant_d564 (koRF_copy hG) (ka_nat hG) (ka_sta hG) (ka_ini hG) (kG_t hG rfl) hd114 hd114 rfl rfl rfl (by rw [List.length_map]; omega) (by rw [List.length_map]; omega) (by rw [List.length_map]; omega) (by rw [List.length_map]; omega) (fun i hi => ⟨_, gd_int (by omega)⟩) rfl (by decide +kernel) ?_
    rw [cp_map]
    have hln := icp_len (D := D8) (sp := fr) (dp := nu) (n := n6) (by omega) (by omega)
    have hlo : ∀ i, i < nu → (icp D8 fr nu n6).getD i 0 = D8.getD i 0 := fun i hi => icp_lo (by omega) hi
    have hmi : ∀ i, fr ≤ i → i < T8 → (icp D8 fr nu n6).getD (i - ls) 0 = D8.getD i 0 := fun i h2 h3 => by
      have := icp_mid (D := D8) (sp := fr) (dp := nu) (n := n6) (i := i - fr) (by omega) (by omega) (by omega)
      rw [show nu + (i - fr) = i - ls by omega, show fr + (i - fr) = i by omega] at this
      exact this
    revert hln hlo hmi
    generalize icp D8 fr nu n6 = D7
    intro hln hlo hmi
    refine jn_gen (fun M7 hM7 => ?_)
    have hf7 : RF M2 M7 w := by rw [hM7]; exact RF.put hw114 hwd
    have hS7 : RS M7 w D7 T8 v8 cm X1 Z1 rc8 rs8 := ⟨⟨dd114, by rw [hM7, jj_up_ne _ _ hwd]; exact hw114, by rw [hM7]; exact jj_up_at _ _ _⟩, hB114.same hln, by omega, by rw [hlo 0 (by omega)]; exact hz114, by omega⟩
    have hC7 := hC2.rf hf7
    have hF7 := hF2.trans (FF.ofRF hC2 hf7)
    have hz0 : D8.getD 0 0 = 0 := hz114
    obtain ⟨hW115, hB115, hTD115, hz115, hp115⟩ := id hS7
    obtain ⟨dd115, hw115, hd115⟩ := id hW115
    have hcap115 := hB115.cap
    show jj G kRF_determinant (d + 10) Q rc8 rs8 567 [some (.ref f), some (.int (nI (b))), some (.int (nI (nu))), some (.int (nI (he))), some (.int (nI (a))), some (.int (nI (n))), some (.int (nI (u))), some (.int (nI (l))), some (.int (nI (bz))), some (.int (nI (c))), some (.int (nI (p))), some (.int (nI (pu))), some (.int (nI (pl))), some (.int (nI (fr))), some (.int (nI (x0))), some (.int (nI (fu))), some (.int (nI (fl))), some (.int (nI (t))), some (.int (nI (2 * m + 2))), some (.int (nI (ls))), (p20), (p21), (p22)] [] M7
    refine jj_aload_n (pc := 567) kRF_determinant_d567 rfl ?_
    refine jj_getf (pc := 568) kRF_determinant_d568 (kfRF_w hG) hC7.1 rfl ?_
    refine jj_dup (pc := 571) kRF_determinant_d571 rfl ?_
    refine jj_getf (pc := 572) kRF_determinant_d572 (kfRF_RW_top hG) hw115 rfl ?_
    refine jj_iload (pc := 575) kRF_determinant_d575 rfl ?_
    refine jn_isub (pc := 577) (n6 + nu) kRF_determinant_d577 (by omega) ?_
    refine jj_putf (pc := 578) kRF_determinant_d578 (kpRF_RW_top hG) hw115 (by rfl) rfl ?_
    refine jn_gen (fun M116 hM117 => ?_)
    have hf118 : RF M7 M116 w := by rw [hM117]; exact RF.top hw115
    have hS118 : RS M116 w D7 (n6 + nu) v8 cm X1 Z1 rc8 rs8 := ⟨⟨dd115, by rw [hM117]; exact jj_up_at _ _ _, by rw [hM117, jj_up_ne _ _ (fun e => by have q1 := hd115; rw [e, hw115] at q1; cases q1)]; exact hd115⟩, hB115, by omega, hz115, by omega⟩
    have hC118 := hC7.rf hf118
    have hF118 := hF7.trans (FF.ofRF hC7 hf118)
    obtain ⟨hW119, hB119, hTD119, hz119, hp119⟩ := id hS118
    obtain ⟨dd119, hw119, hd119⟩ := id hW119
    have hcap119 := hB119.cap
    refine jn_iconst (pc := 581) 0 kRF_determinant_d581 (by decide) ?_
    refine jj_istore (pc := 582) kRF_determinant_d582 (Nat.le_of_ble_eq_true rfl) ?_
    show jj G kRF_determinant (d + 10) Q rc8 rs8 584 [some (.ref f), some (.int (nI (b))), some (.int (nI (nu))), some (.int (nI (he))), some (.int (nI (a))), some (.int (nI (n))), some (.int (nI (u))), some (.int (nI (l))), some (.int (nI (bz))), some (.int (nI (c))), some (.int (nI (p))), some (.int (nI (pu))), some (.int (nI (pl))), some (.int (nI (fr))), some (.int (nI (x0))), some (.int (nI (fu))), some (.int (nI (fl))), some (.int (nI (t))), some (.int (nI (2 * m + 2))), some (.int (nI (ls))), some (.int (nI (0))), (p21), (p22)] [] M116
    have hlo0 : ∀ i, i < nu → D7.getD i 0 = D.getD i 0 := fun i hi => by rw [hlo i hi, ho8 i (by omega)]
    have hT7 : n6 + nu + ls = T8 := by omega
    have h17 : RI D7 (n6 + nu) 1 1 := h1.congr (by omega) hlo0
    have h18 : RI D8 T8 1 1 := hT1.congr t8 ho8
    have hcell : ∀ k, k < m + 2 → k ≠ m → ∃ p l, V5.getD (x0 + 2 + 2 * k) 0 = nI p ∧ V5.getD (x0 + 3 + 2 * k) 0 = nI l ∧ p < 2 ^ 31 ∧ l < 2 ^ 31 ∧ FQ D7 (n6 + nu) (slid fr ls p) (slid fr ls l) (if k < m then q k else pq) ∧ (slid fr ls p = 0 ∨ nu ≤ slid fr ls p) ∧ (slid fr ls l = 1 ∨ nu ≤ slid fr ls l) := fun k hk hkm => by
      by_cases hk2 : k < m
      · obtain ⟨p, l, g1, g2, g3, g4, g5⟩ := (hm4 k hk2).congr (D' := D8) (V' := V5) (lo' := fr) t8 ho8 (fun i _ h6 => by rw [hv5 i (by omega), ho1 i (by omega)]) (Nat.le_refl _)
        have lp := g3.1.lt
        have l2 := g3.2.1.lt
        obtain ⟨j1, j2, j3⟩ := g3.slide g4 g5 hls hT7 hnu hz0 (by rw [hlo 0 (by omega)]; exact hz0) (by omega) h18 h17 hmi
        exact ⟨p, l, g1, g2, by omega, by omega, by rw [if_pos hk2]; exact j1, j2, j3⟩
      · have hke : k = m + 1 := by omega
        have g3 : FQ D8 T8 p103 lp pq := ⟨hN8x0, hN8x1, hlp1⟩
        have l1 := g3.1.lt
        have l2 := g3.2.1.lt
        obtain ⟨j1, j2, j3⟩ := g3.slide (nu := nu) (ls := ls) (fr := fr) (T' := n6 + nu) (by omega) (by omega) hls hT7 hnu hz0 (by rw [hlo 0 (by omega)]; exact hz0) (by omega) h18 h17 hmi
        exact ⟨p103, lp, by rw [show x0 + 2 + 2 * k = t + 2 by omega]; exact hv6, by rw [show x0 + 3 + 2 * k = t + 3 by omega]; exact hv7, by omega, by omega, by rw [if_neg hk2]; exact j1, j2, j3⟩
    have hint : ∀ k, k < 2 * m + 6 → ∃ n, n < 2 ^ 31 ∧ V5.getD (x0 + k) 0 = nI n := fun k hk => by
      by_cases e0 : k < 2
      · by_cases e1 : k = 0
        · exact ⟨n, by omega, by rw [e1, Nat.add_zero, hv5 _ (by omega), ho1 _ (by omega)]; exact hm2⟩
        · exact ⟨n, by omega, by rw [show k = 1 by omega, hv5 _ (by omega), ho1 _ (by omega)]; exact hm3⟩
      · by_cases e1 : k = 2 * m + 2
        · exact ⟨1, by omega, by rw [show x0 + k = t by omega, hv5 _ (by omega)]; exact hr1⟩
        · by_cases e2 : k = 2 * m + 3
          · exact ⟨1, by omega, by rw [show x0 + k = t + 1 by omega, hv5 _ (by omega)]; exact hc1⟩
          · by_cases e3 : k % 2 = 0
            · obtain ⟨p, l, g1, g2, g3, g4, -⟩ := hcell ((k - 2) / 2) (by omega) (by omega)
              exact ⟨p, g3, by rw [show x0 + k = x0 + 2 + 2 * ((k - 2) / 2) by omega]; exact g1⟩
            · obtain ⟨p, l, g1, g2, g3, g4, -⟩ := hcell ((k - 2) / 2) (by omega) (by omega)
              exact ⟨l, g4, by rw [show x0 + k = x0 + 3 + 2 * ((k - 2) / 2) by omega]; exact g2⟩
    have loop : ∀ j k, 2 * m + 6 = k + j → ∀ (o21 o22 : Option Value) (M9 : mheap) (V9 : List Int32), FC M9 f w vv pv V9 (t + 4) (nI (p103)) (nI (lp)) P (rk) → RS M9 w D7 (n6 + nu) v8 cm X1 Z1 rc8 rs8 → V9.length = V5.length → (∀ i, i < he ∨ he + k ≤ i → V9.getD i 0 = V5.getD i 0) → (∀ k', k' < k → V9.getD (he + k') 0 = (if (k' < 2 ∨ k' = 2 * m + 2 ∨ k' = 2 * m + 3) then V5.getD (x0 + k') 0 else nI (slid fr ls (V5.getD (x0 + k') 0).toInt.toNat))) → FF M M9 f → jj G kRF_determinant (d + 10) Q rc8 rs8 584 [some (.ref f), some (.int (nI (b))), some (.int (nI (nu))), some (.int (nI (he))), some (.int (nI (a))), some (.int (nI (n))), some (.int (nI (u))), some (.int (nI (l))), some (.int (nI (bz))), some (.int (nI (c))), some (.int (nI (p))), some (.int (nI (pu))), some (.int (nI (pl))), some (.int (nI (fr))), some (.int (nI (x0))), some (.int (nI (fu))), some (.int (nI (fl))), some (.int (nI (t))), some (.int (nI (2 * m + 2))), some (.int (nI (ls))), some (.int (nI (k))), (o21), (o22)] [] M9 := by
      intro j
      induction j with
      | zero =>
        intro k hk o21 o22 M9 V9 hC9 hS9 hlen9 ho9 hv9 hF9
        have e : 2 * m + 6 = k := by omega
        subst e
        have hval : ∀ k' n, ¬ (k' < 2 ∨ k' = 2 * m + 2 ∨ k' = 2 * m + 3) → k' < 2 * m + 6 → n < 2 ^ 31 → V5.getD (x0 + k') 0 = nI n → V9.getD (he + k') 0 = nI (slid fr ls n) := fun k' n g0 g1 g2 g3 => by
          rw [hv9 k' g1, if_neg g0, g3, nI_toInt g2, Int.toNat_natCast]
        obtain ⟨pe, le, y1, y2, y3, y4, y5, y6, y7⟩ := hcell (m + 1) (by omega) (by omega)
        rw [if_neg (by omega)] at y5
        have hu9 : V9.getD (he + 2 * m + 4) 0 = nI (slid fr ls pe) := by
          have := hval (2 * m + 4) pe (by omega) (by omega) y3 (by rw [show x0 + (2 * m + 4) = x0 + 2 + 2 * (m + 1) by omega]; exact y1)
          rw [← Nat.add_assoc] at this
          exact this
        have hl9 : V9.getD (he + 2 * m + 5) 0 = nI (slid fr ls le) := by
          have := hval (2 * m + 5) le (by omega) (by omega) y4 (by rw [show x0 + (2 * m + 5) = x0 + 3 + 2 * (m + 1) by omega]; exact y2)
          rw [← Nat.add_assoc] at this
          exact this
        refine jj_iload (pc := 584) kRF_determinant_d584 rfl ?_
        refine jj_iload (pc := 586) kRF_determinant_d586 rfl ?_
        refine jn_iconst (pc := 588) 4 kRF_determinant_d588 (by decide) ?_
        refine jn_iadd (pc := 589) (2 * m + 6) kRF_determinant_d589 (by omega) ?_
        refine jn_icmp_ge (pc := 590) (tgt := 671) kRF_determinant_d590 (by decide) (by omega) (by omega) (fun _ => ?_) (fun c => by exfalso; omega)
        refine jj_iload_n (pc := 671) kRF_determinant_d671 rfl ?_
        refine jj_istore (pc := 672) kRF_determinant_d672 (Nat.le_of_ble_eq_true rfl) ?_
        refine jj_aload_n (pc := 674) kRF_determinant_d674 rfl ?_
        refine jj_iload_n (pc := 675) kRF_determinant_d675 rfl ?_
        refine jj_iload (pc := 676) kRF_determinant_d676 rfl ?_
        refine jn_iadd (pc := 678) (he + 2 * m + 2) kRF_determinant_d678 (by omega) ?_
        refine jn_iconst (pc := 679) 4 kRF_determinant_d679 (by decide) ?_
        refine jn_iadd (pc := 680) (he + 2 * m + 6) kRF_determinant_d680 (by omega) ?_
        refine jj_putf (pc := 681) kRF_determinant_d681 (kpRF_top hG) hC9.1 (by rfl) rfl ?_
        refine jn_gen (fun M120 hM121 => ?_)
        have hC122 : FC M120 f w vv pv V9 (he + 2 * m + 6) (nI (p103)) (nI (lp)) P (rk) := by rw [hM121]; exact hC9.putf
        have hF122 : FF M M120 f := by rw [hM121]; exact hF9.trans (FF.putf hC9)
        have hS122 : RS M120 w D7 (n6 + nu) v8 cm X1 Z1 rc8 rs8 := by rw [hM121]; exact hS9.other hC9.2.2.2.2.1
        refine jj_aload_n (pc := 684) kRF_determinant_d684 rfl ?_
        refine jj_iload_n (pc := 685) kRF_determinant_d685 rfl ?_
        refine jj_iload (pc := 686) kRF_determinant_d686 rfl ?_
        refine jn_iadd (pc := 688) (he + 2 * m + 2) kRF_determinant_d688 (by omega) ?_
        refine jn_iconst (pc := 689) 0 kRF_determinant_d689 (by decide) ?_
        refine jj_callV (pc := 690) (b := f) (As := [.int (nI (he + 2 * m + 2)), .int (nI (0))]) kRF_determinant_d690 (kvRF_RF_upper hG) (kG_cl hG rfl) rfl hC122.1 rfl rfl rfl (Nat.le_of_ble_eq_true rfl) (Nat.le_of_ble_eq_true rfl) (jj_bare0 rfl) ?_
        refine rf_upper (a := he + 2 * m + 2) (i := 0) hG hC122 (by omega) (by omega) ?_
        show jj G kRF_determinant (d + 10) Q rc8 rs8 693 [some (.ref f), some (.int (nI (b))), some (.int (nI (nu))), some (.int (nI (he))), some (.int (nI (he))), some (.int (nI (n))), some (.int (nI (u))), some (.int (nI (l))), some (.int (nI (bz))), some (.int (nI (c))), some (.int (nI (p))), some (.int (nI (pu))), some (.int (nI (pl))), some (.int (nI (fr))), some (.int (nI (x0))), some (.int (nI (fu))), some (.int (nI (fl))), some (.int (nI (t))), some (.int (nI (2 * m + 2))), some (.int (nI (ls))), some (.int (nI (2 * m + 6))), (o21), (o22)] [.int (V9.getD (he + 2 * m + 2 + 2 + 2 * 0) 0)] M120
        refine jn_top (.int (nI (slid fr ls pe))) (by rw [show he + 2 * m + 2 + 2 + 2 * 0 = he + 2 * m + 4 by omega, hu9]) ?_
        refine jj_istore (pc := 693) kRF_determinant_d693 (Nat.le_of_ble_eq_true rfl) ?_
        refine jj_aload_n (pc := 695) kRF_determinant_d695 rfl ?_
        refine jj_iload_n (pc := 696) kRF_determinant_d696 rfl ?_
        refine jj_iload (pc := 697) kRF_determinant_d697 rfl ?_
        refine jn_iadd (pc := 699) (he + 2 * m + 2) kRF_determinant_d699 (by omega) ?_
        refine jn_iconst (pc := 700) 0 kRF_determinant_d700 (by decide) ?_
        refine jj_callV (pc := 701) (b := f) (As := [.int (nI (he + 2 * m + 2)), .int (nI (0))]) kRF_determinant_d701 (kvRF_RF_lower hG) (kG_cl hG rfl) rfl hC122.1 rfl rfl rfl (Nat.le_of_ble_eq_true rfl) (Nat.le_of_ble_eq_true rfl) (jj_bare0 rfl) ?_
        refine rf_lower (a := he + 2 * m + 2) (i := 0) hG hC122 (by omega) (by omega) ?_
        show jj G kRF_determinant (d + 10) Q rc8 rs8 704 [some (.ref f), some (.int (nI (b))), some (.int (nI (nu))), some (.int (nI (he))), some (.int (nI (he))), some (.int (nI (n))), some (.int (nI (slid fr ls pe))), some (.int (nI (l))), some (.int (nI (bz))), some (.int (nI (c))), some (.int (nI (p))), some (.int (nI (pu))), some (.int (nI (pl))), some (.int (nI (fr))), some (.int (nI (x0))), some (.int (nI (fu))), some (.int (nI (fl))), some (.int (nI (t))), some (.int (nI (2 * m + 2))), some (.int (nI (ls))), some (.int (nI (2 * m + 6))), (o21), (o22)] [.int (V9.getD (he + 2 * m + 2 + 3 + 2 * 0) 0)] M120
        refine jn_top (.int (nI (slid fr ls le))) (by rw [show he + 2 * m + 2 + 3 + 2 * 0 = he + 2 * m + 5 by omega, hl9]) ?_
        refine jj_istore (pc := 704) kRF_determinant_d704 (Nat.le_of_ble_eq_true rfl) ?_
        refine jn_iinc (pc := 706) (c + 1) kRF_determinant_d706 rfl (nI_1 _) ?_
        refine jj_goto (pc := 709) (tgt := 50) kRF_determinant_d709 (by decide) ?_
        show jj G kRF_determinant (d + 10) Q rc8 rs8 50 [some (.ref f), some (.int (nI (b))), some (.int (nI (nu))), some (.int (nI (he))), some (.int (nI (he))), some (.int (nI (n))), some (.int (nI (slid fr ls pe))), some (.int (nI (slid fr ls le))), some (.int (nI (bz))), some (.int (nI (c + 1))), some (.int (nI (p))), some (.int (nI (pu))), some (.int (nI (pl))), some (.int (nI (fr))), some (.int (nI (x0))), some (.int (nI (fu))), some (.int (nI (fl))), some (.int (nI (t))), some (.int (nI (2 * m + 2))), some (.int (nI (ls))), some (.int (nI (2 * m + 6))), (o21), (o22)] [] M120
        rw [show he + 2 * m + 6 = he + 6 + 2 * m by omega] at hC122
        refine K _ vv D7 (n6 + nu) V9 _ _ (slid fr ls pe) (slid fr ls le) X1 Z1 v8 rc8 rs8 _ _ _ _ _ _ _ _ _ _ _ _ _ hC122 hS122 (hX1.same (by omega)) (by omega) (by omega) hlo0 (fun i hi => by rw [ho9 i (by omega), hv5 i (by omega), ho1 i (by omega)]) (by omega) hF122 ⟨by rw [hmm]; omega, ?_, ?_, fun k' hk' => ?_⟩ y5
        · have := hv9 0 (by omega)
          rw [if_pos (by omega), Nat.add_zero, Nat.add_zero] at this
          rw [this, hv5 _ (by omega), ho1 _ (by omega)]; exact hm2
        · have := hv9 1 (by omega)
          rw [if_pos (by omega)] at this
          rw [this, hv5 _ (by omega), ho1 _ (by omega)]; exact hm3
        · rw [hmm] at hk'
          obtain ⟨p, l, g1, g2, g3, g4, g5, g6, g7⟩ := hcell k' (by omega) (by omega)
          rw [if_pos hk'] at g5
          refine ⟨slid fr ls p, slid fr ls l, ?_, ?_, g5, g6, g7⟩
          · have := hval (2 + 2 * k') p (by omega) (by omega) g3 (by rw [← Nat.add_assoc]; exact g1)
            rw [← Nat.add_assoc] at this
            exact this
          · have := hval (3 + 2 * k') l (by omega) (by omega) g4 (by rw [← Nat.add_assoc]; exact g2)
            rw [← Nat.add_assoc] at this
            exact this
      | succ j ih =>
        intro k hk o21 o22 M9 V9 hC9 hS9 hlen9 ho9 hv9 hF9
        obtain ⟨n', hn', hvn⟩ := hint k (by omega)
        have hV9n : V9.getD (x0 + k) 0 = nI n' := by rw [ho9 _ (by omega)]; exact hvn
        refine jj_iload (pc := 584) kRF_determinant_d584 rfl ?_
        refine jj_iload (pc := 586) kRF_determinant_d586 rfl ?_
        refine jn_iconst (pc := 588) 4 kRF_determinant_d588 (by decide) ?_
        refine jn_iadd (pc := 589) (2 * m + 6) kRF_determinant_d589 (by omega) ?_
        refine jn_icmp_ge (pc := 590) (tgt := 671) kRF_determinant_d590 (by decide) (by omega) (by omega) (fun c => by exfalso; omega) (fun _ => ?_)
        refine jj_aload_n (pc := 593) kRF_determinant_d593 rfl ?_
        refine jj_getf (pc := 594) kRF_determinant_d594 (kfRF_v hG) hC9.1 rfl ?_
        refine jj_iload (pc := 597) kRF_determinant_d597 rfl ?_
        refine jj_iload (pc := 599) kRF_determinant_d599 rfl ?_
        refine jn_iadd (pc := 601) (x0 + k) kRF_determinant_d601 (by omega) ?_
        refine jn_iald (pc := 602) (v := (nI (n'))) kRF_determinant_d602 (kG_t hG rfl) hC9.2.1 (by omega) (by omega) (hV9n) ?_
        refine jj_istore (pc := 603) kRF_determinant_d603 (Nat.le_of_ble_eq_true rfl) ?_
        have k664 : ∀ g b9, nI g = (if (k < 2 ∨ k = 2 * m + 2 ∨ k = 2 * m + 3) then V5.getD (x0 + k) 0 else nI (slid fr ls (V5.getD (x0 + k) 0).toInt.toNat)) → jj G kRF_determinant (d + 10) Q rc8 rs8 664 [some (.ref f), some (.int (nI (b))), some (.int (nI (nu))), some (.int (nI (he))), some (.int (nI (a))), some (.int (nI (n))), some (.int (nI (u))), some (.int (nI (l))), some (.int (nI (bz))), some (.int (nI (c))), some (.int (nI (p))), some (.int (nI (pu))), some (.int (nI (pl))), some (.int (nI (fr))), some (.int (nI (x0))), some (.int (nI (fu))), some (.int (nI (fl))), some (.int (nI (t))), some (.int (nI (2 * m + 2))), some (.int (nI (ls))), some (.int (nI (k))), some (.int (nI (n'))), some (.int (nI (b9)))] [.int (nI (g)), .int (nI (he + k)), .ref vv] M9 := by
          intro g b9 hg
          refine jn_iast (pc := 664) kRF_determinant_d664 (kG_t hG rfl) hC9.2.1 (by omega) (by omega) ?_
          refine jn_gen (fun M123 hM124 => ?_)
          have hC125 : FC M123 f w vv pv ((V9).set (he + k) ((nI (g)))) (t + 4) (nI (p103)) (nI (lp)) P (rk) := by rw [hM124]; exact hC9.putv
          have hF125 : FF M M123 f := by rw [hM124]; exact hF9.trans (FF.putv hC9)
          have hS125 : RS M123 w D7 (n6 + nu) v8 cm X1 Z1 rc8 rs8 := by rw [hM124]; exact hS9.other hC9.2.2.2.2.2.1
          refine jn_iinc (pc := 665) (k + 1) kRF_determinant_d665 rfl (nI_1 _) ?_
          refine jj_goto (pc := 668) (tgt := 584) kRF_determinant_d668 (by decide) ?_
          show jj G kRF_determinant (d + 10) Q rc8 rs8 584 [some (.ref f), some (.int (nI (b))), some (.int (nI (nu))), some (.int (nI (he))), some (.int (nI (a))), some (.int (nI (n))), some (.int (nI (u))), some (.int (nI (l))), some (.int (nI (bz))), some (.int (nI (c))), some (.int (nI (p))), some (.int (nI (pu))), some (.int (nI (pl))), some (.int (nI (fr))), some (.int (nI (x0))), some (.int (nI (fu))), some (.int (nI (fl))), some (.int (nI (t))), some (.int (nI (2 * m + 2))), some (.int (nI (ls))), some (.int (nI (k + 1))), some (.int (nI (n'))), some (.int (nI (b9)))] [] M123
          refine ih (k + 1) (by omega) _ _ _ _ hC125 hS125 (by rw [List.length_set]; exact hlen9) (fun i hi => by rw [gd_set_ne (by omega)]; exact ho9 i (by omega)) (fun k' hk' => ?_) hF125
          by_cases e : k' = k
          · rw [e, gd_set_eq (by omega)]; exact hg
          · rw [gd_set_ne (by omega)]; exact hv9 k' (by omega)
        clear ih
        have k631 : (k < 2 ∨ k = 2 * m + 2 ∨ k = 2 * m + 3) → jj G kRF_determinant (d + 10) Q rc8 rs8 631 [some (.ref f), some (.int (nI (b))), some (.int (nI (nu))), some (.int (nI (he))), some (.int (nI (a))), some (.int (nI (n))), some (.int (nI (u))), some (.int (nI (l))), some (.int (nI (bz))), some (.int (nI (c))), some (.int (nI (p))), some (.int (nI (pu))), some (.int (nI (pl))), some (.int (nI (fr))), some (.int (nI (x0))), some (.int (nI (fu))), some (.int (nI (fl))), some (.int (nI (t))), some (.int (nI (2 * m + 2))), some (.int (nI (ls))), some (.int (nI (k))), some (.int (nI (n'))), (o22)] [] M9 := by
          intro h0
          rw [if_pos h0] at k664
          refine jn_iconst (pc := 631) 0 kRF_determinant_d631 (by decide) ?_
          refine jj_istore (pc := 632) kRF_determinant_d632 (Nat.le_of_ble_eq_true rfl) ?_
          refine jj_aload_n (pc := 634) kRF_determinant_d634 rfl ?_
          refine jj_getf (pc := 635) kRF_determinant_d635 (kfRF_v hG) hC9.1 rfl ?_
          refine jj_iload_n (pc := 638) kRF_determinant_d638 rfl ?_
          refine jj_iload (pc := 639) kRF_determinant_d639 rfl ?_
          refine jn_iadd (pc := 641) (he + k) kRF_determinant_d641 (by omega) ?_
          refine jj_iload (pc := 642) kRF_determinant_d642 rfl ?_
          refine jn_if_eq (pc := 644) (tgt := 662) kRF_determinant_d644 (by decide) (by omega) (fun _ => ?_) (fun c => by exfalso; omega)
          refine jj_iload (pc := 662) kRF_determinant_d662 rfl ?_
          exact k664 n' 0 hvn.symm
        have k627 : ¬ (k < 2 ∨ k = 2 * m + 2 ∨ k = 2 * m + 3) → jj G kRF_determinant (d + 10) Q rc8 rs8 627 [some (.ref f), some (.int (nI (b))), some (.int (nI (nu))), some (.int (nI (he))), some (.int (nI (a))), some (.int (nI (n))), some (.int (nI (u))), some (.int (nI (l))), some (.int (nI (bz))), some (.int (nI (c))), some (.int (nI (p))), some (.int (nI (pu))), some (.int (nI (pl))), some (.int (nI (fr))), some (.int (nI (x0))), some (.int (nI (fu))), some (.int (nI (fl))), some (.int (nI (t))), some (.int (nI (2 * m + 2))), some (.int (nI (ls))), some (.int (nI (k))), some (.int (nI (n'))), (o22)] [] M9 := by
          intro h0
          rw [if_neg h0, hvn, nI_toInt hn', Int.toNat_natCast] at k664
          refine jn_iconst (pc := 627) 1 kRF_determinant_d627 (by decide) ?_
          refine jj_goto (pc := 628) (tgt := 632) kRF_determinant_d628 (by decide) ?_
          refine jj_istore (pc := 632) kRF_determinant_d632 (Nat.le_of_ble_eq_true rfl) ?_
          refine jj_aload_n (pc := 634) kRF_determinant_d634 rfl ?_
          refine jj_getf (pc := 635) kRF_determinant_d635 (kfRF_v hG) hC9.1 rfl ?_
          refine jj_iload_n (pc := 638) kRF_determinant_d638 rfl ?_
          refine jj_iload (pc := 639) kRF_determinant_d639 rfl ?_
          refine jn_iadd (pc := 641) (he + k) kRF_determinant_d641 (by omega) ?_
          refine jj_iload (pc := 642) kRF_determinant_d642 rfl ?_
          refine jn_if_eq (pc := 644) (tgt := 662) kRF_determinant_d644 (by decide) (by omega) (fun c => by exfalso; omega) (fun _ => ?_)
          refine jj_iload (pc := 647) kRF_determinant_d647 rfl ?_
          refine jj_iload (pc := 649) kRF_determinant_d649 rfl ?_
          refine jn_icmp_lt (pc := 651) (tgt := 662) kRF_determinant_d651 (by decide) (by omega) (by omega) (fun c2 => ?_) (fun c2 => ?_)
          · skip
            refine jj_iload (pc := 662) kRF_determinant_d662 rfl ?_
            exact k664 n' 1 (by unfold slid; rw [if_neg (by omega)])
          · skip
            obtain ⟨n2, hn2⟩ : ∃ n2, n' = n2 + ls := ⟨n' - ls, by omega⟩
            refine jj_iload (pc := 654) kRF_determinant_d654 rfl ?_
            refine jj_iload (pc := 656) kRF_determinant_d656 rfl ?_
            refine jn_isub (pc := 658) (n2) kRF_determinant_d658 (by omega) ?_
            refine jj_goto (pc := 659) (tgt := 664) kRF_determinant_d659 (by decide) ?_
            exact k664 n2 1 (by unfold slid; rw [if_pos (by omega), show n' - ls = n2 by omega])
        have k618 : (k < 2 ∨ 2 * m + 2 ≤ k) → jj G kRF_determinant (d + 10) Q rc8 rs8 618 [some (.ref f), some (.int (nI (b))), some (.int (nI (nu))), some (.int (nI (he))), some (.int (nI (a))), some (.int (nI (n))), some (.int (nI (u))), some (.int (nI (l))), some (.int (nI (bz))), some (.int (nI (c))), some (.int (nI (p))), some (.int (nI (pu))), some (.int (nI (pl))), some (.int (nI (fr))), some (.int (nI (x0))), some (.int (nI (fu))), some (.int (nI (fl))), some (.int (nI (t))), some (.int (nI (2 * m + 2))), some (.int (nI (ls))), some (.int (nI (k))), some (.int (nI (n'))), (o22)] [] M9 := by
          intro h0
          refine jj_iload (pc := 618) kRF_determinant_d618 rfl ?_
          refine jj_iload (pc := 620) kRF_determinant_d620 rfl ?_
          refine jn_iconst (pc := 622) 1 kRF_determinant_d622 (by decide) ?_
          refine jn_iadd (pc := 623) (2 * m + 3) kRF_determinant_d623 (by omega) ?_
          refine jn_icmp_le (pc := 624) (tgt := 631) kRF_determinant_d624 (by decide) (by omega) (by omega) (fun c3 => ?_) (fun c3 => ?_)
          · skip
            exact k631 (by omega)
          · skip
            exact k627 (by omega)
        refine jj_iload (pc := 605) kRF_determinant_d605 rfl ?_
        refine jn_iconst (pc := 607) 1 kRF_determinant_d607 (by decide) ?_
        refine jn_icmp_le (pc := 608) (tgt := 618) kRF_determinant_d608 (by decide) (by omega) (by omega) (fun c1 => ?_) (fun c1 => ?_)
        · skip
          exact k618 (by omega)
        · skip
          refine jj_iload (pc := 611) kRF_determinant_d611 rfl ?_
          refine jj_iload (pc := 613) kRF_determinant_d613 rfl ?_
          refine jn_icmp_lt (pc := 615) (tgt := 627) kRF_determinant_d615 (by decide) (by omega) (by omega) (fun c2 => ?_) (fun c2 => ?_)
          · skip
            exact k627 (by omega)
          · skip
            exact k618 (by omega)
    exact loop (2 * m + 6) 0 (by omega) _ _ _ V5 hC118 hS118 rfl (fun _ _ => rfl) (fun k' hk' => by omega) hF118
  refine jn_icmp_ne (pc := 494) (tgt := 501) kRF_determinant_d494 (by decide) (by omega) (by omega) (fun c0 => ?_) (fun c0 => ?_)
  · skip
    refine jj_aload_n (pc := 501) kRF_determinant_d501 rfl ?_
    refine jj_getf (pc := 502) kRF_determinant_d502 (kfRF_w hG) hC107.1 rfl ?_
    refine jj_iload (pc := 505) kRF_determinant_d505 rfl ?_
    refine jj_callV (pc := 507) (b := w) (As := [.int (nI (pl))]) kRF_determinant_d507 (kvRF_RW_copy hG) (kG_cl hG rfl) rfl hw108 rfl rfl rfl (Nat.le_of_ble_eq_true rfl) (Nat.le_of_ble_eq_true rfl) (jj_bare0 rfl) ?_
    refine ri_copy (a := e) hG hS107 hpl_103 hzd (by omega) (fun M126 D126 T126 p126 rc126 rs126 hS126 t126 u126 ho126 hf126 hI126 => ?_)
    show jj G kRF_determinant (d + 10) Q rc126 rs126 510 [some (.ref f), some (.int (nI (b))), some (.int (nI (nu))), some (.int (nI (he))), some (.int (nI (a))), some (.int (nI (n))), some (.int (nI (u))), some (.int (nI (l))), some (.int (nI (bz))), some (.int (nI (c))), some (.int (nI (p))), some (.int (nI (pu))), some (.int (nI (pl))), some (.int (nI (fr))), some (.int (nI (x0))), some (.int (nI (fu))), some (.int (nI (fl))), some (.int (nI (t))), (p18), (p19), (p20), (p21), (p22)] [.int (nI (p126)), .ref f] M126
    have hC126 := hC107.rf hf126
    have hF126 := hF107.trans (FF.ofRF hC107 hf126)
    have hpu_126 := hpu_103.congr t126.1 ho126
    have hpl_126 := hpl_103.congr t126.1 ho126
    have hI103_126 := hI103.congr t126.1 ho126
    obtain ⟨hW127, hB127, hTD127, hz127, hp127⟩ := id hS126
    obtain ⟨dd127, hw127, hd127⟩ := id hW127
    have hcap127 := hB127.cap
    show jj G kRF_determinant (d + 10) Q rc126 rs126 510 [some (.ref f), some (.int (nI (b))), some (.int (nI (nu))), some (.int (nI (he))), some (.int (nI (a))), some (.int (nI (n))), some (.int (nI (u))), some (.int (nI (l))), some (.int (nI (bz))), some (.int (nI (c))), some (.int (nI (p))), some (.int (nI (pu))), some (.int (nI (pl))), some (.int (nI (fr))), some (.int (nI (x0))), some (.int (nI (fu))), some (.int (nI (fl))), some (.int (nI (t))), (p18), (p19), (p20), (p21), (p22)] [.int (nI (p126)), .ref f] M126
    have hq1 : pq.den ≠ 1 := fun e9 => c0 (hpl1 e9)
    have hq2 : p126 ≠ 0 := fun e9 => by
      have h9 := hI126
      rw [e9] at h9
      have := h9.z0 hz127 (by omega)
      have := pq.den_nz
      omega
    exact k510 p126 (fun e9 => absurd e9 hq1) (by omega) M126 D126 (T126) _ rc126 rs126 hC126 hS126 (by omega) (by omega) (fun i hi => by rw [ho126 i (by omega), ho103 i (by omega)]) hF126 hI103_126 hI126
  · skip
    subst c0
    refine jn_iconst (pc := 497) 1 kRF_determinant_d497 (by decide) ?_
    refine jj_goto (pc := 498) (tgt := 510) kRF_determinant_d498 (by decide) ?_
    show jj G kRF_determinant (d + 10) Q rc103 rs103 510 [some (.ref f), some (.int (nI (b))), some (.int (nI (nu))), some (.int (nI (he))), some (.int (nI (a))), some (.int (nI (n))), some (.int (nI (u))), some (.int (nI (l))), some (.int (nI (bz))), some (.int (nI (c))), some (.int (nI (p))), some (.int (nI (pu))), some (.int (nI (1))), some (.int (nI (fr))), some (.int (nI (x0))), some (.int (nI (fu))), some (.int (nI (fl))), some (.int (nI (t))), (p18), (p19), (p20), (p21), (p22)] [.int (nI (1)), .ref f] M105
    exact k510 1 (fun _ => rfl) (Or.inl rfl) M105 D103 (T103) _ rc103 rs103 hC107 hS107 (by omega) (by omega) (fun i hi => by rw [ho103 i (by omega)]) hF107 hI103 hpl_103
end RF16
