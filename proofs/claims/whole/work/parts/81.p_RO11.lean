/-! ===== Forms.hermite: the form with its rows of 0 (printed by wip/gen/ro11.py) ===== -/
section RO11
variable {G : jg} {d : Nat} {Q : jq} {rc rs : Nat} {M : mheap} {o f w vv pv ca ra : Nat} {v2 : Value} {D V P CA RA : List Int32} {t : Nat} {up low rk fi se : Int32}
theorem ro_herm_fill {b nu he r e n m pt dp fr a fm lof T s S cm cv X Z X' Z' : Nat} {p13 p14 p15 : Option Value} {qf : Nat → Rat} (hG : kG G) (hO : OC M o f w ca ra CA RA fi se) (hC : FC M f w vv pv V t up low P rk) (hS : RS M w D T v2 cm X Z rc rs) (hX : FXB cv V X Z X' Z') (htV : t ≤ V.length) (h1 : RI D T 1 1) (hT3 : 3 ≤ T) (hf : MX D T V t fm r n lof qf) (hqf : ∀ k, k < r * n → ZB s (qf k).num ∧ ZB s ((qf k).den : Int)) (hm : m < 64) (hn : n < 64) (hr : r ≤ m) (hs : S = 2 * s + 2) (ht : t + 2 + 2 * (m * n) ≤ cv) (hT : T + m * n * S ≤ cm)
    (K : MKP (fun _ M' rc' rs' => jj G kRO_hermite (d + 12) Q rc' rs' 518 [some (.ref o), some (.int (nI (b))), some (.int (nI (nu))), some (.int (nI (he))), some (.int (nI (r))), some (.int (nI (e))), some (.int (nI (n))), some (.int (nI (m))), some (.int (nI (pt))), some (.int (nI (dp))), some (.int (nI (fr))), some (.int (nI (a))), some (.int (nI (fm))), some (.int (nI (T))), some (.int (nI (t))), some (.int (nI (m * n)))] [] M') M f w pv D V t P rk T cm cv X' Z' (m) (n) (T + m * n * S) (fun k => if k < r * n then qf k else 0)) : jj G kRO_hermite (d + 12) Q rc rs 440 [some (.ref o), some (.int (nI (b))), some (.int (nI (nu))), some (.int (nI (he))), some (.int (nI (r))), some (.int (nI (e))), some (.int (nI (n))), some (.int (nI (m))), some (.int (nI (pt))), some (.int (nI (dp))), some (.int (nI (fr))), some (.int (nI (a))), some (.int (nI (fm))), (p13), (p14), (p15)] [] M := by
  have hcap := hX.cap
  have hcr : (m) * (n) = m * n := rfl
  unfold MKP at K
  rw [hcr] at K
  have hcapD := hS.2.1.cap
  obtain ⟨hf1, hf2, hf3, hf4⟩ := id hf
  have hmn : m * n < 64 * 1024 := Nat.mul_lt_mul_of_lt_of_le hm (by omega) (by decide)
  have hrn : r * n ≤ m * n := Nat.mul_le_mul_right _ hr
  obtain ⟨hW101, hB101, hTD101, hz101, hp101⟩ := id hS
  obtain ⟨dd101, hw101, hd101⟩ := id hW101
  have hcap101 := hB101.cap
  refine jj_aload_n (pc := 440) kRO_hermite_d440 rfl ?_
  refine jj_getf (pc := 441) kRO_hermite_d441 (kfRO_w hG) hO.1 rfl ?_
  refine jj_getf (pc := 444) kRO_hermite_d444 (kfRO_RW_top hG) hw101 rfl ?_
  refine jj_istore (pc := 447) kRO_hermite_d447 (Nat.le_of_ble_eq_true rfl) ?_
  refine jj_aload_n (pc := 449) kRO_hermite_d449 rfl ?_
  refine jj_getf (pc := 450) kRO_hermite_d450 (kfRO_f hG) hO.1 rfl ?_
  refine jj_iload (pc := 453) kRO_hermite_d453 rfl ?_
  refine jj_iload (pc := 455) kRO_hermite_d455 rfl ?_
  refine jj_callV (pc := 457) (b := f) (As := [.int (nI (m)), .int (nI (n))]) kRO_hermite_d457 (kvRO_RF_make hG) (kG_cl hG rfl) rfl hC.1 rfl rfl rfl (Nat.le_of_ble_eq_true rfl) (Nat.le_of_ble_eq_true rfl) (jj_bare0 rfl) ?_
  refine rf_make hG hC hS hX htV (by omega) (by omega) (by rw [hcr]; exact ht) (fun M1 vv V1 X1 Z1 rc1 rs1 hC1 hS1 hX1 hl1 hr1 hc1 ho1 hF1 => ?_)
  show jj G kRO_hermite (d + 12) Q rc1 rs1 460 [some (.ref o), some (.int (nI (b))), some (.int (nI (nu))), some (.int (nI (he))), some (.int (nI (r))), some (.int (nI (e))), some (.int (nI (n))), some (.int (nI (m))), some (.int (nI (pt))), some (.int (nI (dp))), some (.int (nI (fr))), some (.int (nI (a))), some (.int (nI (fm))), some (.int (nI (T))), (p14), (p15)] [.int (nI (t))] M1
  rw [hcr] at hC1 hl1
  have hcap1 := hX1.cap
  refine jj_istore (pc := 460) kRO_hermite_d460 (Nat.le_of_ble_eq_true rfl) ?_
  refine jn_iconst (pc := 462) 0 kRO_hermite_d462 (by decide) ?_
  refine jj_istore (pc := 463) kRO_hermite_d463 (Nat.le_of_ble_eq_true rfl) ?_
  show jj G kRO_hermite (d + 12) Q rc1 rs1 465 [some (.ref o), some (.int (nI (b))), some (.int (nI (nu))), some (.int (nI (he))), some (.int (nI (r))), some (.int (nI (e))), some (.int (nI (n))), some (.int (nI (m))), some (.int (nI (pt))), some (.int (nI (dp))), some (.int (nI (fr))), some (.int (nI (a))), some (.int (nI (fm))), some (.int (nI (T))), some (.int (nI (t))), some (.int (nI (0)))] [] M1
  show jj G kRO_hermite (d + 12) Q rc1 rs1 465 [some (.ref o), some (.int (nI (b))), some (.int (nI (nu))), some (.int (nI (he))), some (.int (nI (r))), some (.int (nI (e))), some (.int (nI (n))), some (.int (nI (m))), some (.int (nI (pt))), some (.int (nI (dp))), some (.int (nI (fr))), some (.int (nI (a))), some (.int (nI (fm))), some (.int (nI (T))), some (.int (nI (t))), some (.int (nI (0)))] [] M1
  have loop : ∀ mu k, m * n = k + mu → ∀ (M9 : mheap) (D9 : List Int32) (T9 : Nat) (V9 : List Int32) (up9 low9 : Int32) (v9 : Value) (rc9 rs9 : Nat), FC M9 f w vv pv V9 (t + 2 + 2 * (m * n)) up9 low9 P rk → RS M9 w D9 T9 v9 cm X1 Z1 rc9 rs9 → T ≤ T9 → T9 ≤ T + k * S → (∀ i, i < T → D9.getD i 0 = D.getD i 0) → V9.length = V1.length → (∀ i, i < t → V9.getD i 0 = V.getD i 0) → V9.getD t 0 = nI (m) → V9.getD (t + 1) 0 = nI (n) → FF M M9 f → (∀ k', k' < k → MC D9 T9 V9 t T k' ((fun k => if k < r * n then qf k else 0) k')) → jj G kRO_hermite (d + 12) Q rc9 rs9 465 [some (.ref o), some (.int (nI (b))), some (.int (nI (nu))), some (.int (nI (he))), some (.int (nI (r))), some (.int (nI (e))), some (.int (nI (n))), some (.int (nI (m))), some (.int (nI (pt))), some (.int (nI (dp))), some (.int (nI (fr))), some (.int (nI (a))), some (.int (nI (fm))), some (.int (nI (T))), some (.int (nI (t))), some (.int (nI (k)))] [] M9 := by
    intro mu
    induction mu with
    | zero =>
      intro k hk   M9 D9 T9 V9 up9 low9 v9 rc9 rs9 hC9 hS9 t9 u9 ho9 hlen9 hV9 hr9 hc9 hF9 hm9 
      have e : m * n = k := by omega
      subst e
      refine jj_iload (pc := 465) kRO_hermite_d465 rfl ?_
      refine jj_iload (pc := 467) kRO_hermite_d467 rfl ?_
      refine jj_iload (pc := 469) kRO_hermite_d469 rfl ?_
      refine jn_imul (pc := 471) (m * n) kRO_hermite_d471 rfl ?_
      refine jn_icmp_ge (pc := 472) (tgt := 518) kRO_hermite_d472 (by decide) (by omega) (by omega) (fun _ => ?_) (fun c => by exfalso; omega)
      show jj G kRO_hermite (d + 12) Q rc9 rs9 518 [some (.ref o), some (.int (nI (b))), some (.int (nI (nu))), some (.int (nI (he))), some (.int (nI (r))), some (.int (nI (e))), some (.int (nI (n))), some (.int (nI (m))), some (.int (nI (pt))), some (.int (nI (dp))), some (.int (nI (fr))), some (.int (nI (a))), some (.int (nI (fm))), some (.int (nI (T))), some (.int (nI (t))), some (.int (nI (m * n)))] [] M9
      exact K M9 vv D9 T9 V9 up9 low9 X1 Z1 v9 rc9 rs9 hC9 hS9 (hX1.same hlen9) t9 u9 ho9 hV9 (by omega) hF9 ⟨by rw [hcr]; exact Nat.le_refl _, hr9, hc9, fun k' hk' => hm9 k' (by rw [hcr] at hk'; exact hk')⟩  
    | succ mu ih =>
      intro k hk   M9 D9 T9 V9 up9 low9 v9 rc9 rs9 hC9 hS9 t9 u9 ho9 hlen9 hV9 hr9 hc9 hF9 hm9 
      have hk1 : (k + 1) * S ≤ m * n * S := Nat.mul_le_mul_right _ (by omega)
      rw [Nat.succ_mul] at hk1
      have h19 := h1.congr t9 ho9
      refine jj_iload (pc := 465) kRO_hermite_d465 rfl ?_
      refine jj_iload (pc := 467) kRO_hermite_d467 rfl ?_
      refine jj_iload (pc := 469) kRO_hermite_d469 rfl ?_
      refine jn_imul (pc := 471) (m * n) kRO_hermite_d471 rfl ?_
      refine jn_icmp_ge (pc := 472) (tgt := 518) kRO_hermite_d472 (by decide) (by omega) (by omega) (fun c => by exfalso; omega) (fun _ => ?_)
      have hz90 := hS9.2.2.2.1
      refine jj_iload (pc := 475) kRO_hermite_d475 rfl ?_
      refine jj_iload (pc := 477) kRO_hermite_d477 rfl ?_
      refine jj_iload (pc := 479) kRO_hermite_d479 rfl ?_
      refine jn_imul (pc := 481) (r * n) kRO_hermite_d481 rfl ?_
      refine jn_icmp_ge (pc := 482) (tgt := 503) kRO_hermite_d482 (by decide) (by omega) (by omega) (fun c1 => ?_) (fun c1 => ?_)
      · skip
        have hval : (if k < r * n then qf k else 0) = 0 := if_neg (by omega)
        refine jj_aload_n (pc := 503) kRO_hermite_d503 rfl ?_
        refine jj_iload (pc := 504) kRO_hermite_d504 rfl ?_
        refine jj_iload (pc := 506) kRO_hermite_d506 rfl ?_
        refine jn_iconst (pc := 508) 0 kRO_hermite_d508 (by decide) ?_
        refine jj_callV (pc := 509) (b := o) (As := [.int (nI (t)), .int (nI (k)), .int (nI (0))]) kRO_hermite_d509 (kvRO_RO_whole hG) (kG_cl hG rfl) rfl (hO.ff hF9).1 rfl rfl rfl (Nat.le_of_ble_eq_true rfl) (Nat.le_of_ble_eq_true rfl) (jj_bare0 rfl) ?_
        refine ro_whole (a := t) (i := k) (x := 0) hG (hO.ff hF9) hC9 hS9 (by omega) (by omega) (fun M5 hC5 hS5 hF5 => ?_)
        show jj G kRO_hermite (d + 12) Q rc9 rs9 512 [some (.ref o), some (.int (nI (b))), some (.int (nI (nu))), some (.int (nI (he))), some (.int (nI (r))), some (.int (nI (e))), some (.int (nI (n))), some (.int (nI (m))), some (.int (nI (pt))), some (.int (nI (dp))), some (.int (nI (fr))), some (.int (nI (a))), some (.int (nI (fm))), some (.int (nI (T))), some (.int (nI (t))), some (.int (nI (k)))] [] M5
        obtain ⟨V5, hV5⟩ : ∃ V5, (V9.set (t + 2 + 2 * k) (nI 0)).set (t + 3 + 2 * k) (nI 1) = V5 := ⟨_, rfl⟩
        rw [hV5] at hC5
        have hl5 : V5.length = V9.length := by rw [← hV5, List.length_set, List.length_set]
        have hv5 : ∀ i, i < t + 2 + 2 * k ∨ t + 4 + 2 * k ≤ i → V5.getD i 0 = V9.getD i 0 := fun i hi => by rw [← hV5, gd_set_ne (by omega), gd_set_ne (by omega)]
        obtain ⟨D5, hD5⟩ : ∃ D5, D9 = D5 := ⟨_, rfl⟩
        obtain ⟨T5, hT5⟩ : ∃ T5, T9 = T5 := ⟨_, rfl⟩
        have t5 : T9 ≤ T5 := by omega
        have ho5 : ∀ i, i < T9 → D5.getD i 0 = D9.getD i 0 := fun i _ => by rw [hD5]
        have hm5 : MC D5 T5 V5 t T9 k (0 : Rat) := ⟨0, 1, by rw [← hV5, gd_set_ne (by omega)]; exact gd_set_eq (by omega), by rw [← hV5]; exact gd_set_eq (by rw [List.length_set]; omega), ⟨by rw [← hD5, ← hT5]; exact RI.zero hz90 (by omega), by rw [← hD5, ← hT5]; exact h19, fun _ => rfl⟩, Or.inl rfl, Or.inl rfl⟩
        rw [← hval] at hm5
        rw [hD5, hT5] at hS5
        obtain ⟨rc5, hrc5⟩ : ∃ rc5, rc9 = rc5 := ⟨_, rfl⟩
        obtain ⟨rs5, hrs5⟩ : ∃ rs5, rs9 = rs5 := ⟨_, rfl⟩
        rw [hrc5, hrs5] at hS5 ⊢
        refine jn_iinc (pc := 512) (k + 1) kRO_hermite_d512 rfl (nI_1 _) ?_
        refine jj_goto (pc := 515) (tgt := 465) kRO_hermite_d515 (by decide) ?_
        show jj G kRO_hermite (d + 12) Q rc5 rs5 465 [some (.ref o), some (.int (nI (b))), some (.int (nI (nu))), some (.int (nI (he))), some (.int (nI (r))), some (.int (nI (e))), some (.int (nI (n))), some (.int (nI (m))), some (.int (nI (pt))), some (.int (nI (dp))), some (.int (nI (fr))), some (.int (nI (a))), some (.int (nI (fm))), some (.int (nI (T))), some (.int (nI (t))), some (.int (nI (k + 1)))] [] M5
        refine ih (k + 1) (by omega)   M5 D5 T5 V5 _ _ v9 rc5 rs5 hC5 hS5 (by omega) (by rw [Nat.succ_mul]; omega) (fun i hi => by rw [ho5 i (by omega), ho9 i hi]) (by omega) (fun i hi => by rw [hv5 i (by omega), hV9 i hi]) (by rw [hv5 _ (by omega)]; exact hr9) (by rw [hv5 _ (by omega)]; exact hc9) (hF9.trans hF5) (fun k' hk' => ?_) 
        by_cases e : k' = k
        · subst e
          exact hm5.congr (lo' := T) (Nat.le_refl _) (fun _ _ => rfl) (fun _ _ _ => rfl) t9
        · exact (hm9 k' (by omega)).congr t5 ho5 (fun i h6 h7 => hv5 i (by omega)) (Nat.le_refl _)
      · skip
        obtain ⟨ix, hix⟩ : ∃ ix, k = ix := ⟨_, rfl⟩
        have hil : ix < r * n := by omega
        obtain ⟨hn1, hn2⟩ := hqf ix hil
        have hmc : MC D9 T9 V9 fm lof ix (qf ix) := (hf4 ix hil).congr t9 ho9 (fun i _ h6 => hV9 i (by omega)) (Nat.le_refl _)
        have e9 : (if k < r * n then qf k else 0) = qf ix := by rw [if_pos c1, hix]
        refine jj_aload_n (pc := 485) kRO_hermite_d485 rfl ?_
        refine jj_getf (pc := 486) kRO_hermite_d486 (kfRO_f hG) (hO.ff hF9).1 rfl ?_
        refine jj_iload (pc := 489) kRO_hermite_d489 rfl ?_
        refine jj_iload (pc := 491) kRO_hermite_d491 rfl ?_
        refine jj_iload (pc := 493) kRO_hermite_d493 rfl ?_
        refine jj_iload (pc := 495) kRO_hermite_d495 rfl ?_
        refine jn_top (.int (nI (ix))) (by rw [hix]) ?_
        refine jj_callV (pc := 497) (b := f) (As := [.int (nI (t)), .int (nI (k)), .int (nI (fm)), .int (nI (ix))]) kRO_hermite_d497 (kvRO_RF_same hG) (kG_cl hG rfl) rfl hC9.1 rfl rfl rfl (Nat.le_of_ble_eq_true rfl) (Nat.le_of_ble_eq_true rfl) (jj_bare0 rfl) ?_
        refine rf_same (a := t) (i := k) (b := fm) (j := ix) (c := s) hG hC9 hS9 h19 (by omega) (by omega) hmc (by omega) (by omega) hn1 hn2 (by omega) (fun M5 D5 T5 V5 up5 low5 rc5 rs5 hC5 hS5 t5 u5 ho5 hl5 hv5 hF5 hm5 => ?_)
        show jj G kRO_hermite (d + 12) Q rc5 rs5 500 [some (.ref o), some (.int (nI (b))), some (.int (nI (nu))), some (.int (nI (he))), some (.int (nI (r))), some (.int (nI (e))), some (.int (nI (n))), some (.int (nI (m))), some (.int (nI (pt))), some (.int (nI (dp))), some (.int (nI (fr))), some (.int (nI (a))), some (.int (nI (fm))), some (.int (nI (T))), some (.int (nI (t))), some (.int (nI (k)))] [] M5
        rw [← e9] at hm5
        refine jj_goto (pc := 500) (tgt := 512) kRO_hermite_d500 (by decide) ?_
        refine jn_iinc (pc := 512) (k + 1) kRO_hermite_d512 rfl (nI_1 _) ?_
        refine jj_goto (pc := 515) (tgt := 465) kRO_hermite_d515 (by decide) ?_
        show jj G kRO_hermite (d + 12) Q rc5 rs5 465 [some (.ref o), some (.int (nI (b))), some (.int (nI (nu))), some (.int (nI (he))), some (.int (nI (r))), some (.int (nI (e))), some (.int (nI (n))), some (.int (nI (m))), some (.int (nI (pt))), some (.int (nI (dp))), some (.int (nI (fr))), some (.int (nI (a))), some (.int (nI (fm))), some (.int (nI (T))), some (.int (nI (t))), some (.int (nI (k + 1)))] [] M5
        refine ih (k + 1) (by omega)   M5 D5 T5 V5 _ _ v9 rc5 rs5 hC5 hS5 (by omega) (by rw [Nat.succ_mul]; omega) (fun i hi => by rw [ho5 i (by omega), ho9 i hi]) (by omega) (fun i hi => by rw [hv5 i (by omega), hV9 i hi]) (by rw [hv5 _ (by omega)]; exact hr9) (by rw [hv5 _ (by omega)]; exact hc9) (hF9.trans hF5) (fun k' hk' => ?_) 
        by_cases e : k' = k
        · subst e
          exact hm5.congr (lo' := T) (Nat.le_refl _) (fun _ _ => rfl) (fun _ _ _ => rfl) t9
        · exact (hm9 k' (by omega)).congr t5 ho5 (fun i h6 h7 => hv5 i (by omega)) (Nat.le_refl _)
  exact loop (m * n) 0 (by omega)   M1 D T V1 up low v2 rc1 rs1 hC1 hS1 (Nat.le_refl _) (by omega) (fun _ _ => rfl) rfl ho1 hr1 hc1 hF1 (fun k' hk' => by omega) 
end RO11
