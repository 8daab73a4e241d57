/-! ===== Wholes.divide (printed by wip/gen/rw14.py) ===== -/
section RW14
variable {G : jg} {d : Nat} {Q : jq} {rc rs : Nat} {M : mheap} {w : Nat} {v2 : Value} {D : List Int32}
/-- what holds behind a division: the quotient is given back, the rest stands in the field -/
def DVK (Q : jq) (M : mheap) (w : Nat) (D : List Int32) (T cm X Z E : Nat) (zq zr : Int) : Prop := ∀ M' D' T' p s rc' rs', RS M' w D' T' (.int (nI s)) cm X Z rc' rs' → T ≤ T' ∧ (p = 0 ∨ T ≤ p) ∧ (s = 0 ∨ T ≤ s) → T' ≤ E → (∀ i, i < T → D'.getD i 0 = D.getD i 0) → RF M M' w → RI D' T' p zq → RI D' T' s zr → Q (.returned (some (.int (nI p)))) M' rc' rs'
theorem DVK.from {T cm X Z E : Nat} {zq zr : Int} {M2 : mheap} {D2 : List Int32} (h : DVK Q M w D T cm X Z E zq zr) (hf : RF M M2 w) (ho : ∀ i, i < T → D2.getD i 0 = D.getD i 0) : DVK Q M2 w D2 T cm X Z E zq zr :=
  fun M' D' T' p s rc' rs' h1 h2 h3 h4 h5 h6 h7 => h M' D' T' p s rc' rs' h1 h2 h3 (fun i hi => (h4 i hi).trans (ho i hi)) (hf.trans h5) h6 h7
theorem osg_head {T p r : Nat} {z : Int} (h : RI D T p z) (hr : iabs (D.getD p 0) = nI r) (hr2 : r < 2 ^ 31) (hT : T < 2 ^ 31) : osg (D.getD p 0) * nI r = D.getD p 0 := by
  have hv := osg_val h hT
  obtain ⟨n, h1, h2, h3, h4, h5⟩ := id h
  have e : n = r := nI_inj (by omega) hr2 ((nI_iabs (by omega) h2).symm.trans hr)
  subst e
  rw [hv, h2]
  unfold cmpZ
  by_cases c : z < 0
  · rw [if_neg (by omega), if_neg (by omega), if_pos c, Int32.neg_mul, Int32.one_mul]
  · rw [if_neg c]
    by_cases c0 : z = 0
    · have e0 : n = 0 := (rnat_eq0 h3 h4).mp (by rw [h5, c0]; rfl)
      rw [if_pos c0, e0]
      rfl
    · rw [if_neg c0, if_pos (by omega), Int32.one_mul]
theorem dv_down {T F T2 pq pr cm X Z a b : Nat} {zq zr : Int} {o1 o2 o3 o4 o5 o6 o7 o8 o9 o10 o11 o12 o13 o14 o18 o19 o20 o21 o22 o23 : Option Value} (hG : kG G) (hS : RS M w D T2 v2 cm X Z rc rs) (hq : RI D T2 pq zq) (hr : RI D T2 pr zr) (hr0 : 0 ≤ zr) (hT : 0 < T) (hF : T + a + b + 2 ≤ F) (hF2 : F ≤ T2) (hpq : pq = 0 ∨ F ≤ pq) (hpr : pr = 0 ∨ F ≤ pr) (ha : zq.natAbs < 32768 ^ a) (hb : zr.natAbs < 32768 ^ b)
    (K : DVK Q M w D T cm X Z (T + a + b + 2) zq zr) : jj G kRW_divide (d + 6) Q rc rs 544 [some (.ref w), (o1), (o2), (o3), (o4), (o5), (o6), (o7), (o8), (o9), (o10), (o11), (o12), (o13), (o14), some (.int (nI (T))), some (.int (nI (pq))), some (.int (nI (pr))), (o18), (o19), (o20), (o21), (o22), (o23)] [] M := by
  obtain ⟨hS0, hB, hTD, hz, hp⟩ := id hS
  obtain ⟨dd, hw, hd⟩ := id hS0
  obtain ⟨n, x1, x2, x3, x4, x5⟩ := id hq
  obtain ⟨m, y1, y2, y3, y4, y5⟩ := id hr
  have hcap := hB.cap
  have hl : D.length < 2 ^ 31 := by omega
  have hwd : w ≠ dd := fun e => by subst e; rw [hw] at hd; cases hd
  have xn := RI.len x3 x4 x5 ha
  have yn := RI.len y3 y4 y5 hb
  have x6 := nI_iabs (by omega) x2
  have y6 := nI_iabs (by omega) y2
  have hq0 : pq = 0 → n = 0 := fun e => by rw [e, hz] at x6; exact nI_inj (by omega) (by decide) (x6.symm.trans (show iabs 0 = nI 0 by decide))
  have hm0 : pr = 0 → m = 0 := fun e => by rw [e, hz] at y6; exact nI_inj (by omega) (by decide) (y6.symm.trans (show iabs 0 = nI 0 by decide))
  have hsg := osg_head hq x6 (by omega) (by omega)
  refine jj_aload_n (pc := 544) kRW_divide_d544 rfl ?_
  refine jj_iload (pc := 545) kRW_divide_d545 rfl ?_
  refine jj_callV (pc := 547) (b := w) (As := [.int (nI (pq))]) kRW_divide_d547 (kvRW_RW_digits hG) (kG_cl hG rfl) rfl hw rfl rfl rfl (Nat.le_of_ble_eq_true rfl) (Nat.le_of_ble_eq_true rfl) (jj_bare0 rfl) ?_
  refine rw_digits hG hw hd hl (by omega) ?_
  show jj G kRW_divide (d + 6) Q rc rs 550 [some (.ref w), (o1), (o2), (o3), (o4), (o5), (o6), (o7), (o8), (o9), (o10), (o11), (o12), (o13), (o14), some (.int (nI (T))), some (.int (nI (pq))), some (.int (nI (pr))), (o18), (o19), (o20), (o21), (o22), (o23)] [.int (iabs (D.getD pq 0))] M
  refine jn_top (.int (nI (n))) (by rw [x6]) ?_
  refine jj_istore (pc := 550) kRW_divide_d550 (Nat.le_of_ble_eq_true rfl) ?_
  refine jj_aload_n (pc := 552) kRW_divide_d552 rfl ?_
  refine jj_iload (pc := 553) kRW_divide_d553 rfl ?_
  refine jj_callV (pc := 555) (b := w) (As := [.int (nI (pr))]) kRW_divide_d555 (kvRW_RW_digits hG) (kG_cl hG rfl) rfl hw rfl rfl rfl (Nat.le_of_ble_eq_true rfl) (Nat.le_of_ble_eq_true rfl) (jj_bare0 rfl) ?_
  refine rw_digits hG hw hd hl (by omega) ?_
  show jj G kRW_divide (d + 6) Q rc rs 558 [some (.ref w), (o1), (o2), (o3), (o4), (o5), (o6), (o7), (o8), (o9), (o10), (o11), (o12), (o13), (o14), some (.int (nI (T))), some (.int (nI (pq))), some (.int (nI (pr))), some (.int (nI (n))), (o19), (o20), (o21), (o22), (o23)] [.int (iabs (D.getD pr 0))] M
  refine jn_top (.int (nI (m))) (by rw [y6]) ?_
  refine jj_istore (pc := 558) kRW_divide_d558 (Nat.le_of_ble_eq_true rfl) ?_
  refine jj_aload_n (pc := 560) kRW_divide_d560 rfl ?_
  refine jj_iload (pc := 561) kRW_divide_d561 rfl ?_
  refine jj_callV (pc := 563) (b := w) (As := [.int (nI (pq))]) kRW_divide_d563 (kvRW_RW_sign hG) (kG_cl hG rfl) rfl hw rfl rfl rfl (Nat.le_of_ble_eq_true rfl) (Nat.le_of_ble_eq_true rfl) (jj_bare0 rfl) ?_
  refine rw_sign hG hw hd hl (by omega) ?_
  show jj G kRW_divide (d + 6) Q rc rs 566 [some (.ref w), (o1), (o2), (o3), (o4), (o5), (o6), (o7), (o8), (o9), (o10), (o11), (o12), (o13), (o14), some (.int (nI (T))), some (.int (nI (pq))), some (.int (nI (pr))), some (.int (nI (n))), some (.int (nI (m))), (o20), (o21), (o22), (o23)] [.int (osg (D.getD pq 0))] M
  refine jj_istore (pc := 566) kRW_divide_d566 (Nat.le_of_ble_eq_true rfl) ?_
  refine jj_iload (pc := 568) kRW_divide_d568 rfl ?_
  refine jj_istore (pc := 570) kRW_divide_d570 (Nat.le_of_ble_eq_true rfl) ?_
  refine jn_iconst (pc := 572) 1 kRW_divide_d572 (by decide) ?_
  refine jj_istore (pc := 573) kRW_divide_d573 (Nat.le_of_ble_eq_true rfl) ?_
  show jj G kRW_divide (d + 6) Q rc rs 575 [some (.ref w), (o1), (o2), (o3), (o4), (o5), (o6), (o7), (o8), (o9), (o10), (o11), (o12), (o13), (o14), some (.int (nI (T))), some (.int (nI (pq))), some (.int (nI (pr))), some (.int (nI (n))), some (.int (nI (m))), some (.int (osg (D.getD pq 0))), some (.int (nI (T))), some (.int (nI (1))), (o23)] [] M
  have k642 : ∀ (qb : Nat) (o22 : Option Value) (M3 : mheap) (D3 : List Int32), RW M3 w D3 T2 v2 → D3.length = D.length → RF M M3 w → (n = 0 ∧ qb = T ∨ 0 < n ∧ qb = T + n + 1) → (∀ i, i < T ∨ T + n < i → D3.getD i 0 = D.getD i 0) → RI D3 qb (if n = 0 then 0 else T) zq → jj G kRW_divide (d + 6) Q rc rs 642 [some (.ref w), (o1), (o2), (o3), (o4), (o5), (o6), (o7), (o8), (o9), (o10), (o11), (o12), (o13), (o14), some (.int (nI (T))), some (.int (nI (pq))), some (.int (nI (pr))), some (.int (nI (n))), some (.int (nI (m))), some (.int (osg (D.getD pq 0))), some (.int (nI (T))), (o22), (o23)] [.int (nI (qb))] M3 := by
    intro qb o22 M3 D3 hS3 hlen3 hf3 hqb ho3 hI3
    obtain ⟨dd3, hw3, hd3⟩ := id hS3
    have hwd3 : w ≠ dd3 := fun e => by subst e; rw [hw3] at hd3; cases hd3
    have hl3 : D3.length < 2 ^ 31 := by omega
    refine jj_istore (pc := 642) kRW_divide_d642 (Nat.le_of_ble_eq_true rfl) ?_
    refine jn_iconst (pc := 644) 1 kRW_divide_d644 (by decide) ?_
    refine jj_istore (pc := 645) kRW_divide_d645 (Nat.le_of_ble_eq_true rfl) ?_
    show jj G kRW_divide (d + 6) Q rc rs 647 [some (.ref w), (o1), (o2), (o3), (o4), (o5), (o6), (o7), (o8), (o9), (o10), (o11), (o12), (o13), (o14), some (.int (nI (T))), some (.int (nI (pq))), some (.int (nI (pr))), some (.int (nI (n))), some (.int (nI (m))), some (.int (osg (D.getD pq 0))), some (.int (nI (T))), some (.int (nI (qb))), some (.int (nI (1)))] [] M3
    have lp2_out : ∀ (M5 : mheap) (D5 : List Int32), RW M5 w D5 (T2) v2 → D5.length = D3.length → RF M3 M5 w → (∀ i, 1 ≤ i → i < (m + 1) → D5.getD (qb + i) 0 = D3.getD (pr + i) 0) → (∀ i, i < qb + 1 ∨ qb + (m + 1) ≤ i → D5.getD i 0 = D3.getD i 0) → jj G kRW_divide (d + 6) Q rc rs 680 [some (.ref w), (o1), (o2), (o3), (o4), (o5), (o6), (o7), (o8), (o9), (o10), (o11), (o12), (o13), (o14), some (.int (nI (T))), some (.int (nI (pq))), some (.int (nI (pr))), some (.int (nI (n))), some (.int (nI (m))), some (.int (osg (D.getD pq 0))), some (.int (nI (T))), some (.int (nI (qb))), some (.int (nI (m + 1)))] [] M5 := by
      intro M5 D5 hS5 hlen5 hf5 hc5 ho5
      obtain ⟨dd5, hw5, hd5⟩ := id hS5
      have hwd5 : w ≠ dd5 := fun e => by subst e; rw [hw5] at hd5; cases hd5
      have hl5 : D5.length < 2 ^ 31 := by omega
      have ho6 : ∀ i, i < T → D5.getD i 0 = D.getD i 0 := fun i hi => by rw [ho5 i (by omega), ho3 i (by omega)]
      have hI6 : RI D5 qb (if n = 0 then 0 else T) zq := hI3.congr (Nat.le_refl _) (fun i hi => ho5 i (by omega))
      have hd6 : ∀ i, 0 < i → i ≤ m → D5.getD (qb + i) 0 = D.getD (pr + i) 0 := fun i h1 h2 => by rw [hc5 i h1 (by omega), ho3 _ (by omega)]
      rcases Nat.eq_zero_or_pos m with hm | hm
      · skip
        rcases Nat.eq_zero_or_pos n with hn | hn
        · skip
          rw [if_pos (by omega)] at hI6
          refine jj_iload (pc := 680) kRW_divide_d680 rfl ?_
          refine jn_if_le (pc := 682) (tgt := 694) kRW_divide_d682 (by decide) (by omega) (fun _ => ?_) (fun c => by exfalso; omega)
          refine jj_aload_n (pc := 694) kRW_divide_d694 rfl ?_
          refine jj_iload (pc := 695) kRW_divide_d695 rfl ?_
          refine jn_if_le (pc := 697) (tgt := 710) kRW_divide_d697 (by decide) (by omega) (fun _ => ?_) (fun c => by exfalso; omega)
          refine jj_iload (pc := 710) kRW_divide_d710 rfl ?_
          refine jj_putf (pc := 712) kRW_divide_d712 (kpRW_top hG) hw5 (by rfl) rfl ?_
          refine jn_gen (fun M101 hM102 => ?_)
          have h103 : M101 dd5 = some (.inr 0, (D5).map .int) := by rw [hM102, jj_up_ne _ _ (Ne.symm hwd5)]; exact hd5
          have h104 : M101 w = some (.inl nRW, [.ref dd5, .int (nI (qb)), v2]) := by rw [hM102]; exact jj_up_at _ _ _
          have hF105 : RF M3 M101 w := by rw [hM102]; exact hf5.trans (RF.top hw5)
          refine jj_aload_n (pc := 715) kRW_divide_d715 rfl ?_
          refine jj_iload (pc := 716) kRW_divide_d716 rfl ?_
          refine jn_if_le (pc := 718) (tgt := 726) kRW_divide_d718 (by decide) (by omega) (fun _ => ?_) (fun c => by exfalso; omega)
          refine jn_iconst (pc := 726) 0 kRW_divide_d726 (by decide) ?_
          refine jj_putf (pc := 727) kRW_divide_d727 (kpRW_rest hG) h104 (by rfl) rfl ?_
          refine jn_gen (fun M106 hM107 => ?_)
          have h108 : M106 dd5 = some (.inr 0, (D5).map .int) := by rw [hM107, jj_up_ne _ _ (Ne.symm hwd5)]; exact h103
          have h109 : M106 w = some (.inl nRW, [.ref dd5, .int (nI (qb)), .int (nI (0))]) := by rw [hM107]; exact jj_up_at _ _ _
          have hF110 : RF M3 M106 w := by rw [hM107]; exact hF105.trans (RF.top h104)
          refine jj_iload (pc := 730) kRW_divide_d730 rfl ?_
          refine jn_if_le (pc := 732) (tgt := 740) kRW_divide_d732 (by decide) (by omega) (fun _ => ?_) (fun c => by exfalso; omega)
          refine jn_iconst (pc := 740) 0 kRW_divide_d740 (by decide) ?_
          have ez : zr = 0 := by rw [hm] at y5; have : (0 : Nat) = zr.natAbs := y5; omega
          exact jj_iret (pc := 741) kRW_divide_d741 rfl (by rfl) (K _ D5 qb 0 0 rc rs ⟨⟨dd5, h109, h108⟩, hB.same (by omega), by omega, by rw [ho6 0 hT]; exact hz, by omega⟩ (by omega) (by omega) ho6 (hf3.trans hF110) hI6 (by rw [ez]; exact RI.zero (by rw [ho6 0 hT]; exact hz) (by omega)))
        · skip
          rw [if_neg (by omega)] at hI6
          refine jj_iload (pc := 680) kRW_divide_d680 rfl ?_
          refine jn_if_le (pc := 682) (tgt := 694) kRW_divide_d682 (by decide) (by omega) (fun _ => ?_) (fun c => by exfalso; omega)
          refine jj_aload_n (pc := 694) kRW_divide_d694 rfl ?_
          refine jj_iload (pc := 695) kRW_divide_d695 rfl ?_
          refine jn_if_le (pc := 697) (tgt := 710) kRW_divide_d697 (by decide) (by omega) (fun _ => ?_) (fun c => by exfalso; omega)
          refine jj_iload (pc := 710) kRW_divide_d710 rfl ?_
          refine jj_putf (pc := 712) kRW_divide_d712 (kpRW_top hG) hw5 (by rfl) rfl ?_
          refine jn_gen (fun M111 hM112 => ?_)
          have h113 : M111 dd5 = some (.inr 0, (D5).map .int) := by rw [hM112, jj_up_ne _ _ (Ne.symm hwd5)]; exact hd5
          have h114 : M111 w = some (.inl nRW, [.ref dd5, .int (nI (qb)), v2]) := by rw [hM112]; exact jj_up_at _ _ _
          have hF115 : RF M3 M111 w := by rw [hM112]; exact hf5.trans (RF.top hw5)
          refine jj_aload_n (pc := 715) kRW_divide_d715 rfl ?_
          refine jj_iload (pc := 716) kRW_divide_d716 rfl ?_
          refine jn_if_le (pc := 718) (tgt := 726) kRW_divide_d718 (by decide) (by omega) (fun _ => ?_) (fun c => by exfalso; omega)
          refine jn_iconst (pc := 726) 0 kRW_divide_d726 (by decide) ?_
          refine jj_putf (pc := 727) kRW_divide_d727 (kpRW_rest hG) h114 (by rfl) rfl ?_
          refine jn_gen (fun M116 hM117 => ?_)
          have h118 : M116 dd5 = some (.inr 0, (D5).map .int) := by rw [hM117, jj_up_ne _ _ (Ne.symm hwd5)]; exact h113
          have h119 : M116 w = some (.inl nRW, [.ref dd5, .int (nI (qb)), .int (nI (0))]) := by rw [hM117]; exact jj_up_at _ _ _
          have hF120 : RF M3 M116 w := by rw [hM117]; exact hF115.trans (RF.top h114)
          refine jj_iload (pc := 730) kRW_divide_d730 rfl ?_
          refine jn_if_le (pc := 732) (tgt := 740) kRW_divide_d732 (by decide) (by omega) (fun c => by exfalso; omega) (fun _ => ?_)
          refine jj_iload (pc := 735) kRW_divide_d735 rfl ?_
          refine jj_goto (pc := 737) (tgt := 741) kRW_divide_d737 (by decide) ?_
          have ez : zr = 0 := by rw [hm] at y5; have : (0 : Nat) = zr.natAbs := y5; omega
          exact jj_iret (pc := 741) kRW_divide_d741 rfl (by rfl) (K _ D5 qb T 0 rc rs ⟨⟨dd5, h119, h118⟩, hB.same (by omega), by omega, by rw [ho6 0 hT]; exact hz, by omega⟩ (by omega) (by omega) ho6 (hf3.trans hF120) hI6 (by rw [ez]; exact RI.zero (by rw [ho6 0 hT]; exact hz) (by omega)))
      · skip
        rcases Nat.eq_zero_or_pos n with hn | hn
        · skip
          rw [if_pos (by omega)] at hI6
          refine jj_iload (pc := 680) kRW_divide_d680 rfl ?_
          refine jn_if_le (pc := 682) (tgt := 694) kRW_divide_d682 (by decide) (by omega) (fun c => by exfalso; omega) (fun _ => ?_)
          refine jj_aload_n (pc := 685) kRW_divide_d685 rfl ?_
          refine jj_getf (pc := 686) kRW_divide_d686 (kfRW_d hG) hw5 rfl ?_
          refine jj_iload (pc := 689) kRW_divide_d689 rfl ?_
          refine jj_iload (pc := 691) kRW_divide_d691 rfl ?_
          refine jn_iast (pc := 693) kRW_divide_d693 (kG_t hG rfl) hd5 hl5 (by omega) ?_
          refine jn_gen (fun M121 hM122 => ?_)
          have h123 : M121 w = some (.inl nRW, [.ref dd5, .int (nI (T2)), v2]) := by rw [hM122, jj_up_ne _ _ hwd5]; exact hw5
          have h124 : M121 dd5 = some (.inr 0, ((D5).set (qb) ((nI (m)))).map .int) := by rw [hM122]; exact jj_up_at _ _ _
          have hF125 : RF M3 M121 w := by rw [hM122]; exact hf5.trans (RF.put hw5 hwd5)
          refine jj_aload_n (pc := 694) kRW_divide_d694 rfl ?_
          refine jj_iload (pc := 695) kRW_divide_d695 rfl ?_
          refine jn_if_le (pc := 697) (tgt := 710) kRW_divide_d697 (by decide) (by omega) (fun c => by exfalso; omega) (fun _ => ?_)
          refine jj_iload (pc := 700) kRW_divide_d700 rfl ?_
          refine jj_iload (pc := 702) kRW_divide_d702 rfl ?_
          refine jn_iadd (pc := 704) (qb + m) kRW_divide_d704 (by omega) ?_
          refine jn_iconst (pc := 705) 1 kRW_divide_d705 (by decide) ?_
          refine jn_iadd (pc := 706) (qb + m + 1) kRW_divide_d706 (by omega) ?_
          refine jj_goto (pc := 707) (tgt := 712) kRW_divide_d707 (by decide) ?_
          refine jj_putf (pc := 712) kRW_divide_d712 (kpRW_top hG) h123 (by rfl) rfl ?_
          refine jn_gen (fun M126 hM127 => ?_)
          have h128 : M126 dd5 = some (.inr 0, ((D5).set (qb) ((nI (m)))).map .int) := by rw [hM127, jj_up_ne _ _ (Ne.symm hwd5)]; exact h124
          have h129 : M126 w = some (.inl nRW, [.ref dd5, .int (nI (qb + m + 1)), v2]) := by rw [hM127]; exact jj_up_at _ _ _
          have hF130 : RF M3 M126 w := by rw [hM127]; exact hF125.trans (RF.top h123)
          refine jj_aload_n (pc := 715) kRW_divide_d715 rfl ?_
          refine jj_iload (pc := 716) kRW_divide_d716 rfl ?_
          refine jn_if_le (pc := 718) (tgt := 726) kRW_divide_d718 (by decide) (by omega) (fun c => by exfalso; omega) (fun _ => ?_)
          refine jj_iload (pc := 721) kRW_divide_d721 rfl ?_
          refine jj_goto (pc := 723) (tgt := 727) kRW_divide_d723 (by decide) ?_
          refine jj_putf (pc := 727) kRW_divide_d727 (kpRW_rest hG) h129 (by rfl) rfl ?_
          refine jn_gen (fun M131 hM132 => ?_)
          have h133 : M131 dd5 = some (.inr 0, ((D5).set (qb) ((nI (m)))).map .int) := by rw [hM132, jj_up_ne _ _ (Ne.symm hwd5)]; exact h128
          have h134 : M131 w = some (.inl nRW, [.ref dd5, .int (nI (qb + m + 1)), .int (nI (qb))]) := by rw [hM132]; exact jj_up_at _ _ _
          have hF135 : RF M3 M131 w := by rw [hM132]; exact hF130.trans (RF.top h129)
          refine jj_iload (pc := 730) kRW_divide_d730 rfl ?_
          refine jn_if_le (pc := 732) (tgt := 740) kRW_divide_d732 (by decide) (by omega) (fun _ => ?_) (fun c => by exfalso; omega)
          refine jn_iconst (pc := 740) 0 kRW_divide_d740 (by decide) ?_
          have ho7 : ∀ i, i < qb → (D5.set qb (nI m)).getD i 0 = D5.getD i 0 := fun i hi => gd_set_ne (by omega)
          have hI7 : RI (D5.set qb (nI m)) (qb + m + 1) qb zr := RI.moved hm y3 y4 y5 (fun i h1 h2 => by rw [gd_set_ne (by omega)]; exact hd6 i h1 h2) rfl (by rw [gd_set_eq (by omega), if_neg (by omega)])
          exact jj_iret (pc := 741) kRW_divide_d741 rfl (by rfl) (K _ (D5.set qb (nI m)) (qb + m + 1) 0 qb rc rs ⟨⟨dd5, h134, h133⟩, hB.same (by rw [List.length_set]; omega), by rw [List.length_set]; omega, by rw [ho7 0 (by omega), ho6 0 hT]; exact hz, by omega⟩ (by omega) (by omega) (fun i hi => by rw [ho7 i (by omega), ho6 i hi]) (hf3.trans hF135) (hI6.congr (by omega) ho7) hI7)
        · skip
          rw [if_neg (by omega)] at hI6
          refine jj_iload (pc := 680) kRW_divide_d680 rfl ?_
          refine jn_if_le (pc := 682) (tgt := 694) kRW_divide_d682 (by decide) (by omega) (fun c => by exfalso; omega) (fun _ => ?_)
          refine jj_aload_n (pc := 685) kRW_divide_d685 rfl ?_
          refine jj_getf (pc := 686) kRW_divide_d686 (kfRW_d hG) hw5 rfl ?_
          refine jj_iload (pc := 689) kRW_divide_d689 rfl ?_
          refine jj_iload (pc := 691) kRW_divide_d691 rfl ?_
          refine jn_iast (pc := 693) kRW_divide_d693 (kG_t hG rfl) hd5 hl5 (by omega) ?_
          refine jn_gen (fun M136 hM137 => ?_)
          have h138 : M136 w = some (.inl nRW, [.ref dd5, .int (nI (T2)), v2]) := by rw [hM137, jj_up_ne _ _ hwd5]; exact hw5
          have h139 : M136 dd5 = some (.inr 0, ((D5).set (qb) ((nI (m)))).map .int) := by rw [hM137]; exact jj_up_at _ _ _
          have hF140 : RF M3 M136 w := by rw [hM137]; exact hf5.trans (RF.put hw5 hwd5)
          refine jj_aload_n (pc := 694) kRW_divide_d694 rfl ?_
          refine jj_iload (pc := 695) kRW_divide_d695 rfl ?_
          refine jn_if_le (pc := 697) (tgt := 710) kRW_divide_d697 (by decide) (by omega) (fun c => by exfalso; omega) (fun _ => ?_)
          refine jj_iload (pc := 700) kRW_divide_d700 rfl ?_
          refine jj_iload (pc := 702) kRW_divide_d702 rfl ?_
          refine jn_iadd (pc := 704) (qb + m) kRW_divide_d704 (by omega) ?_
          refine jn_iconst (pc := 705) 1 kRW_divide_d705 (by decide) ?_
          refine jn_iadd (pc := 706) (qb + m + 1) kRW_divide_d706 (by omega) ?_
          refine jj_goto (pc := 707) (tgt := 712) kRW_divide_d707 (by decide) ?_
          refine jj_putf (pc := 712) kRW_divide_d712 (kpRW_top hG) h138 (by rfl) rfl ?_
          refine jn_gen (fun M141 hM142 => ?_)
          have h143 : M141 dd5 = some (.inr 0, ((D5).set (qb) ((nI (m)))).map .int) := by rw [hM142, jj_up_ne _ _ (Ne.symm hwd5)]; exact h139
          have h144 : M141 w = some (.inl nRW, [.ref dd5, .int (nI (qb + m + 1)), v2]) := by rw [hM142]; exact jj_up_at _ _ _
          have hF145 : RF M3 M141 w := by rw [hM142]; exact hF140.trans (RF.top h138)
          refine jj_aload_n (pc := 715) kRW_divide_d715 rfl ?_
          refine jj_iload (pc := 716) kRW_divide_d716 rfl ?_
          refine jn_if_le (pc := 718) (tgt := 726) kRW_divide_d718 (by decide) (by omega) (fun c => by exfalso; omega) (fun _ => ?_)
          refine jj_iload (pc := 721) kRW_divide_d721 rfl ?_
          refine jj_goto (pc := 723) (tgt := 727) kRW_divide_d723 (by decide) ?_
          refine jj_putf (pc := 727) kRW_divide_d727 (kpRW_rest hG) h144 (by rfl) rfl ?_
          refine jn_gen (fun M146 hM147 => ?_)
          have h148 : M146 dd5 = some (.inr 0, ((D5).set (qb) ((nI (m)))).map .int) := by rw [hM147, jj_up_ne _ _ (Ne.symm hwd5)]; exact h143
          have h149 : M146 w = some (.inl nRW, [.ref dd5, .int (nI (qb + m + 1)), .int (nI (qb))]) := by rw [hM147]; exact jj_up_at _ _ _
          have hF150 : RF M3 M146 w := by rw [hM147]; exact hF145.trans (RF.top h144)
          refine jj_iload (pc := 730) kRW_divide_d730 rfl ?_
          refine jn_if_le (pc := 732) (tgt := 740) kRW_divide_d732 (by decide) (by omega) (fun c => by exfalso; omega) (fun _ => ?_)
          refine jj_iload (pc := 735) kRW_divide_d735 rfl ?_
          refine jj_goto (pc := 737) (tgt := 741) kRW_divide_d737 (by decide) ?_
          have ho7 : ∀ i, i < qb → (D5.set qb (nI m)).getD i 0 = D5.getD i 0 := fun i hi => gd_set_ne (by omega)
          have hI7 : RI (D5.set qb (nI m)) (qb + m + 1) qb zr := RI.moved hm y3 y4 y5 (fun i h1 h2 => by rw [gd_set_ne (by omega)]; exact hd6 i h1 h2) rfl (by rw [gd_set_eq (by omega), if_neg (by omega)])
          exact jj_iret (pc := 741) kRW_divide_d741 rfl (by rfl) (K _ (D5.set qb (nI m)) (qb + m + 1) T qb rc rs ⟨⟨dd5, h149, h148⟩, hB.same (by rw [List.length_set]; omega), by rw [List.length_set]; omega, by rw [ho7 0 (by omega), ho6 0 hT]; exact hz, by omega⟩ (by omega) (by omega) (fun i hi => by rw [ho7 i (by omega), ho6 i hi]) (hf3.trans hF150) (hI6.congr (by omega) ho7) hI7)
    have lp2 : ∀ j k, m + 1 = k + j → 1 ≤ k → ∀ (M5 : mheap) (D5 : List Int32), RW M5 w D5 (T2) v2 → D5.length = D3.length → RF M3 M5 w → (∀ i, 1 ≤ i → i < k → D5.getD (qb + i) 0 = D3.getD (pr + i) 0) → (∀ i, i < qb + 1 ∨ qb + k ≤ i → D5.getD i 0 = D3.getD i 0) → jj G kRW_divide (d + 6) Q rc rs 647 [some (.ref w), (o1), (o2), (o3), (o4), (o5), (o6), (o7), (o8), (o9), (o10), (o11), (o12), (o13), (o14), some (.int (nI (T))), some (.int (nI (pq))), some (.int (nI (pr))), some (.int (nI (n))), some (.int (nI (m))), some (.int (osg (D.getD pq 0))), some (.int (nI (T))), some (.int (nI (qb))), some (.int (nI (k)))] [] M5 := by
      intro j
      induction j with
      | zero =>
        intro k hk hk0 M5 D5 hS5 hlen5 hf5 hc5 ho5
        have e : m + 1 = k := by omega
        subst e
        refine jj_iload (pc := 647) kRW_divide_d647 rfl ?_
        refine jj_iload (pc := 649) kRW_divide_d649 rfl ?_
        refine jn_icmp_gt (pc := 651) (tgt := 680) kRW_divide_d651 (by decide) (by omega) (by omega) (fun _ => ?_) (fun c => by exfalso; omega)
        exact lp2_out M5 D5 hS5 hlen5 hf5 hc5 ho5
      | succ j ih =>
        intro k hk hk0 M5 D5 hS5 hlen5 hf5 hc5 ho5
        obtain ⟨dd5, hw5, hd5⟩ := id hS5
        have hwd5 : w ≠ dd5 := fun e => by subst e; rw [hw5] at hd5; cases hd5
        have hl5 : D5.length < 2 ^ 31 := by omega
        refine jj_iload (pc := 647) kRW_divide_d647 rfl ?_
        refine jj_iload (pc := 649) kRW_divide_d649 rfl ?_
        refine jn_icmp_gt (pc := 651) (tgt := 680) kRW_divide_d651 (by decide) (by omega) (by omega) (fun c => by exfalso; omega) (fun _ => ?_)
        refine jj_aload_n (pc := 654) kRW_divide_d654 rfl ?_
        refine jj_getf (pc := 655) kRW_divide_d655 (kfRW_d hG) hw5 rfl ?_
        refine jj_iload (pc := 658) kRW_divide_d658 rfl ?_
        refine jj_iload (pc := 660) kRW_divide_d660 rfl ?_
        refine jn_iadd (pc := 662) (qb + k) kRW_divide_d662 (by omega) ?_
        refine jj_aload_n (pc := 663) kRW_divide_d663 rfl ?_
        refine jj_getf (pc := 664) kRW_divide_d664 (kfRW_d hG) hw5 rfl ?_
        refine jj_iload (pc := 667) kRW_divide_d667 rfl ?_
        refine jj_iload (pc := 669) kRW_divide_d669 rfl ?_
        refine jn_iadd (pc := 671) (pr + k) kRW_divide_d671 (by omega) ?_
        have hv5 : D5.getD (pr + k) 0 = D3.getD (pr + k) 0 := by rw [ho5 _ (by omega), show pr + k = pr + k by omega]
        refine jn_iald (pc := 672) (v := (D3.getD (pr + k) 0)) kRW_divide_d672 (kG_t hG rfl) hd5 hl5 (by omega) (hv5) ?_
        refine jn_iast (pc := 673) kRW_divide_d673 (kG_t hG rfl) hd5 hl5 (by omega) ?_
        refine jn_gen (fun M151 hM152 => ?_)
        have h153 : M151 w = some (.inl nRW, [.ref dd5, .int (nI (T2)), v2]) := by rw [hM152, jj_up_ne _ _ hwd5]; exact hw5
        have h154 : M151 dd5 = some (.inr 0, ((D5).set (qb + k) ((D3.getD (pr + k) 0))).map .int) := by rw [hM152]; exact jj_up_at _ _ _
        have hF155 : RF M3 M151 w := by rw [hM152]; exact hf5.trans (RF.put hw5 hwd5)
        refine jn_iinc (pc := 674) (k + 1) kRW_divide_d674 rfl (nI_1 _) ?_
        refine jj_goto (pc := 677) (tgt := 647) kRW_divide_d677 (by decide) ?_
        show jj G kRW_divide (d + 6) Q rc rs 647 [some (.ref w), (o1), (o2), (o3), (o4), (o5), (o6), (o7), (o8), (o9), (o10), (o11), (o12), (o13), (o14), some (.int (nI (T))), some (.int (nI (pq))), some (.int (nI (pr))), some (.int (nI (n))), some (.int (nI (m))), some (.int (osg (D.getD pq 0))), some (.int (nI (T))), some (.int (nI (qb))), some (.int (nI (k + 1)))] [] M151
        refine ih (k + 1) (by omega) (by omega) _ (D5.set (qb + k) (D3.getD (pr + k) 0)) ⟨dd5, h153, h154⟩ (by rw [List.length_set]; exact hlen5) hF155 (fun i h1 h2 => ?_) (fun i hi => by rw [gd_set_ne (by omega)]; exact ho5 i (by omega))
        by_cases e : i = k
        · rw [e, show qb + k = qb + k by omega]
          exact gd_set_eq (by omega)
        · rw [gd_set_ne (by omega)]
          exact hc5 i h1 (by omega)
    exact lp2 (m + 1 - 1) 1 (by omega) (Nat.le_refl _) M3 D3 hS3 rfl (RF.refl _ w) (fun i h1 h2 => by omega) (fun i _ => rfl)
  have lp1_out : ∀ (M5 : mheap) (D5 : List Int32), RW M5 w D5 (T2) v2 → D5.length = D.length → RF M M5 w → (∀ i, 1 ≤ i → i < (n + 1) → D5.getD (T + i) 0 = D.getD (pq + i) 0) → (∀ i, i < T + 1 ∨ T + (n + 1) ≤ i → D5.getD i 0 = D.getD i 0) → jj G kRW_divide (d + 6) Q rc rs 608 [some (.ref w), (o1), (o2), (o3), (o4), (o5), (o6), (o7), (o8), (o9), (o10), (o11), (o12), (o13), (o14), some (.int (nI (T))), some (.int (nI (pq))), some (.int (nI (pr))), some (.int (nI (n))), some (.int (nI (m))), some (.int (osg (D.getD pq 0))), some (.int (nI (T))), some (.int (nI (n + 1))), (o23)] [] M5 := by
    intro M5 D5 hS5 hlen5 hf5 hc5 ho5
    obtain ⟨dd5, hw5, hd5⟩ := id hS5
    have hwd5 : w ≠ dd5 := fun e => by subst e; rw [hw5] at hd5; cases hd5
    have hl5 : D5.length < 2 ^ 31 := by omega
    rcases Nat.eq_zero_or_pos n with hn | hn
    · skip
      refine jj_iload (pc := 608) kRW_divide_d608 rfl ?_
      refine jn_if_le (pc := 610) (tgt := 625) kRW_divide_d610 (by decide) (by omega) (fun _ => ?_) (fun c => by exfalso; omega)
      refine jj_iload (pc := 625) kRW_divide_d625 rfl ?_
      refine jn_if_le (pc := 627) (tgt := 640) kRW_divide_d627 (by decide) (by omega) (fun _ => ?_) (fun c => by exfalso; omega)
      refine jj_iload (pc := 640) kRW_divide_d640 rfl ?_
      have ez : zq = 0 := by rw [hn] at x5; have : (0 : Nat) = zq.natAbs := x5; omega
      exact k642 T _ M5 D5 hS5 hlen5 hf5 (Or.inl ⟨hn, rfl⟩) (fun i hi => ho5 i (by omega)) (by rw [if_pos hn, ez]; exact RI.zero (by rw [ho5 0 (by omega)]; exact hz) hT)
    · skip
      refine jj_iload (pc := 608) kRW_divide_d608 rfl ?_
      refine jn_if_le (pc := 610) (tgt := 625) kRW_divide_d610 (by decide) (by omega) (fun c => by exfalso; omega) (fun _ => ?_)
      refine jj_aload_n (pc := 613) kRW_divide_d613 rfl ?_
      refine jj_getf (pc := 614) kRW_divide_d614 (kfRW_d hG) hw5 rfl ?_
      refine jj_iload (pc := 617) kRW_divide_d617 rfl ?_
      refine jj_iload (pc := 619) kRW_divide_d619 rfl ?_
      refine jj_iload (pc := 621) kRW_divide_d621 rfl ?_
      refine jj_imul (pc := 623) kRW_divide_d623 ?_
      refine jn_top (.int (D.getD pq 0)) (congrArg Value.int hsg) ?_
      refine jn_iast (pc := 624) kRW_divide_d624 (kG_t hG rfl) hd5 hl5 (by omega) ?_
      refine jn_gen (fun M156 hM157 => ?_)
      have h158 : M156 w = some (.inl nRW, [.ref dd5, .int (nI (T2)), v2]) := by rw [hM157, jj_up_ne _ _ hwd5]; exact hw5
      have h159 : M156 dd5 = some (.inr 0, ((D5).set (T) ((D.getD pq 0))).map .int) := by rw [hM157]; exact jj_up_at _ _ _
      have hF160 : RF M M156 w := by rw [hM157]; exact hf5.trans (RF.put hw5 hwd5)
      refine jj_iload (pc := 625) kRW_divide_d625 rfl ?_
      refine jn_if_le (pc := 627) (tgt := 640) kRW_divide_d627 (by decide) (by omega) (fun c => by exfalso; omega) (fun _ => ?_)
      refine jj_iload (pc := 630) kRW_divide_d630 rfl ?_
      refine jj_iload (pc := 632) kRW_divide_d632 rfl ?_
      refine jn_iadd (pc := 634) (T + n) kRW_divide_d634 (by omega) ?_
      refine jn_iconst (pc := 635) 1 kRW_divide_d635 (by decide) ?_
      refine jn_iadd (pc := 636) (T + n + 1) kRW_divide_d636 (by omega) ?_
      refine jj_goto (pc := 637) (tgt := 642) kRW_divide_d637 (by decide) ?_
      exact k642 (T + n + 1) _ _ (D5.set T (D.getD pq 0)) ⟨dd5, h158, h159⟩ (by rw [List.length_set]; exact hlen5) hF160 (Or.inr ⟨hn, rfl⟩) (fun i hi => by rw [gd_set_ne (by omega)]; exact ho5 i (by omega)) (by
        rw [if_neg (by omega)]
        exact RI.moved hn x3 x4 x5 (fun i h1 h2 => by rw [gd_set_ne (by omega)]; exact hc5 i h1 (by omega)) rfl (by rw [gd_set_eq (by omega)]; exact x2))
  have lp1 : ∀ j k, n + 1 = k + j → 1 ≤ k → ∀ (M5 : mheap) (D5 : List Int32), RW M5 w D5 (T2) v2 → D5.length = D.length → RF M M5 w → (∀ i, 1 ≤ i → i < k → D5.getD (T + i) 0 = D.getD (pq + i) 0) → (∀ i, i < T + 1 ∨ T + k ≤ i → D5.getD i 0 = D.getD i 0) → jj G kRW_divide (d + 6) Q rc rs 575 [some (.ref w), (o1), (o2), (o3), (o4), (o5), (o6), (o7), (o8), (o9), (o10), (o11), (o12), (o13), (o14), some (.int (nI (T))), some (.int (nI (pq))), some (.int (nI (pr))), some (.int (nI (n))), some (.int (nI (m))), some (.int (osg (D.getD pq 0))), some (.int (nI (T))), some (.int (nI (k))), (o23)] [] M5 := by
    intro j
    induction j with
    | zero =>
      intro k hk hk0 M5 D5 hS5 hlen5 hf5 hc5 ho5
      have e : n + 1 = k := by omega
      subst e
      refine jj_iload (pc := 575) kRW_divide_d575 rfl ?_
      refine jj_iload (pc := 577) kRW_divide_d577 rfl ?_
      refine jn_icmp_gt (pc := 579) (tgt := 608) kRW_divide_d579 (by decide) (by omega) (by omega) (fun _ => ?_) (fun c => by exfalso; omega)
      exact lp1_out M5 D5 hS5 hlen5 hf5 hc5 ho5
    | succ j ih =>
      intro k hk hk0 M5 D5 hS5 hlen5 hf5 hc5 ho5
      obtain ⟨dd5, hw5, hd5⟩ := id hS5
      have hwd5 : w ≠ dd5 := fun e => by subst e; rw [hw5] at hd5; cases hd5
      have hl5 : D5.length < 2 ^ 31 := by omega
      refine jj_iload (pc := 575) kRW_divide_d575 rfl ?_
      refine jj_iload (pc := 577) kRW_divide_d577 rfl ?_
      refine jn_icmp_gt (pc := 579) (tgt := 608) kRW_divide_d579 (by decide) (by omega) (by omega) (fun c => by exfalso; omega) (fun _ => ?_)
      refine jj_aload_n (pc := 582) kRW_divide_d582 rfl ?_
      refine jj_getf (pc := 583) kRW_divide_d583 (kfRW_d hG) hw5 rfl ?_
      refine jj_iload (pc := 586) kRW_divide_d586 rfl ?_
      refine jj_iload (pc := 588) kRW_divide_d588 rfl ?_
      refine jn_iadd (pc := 590) (T + k) kRW_divide_d590 (by omega) ?_
      refine jj_aload_n (pc := 591) kRW_divide_d591 rfl ?_
      refine jj_getf (pc := 592) kRW_divide_d592 (kfRW_d hG) hw5 rfl ?_
      refine jj_iload (pc := 595) kRW_divide_d595 rfl ?_
      refine jj_iload (pc := 597) kRW_divide_d597 rfl ?_
      refine jn_iadd (pc := 599) (pq + k) kRW_divide_d599 (by omega) ?_
      have hv5 : D5.getD (pq + k) 0 = D.getD (pq + k) 0 := by rw [ho5 _ (by omega), show pq + k = pq + k by omega]
      refine jn_iald (pc := 600) (v := (D.getD (pq + k) 0)) kRW_divide_d600 (kG_t hG rfl) hd5 hl5 (by omega) (hv5) ?_
      refine jn_iast (pc := 601) kRW_divide_d601 (kG_t hG rfl) hd5 hl5 (by omega) ?_
      refine jn_gen (fun M161 hM162 => ?_)
      have h163 : M161 w = some (.inl nRW, [.ref dd5, .int (nI (T2)), v2]) := by rw [hM162, jj_up_ne _ _ hwd5]; exact hw5
      have h164 : M161 dd5 = some (.inr 0, ((D5).set (T + k) ((D.getD (pq + k) 0))).map .int) := by rw [hM162]; exact jj_up_at _ _ _
      have hF165 : RF M M161 w := by rw [hM162]; exact hf5.trans (RF.put hw5 hwd5)
      refine jn_iinc (pc := 602) (k + 1) kRW_divide_d602 rfl (nI_1 _) ?_
      refine jj_goto (pc := 605) (tgt := 575) kRW_divide_d605 (by decide) ?_
      show jj G kRW_divide (d + 6) Q rc rs 575 [some (.ref w), (o1), (o2), (o3), (o4), (o5), (o6), (o7), (o8), (o9), (o10), (o11), (o12), (o13), (o14), some (.int (nI (T))), some (.int (nI (pq))), some (.int (nI (pr))), some (.int (nI (n))), some (.int (nI (m))), some (.int (osg (D.getD pq 0))), some (.int (nI (T))), some (.int (nI (k + 1))), (o23)] [] M161
      refine ih (k + 1) (by omega) (by omega) _ (D5.set (T + k) (D.getD (pq + k) 0)) ⟨dd5, h163, h164⟩ (by rw [List.length_set]; exact hlen5) hF165 (fun i h1 h2 => ?_) (fun i hi => by rw [gd_set_ne (by omega)]; exact ho5 i (by omega))
      by_cases e : i = k
      · rw [e, show T + k = T + k by omega]
        exact gd_set_eq (by omega)
      · rw [gd_set_ne (by omega)]
        exact hc5 i h1 (by omega)
  exact lp1 (n + 1 - 1) 1 (by omega) (Nat.le_refl _) M D hS0 rfl (RF.refl _ w) (fun i h1 h2 => by omega) (fun i _ => rfl)
end RW14
