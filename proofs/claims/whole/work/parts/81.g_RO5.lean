/-! ===== Forms.common (printed by wip/gen/ro5.py) ===== -/
theorem ZB.two {a : Nat} {z p : Int} (hp : ZB a p) (h : z.natAbs ≤ 2 * p.natAbs + 1) : ZB (a + 1) z := by
  unfold ZB at *
  rw [Nat.pow_succ]
  omega
theorem ZB.sum {a : Nat} {z p q : Int} (hp : ZB a p) (hq : ZB a q) (h : z.natAbs ≤ p.natAbs + q.natAbs) : ZB (a + 1) z := by
  unfold ZB at *
  rw [Nat.pow_succ]
  omega
theorem ZB.ediv {a : Nat} {x y : Int} (h : ZB a x) (hy : 0 < y) : ZB a (x / y) := by
  refine h.le ?_
  have e1 := Int.mul_ediv_add_emod x y
  have e2 := Int.emod_nonneg x (show y ≠ 0 by omega)
  have e3 := Int.emod_lt_of_pos x hy
  rcases (show 0 ≤ x ∨ x < 0 by omega) with g | g
  · have h1 : 0 ≤ x / y := Int.ediv_nonneg g (by omega)
    have h2 : x / y ≤ x := Int.ediv_le_self _ g
    omega
  · have h1 : x / y < 0 := Int.ediv_neg_of_neg_of_pos g hy
    have h2 : x ≤ x / y := by
      have h3 : y * (x / y) ≤ 1 * (x / y) := by
        have := Int.mul_le_mul_of_nonneg_right (show 1 ≤ y by omega) (show 0 ≤ -(x / y) by omega)
        have a1 : 1 * -(x / y) = -(1 * (x / y)) := by omega
        have a2 : y * -(x / y) = -(y * (x / y)) := Int.mul_neg _ _
        omega
      have h4 : x < y * (x / y) + y := by omega
      have h5 : y * (x / y) + y ≤ x / y + 1 := by
        have h6 : (y - 1) * (x / y + 1) ≤ 0 := Int.mul_nonpos_of_nonneg_of_nonpos (by omega) (by omega)
        have h7 : (y - 1) * (x / y + 1) = y * (x / y) + y - (x / y) - 1 := by grind
        omega
      omega
    omega
section RO5
variable {G : jg} {d : Nat} {Q : jq} {rc rs : Nat} {M : mheap} {o f w vv pv ca ra : Nat} {v2 : Value} {D V P CA RA : List Int32} {t : Nat} {up low rk fi se : Int32}
def PO (lo p : Nat) : Prop := p = 0 ∨ lo ≤ p
theorem PO.to {lo p n : Nat} (h : PO lo p) (hn : n ≤ lo) : n ≤ p ∨ p = 0 := by
  rcases h with h | h
  · exact Or.inr h
  · exact Or.inl (by omega)
theorem ro_common_six {x y T T9 cm X Z A1 : Nat} {ya yb yu ys yv yt : Nat} {o10 o11 o12 : Option Value} {za zb zu zs zv zt : Int} (hG : kG G) (hO : OC M o f w ca ra CA RA fi se) (hC : FC M f w vv pv V t up low P rk) (hS : RS M w D T9 v2 cm X Z rc rs) (h0 : 0 < T) (htT : T ≤ T9) (hbig : T + 30000 < T9) (ha2 : A1 ≤ 4000) (hT : T9 + 6 * A1 + 20 ≤ cm) (rya : RI D T9 ya za) (ryb : RI D T9 yb zb) (ryu : RI D T9 yu zu) (rys : RI D T9 ys zs) (ryv : RI D T9 yv zv) (ryt : RI D T9 yt zt) (bza : ZB A1 za) (bzb : ZB A1 zb) (bzu : ZB A1 zu) (bzs : ZB A1 zs) (bzv : ZB A1 zv) (bzt : ZB A1 zt)
    (K : ∀ ya' yb' yu' ys' yv' yt' M' D' T' rc' rs', FC M' f w vv pv V t up low P rk → RS M' w D' T' v2 cm X Z rc' rs' → T ≤ T' → T' ≤ T + 6 * (A1 + 1) → (∀ i, i < T → D'.getD i 0 = D.getD i 0) → FF M M' f → RI D' T' ya' za → RI D' T' yb' zb → RI D' T' yu' zu → RI D' T' ys' zs → RI D' T' yv' zv → RI D' T' yt' zt → jj G kRO_common (d + 8) Q rc' rs' 214 [some (.ref o), some (.int (nI (x))), some (.int (nI (y))), some (.int (nI (T))), some (.int (nI (ya'))), some (.int (nI (yb'))), some (.int (nI (yu'))), some (.int (nI (ys'))), some (.int (nI (yv'))), some (.int (nI (yt'))), (o10), (o11), (o12)] [] M') : jj G kRO_common (d + 8) Q rc rs 46 [some (.ref o), some (.int (nI (x))), some (.int (nI (y))), some (.int (nI (T))), some (.int (nI (ya))), some (.int (nI (yb))), some (.int (nI (yu))), some (.int (nI (ys))), some (.int (nI (yv))), some (.int (nI (yt))), (o10), (o11), (o12)] [] M := by
  obtain ⟨hW101, hB101, hTD101, hz101, hp101⟩ := id hS
  obtain ⟨dd101, hw101, hd101⟩ := id hW101
  have hcap101 := hB101.cap
  refine jj_aload_n (pc := 46) kRO_common_d46 rfl ?_
  refine jj_getf (pc := 47) kRO_common_d47 (kfRO_w hG) hO.1 rfl ?_
  refine jj_iload (pc := 50) kRO_common_d50 rfl ?_
  refine jj_callV (pc := 52) (b := w) (As := [.int (nI (ya))]) kRO_common_d52 (kvRO_RW_copy hG) (kG_cl hG rfl) rfl hw101 rfl rfl rfl (Nat.le_of_ble_eq_true rfl) (Nat.le_of_ble_eq_true rfl) (jj_bare0 rfl) ?_
  refine ri_copy (a := A1) hG hS rya bza (by omega) (fun M102 D102 T102 p102 rc102 rs102 hS102 t102 u102 ho102 hf102 hI102 => ?_)
  show jj G kRO_common (d + 8) Q rc102 rs102 55 [some (.ref o), some (.int (nI (x))), some (.int (nI (y))), some (.int (nI (T))), some (.int (nI (ya))), some (.int (nI (yb))), some (.int (nI (yu))), some (.int (nI (ys))), some (.int (nI (yv))), some (.int (nI (yt))), (o10), (o11), (o12)] [.int (nI (p102))] M102
  have hC102 := hC.rf hf102
  have hF102 := (FF.refl M f).trans (FF.ofRF hC hf102)
  have rya_102 := rya.congr t102.1 ho102
  have ryb_102 := ryb.congr t102.1 ho102
  have ryu_102 := ryu.congr t102.1 ho102
  have rys_102 := rys.congr t102.1 ho102
  have ryv_102 := ryv.congr t102.1 ho102
  have ryt_102 := ryt.congr t102.1 ho102
  obtain ⟨hW103, hB103, hTD103, hz103, hp103⟩ := id hS102
  obtain ⟨dd103, hw103, hd103⟩ := id hW103
  have hcap103 := hB103.cap
  have w102 : PO T9 p102 := by rcases t102.2 with h | h; exact Or.inl h; exact Or.inr (by omega)
  have q102 := t102.1
  clear t102
  refine jj_istore (pc := 55) kRO_common_d55 (Nat.le_of_ble_eq_true rfl) ?_
  refine jj_aload_n (pc := 57) kRO_common_d57 rfl ?_
  refine jj_getf (pc := 58) kRO_common_d58 (kfRO_w hG) (hO.ff hF102).1 rfl ?_
  refine jj_iload (pc := 61) kRO_common_d61 rfl ?_
  refine jj_callV (pc := 63) (b := w) (As := [.int (nI (yb))]) kRO_common_d63 (kvRO_RW_copy hG) (kG_cl hG rfl) rfl hw103 rfl rfl rfl (Nat.le_of_ble_eq_true rfl) (Nat.le_of_ble_eq_true rfl) (jj_bare0 rfl) ?_
  refine ri_copy (a := A1) hG hS102 ryb_102 bzb (by omega) (fun M104 D104 T104 p104 rc104 rs104 hS104 t104 u104 ho104 hf104 hI104 => ?_)
  show jj G kRO_common (d + 8) Q rc104 rs104 66 [some (.ref o), some (.int (nI (x))), some (.int (nI (y))), some (.int (nI (T))), some (.int (nI (p102))), some (.int (nI (yb))), some (.int (nI (yu))), some (.int (nI (ys))), some (.int (nI (yv))), some (.int (nI (yt))), (o10), (o11), (o12)] [.int (nI (p104))] M104
  have hC104 := hC102.rf hf104
  have hF104 := hF102.trans (FF.ofRF hC102 hf104)
  have rya_104 := rya_102.congr t104.1 ho104
  have ryb_104 := ryb_102.congr t104.1 ho104
  have ryu_104 := ryu_102.congr t104.1 ho104
  have rys_104 := rys_102.congr t104.1 ho104
  have ryv_104 := ryv_102.congr t104.1 ho104
  have ryt_104 := ryt_102.congr t104.1 ho104
  have hI102_104 := hI102.congr t104.1 ho104
  obtain ⟨hW105, hB105, hTD105, hz105, hp105⟩ := id hS104
  obtain ⟨dd105, hw105, hd105⟩ := id hW105
  have hcap105 := hB105.cap
  have w104 : PO T9 p104 := by rcases t104.2 with h | h; exact Or.inl h; exact Or.inr (by omega)
  have q104 := t104.1
  clear t104
  refine jj_istore (pc := 66) kRO_common_d66 (Nat.le_of_ble_eq_true rfl) ?_
  refine jj_aload_n (pc := 68) kRO_common_d68 rfl ?_
  refine jj_getf (pc := 69) kRO_common_d69 (kfRO_w hG) (hO.ff hF104).1 rfl ?_
  refine jj_iload (pc := 72) kRO_common_d72 rfl ?_
  refine jj_callV (pc := 74) (b := w) (As := [.int (nI (yu))]) kRO_common_d74 (kvRO_RW_copy hG) (kG_cl hG rfl) rfl hw105 rfl rfl rfl (Nat.le_of_ble_eq_true rfl) (Nat.le_of_ble_eq_true rfl) (jj_bare0 rfl) ?_
  refine ri_copy (a := A1) hG hS104 ryu_104 bzu (by omega) (fun M106 D106 T106 p106 rc106 rs106 hS106 t106 u106 ho106 hf106 hI106 => ?_)
  show jj G kRO_common (d + 8) Q rc106 rs106 77 [some (.ref o), some (.int (nI (x))), some (.int (nI (y))), some (.int (nI (T))), some (.int (nI (p102))), some (.int (nI (p104))), some (.int (nI (yu))), some (.int (nI (ys))), some (.int (nI (yv))), some (.int (nI (yt))), (o10), (o11), (o12)] [.int (nI (p106))] M106
  have hC106 := hC104.rf hf106
  have hF106 := hF104.trans (FF.ofRF hC104 hf106)
  have rya_106 := rya_104.congr t106.1 ho106
  have ryb_106 := ryb_104.congr t106.1 ho106
  have ryu_106 := ryu_104.congr t106.1 ho106
  have rys_106 := rys_104.congr t106.1 ho106
  have ryv_106 := ryv_104.congr t106.1 ho106
  have ryt_106 := ryt_104.congr t106.1 ho106
  have hI102_106 := hI102_104.congr t106.1 ho106
  have hI104_106 := hI104.congr t106.1 ho106
  obtain ⟨hW107, hB107, hTD107, hz107, hp107⟩ := id hS106
  obtain ⟨dd107, hw107, hd107⟩ := id hW107
  have hcap107 := hB107.cap
  have w106 : PO T9 p106 := by rcases t106.2 with h | h; exact Or.inl h; exact Or.inr (by omega)
  have q106 := t106.1
  clear t106
  refine jj_istore (pc := 77) kRO_common_d77 (Nat.le_of_ble_eq_true rfl) ?_
  refine jj_aload_n (pc := 79) kRO_common_d79 rfl ?_
  refine jj_getf (pc := 80) kRO_common_d80 (kfRO_w hG) (hO.ff hF106).1 rfl ?_
  refine jj_iload (pc := 83) kRO_common_d83 rfl ?_
  refine jj_callV (pc := 85) (b := w) (As := [.int (nI (ys))]) kRO_common_d85 (kvRO_RW_copy hG) (kG_cl hG rfl) rfl hw107 rfl rfl rfl (Nat.le_of_ble_eq_true rfl) (Nat.le_of_ble_eq_true rfl) (jj_bare0 rfl) ?_
  refine ri_copy (a := A1) hG hS106 rys_106 bzs (by omega) (fun M108 D108 T108 p108 rc108 rs108 hS108 t108 u108 ho108 hf108 hI108 => ?_)
  show jj G kRO_common (d + 8) Q rc108 rs108 88 [some (.ref o), some (.int (nI (x))), some (.int (nI (y))), some (.int (nI (T))), some (.int (nI (p102))), some (.int (nI (p104))), some (.int (nI (p106))), some (.int (nI (ys))), some (.int (nI (yv))), some (.int (nI (yt))), (o10), (o11), (o12)] [.int (nI (p108))] M108
  have hC108 := hC106.rf hf108
  have hF108 := hF106.trans (FF.ofRF hC106 hf108)
  have rya_108 := rya_106.congr t108.1 ho108
  have ryb_108 := ryb_106.congr t108.1 ho108
  have ryu_108 := ryu_106.congr t108.1 ho108
  have rys_108 := rys_106.congr t108.1 ho108
  have ryv_108 := ryv_106.congr t108.1 ho108
  have ryt_108 := ryt_106.congr t108.1 ho108
  have hI102_108 := hI102_106.congr t108.1 ho108
  have hI104_108 := hI104_106.congr t108.1 ho108
  have hI106_108 := hI106.congr t108.1 ho108
  obtain ⟨hW109, hB109, hTD109, hz109, hp109⟩ := id hS108
  obtain ⟨dd109, hw109, hd109⟩ := id hW109
  have hcap109 := hB109.cap
  have w108 : PO T9 p108 := by rcases t108.2 with h | h; exact Or.inl h; exact Or.inr (by omega)
  have q108 := t108.1
  clear t108
  refine jj_istore (pc := 88) kRO_common_d88 (Nat.le_of_ble_eq_true rfl) ?_
  refine jj_aload_n (pc := 90) kRO_common_d90 rfl ?_
  refine jj_getf (pc := 91) kRO_common_d91 (kfRO_w hG) (hO.ff hF108).1 rfl ?_
  refine jj_iload (pc := 94) kRO_common_d94 rfl ?_
  refine jj_callV (pc := 96) (b := w) (As := [.int (nI (yv))]) kRO_common_d96 (kvRO_RW_copy hG) (kG_cl hG rfl) rfl hw109 rfl rfl rfl (Nat.le_of_ble_eq_true rfl) (Nat.le_of_ble_eq_true rfl) (jj_bare0 rfl) ?_
  refine ri_copy (a := A1) hG hS108 ryv_108 bzv (by omega) (fun M110 D110 T110 p110 rc110 rs110 hS110 t110 u110 ho110 hf110 hI110 => ?_)
  show jj G kRO_common (d + 8) Q rc110 rs110 99 [some (.ref o), some (.int (nI (x))), some (.int (nI (y))), some (.int (nI (T))), some (.int (nI (p102))), some (.int (nI (p104))), some (.int (nI (p106))), some (.int (nI (p108))), some (.int (nI (yv))), some (.int (nI (yt))), (o10), (o11), (o12)] [.int (nI (p110))] M110
  have hC110 := hC108.rf hf110
  have hF110 := hF108.trans (FF.ofRF hC108 hf110)
  have rya_110 := rya_108.congr t110.1 ho110
  have ryb_110 := ryb_108.congr t110.1 ho110
  have ryu_110 := ryu_108.congr t110.1 ho110
  have rys_110 := rys_108.congr t110.1 ho110
  have ryv_110 := ryv_108.congr t110.1 ho110
  have ryt_110 := ryt_108.congr t110.1 ho110
  have hI102_110 := hI102_108.congr t110.1 ho110
  have hI104_110 := hI104_108.congr t110.1 ho110
  have hI106_110 := hI106_108.congr t110.1 ho110
  have hI108_110 := hI108.congr t110.1 ho110
  obtain ⟨hW111, hB111, hTD111, hz111, hp111⟩ := id hS110
  obtain ⟨dd111, hw111, hd111⟩ := id hW111
  have hcap111 := hB111.cap
  have w110 : PO T9 p110 := by rcases t110.2 with h | h; exact Or.inl h; exact Or.inr (by omega)
  have q110 := t110.1
  clear t110
  refine jj_istore (pc := 99) kRO_common_d99 (Nat.le_of_ble_eq_true rfl) ?_
  refine jj_aload_n (pc := 101) kRO_common_d101 rfl ?_
  refine jj_getf (pc := 102) kRO_common_d102 (kfRO_w hG) (hO.ff hF110).1 rfl ?_
  refine jj_iload (pc := 105) kRO_common_d105 rfl ?_
  refine jj_callV (pc := 107) (b := w) (As := [.int (nI (yt))]) kRO_common_d107 (kvRO_RW_copy hG) (kG_cl hG rfl) rfl hw111 rfl rfl rfl (Nat.le_of_ble_eq_true rfl) (Nat.le_of_ble_eq_true rfl) (jj_bare0 rfl) ?_
  refine ri_copy (a := A1) hG hS110 ryt_110 bzt (by omega) (fun M112 D112 T112 p112 rc112 rs112 hS112 t112 u112 ho112 hf112 hI112 => ?_)
  show jj G kRO_common (d + 8) Q rc112 rs112 110 [some (.ref o), some (.int (nI (x))), some (.int (nI (y))), some (.int (nI (T))), some (.int (nI (p102))), some (.int (nI (p104))), some (.int (nI (p106))), some (.int (nI (p108))), some (.int (nI (p110))), some (.int (nI (yt))), (o10), (o11), (o12)] [.int (nI (p112))] M112
  have hC112 := hC110.rf hf112
  have hF112 := hF110.trans (FF.ofRF hC110 hf112)
  have rya_112 := rya_110.congr t112.1 ho112
  have ryb_112 := ryb_110.congr t112.1 ho112
  have ryu_112 := ryu_110.congr t112.1 ho112
  have rys_112 := rys_110.congr t112.1 ho112
  have ryv_112 := ryv_110.congr t112.1 ho112
  have ryt_112 := ryt_110.congr t112.1 ho112
  have hI102_112 := hI102_110.congr t112.1 ho112
  have hI104_112 := hI104_110.congr t112.1 ho112
  have hI106_112 := hI106_110.congr t112.1 ho112
  have hI108_112 := hI108_110.congr t112.1 ho112
  have hI110_112 := hI110.congr t112.1 ho112
  obtain ⟨hW113, hB113, hTD113, hz113, hp113⟩ := id hS112
  obtain ⟨dd113, hw113, hd113⟩ := id hW113
  have hcap113 := hB113.cap
  have w112 : PO T9 p112 := by rcases t112.2 with h | h; exact Or.inl h; exact Or.inr (by omega)
  have q112 := t112.1
  clear t112
  refine jj_istore (pc := 110) kRO_common_d110 (Nat.le_of_ble_eq_true rfl) ?_
  refine jj_aload_n (pc := 112) kRO_common_d112 rfl ?_
  refine jj_getf (pc := 113) kRO_common_d113 (kfRO_w hG) (hO.ff hF112).1 rfl ?_
  refine jj_iload (pc := 116) kRO_common_d116 rfl ?_
  refine jj_iload_n (pc := 118) kRO_common_d118 rfl ?_
  have hsm0 : ∀ i, i < T → D112.getD i 0 = D.getD i 0 := (fun i hi => by rw [ho112 i (by omega), ho110 i (by omega), ho108 i (by omega), ho106 i (by omega), ho104 i (by omega), ho102 i (by omega)])
  have hzz0 := hz113
  have htd0 := hTD113
  have hHT : T + 30000 < T112 := by omega
  refine jj_callV (pc := 119) (b := w) (As := [.int (nI (p102)), .int (nI (T))]) kRO_common_d119 (kvRO_RW_moved hG) (kG_cl hG rfl) rfl hw113 rfl rfl rfl (Nat.le_of_ble_eq_true rfl) (Nat.le_of_ble_eq_true rfl) (jj_bare0 rfl) ?_
  refine ri_moved (to := T) (Tm := T112) (a := A1) hG hS112 hI102_112 (by omega) (w102.to (by omega)) (by omega) (by omega) bza (fun M114 D114 T114 p114 hS114 hlen114 t114 u114 ho114 hf114 hI114 e114 e114x => ?_)
  show jj G kRO_common (d + 8) Q rc112 rs112 122 [some (.ref o), some (.int (nI (x))), some (.int (nI (y))), some (.int (nI (T))), some (.int (nI (p102))), some (.int (nI (p104))), some (.int (nI (p106))), some (.int (nI (p108))), some (.int (nI (p110))), some (.int (nI (p112))), (o10), (o11), (o12)] [.int (nI (p114))] M114
  clear e114 e114x
  have q114 := t114.1
  clear t114
  have hC114 := hC112.rf hf114
  have hF114 := hF112.trans (FF.ofRF hC112 hf114)
  have hsm114 : ∀ i, i < T → D114.getD i 0 = D.getD i 0 := fun i hi => by rw [ho114 i (by omega), hsm0 i hi]
  have hzz114 : D114.getD 0 0 = 0 := by rw [ho114 0 (by omega)]; exact hzz0
  have hop114 : ∀ i, (i = 0 ∨ T9 ≤ i) → i < T112 → D114.getD i 0 = D112.getD i 0 := fun i h1 h2 => ho114 i (by omega)
  have hsT114 : T9 < 2 ^ 31 ∧ T112 < 2 ^ 31 := by omega
  have r114p104 : RI D114 T112 p104 zb := hI104_112.above (lo := T9) hzz0 hsT114.2 (Nat.le_refl _) w104 hop114
  have r114p106 : RI D114 T112 p106 zu := hI106_112.above (lo := T9) hzz0 hsT114.2 (Nat.le_refl _) w106 hop114
  have r114p108 : RI D114 T112 p108 zs := hI108_112.above (lo := T9) hzz0 hsT114.2 (Nat.le_refl _) w108 hop114
  have r114p110 : RI D114 T112 p110 zv := hI110_112.above (lo := T9) hzz0 hsT114.2 (Nat.le_refl _) w110 hop114
  have r114p112 : RI D114 T112 p112 zt := hI112.above (lo := T9) hzz0 hsT114.2 (Nat.le_refl _) w112 hop114
  obtain ⟨hW115, hB115, hTD115, hz115, hp115⟩ := id hS114
  obtain ⟨dd115, hw115, hd115⟩ := id hW115
  have hcap115 := hB115.cap
  refine jj_istore (pc := 122) kRO_common_d122 (Nat.le_of_ble_eq_true rfl) ?_
  refine jj_aload_n (pc := 124) kRO_common_d124 rfl ?_
  refine jj_getf (pc := 125) kRO_common_d125 (kfRO_w hG) (hO.ff hF114).1 rfl ?_
  refine jj_iload (pc := 128) kRO_common_d128 rfl ?_
  refine jj_aload_n (pc := 130) kRO_common_d130 rfl ?_
  refine jj_getf (pc := 131) kRO_common_d131 (kfRO_w hG) (hO.ff hF114).1 rfl ?_
  refine jj_getf (pc := 134) kRO_common_d134 (kfRO_RW_top hG) hw115 rfl ?_
  refine jj_callV (pc := 137) (b := w) (As := [.int (nI (p104)), .int (nI (T114))]) kRO_common_d137 (kvRO_RW_moved hG) (kG_cl hG rfl) rfl hw115 rfl rfl rfl (Nat.le_of_ble_eq_true rfl) (Nat.le_of_ble_eq_true rfl) (jj_bare0 rfl) ?_
  refine ri_moved (to := T114) (Tm := T112) (a := A1) hG hS114 r114p104 (by omega) (w104.to (by omega)) (by omega) (by omega) bzb (fun M116 D116 T116 p116 hS116 hlen116 t116 u116 ho116 hf116 hI116 e116 e116x => ?_)
  show jj G kRO_common (d + 8) Q rc112 rs112 140 [some (.ref o), some (.int (nI (x))), some (.int (nI (y))), some (.int (nI (T))), some (.int (nI (p114))), some (.int (nI (p104))), some (.int (nI (p106))), some (.int (nI (p108))), some (.int (nI (p110))), some (.int (nI (p112))), (o10), (o11), (o12)] [.int (nI (p116))] M116
  clear e116 e116x
  have q116 := t116.1
  clear t116
  have hC116 := hC114.rf hf116
  have hF116 := hF114.trans (FF.ofRF hC114 hf116)
  have hsm116 : ∀ i, i < T → D116.getD i 0 = D.getD i 0 := fun i hi => by rw [ho116 i (by omega), hsm114 i hi]
  have hzz116 : D116.getD 0 0 = 0 := by rw [ho116 0 (by omega)]; exact hzz114
  have hop116 : ∀ i, (i = 0 ∨ T9 ≤ i) → i < T112 → D116.getD i 0 = D114.getD i 0 := fun i h1 h2 => ho116 i (by omega)
  have hsT116 : T9 < 2 ^ 31 ∧ T112 < 2 ^ 31 := by omega
  have r116p106 : RI D116 T112 p106 zu := r114p106.above (lo := T9) hzz114 hsT116.2 (Nat.le_refl _) w106 hop116
  have r116p108 : RI D116 T112 p108 zs := r114p108.above (lo := T9) hzz114 hsT116.2 (Nat.le_refl _) w108 hop116
  have r116p110 : RI D116 T112 p110 zv := r114p110.above (lo := T9) hzz114 hsT116.2 (Nat.le_refl _) w110 hop116
  have r116p112 : RI D116 T112 p112 zt := r114p112.above (lo := T9) hzz114 hsT116.2 (Nat.le_refl _) w112 hop116
  have m116p114 := hI114.congr q116 (fun i hi => ho116 i (Or.inl hi))
  obtain ⟨hW117, hB117, hTD117, hz117, hp117⟩ := id hS116
  obtain ⟨dd117, hw117, hd117⟩ := id hW117
  have hcap117 := hB117.cap
  refine jj_istore (pc := 140) kRO_common_d140 (Nat.le_of_ble_eq_true rfl) ?_
  refine jj_aload_n (pc := 142) kRO_common_d142 rfl ?_
  refine jj_getf (pc := 143) kRO_common_d143 (kfRO_w hG) (hO.ff hF116).1 rfl ?_
  refine jj_iload (pc := 146) kRO_common_d146 rfl ?_
  refine jj_aload_n (pc := 148) kRO_common_d148 rfl ?_
  refine jj_getf (pc := 149) kRO_common_d149 (kfRO_w hG) (hO.ff hF116).1 rfl ?_
  refine jj_getf (pc := 152) kRO_common_d152 (kfRO_RW_top hG) hw117 rfl ?_
  refine jj_callV (pc := 155) (b := w) (As := [.int (nI (p106)), .int (nI (T116))]) kRO_common_d155 (kvRO_RW_moved hG) (kG_cl hG rfl) rfl hw117 rfl rfl rfl (Nat.le_of_ble_eq_true rfl) (Nat.le_of_ble_eq_true rfl) (jj_bare0 rfl) ?_
  refine ri_moved (to := T116) (Tm := T112) (a := A1) hG hS116 r116p106 (by omega) (w106.to (by omega)) (by omega) (by omega) bzu (fun M118 D118 T118 p118 hS118 hlen118 t118 u118 ho118 hf118 hI118 e118 e118x => ?_)
  show jj G kRO_common (d + 8) Q rc112 rs112 158 [some (.ref o), some (.int (nI (x))), some (.int (nI (y))), some (.int (nI (T))), some (.int (nI (p114))), some (.int (nI (p116))), some (.int (nI (p106))), some (.int (nI (p108))), some (.int (nI (p110))), some (.int (nI (p112))), (o10), (o11), (o12)] [.int (nI (p118))] M118
  clear e118 e118x
  have q118 := t118.1
  clear t118
  have hC118 := hC116.rf hf118
  have hF118 := hF116.trans (FF.ofRF hC116 hf118)
  have hsm118 : ∀ i, i < T → D118.getD i 0 = D.getD i 0 := fun i hi => by rw [ho118 i (by omega), hsm116 i hi]
  have hzz118 : D118.getD 0 0 = 0 := by rw [ho118 0 (by omega)]; exact hzz116
  have hop118 : ∀ i, (i = 0 ∨ T9 ≤ i) → i < T112 → D118.getD i 0 = D116.getD i 0 := fun i h1 h2 => ho118 i (by omega)
  have hsT118 : T9 < 2 ^ 31 ∧ T112 < 2 ^ 31 := by omega
  have r118p108 : RI D118 T112 p108 zs := r116p108.above (lo := T9) hzz116 hsT118.2 (Nat.le_refl _) w108 hop118
  have r118p110 : RI D118 T112 p110 zv := r116p110.above (lo := T9) hzz116 hsT118.2 (Nat.le_refl _) w110 hop118
  have r118p112 : RI D118 T112 p112 zt := r116p112.above (lo := T9) hzz116 hsT118.2 (Nat.le_refl _) w112 hop118
  have m118p114 := m116p114.congr q118 (fun i hi => ho118 i (Or.inl hi))
  have m118p116 := hI116.congr q118 (fun i hi => ho118 i (Or.inl hi))
  obtain ⟨hW119, hB119, hTD119, hz119, hp119⟩ := id hS118
  obtain ⟨dd119, hw119, hd119⟩ := id hW119
  have hcap119 := hB119.cap
  refine jj_istore (pc := 158) kRO_common_d158 (Nat.le_of_ble_eq_true rfl) ?_
  refine jj_aload_n (pc := 160) kRO_common_d160 rfl ?_
  refine jj_getf (pc := 161) kRO_common_d161 (kfRO_w hG) (hO.ff hF118).1 rfl ?_
  refine jj_iload (pc := 164) kRO_common_d164 rfl ?_
  refine jj_aload_n (pc := 166) kRO_common_d166 rfl ?_
  refine jj_getf (pc := 167) kRO_common_d167 (kfRO_w hG) (hO.ff hF118).1 rfl ?_
  refine jj_getf (pc := 170) kRO_common_d170 (kfRO_RW_top hG) hw119 rfl ?_
  refine jj_callV (pc := 173) (b := w) (As := [.int (nI (p108)), .int (nI (T118))]) kRO_common_d173 (kvRO_RW_moved hG) (kG_cl hG rfl) rfl hw119 rfl rfl rfl (Nat.le_of_ble_eq_true rfl) (Nat.le_of_ble_eq_true rfl) (jj_bare0 rfl) ?_
  refine ri_moved (to := T118) (Tm := T112) (a := A1) hG hS118 r118p108 (by omega) (w108.to (by omega)) (by omega) (by omega) bzs (fun M120 D120 T120 p120 hS120 hlen120 t120 u120 ho120 hf120 hI120 e120 e120x => ?_)
  show jj G kRO_common (d + 8) Q rc112 rs112 176 [some (.ref o), some (.int (nI (x))), some (.int (nI (y))), some (.int (nI (T))), some (.int (nI (p114))), some (.int (nI (p116))), some (.int (nI (p118))), some (.int (nI (p108))), some (.int (nI (p110))), some (.int (nI (p112))), (o10), (o11), (o12)] [.int (nI (p120))] M120
  clear e120 e120x
  have q120 := t120.1
  clear t120
  have hC120 := hC118.rf hf120
  have hF120 := hF118.trans (FF.ofRF hC118 hf120)
  have hsm120 : ∀ i, i < T → D120.getD i 0 = D.getD i 0 := fun i hi => by rw [ho120 i (by omega), hsm118 i hi]
  have hzz120 : D120.getD 0 0 = 0 := by rw [ho120 0 (by omega)]; exact hzz118
  have hop120 : ∀ i, (i = 0 ∨ T9 ≤ i) → i < T112 → D120.getD i 0 = D118.getD i 0 := fun i h1 h2 => ho120 i (by omega)
  have hsT120 : T9 < 2 ^ 31 ∧ T112 < 2 ^ 31 := by omega
  have r120p110 : RI D120 T112 p110 zv := r118p110.above (lo := T9) hzz118 hsT120.2 (Nat.le_refl _) w110 hop120
  have r120p112 : RI D120 T112 p112 zt := r118p112.above (lo := T9) hzz118 hsT120.2 (Nat.le_refl _) w112 hop120
  have m120p114 := m118p114.congr q120 (fun i hi => ho120 i (Or.inl hi))
  have m120p116 := m118p116.congr q120 (fun i hi => ho120 i (Or.inl hi))
  have m120p118 := hI118.congr q120 (fun i hi => ho120 i (Or.inl hi))
  obtain ⟨hW121, hB121, hTD121, hz121, hp121⟩ := id hS120
  obtain ⟨dd121, hw121, hd121⟩ := id hW121
  have hcap121 := hB121.cap
  refine jj_istore (pc := 176) kRO_common_d176 (Nat.le_of_ble_eq_true rfl) ?_
  refine jj_aload_n (pc := 178) kRO_common_d178 rfl ?_
  refine jj_getf (pc := 179) kRO_common_d179 (kfRO_w hG) (hO.ff hF120).1 rfl ?_
  refine jj_iload (pc := 182) kRO_common_d182 rfl ?_
  refine jj_aload_n (pc := 184) kRO_common_d184 rfl ?_
  refine jj_getf (pc := 185) kRO_common_d185 (kfRO_w hG) (hO.ff hF120).1 rfl ?_
  refine jj_getf (pc := 188) kRO_common_d188 (kfRO_RW_top hG) hw121 rfl ?_
  refine jj_callV (pc := 191) (b := w) (As := [.int (nI (p110)), .int (nI (T120))]) kRO_common_d191 (kvRO_RW_moved hG) (kG_cl hG rfl) rfl hw121 rfl rfl rfl (Nat.le_of_ble_eq_true rfl) (Nat.le_of_ble_eq_true rfl) (jj_bare0 rfl) ?_
  refine ri_moved (to := T120) (Tm := T112) (a := A1) hG hS120 r120p110 (by omega) (w110.to (by omega)) (by omega) (by omega) bzv (fun M122 D122 T122 p122 hS122 hlen122 t122 u122 ho122 hf122 hI122 e122 e122x => ?_)
  show jj G kRO_common (d + 8) Q rc112 rs112 194 [some (.ref o), some (.int (nI (x))), some (.int (nI (y))), some (.int (nI (T))), some (.int (nI (p114))), some (.int (nI (p116))), some (.int (nI (p118))), some (.int (nI (p120))), some (.int (nI (p110))), some (.int (nI (p112))), (o10), (o11), (o12)] [.int (nI (p122))] M122
  clear e122 e122x
  have q122 := t122.1
  clear t122
  have hC122 := hC120.rf hf122
  have hF122 := hF120.trans (FF.ofRF hC120 hf122)
  have hsm122 : ∀ i, i < T → D122.getD i 0 = D.getD i 0 := fun i hi => by rw [ho122 i (by omega), hsm120 i hi]
  have hzz122 : D122.getD 0 0 = 0 := by rw [ho122 0 (by omega)]; exact hzz120
  have hop122 : ∀ i, (i = 0 ∨ T9 ≤ i) → i < T112 → D122.getD i 0 = D120.getD i 0 := fun i h1 h2 => ho122 i (by omega)
  have hsT122 : T9 < 2 ^ 31 ∧ T112 < 2 ^ 31 := by omega
  have r122p112 : RI D122 T112 p112 zt := r120p112.above (lo := T9) hzz120 hsT122.2 (Nat.le_refl _) w112 hop122
  have m122p114 := m120p114.congr q122 (fun i hi => ho122 i (Or.inl hi))
  have m122p116 := m120p116.congr q122 (fun i hi => ho122 i (Or.inl hi))
  have m122p118 := m120p118.congr q122 (fun i hi => ho122 i (Or.inl hi))
  have m122p120 := hI120.congr q122 (fun i hi => ho122 i (Or.inl hi))
  obtain ⟨hW123, hB123, hTD123, hz123, hp123⟩ := id hS122
  obtain ⟨dd123, hw123, hd123⟩ := id hW123
  have hcap123 := hB123.cap
  refine jj_istore (pc := 194) kRO_common_d194 (Nat.le_of_ble_eq_true rfl) ?_
  refine jj_aload_n (pc := 196) kRO_common_d196 rfl ?_
  refine jj_getf (pc := 197) kRO_common_d197 (kfRO_w hG) (hO.ff hF122).1 rfl ?_
  refine jj_iload (pc := 200) kRO_common_d200 rfl ?_
  refine jj_aload_n (pc := 202) kRO_common_d202 rfl ?_
  refine jj_getf (pc := 203) kRO_common_d203 (kfRO_w hG) (hO.ff hF122).1 rfl ?_
  refine jj_getf (pc := 206) kRO_common_d206 (kfRO_RW_top hG) hw123 rfl ?_
  refine jj_callV (pc := 209) (b := w) (As := [.int (nI (p112)), .int (nI (T122))]) kRO_common_d209 (kvRO_RW_moved hG) (kG_cl hG rfl) rfl hw123 rfl rfl rfl (Nat.le_of_ble_eq_true rfl) (Nat.le_of_ble_eq_true rfl) (jj_bare0 rfl) ?_
  refine ri_moved (to := T122) (Tm := T112) (a := A1) hG hS122 r122p112 (by omega) (w112.to (by omega)) (by omega) (by omega) bzt (fun M124 D124 T124 p124 hS124 hlen124 t124 u124 ho124 hf124 hI124 e124 e124x => ?_)
  show jj G kRO_common (d + 8) Q rc112 rs112 212 [some (.ref o), some (.int (nI (x))), some (.int (nI (y))), some (.int (nI (T))), some (.int (nI (p114))), some (.int (nI (p116))), some (.int (nI (p118))), some (.int (nI (p120))), some (.int (nI (p122))), some (.int (nI (p112))), (o10), (o11), (o12)] [.int (nI (p124))] M124
  clear e124 e124x
  have q124 := t124.1
  clear t124
  have hC124 := hC122.rf hf124
  have hF124 := hF122.trans (FF.ofRF hC122 hf124)
  have hsm124 : ∀ i, i < T → D124.getD i 0 = D.getD i 0 := fun i hi => by rw [ho124 i (by omega), hsm122 i hi]
  have hzz124 : D124.getD 0 0 = 0 := by rw [ho124 0 (by omega)]; exact hzz122
  have hop124 : ∀ i, (i = 0 ∨ T9 ≤ i) → i < T112 → D124.getD i 0 = D122.getD i 0 := fun i h1 h2 => ho124 i (by omega)
  have hsT124 : T9 < 2 ^ 31 ∧ T112 < 2 ^ 31 := by omega
  have m124p114 := m122p114.congr q124 (fun i hi => ho124 i (Or.inl hi))
  have m124p116 := m122p116.congr q124 (fun i hi => ho124 i (Or.inl hi))
  have m124p118 := m122p118.congr q124 (fun i hi => ho124 i (Or.inl hi))
  have m124p120 := m122p120.congr q124 (fun i hi => ho124 i (Or.inl hi))
  have m124p122 := hI122.congr q124 (fun i hi => ho124 i (Or.inl hi))
  obtain ⟨hW125, hB125, hTD125, hz125, hp125⟩ := id hS124
  obtain ⟨dd125, hw125, hd125⟩ := id hW125
  have hcap125 := hB125.cap
  refine jj_istore (pc := 212) kRO_common_d212 (Nat.le_of_ble_eq_true rfl) ?_
  show jj G kRO_common (d + 8) Q rc112 rs112 214 [some (.ref o), some (.int (nI (x))), some (.int (nI (y))), some (.int (nI (T))), some (.int (nI (p114))), some (.int (nI (p116))), some (.int (nI (p118))), some (.int (nI (p120))), some (.int (nI (p122))), some (.int (nI (p124))), (o10), (o11), (o12)] [] M124
  exact K p114 p116 p118 p120 p122 p124 M124 D124 T124 rc112 rs112 hC124 hS124 (by omega) (by omega) hsm124 hF124 m124p114 m124p116 m124p118 m124p120 m124p122 hI124
theorem ro_common {x y T cm X Z a A1 : Nat} {zp zx : Int} (hG : kG G) (hO : OC M o f w ca ra CA RA fi se) (hC : FC M f w vv pv V t up low P rk) (hS : RS M w D T v2 cm X Z rc rs) (h1 : RI D T 1 1) (hT3 : 3 ≤ T) (hx : RI D T x zp) (hy : RI D T y zx) (hx0 : 0 < zx) (ha : ZB a zp) (hb : ZB a zx) (hA1 : A1 = a + 1) (ha2 : A1 ≤ 4000) (hT : T + 30000 + 40 * A1 + 200 ≤ cm)
    (K : ∀ M' D' T' r u v v2' rc' rs' zu zv, OC M' o f w ca ra CA RA (nI u) (nI v) → FC M' f w vv pv V t up low P rk → RS M' w D' T' v2' cm X Z rc' rs' → T ≤ T' → T' ≤ T + 30000 + 16 * A1 + 40 → (∀ i, i < T → D'.getD i 0 = D.getD i 0) → OF M M' o → RI D' T' r (Int.gcd zp zx : Int) → RI D' T' u zu → RI D' T' v zv → zu * zp + zv * zx = (Int.gcd zp zx : Int) → ZB A1 zu → ZB A1 zv → Q (.returned (some (.int (nI r)))) M' rc' rs') : jj G kRO_common (d + 8) Q rc rs 0 (jj_ent [.ref o, .int (nI x), .int (nI y)] 13) [] M := by
  have hcapD := hS.2.1.cap
  have lx := hx.lt
  have ly := hy.lt
  have loop : ∀ N : Nat, ∀ (za zb zu zs zv zt : Int), zb < (N : Int) → BZ zp zx za zb zu zv zs zt → ∀ (ya yb yu ys yv yt : Nat) (o10 o11 o12 : Option Value) (M9 : mheap) (D9 : List Int32) (T9 : Nat) (v9 : Value) (rc9 rs9 : Nat), FC M9 f w vv pv V t up low P rk → RS M9 w D9 T9 v9 cm X Z rc9 rs9 → T ≤ T9 → T9 ≤ T + 30000 + 16 * A1 + 40 → (∀ i, i < T → D9.getD i 0 = D.getD i 0) → FF M M9 f → RI D9 T9 ya za → RI D9 T9 yb zb → RI D9 T9 yu zu → RI D9 T9 ys zs → RI D9 T9 yv zv → RI D9 T9 yt zt → jj G kRO_common (d + 8) Q rc9 rs9 26 [some (.ref o), some (.int (nI (x))), some (.int (nI (y))), some (.int (nI (T))), some (.int (nI (ya))), some (.int (nI (yb))), some (.int (nI (yu))), some (.int (nI (ys))), some (.int (nI (yv))), some (.int (nI (yt))), (o10), (o11), (o12)] [] M9 := by
    intro N
    induction N with
    | zero => intro za zb zu zs zv zt h hbz; have := hbz.2.2.2.1; omega
    | succ N ih =>
      intro za zb zu zs zv zt hN hbz ya yb yu ys yv yt o10 o11 o12 M9 D9 T9 v9 rc9 rs9 hC9 hS9 t9 u9 ho9 hF9 r9ya r9yb r9yu r9ys r9yv r9yt
      obtain ⟨sv, st⟩ := hbz.sizes hx0
      have bza : ZB A1 za := by rw [hA1]; exact ZB.sum ha hb hbz.2.2.2.2.2.2.1
      have bzb : ZB A1 zb := by rw [hA1]; exact (hb.le (by have := hbz.2.2.2.1; have := hbz.2.2.2.2.2.2.2.1; omega)).mono (by omega)
      have bzu : ZB A1 zu := by rw [hA1]; exact (hb.le hbz.2.2.2.2.2.2.2.2.1).mono (by omega)
      have bzs : ZB A1 zs := by rw [hA1]; exact (hb.le hbz.2.2.2.2.2.2.2.2.2.1).mono (by omega)
      have bzv : ZB A1 zv := by rw [hA1]; exact ZB.two ha sv
      have bzt : ZB A1 zt := by rw [hA1]; exact ZB.two ha st
      have hb0 := hbz.2.2.2.1
      clear sv st
      have lyb := r9yb.lt
      obtain ⟨hW126, hB126, hTD126, hz126, hp126⟩ := id hS9
      obtain ⟨dd126, hw126, hd126⟩ := id hW126
      have hcap126 := hB126.cap
      have k214 : 0 < zb → ∀ (ya yb yu ys yv yt : Nat) (o10 o11 o12 : Option Value) (M8 : mheap) (D8 : List Int32) (T8 : Nat) (v8 : Value) (rc8 rs8 : Nat), FC M8 f w vv pv V t up low P rk → RS M8 w D8 T8 v8 cm X Z rc8 rs8 → T ≤ T8 → T8 ≤ T + 30000 → (∀ i, i < T → D8.getD i 0 = D.getD i 0) → FF M M8 f → RI D8 T8 ya za → RI D8 T8 yb zb → RI D8 T8 yu zu → RI D8 T8 ys zs → RI D8 T8 yv zv → RI D8 T8 yt zt → T8 ≤ T + 30000 → jj G kRO_common (d + 8) Q rc8 rs8 214 [some (.ref o), some (.int (nI (x))), some (.int (nI (y))), some (.int (nI (T))), some (.int (nI (ya))), some (.int (nI (yb))), some (.int (nI (yu))), some (.int (nI (ys))), some (.int (nI (yv))), some (.int (nI (yt))), (o10), (o11), (o12)] [] M8 := by
        clear r9ya r9yb r9yu r9ys r9yv r9yt hC9 hS9 t9 u9 ho9 hF9 lyb
        intro hb1 ya yb yu ys yv yt o10 o11 o12 M8 D8 T8 v8 rc8 rs8 hC8 hS8 t8 u8 ho8 hF8 r8ya r8yb r8yu r8ys r8yv r8yt _
        have hst := hbz.step hb1 hx0
        have bq : ZB A1 (za / zb) := bza.ediv hb1
        have bqs : ZB (A1 + A1) (za / zb * zs) := bq.mul bzs
        have bqt : ZB (A1 + A1) (za / zb * zt) := bq.mul bzt
        have hmb : za % zb < (N : Int) := by have := Int.emod_lt_of_pos za hb1; omega
        clear hA1 ha hb hx hy lx ly K
        obtain ⟨hW127, hB127, hTD127, hz127, hp127⟩ := id hS8
        obtain ⟨dd127, hw127, hd127⟩ := id hW127
        have hcap127 := hB127.cap
        refine jj_aload_n (pc := 214) kRO_common_d214 rfl ?_
        refine jj_getf (pc := 215) kRO_common_d215 (kfRO_w hG) (hO.ff hF8).1 rfl ?_
        refine jj_iload (pc := 218) kRO_common_d218 rfl ?_
        refine jj_iload (pc := 220) kRO_common_d220 rfl ?_
        refine jj_callV (pc := 222) (b := w) (As := [.int (nI (ya)), .int (nI (yb))]) kRO_common_d222 (kvRO_RW_divide hG) (kG_cl hG rfl) rfl hw127 rfl rfl rfl (Nat.le_of_ble_eq_true rfl) (Nat.le_of_ble_eq_true rfl) (jj_bare0 rfl) ?_
        refine ri_divide (a := A1) (b := A1) hG hS8 r8ya r8yb hb1 bza bzb (by omega) (fun M128 D128 T128 p128 s128 rc128 rs128 hS128 t128 u128 ho128 hf128 hI128 hJ128 => ?_)
        show jj G kRO_common (d + 8) Q rc128 rs128 225 [some (.ref o), some (.int (nI (x))), some (.int (nI (y))), some (.int (nI (T))), some (.int (nI (ya))), some (.int (nI (yb))), some (.int (nI (yu))), some (.int (nI (ys))), some (.int (nI (yv))), some (.int (nI (yt))), (o10), (o11), (o12)] [.int (nI (p128))] M128
        have hC128 := hC8.rf hf128
        have hF128 := hF8.trans (FF.ofRF hC8 hf128)
        have r8ya_128 := r8ya.congr t128.1 ho128
        have r8yb_128 := r8yb.congr t128.1 ho128
        have r8yu_128 := r8yu.congr t128.1 ho128
        have r8ys_128 := r8ys.congr t128.1 ho128
        have r8yv_128 := r8yv.congr t128.1 ho128
        have r8yt_128 := r8yt.congr t128.1 ho128
        have t128q := t128.1
        clear t128
        obtain ⟨hW129, hB129, hTD129, hz129, hp129⟩ := id hS128
        obtain ⟨dd129, hw129, hd129⟩ := id hW129
        have hcap129 := hB129.cap
        refine jj_istore (pc := 225) kRO_common_d225 (Nat.le_of_ble_eq_true rfl) ?_
        refine jj_aload_n (pc := 227) kRO_common_d227 rfl ?_
        refine jj_getf (pc := 228) kRO_common_d228 (kfRO_w hG) (hO.ff hF128).1 rfl ?_
        refine jj_getf (pc := 231) kRO_common_d231 (kfRO_RW_rest hG) hw129 rfl ?_
        refine jj_istore (pc := 234) kRO_common_d234 (Nat.le_of_ble_eq_true rfl) ?_
        show jj G kRO_common (d + 8) Q rc128 rs128 236 [some (.ref o), some (.int (nI (x))), some (.int (nI (y))), some (.int (nI (T))), some (.int (nI (ya))), some (.int (nI (yb))), some (.int (nI (yu))), some (.int (nI (ys))), some (.int (nI (yv))), some (.int (nI (yt))), some (.int (nI (p128))), some (.int (nI (s128))), (o12)] [] M128
        refine jj_iload (pc := 236) kRO_common_d236 rfl ?_
        refine jj_istore (pc := 238) kRO_common_d238 (Nat.le_of_ble_eq_true rfl) ?_
        refine jj_iload (pc := 240) kRO_common_d240 rfl ?_
        refine jj_istore (pc := 242) kRO_common_d242 (Nat.le_of_ble_eq_true rfl) ?_
        show jj G kRO_common (d + 8) Q rc128 rs128 244 [some (.ref o), some (.int (nI (x))), some (.int (nI (y))), some (.int (nI (T))), some (.int (nI (yb))), some (.int (nI (s128))), some (.int (nI (yu))), some (.int (nI (ys))), some (.int (nI (yv))), some (.int (nI (yt))), some (.int (nI (p128))), some (.int (nI (s128))), (o12)] [] M128
        refine jj_aload_n (pc := 244) kRO_common_d244 rfl ?_
        refine jj_getf (pc := 245) kRO_common_d245 (kfRO_w hG) (hO.ff hF128).1 rfl ?_
        refine jj_iload (pc := 248) kRO_common_d248 rfl ?_
        refine jj_aload_n (pc := 250) kRO_common_d250 rfl ?_
        refine jj_getf (pc := 251) kRO_common_d251 (kfRO_w hG) (hO.ff hF128).1 rfl ?_
        refine jj_iload (pc := 254) kRO_common_d254 rfl ?_
        refine jj_iload (pc := 256) kRO_common_d256 rfl ?_
        refine jj_callV (pc := 258) (b := w) (As := [.int (nI (p128)), .int (nI (ys))]) kRO_common_d258 (kvRO_RW_multiply hG) (kG_cl hG rfl) rfl hw129 rfl rfl rfl (Nat.le_of_ble_eq_true rfl) (Nat.le_of_ble_eq_true rfl) (jj_bare0 rfl) ?_
        refine rs_multiply (a := A1) (b := A1) hG hS128 hI128 r8ys_128 bq bzs (by omega) (fun M130 D130 T130 p130 rc130 rs130 hS130 t130 u130 ho130 hf130 hI130 => ?_)
        show jj G kRO_common (d + 8) Q rc130 rs130 261 [some (.ref o), some (.int (nI (x))), some (.int (nI (y))), some (.int (nI (T))), some (.int (nI (yb))), some (.int (nI (s128))), some (.int (nI (yu))), some (.int (nI (ys))), some (.int (nI (yv))), some (.int (nI (yt))), some (.int (nI (p128))), some (.int (nI (s128))), (o12)] [.int (nI (p130)), .int (nI (yu)), .ref w] M130
        have hC130 := hC128.rf hf130
        have hF130 := hF128.trans (FF.ofRF hC128 hf130)
        have r8ya_130 := r8ya_128.congr t130.1 ho130
        have r8yb_130 := r8yb_128.congr t130.1 ho130
        have r8yu_130 := r8yu_128.congr t130.1 ho130
        have r8ys_130 := r8ys_128.congr t130.1 ho130
        have r8yv_130 := r8yv_128.congr t130.1 ho130
        have r8yt_130 := r8yt_128.congr t130.1 ho130
        have hI128_130 := hI128.congr t130.1 ho130
        have hJ128_130 := hJ128.congr t130.1 ho130
        have t130q := t130.1
        clear t130
        obtain ⟨hW131, hB131, hTD131, hz131, hp131⟩ := id hS130
        obtain ⟨dd131, hw131, hd131⟩ := id hW131
        have hcap131 := hB131.cap
        refine jj_callV (pc := 261) (b := w) (As := [.int (nI (yu)), .int (nI (p130))]) kRO_common_d261 (kvRO_RW_subtract hG) (kG_cl hG rfl) rfl hw131 rfl rfl rfl (Nat.le_of_ble_eq_true rfl) (Nat.le_of_ble_eq_true rfl) (jj_bare0 rfl) ?_
        refine rs_subtract (a := A1 + A1) hG hS130 r8yu_130 hI130 (bzu.mono (by omega)) bqs (by omega) (fun M132 D132 T132 p132 rc132 rs132 hS132 t132 u132 ho132 hf132 hI132 => ?_)
        show jj G kRO_common (d + 8) Q rc132 rs132 264 [some (.ref o), some (.int (nI (x))), some (.int (nI (y))), some (.int (nI (T))), some (.int (nI (yb))), some (.int (nI (s128))), some (.int (nI (yu))), some (.int (nI (ys))), some (.int (nI (yv))), some (.int (nI (yt))), some (.int (nI (p128))), some (.int (nI (s128))), (o12)] [.int (nI (p132))] M132
        have hC132 := hC130.rf hf132
        have hF132 := hF130.trans (FF.ofRF hC130 hf132)
        have r8ya_132 := r8ya_130.congr t132.1 ho132
        have r8yb_132 := r8yb_130.congr t132.1 ho132
        have r8yu_132 := r8yu_130.congr t132.1 ho132
        have r8ys_132 := r8ys_130.congr t132.1 ho132
        have r8yv_132 := r8yv_130.congr t132.1 ho132
        have r8yt_132 := r8yt_130.congr t132.1 ho132
        have hI128_132 := hI128_130.congr t132.1 ho132
        have hJ128_132 := hJ128_130.congr t132.1 ho132
        have hI130_132 := hI130.congr t132.1 ho132
        have t132q := t132.1
        clear t132
        obtain ⟨hW133, hB133, hTD133, hz133, hp133⟩ := id hS132
        obtain ⟨dd133, hw133, hd133⟩ := id hW133
        have hcap133 := hB133.cap
        refine jj_istore (pc := 264) kRO_common_d264 (Nat.le_of_ble_eq_true rfl) ?_
        refine jj_iload (pc := 266) kRO_common_d266 rfl ?_
        refine jj_istore (pc := 268) kRO_common_d268 (Nat.le_of_ble_eq_true rfl) ?_
        show jj G kRO_common (d + 8) Q rc132 rs132 270 [some (.ref o), some (.int (nI (x))), some (.int (nI (y))), some (.int (nI (T))), some (.int (nI (yb))), some (.int (nI (s128))), some (.int (nI (ys))), some (.int (nI (ys))), some (.int (nI (yv))), some (.int (nI (yt))), some (.int (nI (p128))), some (.int (nI (s128))), some (.int (nI (p132)))] [] M132
        refine jj_iload (pc := 270) kRO_common_d270 rfl ?_
        refine jj_istore (pc := 272) kRO_common_d272 (Nat.le_of_ble_eq_true rfl) ?_
        refine jj_aload_n (pc := 274) kRO_common_d274 rfl ?_
        refine jj_getf (pc := 275) kRO_common_d275 (kfRO_w hG) (hO.ff hF132).1 rfl ?_
        refine jj_iload (pc := 278) kRO_common_d278 rfl ?_
        refine jj_aload_n (pc := 280) kRO_common_d280 rfl ?_
        refine jj_getf (pc := 281) kRO_common_d281 (kfRO_w hG) (hO.ff hF132).1 rfl ?_
        refine jj_iload (pc := 284) kRO_common_d284 rfl ?_
        refine jj_iload (pc := 286) kRO_common_d286 rfl ?_
        refine jj_callV (pc := 288) (b := w) (As := [.int (nI (p128)), .int (nI (yt))]) kRO_common_d288 (kvRO_RW_multiply hG) (kG_cl hG rfl) rfl hw133 rfl rfl rfl (Nat.le_of_ble_eq_true rfl) (Nat.le_of_ble_eq_true rfl) (jj_bare0 rfl) ?_
        refine rs_multiply (a := A1) (b := A1) hG hS132 hI128_132 r8yt_132 bq bzt (by omega) (fun M134 D134 T134 p134 rc134 rs134 hS134 t134 u134 ho134 hf134 hI134 => ?_)
        show jj G kRO_common (d + 8) Q rc134 rs134 291 [some (.ref o), some (.int (nI (x))), some (.int (nI (y))), some (.int (nI (T))), some (.int (nI (yb))), some (.int (nI (s128))), some (.int (nI (ys))), some (.int (nI (p132))), some (.int (nI (yv))), some (.int (nI (yt))), some (.int (nI (p128))), some (.int (nI (s128))), some (.int (nI (p132)))] [.int (nI (p134)), .int (nI (yv)), .ref w] M134
        have hC134 := hC132.rf hf134
        have hF134 := hF132.trans (FF.ofRF hC132 hf134)
        have r8ya_134 := r8ya_132.congr t134.1 ho134
        have r8yb_134 := r8yb_132.congr t134.1 ho134
        have r8yu_134 := r8yu_132.congr t134.1 ho134
        have r8ys_134 := r8ys_132.congr t134.1 ho134
        have r8yv_134 := r8yv_132.congr t134.1 ho134
        have r8yt_134 := r8yt_132.congr t134.1 ho134
        have hI128_134 := hI128_132.congr t134.1 ho134
        have hJ128_134 := hJ128_132.congr t134.1 ho134
        have hI130_134 := hI130_132.congr t134.1 ho134
        have hI132_134 := hI132.congr t134.1 ho134
        have t134q := t134.1
        clear t134
        obtain ⟨hW135, hB135, hTD135, hz135, hp135⟩ := id hS134
        obtain ⟨dd135, hw135, hd135⟩ := id hW135
        have hcap135 := hB135.cap
        refine jj_callV (pc := 291) (b := w) (As := [.int (nI (yv)), .int (nI (p134))]) kRO_common_d291 (kvRO_RW_subtract hG) (kG_cl hG rfl) rfl hw135 rfl rfl rfl (Nat.le_of_ble_eq_true rfl) (Nat.le_of_ble_eq_true rfl) (jj_bare0 rfl) ?_
        refine rs_subtract (a := A1 + A1) hG hS134 r8yv_134 hI134 (bzv.mono (by omega)) bqt (by omega) (fun M136 D136 T136 p136 rc136 rs136 hS136 t136 u136 ho136 hf136 hI136 => ?_)
        show jj G kRO_common (d + 8) Q rc136 rs136 294 [some (.ref o), some (.int (nI (x))), some (.int (nI (y))), some (.int (nI (T))), some (.int (nI (yb))), some (.int (nI (s128))), some (.int (nI (ys))), some (.int (nI (p132))), some (.int (nI (yv))), some (.int (nI (yt))), some (.int (nI (p128))), some (.int (nI (s128))), some (.int (nI (p132)))] [.int (nI (p136))] M136
        have hC136 := hC134.rf hf136
        have hF136 := hF134.trans (FF.ofRF hC134 hf136)
        have r8ya_136 := r8ya_134.congr t136.1 ho136
        have r8yb_136 := r8yb_134.congr t136.1 ho136
        have r8yu_136 := r8yu_134.congr t136.1 ho136
        have r8ys_136 := r8ys_134.congr t136.1 ho136
        have r8yv_136 := r8yv_134.congr t136.1 ho136
        have r8yt_136 := r8yt_134.congr t136.1 ho136
        have hI128_136 := hI128_134.congr t136.1 ho136
        have hJ128_136 := hJ128_134.congr t136.1 ho136
        have hI130_136 := hI130_134.congr t136.1 ho136
        have hI132_136 := hI132_134.congr t136.1 ho136
        have hI134_136 := hI134.congr t136.1 ho136
        have t136q := t136.1
        clear t136
        obtain ⟨hW137, hB137, hTD137, hz137, hp137⟩ := id hS136
        obtain ⟨dd137, hw137, hd137⟩ := id hW137
        have hcap137 := hB137.cap
        refine jj_istore (pc := 294) kRO_common_d294 (Nat.le_of_ble_eq_true rfl) ?_
        refine jj_iload (pc := 296) kRO_common_d296 rfl ?_
        refine jj_istore (pc := 298) kRO_common_d298 (Nat.le_of_ble_eq_true rfl) ?_
        show jj G kRO_common (d + 8) Q rc136 rs136 300 [some (.ref o), some (.int (nI (x))), some (.int (nI (y))), some (.int (nI (T))), some (.int (nI (yb))), some (.int (nI (s128))), some (.int (nI (ys))), some (.int (nI (p132))), some (.int (nI (yt))), some (.int (nI (yt))), some (.int (nI (p128))), some (.int (nI (s128))), some (.int (nI (p136)))] [] M136
        refine jj_iload (pc := 300) kRO_common_d300 rfl ?_
        refine jj_istore (pc := 302) kRO_common_d302 (Nat.le_of_ble_eq_true rfl) ?_
        refine jj_goto (pc := 304) (tgt := 26) kRO_common_d304 (by decide) ?_
        show jj G kRO_common (d + 8) Q rc136 rs136 26 [some (.ref o), some (.int (nI (x))), some (.int (nI (y))), some (.int (nI (T))), some (.int (nI (yb))), some (.int (nI (s128))), some (.int (nI (ys))), some (.int (nI (p132))), some (.int (nI (yt))), some (.int (nI (p136))), some (.int (nI (p128))), some (.int (nI (s128))), some (.int (nI (p136)))] [] M136
        exact ih zb (za % zb) zs (zu - za / zb * zs) zt (zv - za / zb * zt) hmb hst yb s128 ys p132 yt p136 _ _ _ M136 D136 T136 _ rc136 rs136 hC136 hS136 (by omega) (by omega) (fun i hi => by rw [ho136 i (by omega), ho134 i (by omega), ho132 i (by omega), ho130 i (by omega), ho128 i (by omega), ho8 i (by omega)]) hF136 r8yb_136 hJ128_136 r8ys_136 hI132_136 r8yt_136 hI136
      clear ih
      refine jj_iload (pc := 26) kRO_common_d26 rfl ?_
      refine jn_if_eq (pc := 28) (tgt := 307) kRO_common_d28 (by decide) (by omega) (fun c0 => ?_) (fun c0 => ?_)
      · skip
        subst c0
        have e0 := r9yb.z0 hz126 (by omega)
        subst e0
        obtain ⟨e1, e2⟩ := hbz.done
        rw [e1] at r9ya e2
        refine jj_aload_n (pc := 307) kRO_common_d307 rfl ?_
        refine jj_iload (pc := 308) kRO_common_d308 rfl ?_
        refine jj_putf (pc := 310) kRO_common_d310 (kpRO_first hG) (hO.ff hF9).1 (by rfl) rfl ?_
        refine jn_gen (fun M138 hM139 => ?_)
        have hO140 : OC M138 o f w ca ra CA RA (nI (yu)) (se) := by rw [hM139]; exact (hO.ff hF9).puto hC9
        have hC140 : FC M138 f w vv pv V (t) (up) (low) P (rk) := by rw [hM139]; exact hC9.other (hO.ff hF9).2.2.2.2.1
        have hS140 : RS M138 w D9 (T9) v9 cm X Z rc9 rs9 := by rw [hM139]; exact hS9.other (FO.notRO hC9 (hO.ff hF9).2.2.2.2.1)
        have hG140 : OF M M138 o := ((OF.ofFF hO hF9).trans (by rw [hM139]; exact OF.put (hO.ff hF9) hC9 (Or.inl rfl) ((hO.ff hF9).puto hC9)))
        obtain ⟨hW141, hB141, hTD141, hz141, hp141⟩ := id hS140
        obtain ⟨dd141, hw141, hd141⟩ := id hW141
        have hcap141 := hB141.cap
        refine jj_aload_n (pc := 313) kRO_common_d313 rfl ?_
        refine jj_iload (pc := 314) kRO_common_d314 rfl ?_
        refine jj_putf (pc := 316) kRO_common_d316 (kpRO_second hG) hO140.1 (by rfl) rfl ?_
        refine jn_gen (fun M142 hM143 => ?_)
        have hO144 : OC M142 o f w ca ra CA RA (nI (yu)) (nI (yv)) := by rw [hM143]; exact hO140.puto hC140
        have hC144 : FC M142 f w vv pv V (t) (up) (low) P (rk) := by rw [hM143]; exact hC140.other hO140.2.2.2.2.1
        have hS144 : RS M142 w D9 (T9) v9 cm X Z rc9 rs9 := by rw [hM143]; exact hS140.other (FO.notRO hC140 hO140.2.2.2.2.1)
        have hG144 : OF M M142 o := hG140.trans ((OF.ofFF hO140 (FF.refl _ f)).trans (by rw [hM143]; exact OF.put hO140 hC140 (Or.inl rfl) (hO140.puto hC140)))
        obtain ⟨hW145, hB145, hTD145, hz145, hp145⟩ := id hS144
        obtain ⟨dd145, hw145, hd145⟩ := id hW145
        have hcap145 := hB145.cap
        refine jj_iload (pc := 319) kRO_common_d319 rfl ?_
        exact jj_iret (pc := 321) kRO_common_d321 rfl (by rfl) (K M142 D9 T9 ya yu yv _ _ _ zu zv hO144 hC144 hS144 t9 u9 ho9 (hG144.trans (OF.ofFF hO144 (FF.refl _ f))) r9ya r9yu r9yv e2.symm bzu bzv)
      · skip
        have hb1 : 0 < zb := by
          rcases (show zb = 0 ∨ 0 < zb by omega) with e | e
          · rw [e] at r9yb; have := RI.p0 r9yb; omega
          · exact e
        refine jj_aload_n (pc := 31) kRO_common_d31 rfl ?_
        refine jj_getf (pc := 32) kRO_common_d32 (kfRO_w hG) (hO.ff hF9).1 rfl ?_
        refine jj_getf (pc := 35) kRO_common_d35 (kfRO_RW_top hG) hw126 rfl ?_
        refine jj_iload_n (pc := 38) kRO_common_d38 rfl ?_
        obtain ⟨dT, hdT⟩ : ∃ dT, T9 = dT + T := ⟨T9 - T, by omega⟩
        refine jn_isub (pc := 39) (dT) kRO_common_d39 (by omega) ?_
        refine jn_sipush (pc := 40) 30000 kRO_common_d40 (by decide) ?_
        refine jn_icmp_le (pc := 43) (tgt := 214) kRO_common_d43 (by decide) (by omega) (by omega) (fun c1 => ?_) (fun c1 => ?_)
        · skip
          show jj G kRO_common (d + 8) Q rc9 rs9 214 [some (.ref o), some (.int (nI (x))), some (.int (nI (y))), some (.int (nI (T))), some (.int (nI (ya))), some (.int (nI (yb))), some (.int (nI (yu))), some (.int (nI (ys))), some (.int (nI (yv))), some (.int (nI (yt))), (o10), (o11), (o12)] [] M9
          exact k214 hb1 ya yb yu ys yv yt _ _ _ M9 D9 T9 v9 rc9 rs9 hC9 hS9 t9 (by omega) ho9 hF9 r9ya r9yb r9yu r9ys r9yv r9yt (by omega)
        · skip
          show jj G kRO_common (d + 8) Q rc9 rs9 46 [some (.ref o), some (.int (nI (x))), some (.int (nI (y))), some (.int (nI (T))), some (.int (nI (ya))), some (.int (nI (yb))), some (.int (nI (yu))), some (.int (nI (ys))), some (.int (nI (yv))), some (.int (nI (yt))), (o10), (o11), (o12)] [] M9
          exact ro_common_six (T := T) hG (hO.ff hF9) hC9 hS9 (by omega) t9 (by omega) ha2 (by omega) r9ya r9yb r9yu r9ys r9yv r9yt bza bzb bzu bzs bzv bzt (fun ya yb yu ys yv yt M8 D8 T8 rc8 rs8 hC8 hS8 t8 u8 ho8 hF8 r8ya r8yb r8yu r8ys r8yv r8yt => k214 hb1 ya yb yu ys yv yt _ _ _ M8 D8 T8 _ rc8 rs8 hC8 hS8 t8 (by omega) (fun i hi => by rw [ho8 i hi, ho9 i hi]) (hF9.trans hF8) r8ya r8yb r8yu r8ys r8yv r8yt (by omega))
  obtain ⟨hW146, hB146, hTD146, hz146, hp146⟩ := id hS
  obtain ⟨dd146, hw146, hd146⟩ := id hW146
  have hcap146 := hB146.cap
  show jj G kRO_common (d + 8) Q rc rs 0 [some (.ref o), some (.int (nI (x))), some (.int (nI (y))), none, none, none, none, none, none, none, none, none, none] [] M
  refine jj_aload_n (pc := 0) kRO_common_d0 rfl ?_
  refine jj_getf (pc := 1) kRO_common_d1 (kfRO_w hG) hO.1 rfl ?_
  refine jj_getf (pc := 4) kRO_common_d4 (kfRO_RW_top hG) hw146 rfl ?_
  refine jj_istore_n (pc := 7) kRO_common_d7 (Nat.le_of_ble_eq_true rfl) ?_
  refine jj_iload_n (pc := 8) kRO_common_d8 rfl ?_
  refine jj_istore (pc := 9) kRO_common_d9 (Nat.le_of_ble_eq_true rfl) ?_
  show jj G kRO_common (d + 8) Q rc rs 11 [some (.ref o), some (.int (nI (x))), some (.int (nI (y))), some (.int (nI (T))), some (.int (nI (x))), none, none, none, none, none, none, none, none] [] M
  refine jj_iload_n (pc := 11) kRO_common_d11 rfl ?_
  refine jj_istore (pc := 12) kRO_common_d12 (Nat.le_of_ble_eq_true rfl) ?_
  refine jn_iconst (pc := 14) 1 kRO_common_d14 (by decide) ?_
  refine jj_istore (pc := 15) kRO_common_d15 (Nat.le_of_ble_eq_true rfl) ?_
  show jj G kRO_common (d + 8) Q rc rs 17 [some (.ref o), some (.int (nI (x))), some (.int (nI (y))), some (.int (nI (T))), some (.int (nI (x))), some (.int (nI (y))), some (.int (nI (1))), none, none, none, none, none, none] [] M
  refine jn_iconst (pc := 17) 0 kRO_common_d17 (by decide) ?_
  refine jj_istore (pc := 18) kRO_common_d18 (Nat.le_of_ble_eq_true rfl) ?_
  refine jn_iconst (pc := 20) 0 kRO_common_d20 (by decide) ?_
  refine jj_istore (pc := 21) kRO_common_d21 (Nat.le_of_ble_eq_true rfl) ?_
  show jj G kRO_common (d + 8) Q rc rs 23 [some (.ref o), some (.int (nI (x))), some (.int (nI (y))), some (.int (nI (T))), some (.int (nI (x))), some (.int (nI (y))), some (.int (nI (1))), some (.int (nI (0))), some (.int (nI (0))), none, none, none, none] [] M
  refine jn_iconst (pc := 23) 1 kRO_common_d23 (by decide) ?_
  refine jj_istore (pc := 24) kRO_common_d24 (Nat.le_of_ble_eq_true rfl) ?_
  show jj G kRO_common (d + 8) Q rc rs 26 [some (.ref o), some (.int (nI (x))), some (.int (nI (y))), some (.int (nI (T))), some (.int (nI (x))), some (.int (nI (y))), some (.int (nI (1))), some (.int (nI (0))), some (.int (nI (0))), some (.int (nI (1))), none, none, none] [] M
  exact loop (zx.toNat + 1) zp zx 1 0 0 1 (by omega) (BZ_start hx0) x y 1 0 0 1 none none none M D T v2 rc rs hC hS (Nat.le_refl _) (by omega) (fun _ _ => rfl) (FF.refl M f) hx hy h1 (RI.zero hz146 (by omega)) (RI.zero hz146 (by omega)) h1
end RO5
