/-! ===== Fractions: whole, divide, multiply, add, less (printed by wip/gen/rf3.py) ===== -/
theorem rat_den1 {q : Rat} (h : q.den = 1) : q = (q.num : Rat) := Rat.ext rfl h
theorem rat_frac (q : Rat) : q = Rat.divInt q.num q.den := (Rat.num_divInt_den q).symm
theorem rat_add1 {p q : Rat} (hp : p.den = 1) (hq : q.den = 1) : (p + q).num = p.num + q.num ∧ (p + q).den = 1 := by
  have e : p + q = ((p.num + q.num : Int) : Rat) := by rw [Rat.intCast_add, ← rat_den1 hp, ← rat_den1 hq]
  rw [e]; exact ⟨rfl, rfl⟩
theorem rat_sub1 {p q : Rat} (hp : p.den = 1) (hq : q.den = 1) : (p - q).num = p.num - q.num ∧ (p - q).den = 1 := by
  have e : p - q = ((p.num - q.num : Int) : Rat) := by rw [Rat.intCast_sub, ← rat_den1 hp, ← rat_den1 hq]
  rw [e]; exact ⟨rfl, rfl⟩
theorem rat_mul1 {p q : Rat} (hp : p.den = 1) (hq : q.den = 1) : (p * q).num = p.num * q.num ∧ (p * q).den = 1 := by
  have e : p * q = ((p.num * q.num : Int) : Rat) := by rw [Rat.intCast_mul, ← rat_den1 hp, ← rat_den1 hq]
  rw [e]; exact ⟨rfl, rfl⟩
theorem den_ne (q : Rat) : (q.den : Int) ≠ 0 := by have := q.den_nz; omega
theorem rat_addF (p q : Rat) : p + q = Rat.divInt (p.num * q.den + q.num * p.den) (p.den * q.den) := by
  conv => lhs; rw [rat_frac p, rat_frac q]
  exact Rat.divInt_add_divInt _ _ (den_ne p) (den_ne q)
theorem rat_subF (p q : Rat) : p - q = Rat.divInt (p.num * q.den - q.num * p.den) (p.den * q.den) := by
  conv => lhs; rw [rat_frac p, rat_frac q]
  exact Rat.divInt_sub_divInt _ _ (den_ne p) (den_ne q)
theorem rat_mulF (p q : Rat) : p * q = Rat.divInt (p.num * q.num) (p.den * q.den) := by
  conv => lhs; rw [rat_frac p, rat_frac q]
  exact Rat.divInt_mul_divInt _ _
theorem rat_divF {p q : Rat} (hq : q ≠ 0) : p / q = Rat.divInt (p.num * q.den) (p.den * q.num) := by
  have hn : q.num ≠ 0 := fun e => hq (Rat.num_eq_zero.mp e)
  have e1 : q⁻¹ = Rat.divInt q.den q.num := by
    conv => lhs; rw [rat_frac q]
    exact Rat.inv_divInt ..
  rw [Rat.div_def, e1]
  conv => lhs; lhs; rw [rat_frac p]
  exact Rat.divInt_mul_divInt _ _
theorem RI.uniq {D : List Int32} {T T' p : Nat} {z z' : Int} (h : RI D T p z) (h' : RI D T' p z') (hT : T < 2 ^ 31) (hT' : T' < 2 ^ 31) : z = z' := by
  have n1 := h.neg hT
  have n2 := h'.neg hT'
  obtain ⟨r, h1, h2, h3, h4, h5⟩ := h
  obtain ⟨s, g1, g2, g3, g4, g5⟩ := h'
  have e : r = s := nI_inj (by omega) (by omega) ((nI_iabs (by omega) h2).symm.trans (nI_iabs (by omega) g2))
  subst e
  rw [h5] at g5
  have : z < 0 ↔ z' < 0 := n1.symm.trans n2
  omega
theorem FQ.den1 {D : List Int32} {T p : Nat} {q : Rat} (h : FQ D T p 1 q) (h1 : RI D T 1 1) (hT : T < 2 ^ 31) : q.den = 1 := by
  have := h.2.1.uniq h1 hT hT
  omega
section RF3
variable {G : jg} {d : Nat} {Q : jq} {rc rs : Nat} {M : mheap} {f w vv pv : Nat} {v2 : Value} {D V P : List Int32} {t : Nat} {up low rk : Int32}
theorem rf_whole {T cm X Z : Nat} {x : Int64} (hG : kG G) (hC : FC M f w vv pv V t up low P rk) (hS : RS M w D T v2 cm X Z rc rs) (h1 : RI D T 1 1) (hT3 : 3 ≤ T) (hT : T + 7 ≤ cm) (K : FRK Q M f w vv pv D V t P rk cm X Z T (T + 6) (x.toInt : Rat)) : jj G kRF_whole (d + 4) Q rc rs 0 (jj_ent [.ref f, .long x] 3) [] M := by
  obtain ⟨hW101, hB101, hTD101, hz101, hp101⟩ := id hS
  obtain ⟨dd101, hw101, hd101⟩ := id hW101
  have hcap101 := hB101.cap
  show jj G kRF_whole (d + 4) Q rc rs 0 [some (.ref f), some (.long (x)), none] [] M
  refine jj_aload_n (pc := 0) kRF_whole_d0 rfl ?_
  refine jj_aload_n (pc := 1) kRF_whole_d1 rfl ?_
  refine jj_getf (pc := 2) kRF_whole_d2 (kfRF_w hG) hC.1 rfl ?_
  refine jj_lload_n (pc := 5) kRF_whole_d5 rfl ?_
  refine jj_callV (pc := 6) (b := w) (As := [.long (x)]) kRF_whole_d6 (kvRF_RW_of hG) (kG_cl hG rfl) rfl hw101 rfl rfl rfl (Nat.le_of_ble_eq_true rfl) (Nat.le_of_ble_eq_true rfl) (jj_bare0 rfl) ?_
  refine ri_of hG hS (by omega) (fun M102 D102 T102 p102 rc102 rs102 hS102 t102 u102 ho102 hf102 hI102 => ?_)
  show jj G kRF_whole (d + 4) Q rc102 rs102 9 [some (.ref f), some (.long (x)), none] [.int (nI (p102)), .ref f] M102
  have hC102 := hC.rf hf102
  have hF102 := (FF.refl M f).trans (FF.ofRF hC hf102)
  obtain ⟨hW103, hB103, hTD103, hz103, hp103⟩ := id hS102
  obtain ⟨dd103, hw103, hd103⟩ := id hW103
  have hcap103 := hB103.cap
  refine jj_putf (pc := 9) kRF_whole_d9 (kpRF_up hG) hC102.1 (by rfl) rfl ?_
  refine jn_gen (fun M104 hM105 => ?_)
  have hC106 : FC M104 f w vv pv V (t) (nI (p102)) (low) P (rk) := by rw [hM105]; exact hC102.putf
  have hF106 : FF M M104 f := by rw [hM105]; exact hF102.trans (FF.putf hC102)
  have hS106 : RS M104 w D102 (T102) v2 cm X Z rc102 rs102 := by rw [hM105]; exact hS102.other hC102.2.2.2.2.1
  obtain ⟨hW107, hB107, hTD107, hz107, hp107⟩ := id hS106
  obtain ⟨dd107, hw107, hd107⟩ := id hW107
  have hcap107 := hB107.cap
  refine jj_aload_n (pc := 12) kRF_whole_d12 rfl ?_
  refine jn_iconst (pc := 13) 1 kRF_whole_d13 (by decide) ?_
  refine jj_putf (pc := 14) kRF_whole_d14 (kpRF_low hG) hC106.1 (by rfl) rfl ?_
  refine jn_gen (fun M108 hM109 => ?_)
  have hC110 : FC M108 f w vv pv V (t) (nI (p102)) (nI (1)) P (rk) := by rw [hM109]; exact hC106.putf
  have hF110 : FF M M108 f := by rw [hM109]; exact hF106.trans (FF.putf hC106)
  have hS110 : RS M108 w D102 (T102) v2 cm X Z rc102 rs102 := by rw [hM109]; exact hS106.other hC106.2.2.2.2.1
  obtain ⟨hW111, hB111, hTD111, hz111, hp111⟩ := id hS110
  obtain ⟨dd111, hw111, hd111⟩ := id hW111
  have hcap111 := hB111.cap
  exact jj_vret (pc := 17) kRF_whole_d17 rfl (K _ _ _ p102 1 _ _ _ hC110 hS110 (by omega) (by omega) (fun i hi => by rw [ho102 i (by omega)]) hF110 ⟨hI102, h1.congr t102.1 ho102, fun _ => rfl⟩ (by omega) (Or.inl rfl))
theorem rf_divide {u l x y T a c cm X Z : Nat} {p q : Rat} (hG : kG G) (hC : FC M f w vv pv V t up low P rk) (hS : RS M w D T v2 cm X Z rc rs) (h1 : RI D T 1 1) (hT3 : 3 ≤ T) (hp : FQ D T u l p) (hq : FQ D T x y q) (hq0 : q ≠ 0) (bp : ZB a p.num) (ep : ZB a (p.den : Int)) (bq : ZB a q.num) (eq_ : ZB a (q.den : Int)) (ha : 2 * a ≤ 9000) (hcn : ZB c (p / q).num) (hcd : ZB c ((p / q).den : Int)) (hT : T + 20000 + 50 * a + 300 ≤ cm) (K : FRK Q M f w vv pv D V t P rk cm X Z T (T + 2 * c + 2) (p / q)) : jj G kRF_divide (d + 9) Q rc rs 0 (jj_ent [.ref f, .int (nI u), .int (nI l), .int (nI x), .int (nI y)] 6) [] M := by
  have hn : q.num ≠ 0 := fun e => hq0 (Rat.num_eq_zero.mp e)
  rw [rat_divF hq0] at hcn hcd K
  have dp := den_ne p
  have z1 : ZB (a + a) (p.num * (q.den : Int)) := bp.mul eq_
  have z2 : ZB (a + a) ((p.den : Int) * q.num) := ep.mul bq
  obtain ⟨hu, hl, -⟩ := hp
  obtain ⟨hx, hy, -⟩ := hq
  obtain ⟨hW112, hB112, hTD112, hz112, hp112⟩ := id hS
  obtain ⟨dd112, hw112, hd112⟩ := id hW112
  have hcap112 := hB112.cap
  show jj G kRF_divide (d + 9) Q rc rs 0 [some (.ref f), some (.int (nI (u))), some (.int (nI (l))), some (.int (nI (x))), some (.int (nI (y))), none] [] M
  refine jj_aload_n (pc := 0) kRF_divide_d0 rfl ?_
  refine jj_getf (pc := 1) kRF_divide_d1 (kfRF_w hG) hC.1 rfl ?_
  refine jj_getf (pc := 4) kRF_divide_d4 (kfRF_RW_top hG) hw112 rfl ?_
  refine jj_istore (pc := 7) kRF_divide_d7 (Nat.le_of_ble_eq_true rfl) ?_
  refine jj_aload_n (pc := 9) kRF_divide_d9 rfl ?_
  refine jj_iload (pc := 10) kRF_divide_d10 rfl ?_
  refine jj_aload_n (pc := 12) kRF_divide_d12 rfl ?_
  refine jj_getf (pc := 13) kRF_divide_d13 (kfRF_w hG) hC.1 rfl ?_
  refine jj_iload_n (pc := 16) kRF_divide_d16 rfl ?_
  refine jj_iload (pc := 17) kRF_divide_d17 rfl ?_
  refine jj_callV (pc := 19) (b := w) (As := [.int (nI (u)), .int (nI (y))]) kRF_divide_d19 (kvRF_RW_multiply hG) (kG_cl hG rfl) rfl hw112 rfl rfl rfl (Nat.le_of_ble_eq_true rfl) (Nat.le_of_ble_eq_true rfl) (jj_bare0 rfl) ?_
  refine rs_multiply (a := a) (b := a) hG hS hu hy bp eq_ (by omega) (fun M113 D113 T113 p113 rc113 rs113 hS113 t113 u113 ho113 hf113 hI113 => ?_)
  show jj G kRF_divide (d + 9) Q rc113 rs113 22 [some (.ref f), some (.int (nI (u))), some (.int (nI (l))), some (.int (nI (x))), some (.int (nI (y))), some (.int (nI (T)))] [.int (nI (p113)), .int (nI (T)), .ref f] M113
  have hC113 := hC.rf hf113
  have hF113 := (FF.refl M f).trans (FF.ofRF hC hf113)
  have hu_113 := hu.congr t113.1 ho113
  have hl_113 := hl.congr t113.1 ho113
  have hx_113 := hx.congr t113.1 ho113
  have hy_113 := hy.congr t113.1 ho113
  obtain ⟨hW114, hB114, hTD114, hz114, hp114⟩ := id hS113
  obtain ⟨dd114, hw114, hd114⟩ := id hW114
  have hcap114 := hB114.cap
  refine jj_aload_n (pc := 22) kRF_divide_d22 rfl ?_
  refine jj_getf (pc := 23) kRF_divide_d23 (kfRF_w hG) hC113.1 rfl ?_
  refine jj_iload_n (pc := 26) kRF_divide_d26 rfl ?_
  refine jj_iload_n (pc := 27) kRF_divide_d27 rfl ?_
  refine jj_callV (pc := 28) (b := w) (As := [.int (nI (l)), .int (nI (x))]) kRF_divide_d28 (kvRF_RW_multiply hG) (kG_cl hG rfl) rfl hw114 rfl rfl rfl (Nat.le_of_ble_eq_true rfl) (Nat.le_of_ble_eq_true rfl) (jj_bare0 rfl) ?_
  refine rs_multiply (a := a) (b := a) hG hS113 hl_113 hx_113 ep bq (by omega) (fun M115 D115 T115 p115 rc115 rs115 hS115 t115 u115 ho115 hf115 hI115 => ?_)
  show jj G kRF_divide (d + 9) Q rc115 rs115 31 [some (.ref f), some (.int (nI (u))), some (.int (nI (l))), some (.int (nI (x))), some (.int (nI (y))), some (.int (nI (T)))] [.int (nI (p115)), .int (nI (p113)), .int (nI (T)), .ref f] M115
  have hC115 := hC113.rf hf115
  have hF115 := hF113.trans (FF.ofRF hC113 hf115)
  have hu_115 := hu_113.congr t115.1 ho115
  have hl_115 := hl_113.congr t115.1 ho115
  have hx_115 := hx_113.congr t115.1 ho115
  have hy_115 := hy_113.congr t115.1 ho115
  have hI113_115 := hI113.congr t115.1 ho115
  obtain ⟨hW116, hB116, hTD116, hz116, hp116⟩ := id hS115
  obtain ⟨dd116, hw116, hd116⟩ := id hW116
  have hcap116 := hB116.cap
  have hs : ∀ i, i < T → D115.getD i 0 = D.getD i 0 := fun i hi => by rw [ho115 i (by omega), ho113 i hi]
  refine jj_callV (pc := 31) (b := f) (As := [.int (nI (T)), .int (nI (p113)), .int (nI (p115))]) kRF_divide_d31 (kvRF_RF_reduce hG) (kG_cl hG rfl) rfl hC115.1 rfl rfl rfl (Nat.le_of_ble_eq_true rfl) (Nat.le_of_ble_eq_true rfl) (jj_bare0 rfl) ?_
  refine rf_reduce (a := a + a) (c := c) hG hC115 hS115 hI113_115 hI115 (Int.mul_ne_zero dp hn) z1 z2 (by omega) hT3 (by omega) (h1.congr (Nat.le_refl _) hs) hcn hcd (by omega) (fun M5 D5 T5 p5 l5 v5 rc5 rs5 hC5 hS5 t5 u5 ho5 hF5 hq5 g1 g2 => ?_)
  show jj G kRF_divide (d + 9) Q rc5 rs5 34 [some (.ref f), some (.int (nI (u))), some (.int (nI (l))), some (.int (nI (x))), some (.int (nI (y))), some (.int (nI (T)))] [] M5
  exact jj_vret (pc := 34) kRF_divide_d34 rfl (K _ _ _ _ _ _ _ _ hC5 hS5 (by omega) (by omega) (fun i hi => by rw [ho5 i hi, hs i hi]) (hF115.trans hF5) hq5 g1 g2)
theorem rf_multiply {u l x y T a c cm X Z : Nat} {p q : Rat} (hG : kG G) (hC : FC M f w vv pv V t up low P rk) (hS : RS M w D T v2 cm X Z rc rs) (h1 : RI D T 1 1) (hT3 : 3 ≤ T) (hp : FQ D T u l p) (hq : FQ D T x y q) (bp : ZB a p.num) (ep : ZB a (p.den : Int)) (bq : ZB a q.num) (eq_ : ZB a (q.den : Int)) (ha : 2 * a ≤ 9000) (hcn : ZB c (p * q).num) (hcd : ZB c ((p * q).den : Int)) (hT : T + 20000 + 50 * a + 300 ≤ cm) (K : FRK Q M f w vv pv D V t P rk cm X Z T (T + 2 * c + 2 * a + 4) (p * q)) : jj G kRF_multiply (d + 9) Q rc rs 0 (jj_ent [.ref f, .int (nI u), .int (nI l), .int (nI x), .int (nI y)] 6) [] M := by
  have dp := den_ne p
  have dq := den_ne q
  have z1 : ZB (a + a) (p.num * q.num) := bp.mul bq
  have z2 : ZB (a + a) ((p.den : Int) * (q.den : Int)) := ep.mul eq_
  obtain ⟨hu, hl, hl1⟩ := id hp
  obtain ⟨hx, hy, hy1⟩ := id hq
  have ll := hl.lt
  have ly := hy.lt
  obtain ⟨hW117, hB117, hTD117, hz117, hp117⟩ := id hS
  obtain ⟨dd117, hw117, hd117⟩ := id hW117
  have hcap117 := hB117.cap
  show jj G kRF_multiply (d + 9) Q rc rs 0 [some (.ref f), some (.int (nI (u))), some (.int (nI (l))), some (.int (nI (x))), some (.int (nI (y))), none] [] M
  refine jj_aload_n (pc := 0) kRF_multiply_d0 rfl ?_
  refine jj_getf (pc := 1) kRF_multiply_d1 (kfRF_w hG) hC.1 rfl ?_
  refine jj_getf (pc := 4) kRF_multiply_d4 (kfRF_RW_top hG) hw117 rfl ?_
  refine jj_istore (pc := 7) kRF_multiply_d7 (Nat.le_of_ble_eq_true rfl) ?_
  have k39 : jj G kRF_multiply (d + 9) Q rc rs 39 [some (.ref f), some (.int (nI (u))), some (.int (nI (l))), some (.int (nI (x))), some (.int (nI (y))), some (.int (nI (T)))] [] M := by
    rw [rat_mulF] at hcn hcd K
    refine jj_aload_n (pc := 39) kRF_multiply_d39 rfl ?_
    refine jj_iload (pc := 40) kRF_multiply_d40 rfl ?_
    refine jj_aload_n (pc := 42) kRF_multiply_d42 rfl ?_
    refine jj_getf (pc := 43) kRF_multiply_d43 (kfRF_w hG) hC.1 rfl ?_
    refine jj_iload_n (pc := 46) kRF_multiply_d46 rfl ?_
    refine jj_iload_n (pc := 47) kRF_multiply_d47 rfl ?_
    refine jj_callV (pc := 48) (b := w) (As := [.int (nI (u)), .int (nI (x))]) kRF_multiply_d48 (kvRF_RW_multiply hG) (kG_cl hG rfl) rfl hw117 rfl rfl rfl (Nat.le_of_ble_eq_true rfl) (Nat.le_of_ble_eq_true rfl) (jj_bare0 rfl) ?_
    refine rs_multiply (a := a) (b := a) hG hS hu hx bp bq (by omega) (fun M118 D118 T118 p118 rc118 rs118 hS118 t118 u118 ho118 hf118 hI118 => ?_)
    show jj G kRF_multiply (d + 9) Q rc118 rs118 51 [some (.ref f), some (.int (nI (u))), some (.int (nI (l))), some (.int (nI (x))), some (.int (nI (y))), some (.int (nI (T)))] [.int (nI (p118)), .int (nI (T)), .ref f] M118
    have hC118 := hC.rf hf118
    have hF118 := (FF.refl M f).trans (FF.ofRF hC hf118)
    have hu_118 := hu.congr t118.1 ho118
    have hl_118 := hl.congr t118.1 ho118
    have hx_118 := hx.congr t118.1 ho118
    have hy_118 := hy.congr t118.1 ho118
    obtain ⟨hW119, hB119, hTD119, hz119, hp119⟩ := id hS118
    obtain ⟨dd119, hw119, hd119⟩ := id hW119
    have hcap119 := hB119.cap
    refine jj_aload_n (pc := 51) kRF_multiply_d51 rfl ?_
    refine jj_getf (pc := 52) kRF_multiply_d52 (kfRF_w hG) hC118.1 rfl ?_
    refine jj_iload_n (pc := 55) kRF_multiply_d55 rfl ?_
    refine jj_iload (pc := 56) kRF_multiply_d56 rfl ?_
    refine jj_callV (pc := 58) (b := w) (As := [.int (nI (l)), .int (nI (y))]) kRF_multiply_d58 (kvRF_RW_multiply hG) (kG_cl hG rfl) rfl hw119 rfl rfl rfl (Nat.le_of_ble_eq_true rfl) (Nat.le_of_ble_eq_true rfl) (jj_bare0 rfl) ?_
    refine rs_multiply (a := a) (b := a) hG hS118 hl_118 hy_118 ep eq_ (by omega) (fun M120 D120 T120 p120 rc120 rs120 hS120 t120 u120 ho120 hf120 hI120 => ?_)
    show jj G kRF_multiply (d + 9) Q rc120 rs120 61 [some (.ref f), some (.int (nI (u))), some (.int (nI (l))), some (.int (nI (x))), some (.int (nI (y))), some (.int (nI (T)))] [.int (nI (p120)), .int (nI (p118)), .int (nI (T)), .ref f] M120
    have hC120 := hC118.rf hf120
    have hF120 := hF118.trans (FF.ofRF hC118 hf120)
    have hu_120 := hu_118.congr t120.1 ho120
    have hl_120 := hl_118.congr t120.1 ho120
    have hx_120 := hx_118.congr t120.1 ho120
    have hy_120 := hy_118.congr t120.1 ho120
    have hI118_120 := hI118.congr t120.1 ho120
    obtain ⟨hW121, hB121, hTD121, hz121, hp121⟩ := id hS120
    obtain ⟨dd121, hw121, hd121⟩ := id hW121
    have hcap121 := hB121.cap
    have hs : ∀ i, i < T → D120.getD i 0 = D.getD i 0 := fun i hi => by rw [ho120 i (by omega), ho118 i hi]
    refine jj_callV (pc := 61) (b := f) (As := [.int (nI (T)), .int (nI (p118)), .int (nI (p120))]) kRF_multiply_d61 (kvRF_RF_reduce hG) (kG_cl hG rfl) rfl hC120.1 rfl rfl rfl (Nat.le_of_ble_eq_true rfl) (Nat.le_of_ble_eq_true rfl) (jj_bare0 rfl) ?_
    refine rf_reduce (a := a + a) (c := c) hG hC120 hS120 hI118_120 hI120 (Int.mul_ne_zero dp dq) z1 z2 (by omega) hT3 (by omega) (h1.congr (Nat.le_refl _) hs) hcn hcd (by omega) (fun M5 D5 T5 p5 l5 v5 rc5 rs5 hC5 hS5 t5 u5 ho5 hF5 hq5 g1 g2 => ?_)
    show jj G kRF_multiply (d + 9) Q rc5 rs5 64 [some (.ref f), some (.int (nI (u))), some (.int (nI (l))), some (.int (nI (x))), some (.int (nI (y))), some (.int (nI (T)))] [] M5
    exact jj_vret (pc := 64) kRF_multiply_d64 rfl (K _ _ _ _ _ _ _ _ hC5 hS5 (by omega) (by omega) (fun i hi => by rw [ho5 i hi, hs i hi]) (hF120.trans hF5) hq5 g1 g2)
  refine jj_iload_n (pc := 9) kRF_multiply_d9 rfl ?_
  refine jn_iconst (pc := 10) 1 kRF_multiply_d10 (by decide) ?_
  refine jn_icmp_ne (pc := 11) (tgt := 39) kRF_multiply_d11 (by decide) (by omega) (by omega) (fun c1 => ?_) (fun c1 => ?_)
  · skip
    exact k39
  · skip
    refine jj_iload (pc := 14) kRF_multiply_d14 rfl ?_
    refine jn_iconst (pc := 16) 1 kRF_multiply_d16 (by decide) ?_
    refine jn_icmp_ne (pc := 17) (tgt := 39) kRF_multiply_d17 (by decide) (by omega) (by omega) (fun c2 => ?_) (fun c2 => ?_)
    · skip
      exact k39
    · skip
      subst c1 c2
      obtain ⟨e1, e2⟩ := rat_mul1 (hp.den1 h1 (by omega)) (hq.den1 h1 (by omega))
      refine jj_aload_n (pc := 20) kRF_multiply_d20 rfl ?_
      refine jj_aload_n (pc := 21) kRF_multiply_d21 rfl ?_
      refine jj_getf (pc := 22) kRF_multiply_d22 (kfRF_w hG) hC.1 rfl ?_
      refine jj_iload_n (pc := 25) kRF_multiply_d25 rfl ?_
      refine jj_iload_n (pc := 26) kRF_multiply_d26 rfl ?_
      refine jj_callV (pc := 27) (b := w) (As := [.int (nI (u)), .int (nI (x))]) kRF_multiply_d27 (kvRF_RW_multiply hG) (kG_cl hG rfl) rfl hw117 rfl rfl rfl (Nat.le_of_ble_eq_true rfl) (Nat.le_of_ble_eq_true rfl) (jj_bare0 rfl) ?_
      refine rs_multiply (a := a) (b := a) hG hS hu hx bp bq (by omega) (fun M122 D122 T122 p122 rc122 rs122 hS122 t122 u122 ho122 hf122 hI122 => ?_)
      show jj G kRF_multiply (d + 9) Q rc122 rs122 30 [some (.ref f), some (.int (nI (u))), some (.int (nI (1))), some (.int (nI (x))), some (.int (nI (1))), some (.int (nI (T)))] [.int (nI (p122)), .ref f] M122
      have hC122 := hC.rf hf122
      have hF122 := (FF.refl M f).trans (FF.ofRF hC hf122)
      have hu_122 := hu.congr t122.1 ho122
      have hl_122 := hl.congr t122.1 ho122
      have hx_122 := hx.congr t122.1 ho122
      have hy_122 := hy.congr t122.1 ho122
      obtain ⟨hW123, hB123, hTD123, hz123, hp123⟩ := id hS122
      obtain ⟨dd123, hw123, hd123⟩ := id hW123
      have hcap123 := hB123.cap
      refine jj_putf (pc := 30) kRF_multiply_d30 (kpRF_up hG) hC122.1 (by rfl) rfl ?_
      refine jn_gen (fun M124 hM125 => ?_)
      have hC126 : FC M124 f w vv pv V (t) (nI (p122)) (low) P (rk) := by rw [hM125]; exact hC122.putf
      have hF126 : FF M M124 f := by rw [hM125]; exact hF122.trans (FF.putf hC122)
      have hS126 : RS M124 w D122 (T122) v2 cm X Z rc122 rs122 := by rw [hM125]; exact hS122.other hC122.2.2.2.2.1
      obtain ⟨hW127, hB127, hTD127, hz127, hp127⟩ := id hS126
      obtain ⟨dd127, hw127, hd127⟩ := id hW127
      have hcap127 := hB127.cap
      refine jj_aload_n (pc := 33) kRF_multiply_d33 rfl ?_
      refine jn_iconst (pc := 34) 1 kRF_multiply_d34 (by decide) ?_
      refine jj_putf (pc := 35) kRF_multiply_d35 (kpRF_low hG) hC126.1 (by rfl) rfl ?_
      refine jn_gen (fun M128 hM129 => ?_)
      have hC130 : FC M128 f w vv pv V (t) (nI (p122)) (nI (1)) P (rk) := by rw [hM129]; exact hC126.putf
      have hF130 : FF M M128 f := by rw [hM129]; exact hF126.trans (FF.putf hC126)
      have hS130 : RS M128 w D122 (T122) v2 cm X Z rc122 rs122 := by rw [hM129]; exact hS126.other hC126.2.2.2.2.1
      obtain ⟨hW131, hB131, hTD131, hz131, hp131⟩ := id hS130
      obtain ⟨dd131, hw131, hd131⟩ := id hW131
      have hcap131 := hB131.cap
      exact jj_vret (pc := 38) kRF_multiply_d38 rfl (K _ _ _ p122 1 _ _ _ hC130 hS130 (by omega) (by omega) (fun i hi => by rw [ho122 i (by omega)]) hF130 ⟨by rw [e1]; exact hI122, by rw [e2]; exact h1.congr t122.1 ho122, fun _ => rfl⟩ (by omega) (Or.inl rfl))
theorem rf_add {u l x y T a c cm X Z : Nat} {z : Int32} {p q r : Rat} (hG : kG G) (hC : FC M f w vv pv V t up low P rk) (hS : RS M w D T v2 cm X Z rc rs) (h1 : RI D T 1 1) (hT3 : 3 ≤ T) (hp : FQ D T u l p) (hq : FQ D T x y q) (bp : ZB a p.num) (ep : ZB a (p.den : Int)) (bq : ZB a q.num) (eq_ : ZB a (q.den : Int)) (ha : 2 * a + 1 ≤ 9000) (hr : (z = 0 ∧ r = p + q) ∨ (¬ z = 0 ∧ r = p - q)) (hcn : ZB c (r).num) (hcd : ZB c ((r).den : Int)) (hT : T + 20000 + 60 * a + 300 ≤ cm) (K : FRK Q M f w vv pv D V t P rk cm X Z T (T + 2 * c + a + 4) r) : jj G kRF_add (d + 9) Q rc rs 0 (jj_ent [.ref f, .int (nI u), .int (nI l), .int (nI x), .int (nI y), .int z] 9) [] M := by
  have dp := den_ne p
  have dq := den_ne q
  have z1 : ZB (a + a) (p.num * (q.den : Int)) := bp.mul eq_
  have z3 : ZB (a + a) (q.num * (p.den : Int)) := bq.mul ep
  have z2 : ZB (a + a + 1) ((p.den : Int) * (q.den : Int)) := (ep.mul eq_).mono (by omega)
  have z4 := z1.add z3
  have z5 := z1.sub z3
  obtain ⟨hu, hl, hl1⟩ := id hp
  obtain ⟨hx, hy, hy1⟩ := id hq
  have ll := hl.lt
  have ly := hy.lt
  obtain ⟨hW132, hB132, hTD132, hz132, hp132⟩ := id hS
  obtain ⟨dd132, hw132, hd132⟩ := id hW132
  have hcap132 := hB132.cap
  show jj G kRF_add (d + 9) Q rc rs 0 [some (.ref f), some (.int (nI (u))), some (.int (nI (l))), some (.int (nI (x))), some (.int (nI (y))), some (.int (z)), none, none, none] [] M
  refine jj_aload_n (pc := 0) kRF_add_d0 rfl ?_
  refine jj_getf (pc := 1) kRF_add_d1 (kfRF_w hG) hC.1 rfl ?_
  refine jj_getf (pc := 4) kRF_add_d4 (kfRF_RW_top hG) hw132 rfl ?_
  refine jj_istore (pc := 7) kRF_add_d7 (Nat.le_of_ble_eq_true rfl) ?_
  have k56 : jj G kRF_add (d + 9) Q rc rs 56 [some (.ref f), some (.int (nI (u))), some (.int (nI (l))), some (.int (nI (x))), some (.int (nI (y))), some (.int (z)), some (.int (nI (T))), none, none] [] M := by
    refine jj_aload_n (pc := 56) kRF_add_d56 rfl ?_
    refine jj_getf (pc := 57) kRF_add_d57 (kfRF_w hG) hC.1 rfl ?_
    refine jj_iload_n (pc := 60) kRF_add_d60 rfl ?_
    refine jj_iload (pc := 61) kRF_add_d61 rfl ?_
    refine jj_callV (pc := 63) (b := w) (As := [.int (nI (u)), .int (nI (y))]) kRF_add_d63 (kvRF_RW_multiply hG) (kG_cl hG rfl) rfl hw132 rfl rfl rfl (Nat.le_of_ble_eq_true rfl) (Nat.le_of_ble_eq_true rfl) (jj_bare0 rfl) ?_
    refine rs_multiply (a := a) (b := a) hG hS hu hy bp eq_ (by omega) (fun M133 D133 T133 p133 rc133 rs133 hS133 t133 u133 ho133 hf133 hI133 => ?_)
    show jj G kRF_add (d + 9) Q rc133 rs133 66 [some (.ref f), some (.int (nI (u))), some (.int (nI (l))), some (.int (nI (x))), some (.int (nI (y))), some (.int (z)), some (.int (nI (T))), none, none] [.int (nI (p133))] M133
    have hC133 := hC.rf hf133
    have hF133 := (FF.refl M f).trans (FF.ofRF hC hf133)
    have hu_133 := hu.congr t133.1 ho133
    have hl_133 := hl.congr t133.1 ho133
    have hx_133 := hx.congr t133.1 ho133
    have hy_133 := hy.congr t133.1 ho133
    obtain ⟨hW134, hB134, hTD134, hz134, hp134⟩ := id hS133
    obtain ⟨dd134, hw134, hd134⟩ := id hW134
    have hcap134 := hB134.cap
    refine jj_istore (pc := 66) kRF_add_d66 (Nat.le_of_ble_eq_true rfl) ?_
    refine jj_aload_n (pc := 68) kRF_add_d68 rfl ?_
    refine jj_getf (pc := 69) kRF_add_d69 (kfRF_w hG) hC133.1 rfl ?_
    refine jj_iload_n (pc := 72) kRF_add_d72 rfl ?_
    refine jj_iload_n (pc := 73) kRF_add_d73 rfl ?_
    refine jj_callV (pc := 74) (b := w) (As := [.int (nI (x)), .int (nI (l))]) kRF_add_d74 (kvRF_RW_multiply hG) (kG_cl hG rfl) rfl hw134 rfl rfl rfl (Nat.le_of_ble_eq_true rfl) (Nat.le_of_ble_eq_true rfl) (jj_bare0 rfl) ?_
    refine rs_multiply (a := a) (b := a) hG hS133 hx_133 hl_133 bq ep (by omega) (fun M135 D135 T135 p135 rc135 rs135 hS135 t135 u135 ho135 hf135 hI135 => ?_)
    show jj G kRF_add (d + 9) Q rc135 rs135 77 [some (.ref f), some (.int (nI (u))), some (.int (nI (l))), some (.int (nI (x))), some (.int (nI (y))), some (.int (z)), some (.int (nI (T))), some (.int (nI (p133))), none] [.int (nI (p135))] M135
    have hC135 := hC133.rf hf135
    have hF135 := hF133.trans (FF.ofRF hC133 hf135)
    have hu_135 := hu_133.congr t135.1 ho135
    have hl_135 := hl_133.congr t135.1 ho135
    have hx_135 := hx_133.congr t135.1 ho135
    have hy_135 := hy_133.congr t135.1 ho135
    have hI133_135 := hI133.congr t135.1 ho135
    obtain ⟨hW136, hB136, hTD136, hz136, hp136⟩ := id hS135
    obtain ⟨dd136, hw136, hd136⟩ := id hW136
    have hcap136 := hB136.cap
    refine jj_istore (pc := 77) kRF_add_d77 (Nat.le_of_ble_eq_true rfl) ?_
    refine jj_aload_n (pc := 79) kRF_add_d79 rfl ?_
    refine jj_iload (pc := 80) kRF_add_d80 rfl ?_
    refine jj_iload (pc := 82) kRF_add_d82 rfl ?_
    refine jj_if_eq (pc := 84) (tgt := 101) kRF_add_d84 (by decide) (fun cz => ?_) (fun cz => ?_)
    · skip
      have hr1 : r = p + q := by
        rcases hr with ⟨h, e⟩ | ⟨h, e⟩
        · exact e
        · exact absurd cz h
      subst hr1
      rw [rat_addF] at hcn hcd K
      refine jj_aload_n (pc := 101) kRF_add_d101 rfl ?_
      refine jj_getf (pc := 102) kRF_add_d102 (kfRF_w hG) hC135.1 rfl ?_
      refine jj_iload (pc := 105) kRF_add_d105 rfl ?_
      refine jj_iload (pc := 107) kRF_add_d107 rfl ?_
      refine jj_callV (pc := 109) (b := w) (As := [.int (nI (p133)), .int (nI (p135))]) kRF_add_d109 (kvRF_RW_add hG) (kG_cl hG rfl) rfl hw136 rfl rfl rfl (Nat.le_of_ble_eq_true rfl) (Nat.le_of_ble_eq_true rfl) (jj_bare0 rfl) ?_
      refine rs_add (a := a + a) hG hS135 hI133_135 hI135 z1 z3 (by omega) (fun M137 D137 T137 p137 rc137 rs137 hS137 t137 u137 ho137 hf137 hI137 => ?_)
      show jj G kRF_add (d + 9) Q rc137 rs137 112 [some (.ref f), some (.int (nI (u))), some (.int (nI (l))), some (.int (nI (x))), some (.int (nI (y))), some (.int (z)), some (.int (nI (T))), some (.int (nI (p133))), some (.int (nI (p135)))] [.int (nI (p137)), .int (nI (T)), .ref f] M137
      have hC137 := hC135.rf hf137
      have hF137 := hF135.trans (FF.ofRF hC135 hf137)
      have hu_137 := hu_135.congr t137.1 ho137
      have hl_137 := hl_135.congr t137.1 ho137
      have hx_137 := hx_135.congr t137.1 ho137
      have hy_137 := hy_135.congr t137.1 ho137
      have hI133_137 := hI133_135.congr t137.1 ho137
      have hI135_137 := hI135.congr t137.1 ho137
      obtain ⟨hW138, hB138, hTD138, hz138, hp138⟩ := id hS137
      obtain ⟨dd138, hw138, hd138⟩ := id hW138
      have hcap138 := hB138.cap
      refine jj_aload_n (pc := 112) kRF_add_d112 rfl ?_
      refine jj_getf (pc := 113) kRF_add_d113 (kfRF_w hG) hC137.1 rfl ?_
      refine jj_iload_n (pc := 116) kRF_add_d116 rfl ?_
      refine jj_iload (pc := 117) kRF_add_d117 rfl ?_
      refine jj_callV (pc := 119) (b := w) (As := [.int (nI (l)), .int (nI (y))]) kRF_add_d119 (kvRF_RW_multiply hG) (kG_cl hG rfl) rfl hw138 rfl rfl rfl (Nat.le_of_ble_eq_true rfl) (Nat.le_of_ble_eq_true rfl) (jj_bare0 rfl) ?_
      refine rs_multiply (a := a) (b := a) hG hS137 hl_137 hy_137 ep eq_ (by omega) (fun M139 D139 T139 p139 rc139 rs139 hS139 t139 u139 ho139 hf139 hI139 => ?_)
      show jj G kRF_add (d + 9) Q rc139 rs139 122 [some (.ref f), some (.int (nI (u))), some (.int (nI (l))), some (.int (nI (x))), some (.int (nI (y))), some (.int (z)), some (.int (nI (T))), some (.int (nI (p133))), some (.int (nI (p135)))] [.int (nI (p139)), .int (nI (p137)), .int (nI (T)), .ref f] M139
      have hC139 := hC137.rf hf139
      have hF139 := hF137.trans (FF.ofRF hC137 hf139)
      have hu_139 := hu_137.congr t139.1 ho139
      have hl_139 := hl_137.congr t139.1 ho139
      have hx_139 := hx_137.congr t139.1 ho139
      have hy_139 := hy_137.congr t139.1 ho139
      have hI133_139 := hI133_137.congr t139.1 ho139
      have hI135_139 := hI135_137.congr t139.1 ho139
      have hI137_139 := hI137.congr t139.1 ho139
      obtain ⟨hW140, hB140, hTD140, hz140, hp140⟩ := id hS139
      obtain ⟨dd140, hw140, hd140⟩ := id hW140
      have hcap140 := hB140.cap
      have hs : ∀ i, i < T → D139.getD i 0 = D.getD i 0 := (fun i hi => by rw [ho139 i (by omega), ho137 i (by omega), ho135 i (by omega), ho133 i (by omega)])
      refine jj_callV (pc := 122) (b := f) (As := [.int (nI (T)), .int (nI (p137)), .int (nI (p139))]) kRF_add_d122 (kvRF_RF_reduce hG) (kG_cl hG rfl) rfl hC139.1 rfl rfl rfl (Nat.le_of_ble_eq_true rfl) (Nat.le_of_ble_eq_true rfl) (jj_bare0 rfl) ?_
      refine rf_reduce (a := a + a + 1) (c := c) hG hC139 hS139 hI137_139 hI139 (Int.mul_ne_zero dp dq) z4 z2 (by omega) hT3 (by omega) (h1.congr (Nat.le_refl _) hs) hcn hcd (by omega) (fun M5 D5 T5 p5 l5 v5 rc5 rs5 hC5 hS5 t5 u5 ho5 hF5 hq5 g1 g2 => ?_)
      show jj G kRF_add (d + 9) Q rc5 rs5 125 [some (.ref f), some (.int (nI (u))), some (.int (nI (l))), some (.int (nI (x))), some (.int (nI (y))), some (.int (z)), some (.int (nI (T))), some (.int (nI (p133))), some (.int (nI (p135)))] [] M5
      exact jj_vret (pc := 125) kRF_add_d125 rfl (K _ _ _ _ _ _ _ _ hC5 hS5 (by omega) (by omega) (fun i hi => by rw [ho5 i hi, hs i hi]) (hF139.trans hF5) hq5 g1 g2)
    · skip
      have hr1 : r = p - q := by
        rcases hr with ⟨h, e⟩ | ⟨h, e⟩
        · exact absurd h cz
        · exact e
      subst hr1
      rw [rat_subF] at hcn hcd K
      refine jj_aload_n (pc := 87) kRF_add_d87 rfl ?_
      refine jj_getf (pc := 88) kRF_add_d88 (kfRF_w hG) hC135.1 rfl ?_
      refine jj_iload (pc := 91) kRF_add_d91 rfl ?_
      refine jj_iload (pc := 93) kRF_add_d93 rfl ?_
      refine jj_callV (pc := 95) (b := w) (As := [.int (nI (p133)), .int (nI (p135))]) kRF_add_d95 (kvRF_RW_subtract hG) (kG_cl hG rfl) rfl hw136 rfl rfl rfl (Nat.le_of_ble_eq_true rfl) (Nat.le_of_ble_eq_true rfl) (jj_bare0 rfl) ?_
      refine rs_subtract (a := a + a) hG hS135 hI133_135 hI135 z1 z3 (by omega) (fun M141 D141 T141 p141 rc141 rs141 hS141 t141 u141 ho141 hf141 hI141 => ?_)
      show jj G kRF_add (d + 9) Q rc141 rs141 98 [some (.ref f), some (.int (nI (u))), some (.int (nI (l))), some (.int (nI (x))), some (.int (nI (y))), some (.int (z)), some (.int (nI (T))), some (.int (nI (p133))), some (.int (nI (p135)))] [.int (nI (p141)), .int (nI (T)), .ref f] M141
      have hC141 := hC135.rf hf141
      have hF141 := hF135.trans (FF.ofRF hC135 hf141)
      have hu_141 := hu_135.congr t141.1 ho141
      have hl_141 := hl_135.congr t141.1 ho141
      have hx_141 := hx_135.congr t141.1 ho141
      have hy_141 := hy_135.congr t141.1 ho141
      have hI133_141 := hI133_135.congr t141.1 ho141
      have hI135_141 := hI135.congr t141.1 ho141
      obtain ⟨hW142, hB142, hTD142, hz142, hp142⟩ := id hS141
      obtain ⟨dd142, hw142, hd142⟩ := id hW142
      have hcap142 := hB142.cap
      refine jj_goto (pc := 98) (tgt := 112) kRF_add_d98 (by decide) ?_
      refine jj_aload_n (pc := 112) kRF_add_d112 rfl ?_
      refine jj_getf (pc := 113) kRF_add_d113 (kfRF_w hG) hC141.1 rfl ?_
      refine jj_iload_n (pc := 116) kRF_add_d116 rfl ?_
      refine jj_iload (pc := 117) kRF_add_d117 rfl ?_
      refine jj_callV (pc := 119) (b := w) (As := [.int (nI (l)), .int (nI (y))]) kRF_add_d119 (kvRF_RW_multiply hG) (kG_cl hG rfl) rfl hw142 rfl rfl rfl (Nat.le_of_ble_eq_true rfl) (Nat.le_of_ble_eq_true rfl) (jj_bare0 rfl) ?_
      refine rs_multiply (a := a) (b := a) hG hS141 hl_141 hy_141 ep eq_ (by omega) (fun M143 D143 T143 p143 rc143 rs143 hS143 t143 u143 ho143 hf143 hI143 => ?_)
      show jj G kRF_add (d + 9) Q rc143 rs143 122 [some (.ref f), some (.int (nI (u))), some (.int (nI (l))), some (.int (nI (x))), some (.int (nI (y))), some (.int (z)), some (.int (nI (T))), some (.int (nI (p133))), some (.int (nI (p135)))] [.int (nI (p143)), .int (nI (p141)), .int (nI (T)), .ref f] M143
      have hC143 := hC141.rf hf143
      have hF143 := hF141.trans (FF.ofRF hC141 hf143)
      have hu_143 := hu_141.congr t143.1 ho143
      have hl_143 := hl_141.congr t143.1 ho143
      have hx_143 := hx_141.congr t143.1 ho143
      have hy_143 := hy_141.congr t143.1 ho143
      have hI133_143 := hI133_141.congr t143.1 ho143
      have hI135_143 := hI135_141.congr t143.1 ho143
      have hI141_143 := hI141.congr t143.1 ho143
      obtain ⟨hW144, hB144, hTD144, hz144, hp144⟩ := id hS143
      obtain ⟨dd144, hw144, hd144⟩ := id hW144
      have hcap144 := hB144.cap
      have hs : ∀ i, i < T → D143.getD i 0 = D.getD i 0 := (fun i hi => by rw [ho143 i (by omega), ho141 i (by omega), ho135 i (by omega), ho133 i (by omega)])
      refine jj_callV (pc := 122) (b := f) (As := [.int (nI (T)), .int (nI (p141)), .int (nI (p143))]) kRF_add_d122 (kvRF_RF_reduce hG) (kG_cl hG rfl) rfl hC143.1 rfl rfl rfl (Nat.le_of_ble_eq_true rfl) (Nat.le_of_ble_eq_true rfl) (jj_bare0 rfl) ?_
      refine rf_reduce (a := a + a + 1) (c := c) hG hC143 hS143 hI141_143 hI143 (Int.mul_ne_zero dp dq) z5 z2 (by omega) hT3 (by omega) (h1.congr (Nat.le_refl _) hs) hcn hcd (by omega) (fun M5 D5 T5 p5 l5 v5 rc5 rs5 hC5 hS5 t5 u5 ho5 hF5 hq5 g1 g2 => ?_)
      show jj G kRF_add (d + 9) Q rc5 rs5 125 [some (.ref f), some (.int (nI (u))), some (.int (nI (l))), some (.int (nI (x))), some (.int (nI (y))), some (.int (z)), some (.int (nI (T))), some (.int (nI (p133))), some (.int (nI (p135)))] [] M5
      exact jj_vret (pc := 125) kRF_add_d125 rfl (K _ _ _ _ _ _ _ _ hC5 hS5 (by omega) (by omega) (fun i hi => by rw [ho5 i hi, hs i hi]) (hF143.trans hF5) hq5 g1 g2)
  refine jj_iload_n (pc := 9) kRF_add_d9 rfl ?_
  refine jn_iconst (pc := 10) 1 kRF_add_d10 (by decide) ?_
  refine jn_icmp_ne (pc := 11) (tgt := 56) kRF_add_d11 (by decide) (by omega) (by omega) (fun c1 => ?_) (fun c1 => ?_)
  · skip
    exact k56
  · skip
    refine jj_iload (pc := 14) kRF_add_d14 rfl ?_
    refine jn_iconst (pc := 16) 1 kRF_add_d16 (by decide) ?_
    refine jn_icmp_ne (pc := 17) (tgt := 56) kRF_add_d17 (by decide) (by omega) (by omega) (fun c2 => ?_) (fun c2 => ?_)
    · skip
      exact k56
    · skip
      subst c1 c2
      have d1 := hp.den1 h1 (by omega)
      have d2 := hq.den1 h1 (by omega)
      refine jj_aload_n (pc := 20) kRF_add_d20 rfl ?_
      refine jj_iload (pc := 21) kRF_add_d21 rfl ?_
      refine jj_if_eq (pc := 23) (tgt := 38) kRF_add_d23 (by decide) (fun cz => ?_) (fun cz => ?_)
      · skip
        have hr1 : r = p + q := by
          rcases hr with ⟨h, e⟩ | ⟨h, e⟩
          · exact e
          · exact absurd cz h
        subst hr1
        obtain ⟨e1, e2⟩ := rat_add1 d1 d2
        refine jj_aload_n (pc := 38) kRF_add_d38 rfl ?_
        refine jj_getf (pc := 39) kRF_add_d39 (kfRF_w hG) hC.1 rfl ?_
        refine jj_iload_n (pc := 42) kRF_add_d42 rfl ?_
        refine jj_iload_n (pc := 43) kRF_add_d43 rfl ?_
        refine jj_callV (pc := 44) (b := w) (As := [.int (nI (u)), .int (nI (x))]) kRF_add_d44 (kvRF_RW_add hG) (kG_cl hG rfl) rfl hw132 rfl rfl rfl (Nat.le_of_ble_eq_true rfl) (Nat.le_of_ble_eq_true rfl) (jj_bare0 rfl) ?_
        refine rs_add (a := a) hG hS hu hx bp bq (by omega) (fun M145 D145 T145 p145 rc145 rs145 hS145 t145 u145 ho145 hf145 hI145 => ?_)
        show jj G kRF_add (d + 9) Q rc145 rs145 47 [some (.ref f), some (.int (nI (u))), some (.int (nI (1))), some (.int (nI (x))), some (.int (nI (1))), some (.int (z)), some (.int (nI (T))), none, none] [.int (nI (p145)), .ref f] M145
        have hC145 := hC.rf hf145
        have hF145 := (FF.refl M f).trans (FF.ofRF hC hf145)
        have hu_145 := hu.congr t145.1 ho145
        have hl_145 := hl.congr t145.1 ho145
        have hx_145 := hx.congr t145.1 ho145
        have hy_145 := hy.congr t145.1 ho145
        obtain ⟨hW146, hB146, hTD146, hz146, hp146⟩ := id hS145
        obtain ⟨dd146, hw146, hd146⟩ := id hW146
        have hcap146 := hB146.cap
        refine jj_putf (pc := 47) kRF_add_d47 (kpRF_up hG) hC145.1 (by rfl) rfl ?_
        refine jn_gen (fun M147 hM148 => ?_)
        have hC149 : FC M147 f w vv pv V (t) (nI (p145)) (low) P (rk) := by rw [hM148]; exact hC145.putf
        have hF149 : FF M M147 f := by rw [hM148]; exact hF145.trans (FF.putf hC145)
        have hS149 : RS M147 w D145 (T145) v2 cm X Z rc145 rs145 := by rw [hM148]; exact hS145.other hC145.2.2.2.2.1
        obtain ⟨hW150, hB150, hTD150, hz150, hp150⟩ := id hS149
        obtain ⟨dd150, hw150, hd150⟩ := id hW150
        have hcap150 := hB150.cap
        refine jj_aload_n (pc := 50) kRF_add_d50 rfl ?_
        refine jn_iconst (pc := 51) 1 kRF_add_d51 (by decide) ?_
        refine jj_putf (pc := 52) kRF_add_d52 (kpRF_low hG) hC149.1 (by rfl) rfl ?_
        refine jn_gen (fun M151 hM152 => ?_)
        have hC153 : FC M151 f w vv pv V (t) (nI (p145)) (nI (1)) P (rk) := by rw [hM152]; exact hC149.putf
        have hF153 : FF M M151 f := by rw [hM152]; exact hF149.trans (FF.putf hC149)
        have hS153 : RS M151 w D145 (T145) v2 cm X Z rc145 rs145 := by rw [hM152]; exact hS149.other hC149.2.2.2.2.1
        obtain ⟨hW154, hB154, hTD154, hz154, hp154⟩ := id hS153
        obtain ⟨dd154, hw154, hd154⟩ := id hW154
        have hcap154 := hB154.cap
        exact jj_vret (pc := 55) kRF_add_d55 rfl (K _ _ _ p145 1 _ _ _ hC153 hS153 (by omega) (by omega) (fun i hi => by rw [ho145 i (by omega)]) hF153 ⟨by rw [e1]; exact hI145, by rw [e2]; exact h1.congr t145.1 ho145, fun _ => rfl⟩ (by omega) (Or.inl rfl))
      · skip
        have hr1 : r = p - q := by
          rcases hr with ⟨h, e⟩ | ⟨h, e⟩
          · exact absurd h cz
          · exact e
        subst hr1
        obtain ⟨e1, e2⟩ := rat_sub1 d1 d2
        refine jj_aload_n (pc := 26) kRF_add_d26 rfl ?_
        refine jj_getf (pc := 27) kRF_add_d27 (kfRF_w hG) hC.1 rfl ?_
        refine jj_iload_n (pc := 30) kRF_add_d30 rfl ?_
        refine jj_iload_n (pc := 31) kRF_add_d31 rfl ?_
        refine jj_callV (pc := 32) (b := w) (As := [.int (nI (u)), .int (nI (x))]) kRF_add_d32 (kvRF_RW_subtract hG) (kG_cl hG rfl) rfl hw132 rfl rfl rfl (Nat.le_of_ble_eq_true rfl) (Nat.le_of_ble_eq_true rfl) (jj_bare0 rfl) ?_
        refine rs_subtract (a := a) hG hS hu hx bp bq (by omega) (fun M155 D155 T155 p155 rc155 rs155 hS155 t155 u155 ho155 hf155 hI155 => ?_)
        show jj G kRF_add (d + 9) Q rc155 rs155 35 [some (.ref f), some (.int (nI (u))), some (.int (nI (1))), some (.int (nI (x))), some (.int (nI (1))), some (.int (z)), some (.int (nI (T))), none, none] [.int (nI (p155)), .ref f] M155
        have hC155 := hC.rf hf155
        have hF155 := (FF.refl M f).trans (FF.ofRF hC hf155)
        have hu_155 := hu.congr t155.1 ho155
        have hl_155 := hl.congr t155.1 ho155
        have hx_155 := hx.congr t155.1 ho155
        have hy_155 := hy.congr t155.1 ho155
        obtain ⟨hW156, hB156, hTD156, hz156, hp156⟩ := id hS155
        obtain ⟨dd156, hw156, hd156⟩ := id hW156
        have hcap156 := hB156.cap
        refine jj_goto (pc := 35) (tgt := 47) kRF_add_d35 (by decide) ?_
        refine jj_putf (pc := 47) kRF_add_d47 (kpRF_up hG) hC155.1 (by rfl) rfl ?_
        refine jn_gen (fun M157 hM158 => ?_)
        have hC159 : FC M157 f w vv pv V (t) (nI (p155)) (low) P (rk) := by rw [hM158]; exact hC155.putf
        have hF159 : FF M M157 f := by rw [hM158]; exact hF155.trans (FF.putf hC155)
        have hS159 : RS M157 w D155 (T155) v2 cm X Z rc155 rs155 := by rw [hM158]; exact hS155.other hC155.2.2.2.2.1
        obtain ⟨hW160, hB160, hTD160, hz160, hp160⟩ := id hS159
        obtain ⟨dd160, hw160, hd160⟩ := id hW160
        have hcap160 := hB160.cap
        refine jj_aload_n (pc := 50) kRF_add_d50 rfl ?_
        refine jn_iconst (pc := 51) 1 kRF_add_d51 (by decide) ?_
        refine jj_putf (pc := 52) kRF_add_d52 (kpRF_low hG) hC159.1 (by rfl) rfl ?_
        refine jn_gen (fun M161 hM162 => ?_)
        have hC163 : FC M161 f w vv pv V (t) (nI (p155)) (nI (1)) P (rk) := by rw [hM162]; exact hC159.putf
        have hF163 : FF M M161 f := by rw [hM162]; exact hF159.trans (FF.putf hC159)
        have hS163 : RS M161 w D155 (T155) v2 cm X Z rc155 rs155 := by rw [hM162]; exact hS159.other hC159.2.2.2.2.1
        obtain ⟨hW164, hB164, hTD164, hz164, hp164⟩ := id hS163
        obtain ⟨dd164, hw164, hd164⟩ := id hW164
        have hcap164 := hB164.cap
        exact jj_vret (pc := 55) kRF_add_d55 rfl (K _ _ _ p155 1 _ _ _ hC163 hS163 (by omega) (by omega) (fun i hi => by rw [ho155 i (by omega)]) hF163 ⟨by rw [e1]; exact hI155, by rw [e2]; exact h1.congr t155.1 ho155, fun _ => rfl⟩ (by omega) (Or.inl rfl))
end RF3
