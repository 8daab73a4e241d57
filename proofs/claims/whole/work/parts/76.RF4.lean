/-! ===== Fractions.less (printed by wip/gen/rf4.py) ===== -/
theorem rat_lessF (p q r : Rat) : r - p * q = Rat.divInt (r.num * ((p.den : Int) * q.den) - p.num * q.num * r.den) (r.den * ((p.den : Int) * q.den)) := by
  conv => lhs; rw [rat_mulF p q, rat_frac r]
  exact Rat.divInt_sub_divInt _ _ (den_ne r) (Int.mul_ne_zero (den_ne p) (den_ne q))
theorem rat_less1 {p q r : Rat} (hd : (p.den : Int) * (q.den : Int) = 1) (hr : r.den = 1) : (r - p * q).num = r.num - p.num * q.num ∧ (r - p * q).den = 1 := by
  have h : p.den * q.den = 1 := by
    have : ((p.den * q.den : Nat) : Int) = 1 := by rw [Int.natCast_mul]; exact hd
    omega
  have hp : p.den = 1 := Nat.eq_one_of_mul_eq_one_right h
  have hq : q.den = 1 := Nat.eq_one_of_mul_eq_one_left h
  obtain ⟨m1, m2⟩ := rat_mul1 hp hq
  obtain ⟨s1, s2⟩ := rat_sub1 hr m2
  exact ⟨by rw [s1, m1], s2⟩
section RF4
variable {G : jg} {d : Nat} {Q : jq} {rc rs : Nat} {M : mheap} {f w vv pv : Nat} {v2 : Value} {D V P : List Int32} {t : Nat} {up low rk : Int32}
theorem rf_less {u l x y s e T a c cm X Z : Nat} {p q r : Rat} (hG : kG G) (hC : FC M f w vv pv V t up low P rk) (hS : RS M w D T v2 cm X Z rc rs) (h1 : RI D T 1 1) (hT3 : 3 ≤ T) (hp : FQ D T u l p) (hq : FQ D T x y q) (hr : FQ D T s e r) (bp : ZB a p.num) (ep : ZB a (p.den : Int)) (bq : ZB a q.num) (eq_ : ZB a (q.den : Int)) (br : ZB a r.num) (er : ZB a (r.den : Int)) (ha : 3 * a + 1 ≤ 9000) (hcn : ZB c (r - p * q).num) (hcd : ZB c ((r - p * q).den : Int)) (hT : T + 20000 + 90 * a + 400 ≤ cm) (K : FRK Q M f w vv pv D V t P rk cm X Z T (T + 2 * c + 2) (r - p * q)) : jj G kRF_less (d + 9) Q rc rs 0 (jj_ent [.ref f, .int (nI u), .int (nI l), .int (nI x), .int (nI y), .int (nI s), .int (nI e)] 10) [] M := by
  have dp := den_ne p
  have dq := den_ne q
  have dr := den_ne r
  have zp : ZB (a + a) (p.num * q.num) := bp.mul bq
  have zq : ZB (a + a) ((p.den : Int) * (q.den : Int)) := ep.mul eq_
  have z1 : ZB (a + a + a) (r.num * ((p.den : Int) * (q.den : Int))) := (br.mul zq).mono (by omega)
  have z2 : ZB (a + a + a) (p.num * q.num * (r.den : Int)) := zp.mul er
  have z3 : ZB (a + a + a + 1) ((r.den : Int) * ((p.den : Int) * (q.den : Int))) := (er.mul zq).mono (by omega)
  have z4 := z1.sub z2
  have zs : ZB (a + a + 1) (r.num - p.num * q.num) := (br.mono (by omega)).sub zp
  obtain ⟨hu, hl, hl1⟩ := id hp
  obtain ⟨hx, hy, hy1⟩ := id hq
  obtain ⟨hs, he, he1⟩ := id hr
  have ll := hl.lt
  have ly := hy.lt
  have le := he.lt
  obtain ⟨hW101, hB101, hTD101, hz101, hp101⟩ := id hS
  obtain ⟨dd101, hw101, hd101⟩ := id hW101
  have hcap101 := hB101.cap
  show jj G kRF_less (d + 9) Q rc rs 0 [some (.ref f), some (.int (nI (u))), some (.int (nI (l))), some (.int (nI (x))), some (.int (nI (y))), some (.int (nI (s))), some (.int (nI (e))), none, none, none] [] M
  have k50 : ∀ (pp pq : Nat) (M9 : mheap) (D9 : List Int32) (T9 : Nat) (v9 : Value) (rc9 rs9 : Nat), FC M9 f w vv pv V (t) (up) (low) P (rk) → RS M9 w D9 T9 v9 cm X Z rc9 rs9 → T ≤ T9 → T9 ≤ T + 4 * a + 10 → (∀ i, i < T → D9.getD i 0 = D.getD i 0) → FF M M9 f → RI D9 T9 pp (p.num * q.num) → RI D9 T9 pq ((p.den : Int) * (q.den : Int)) → jj G kRF_less (d + 9) Q rc9 rs9 50 [some (.ref f), some (.int (nI (u))), some (.int (nI (l))), some (.int (nI (x))), some (.int (nI (y))), some (.int (nI (s))), some (.int (nI (e))), some (.int (nI (T))), some (.int (nI (pp))), none] [.int (nI (pq))] M9 := by
    intro pp pq M9 D9 T9 v9 rc9 rs9 hC9 hS9 t9 u9 ho9 hF9 hN9x0 hN9x1
    obtain ⟨hW102, hB102, hTD102, hz102, hp102⟩ := id hS9
    obtain ⟨dd102, hw102, hd102⟩ := id hW102
    have hcap102 := hB102.cap
    have h19 : RI D9 T9 1 1 := h1.congr t9 ho9
    have hs9 := hs.congr t9 ho9
    have he9 := he.congr t9 ho9
    have lpq := hN9x1.lt
    refine jj_istore (pc := 50) kRF_less_d50 (Nat.le_of_ble_eq_true rfl) ?_
    have k101 : jj G kRF_less (d + 9) Q rc9 rs9 101 [some (.ref f), some (.int (nI (u))), some (.int (nI (l))), some (.int (nI (x))), some (.int (nI (y))), some (.int (nI (s))), some (.int (nI (e))), some (.int (nI (T))), some (.int (nI (pp))), some (.int (nI (pq)))] [] M9 := by
      rw [rat_lessF] at hcn hcd K
      refine jj_aload_n (pc := 101) kRF_less_d101 rfl ?_
      refine jj_iload (pc := 102) kRF_less_d102 rfl ?_
      refine jj_aload_n (pc := 104) kRF_less_d104 rfl ?_
      refine jj_getf (pc := 105) kRF_less_d105 (kfRF_w hG) hC9.1 rfl ?_
      refine jj_aload_n (pc := 108) kRF_less_d108 rfl ?_
      refine jj_getf (pc := 109) kRF_less_d109 (kfRF_w hG) hC9.1 rfl ?_
      refine jj_iload (pc := 112) kRF_less_d112 rfl ?_
      refine jj_iload (pc := 114) kRF_less_d114 rfl ?_
      refine jj_callV (pc := 116) (b := w) (As := [.int (nI (s)), .int (nI (pq))]) kRF_less_d116 (kvRF_RW_multiply hG) (kG_cl hG rfl) rfl hw102 rfl rfl rfl (Nat.le_of_ble_eq_true rfl) (Nat.le_of_ble_eq_true rfl) (jj_bare0 rfl) ?_
      refine rs_multiply (a := a) (b := a + a) hG hS9 hs9 hN9x1 br zq (by omega) (fun M103 D103 T103 p103 rc103 rs103 hS103 t103 u103 ho103 hf103 hI103 => ?_)
      show jj G kRF_less (d + 9) Q rc103 rs103 119 [some (.ref f), some (.int (nI (u))), some (.int (nI (l))), some (.int (nI (x))), some (.int (nI (y))), some (.int (nI (s))), some (.int (nI (e))), some (.int (nI (T))), some (.int (nI (pp))), some (.int (nI (pq)))] [.int (nI (p103)), .ref w, .int (nI (T)), .ref f] M103
      have hC103 := hC9.rf hf103
      have hF103 := hF9.trans (FF.ofRF hC9 hf103)
      have hN9x0_103 := hN9x0.congr t103.1 ho103
      have hN9x1_103 := hN9x1.congr t103.1 ho103
      have hs9_103 := hs9.congr t103.1 ho103
      have he9_103 := he9.congr t103.1 ho103
      obtain ⟨hW104, hB104, hTD104, hz104, hp104⟩ := id hS103
      obtain ⟨dd104, hw104, hd104⟩ := id hW104
      have hcap104 := hB104.cap
      refine jj_aload_n (pc := 119) kRF_less_d119 rfl ?_
      refine jj_getf (pc := 120) kRF_less_d120 (kfRF_w hG) hC103.1 rfl ?_
      refine jj_iload (pc := 123) kRF_less_d123 rfl ?_
      refine jj_iload (pc := 125) kRF_less_d125 rfl ?_
      refine jj_callV (pc := 127) (b := w) (As := [.int (nI (pp)), .int (nI (e))]) kRF_less_d127 (kvRF_RW_multiply hG) (kG_cl hG rfl) rfl hw104 rfl rfl rfl (Nat.le_of_ble_eq_true rfl) (Nat.le_of_ble_eq_true rfl) (jj_bare0 rfl) ?_
      refine rs_multiply (a := a + a) (b := a) hG hS103 hN9x0_103 he9_103 zp er (by omega) (fun M105 D105 T105 p105 rc105 rs105 hS105 t105 u105 ho105 hf105 hI105 => ?_)
      show jj G kRF_less (d + 9) Q rc105 rs105 130 [some (.ref f), some (.int (nI (u))), some (.int (nI (l))), some (.int (nI (x))), some (.int (nI (y))), some (.int (nI (s))), some (.int (nI (e))), some (.int (nI (T))), some (.int (nI (pp))), some (.int (nI (pq)))] [.int (nI (p105)), .int (nI (p103)), .ref w, .int (nI (T)), .ref f] M105
      have hC105 := hC103.rf hf105
      have hF105 := hF103.trans (FF.ofRF hC103 hf105)
      have hN9x0_105 := hN9x0_103.congr t105.1 ho105
      have hN9x1_105 := hN9x1_103.congr t105.1 ho105
      have hs9_105 := hs9_103.congr t105.1 ho105
      have he9_105 := he9_103.congr t105.1 ho105
      have hI103_105 := hI103.congr t105.1 ho105
      obtain ⟨hW106, hB106, hTD106, hz106, hp106⟩ := id hS105
      obtain ⟨dd106, hw106, hd106⟩ := id hW106
      have hcap106 := hB106.cap
      refine jj_callV (pc := 130) (b := w) (As := [.int (nI (p103)), .int (nI (p105))]) kRF_less_d130 (kvRF_RW_subtract hG) (kG_cl hG rfl) rfl hw106 rfl rfl rfl (Nat.le_of_ble_eq_true rfl) (Nat.le_of_ble_eq_true rfl) (jj_bare0 rfl) ?_
      refine rs_subtract (a := a + a + a) hG hS105 hI103_105 hI105 z1 z2 (by omega) (fun M107 D107 T107 p107 rc107 rs107 hS107 t107 u107 ho107 hf107 hI107 => ?_)
      show jj G kRF_less (d + 9) Q rc107 rs107 133 [some (.ref f), some (.int (nI (u))), some (.int (nI (l))), some (.int (nI (x))), some (.int (nI (y))), some (.int (nI (s))), some (.int (nI (e))), some (.int (nI (T))), some (.int (nI (pp))), some (.int (nI (pq)))] [.int (nI (p107)), .int (nI (T)), .ref f] M107
      have hC107 := hC105.rf hf107
      have hF107 := hF105.trans (FF.ofRF hC105 hf107)
      have hN9x0_107 := hN9x0_105.congr t107.1 ho107
      have hN9x1_107 := hN9x1_105.congr t107.1 ho107
      have hs9_107 := hs9_105.congr t107.1 ho107
      have he9_107 := he9_105.congr t107.1 ho107
      have hI103_107 := hI103_105.congr t107.1 ho107
      have hI105_107 := hI105.congr t107.1 ho107
      obtain ⟨hW108, hB108, hTD108, hz108, hp108⟩ := id hS107
      obtain ⟨dd108, hw108, hd108⟩ := id hW108
      have hcap108 := hB108.cap
      refine jj_aload_n (pc := 133) kRF_less_d133 rfl ?_
      refine jj_getf (pc := 134) kRF_less_d134 (kfRF_w hG) hC107.1 rfl ?_
      refine jj_iload (pc := 137) kRF_less_d137 rfl ?_
      refine jj_iload (pc := 139) kRF_less_d139 rfl ?_
      refine jj_callV (pc := 141) (b := w) (As := [.int (nI (e)), .int (nI (pq))]) kRF_less_d141 (kvRF_RW_multiply hG) (kG_cl hG rfl) rfl hw108 rfl rfl rfl (Nat.le_of_ble_eq_true rfl) (Nat.le_of_ble_eq_true rfl) (jj_bare0 rfl) ?_
      refine rs_multiply (a := a) (b := a + a) hG hS107 he9_107 hN9x1_107 er zq (by omega) (fun M109 D109 T109 p109 rc109 rs109 hS109 t109 u109 ho109 hf109 hI109 => ?_)
      show jj G kRF_less (d + 9) Q rc109 rs109 144 [some (.ref f), some (.int (nI (u))), some (.int (nI (l))), some (.int (nI (x))), some (.int (nI (y))), some (.int (nI (s))), some (.int (nI (e))), some (.int (nI (T))), some (.int (nI (pp))), some (.int (nI (pq)))] [.int (nI (p109)), .int (nI (p107)), .int (nI (T)), .ref f] M109
      have hC109 := hC107.rf hf109
      have hF109 := hF107.trans (FF.ofRF hC107 hf109)
      have hN9x0_109 := hN9x0_107.congr t109.1 ho109
      have hN9x1_109 := hN9x1_107.congr t109.1 ho109
      have hs9_109 := hs9_107.congr t109.1 ho109
      have he9_109 := he9_107.congr t109.1 ho109
      have hI103_109 := hI103_107.congr t109.1 ho109
      have hI105_109 := hI105_107.congr t109.1 ho109
      have hI107_109 := hI107.congr t109.1 ho109
      obtain ⟨hW110, hB110, hTD110, hz110, hp110⟩ := id hS109
      obtain ⟨dd110, hw110, hd110⟩ := id hW110
      have hcap110 := hB110.cap
      have hsm : ∀ i, i < T → D109.getD i 0 = D.getD i 0 := (fun i hi => by rw [ho109 i (by omega), ho107 i (by omega), ho105 i (by omega), ho103 i (by omega), ho9 i (by omega)])
      refine jj_callV (pc := 144) (b := f) (As := [.int (nI (T)), .int (nI (p107)), .int (nI (p109))]) kRF_less_d144 (kvRF_RF_reduce hG) (kG_cl hG rfl) rfl hC109.1 rfl rfl rfl (Nat.le_of_ble_eq_true rfl) (Nat.le_of_ble_eq_true rfl) (jj_bare0 rfl) ?_
      refine rf_reduce (a := a + a + a + 1) (c := c) hG hC109 hS109 hI107_109 hI109 (Int.mul_ne_zero dr (Int.mul_ne_zero dp dq)) z4 z3 (by omega) hT3 (by omega) (h1.congr (Nat.le_refl _) hsm) hcn hcd (by omega) (fun M5 D5 T5 p5 l5 v5 rc5 rs5 hC5 hS5 t5 u5 ho5 hF5 hq5 g1 g2 => ?_)
      show jj G kRF_less (d + 9) Q rc5 rs5 147 [some (.ref f), some (.int (nI (u))), some (.int (nI (l))), some (.int (nI (x))), some (.int (nI (y))), some (.int (nI (s))), some (.int (nI (e))), some (.int (nI (T))), some (.int (nI (pp))), some (.int (nI (pq)))] [] M5
      exact jj_vret (pc := 147) kRF_less_d147 rfl (K _ _ _ _ _ _ _ _ hC5 hS5 (by omega) (by omega) (fun i hi => by rw [ho5 i hi, hsm i hi]) (hF109.trans hF5) hq5 g1 g2)
    refine jj_iload (pc := 52) kRF_less_d52 rfl ?_
    refine jn_iconst (pc := 54) 1 kRF_less_d54 (by decide) ?_
    refine jn_icmp_ne (pc := 55) (tgt := 101) kRF_less_d55 (by decide) (by omega) (by omega) (fun c1 => ?_) (fun c1 => ?_)
    · skip
      exact k101
    · skip
      refine jj_iload (pc := 58) kRF_less_d58 rfl ?_
      refine jn_iconst (pc := 60) 1 kRF_less_d60 (by decide) ?_
      refine jn_icmp_ne (pc := 61) (tgt := 101) kRF_less_d61 (by decide) (by omega) (by omega) (fun c2 => ?_) (fun c2 => ?_)
      · skip
        exact k101
      · skip
        subst c1 c2
        have hd1 := hN9x1.uniq h19 (by omega) (by omega)
        obtain ⟨e1, e2⟩ := rat_less1 hd1 (hr.den1 h1 (by omega))
        refine jj_aload_n (pc := 64) kRF_less_d64 rfl ?_
        refine jj_aload_n (pc := 65) kRF_less_d65 rfl ?_
        refine jj_getf (pc := 66) kRF_less_d66 (kfRF_w hG) hC9.1 rfl ?_
        refine jj_aload_n (pc := 69) kRF_less_d69 rfl ?_
        refine jj_getf (pc := 70) kRF_less_d70 (kfRF_w hG) hC9.1 rfl ?_
        refine jj_aload_n (pc := 73) kRF_less_d73 rfl ?_
        refine jj_getf (pc := 74) kRF_less_d74 (kfRF_w hG) hC9.1 rfl ?_
        refine jj_iload (pc := 77) kRF_less_d77 rfl ?_
        refine jj_iload (pc := 79) kRF_less_d79 rfl ?_
        refine jj_callV (pc := 81) (b := w) (As := [.int (nI (s)), .int (nI (pp))]) kRF_less_d81 (kvRF_RW_subtract hG) (kG_cl hG rfl) rfl hw102 rfl rfl rfl (Nat.le_of_ble_eq_true rfl) (Nat.le_of_ble_eq_true rfl) (jj_bare0 rfl) ?_
        refine rs_subtract (a := a + a) hG hS9 hs9 hN9x0 (br.mono (by omega)) zp (by omega) (fun M111 D111 T111 p111 rc111 rs111 hS111 t111 u111 ho111 hf111 hI111 => ?_)
        show jj G kRF_less (d + 9) Q rc111 rs111 84 [some (.ref f), some (.int (nI (u))), some (.int (nI (l))), some (.int (nI (x))), some (.int (nI (y))), some (.int (nI (s))), some (.int (nI (1))), some (.int (nI (T))), some (.int (nI (pp))), some (.int (nI (1)))] [.int (nI (p111)), .ref w, .ref w, .ref f] M111
        have hC111 := hC9.rf hf111
        have hF111 := hF9.trans (FF.ofRF hC9 hf111)
        have hN9x0_111 := hN9x0.congr t111.1 ho111
        have hs9_111 := hs9.congr t111.1 ho111
        obtain ⟨hW112, hB112, hTD112, hz112, hp112⟩ := id hS111
        obtain ⟨dd112, hw112, hd112⟩ := id hW112
        have hcap112 := hB112.cap
        refine jj_callV (pc := 84) (b := w) (As := [.int (nI (p111))]) kRF_less_d84 (kvRF_RW_copy hG) (kG_cl hG rfl) rfl hw112 rfl rfl rfl (Nat.le_of_ble_eq_true rfl) (Nat.le_of_ble_eq_true rfl) (jj_bare0 rfl) ?_
        refine ri_copy (a := a + a + 1) hG hS111 hI111 zs (by omega) (fun M113 D113 T113 p113 rc113 rs113 hS113 t113 u113 ho113 hf113 hI113 => ?_)
        show jj G kRF_less (d + 9) Q rc113 rs113 87 [some (.ref f), some (.int (nI (u))), some (.int (nI (l))), some (.int (nI (x))), some (.int (nI (y))), some (.int (nI (s))), some (.int (nI (1))), some (.int (nI (T))), some (.int (nI (pp))), some (.int (nI (1)))] [.int (nI (p113)), .ref w, .ref f] M113
        have hC113 := hC111.rf hf113
        have hF113 := hF111.trans (FF.ofRF hC111 hf113)
        have hN9x0_113 := hN9x0_111.congr t113.1 ho113
        have hs9_113 := hs9_111.congr t113.1 ho113
        have hI111_113 := hI111.congr t113.1 ho113
        obtain ⟨hW114, hB114, hTD114, hz114, hp114⟩ := id hS113
        obtain ⟨dd114, hw114, hd114⟩ := id hW114
        have hcap114 := hB114.cap
        refine jj_iload (pc := 87) kRF_less_d87 rfl ?_
        have hz5 : ZB c (r.num - p.num * q.num) := by rw [← e1]; exact hcn
        refine jj_callV (pc := 89) (b := w) (As := [.int (nI (p113)), .int (nI (T))]) kRF_less_d89 (kvRF_RW_moved hG) (kG_cl hG rfl) rfl hw114 rfl rfl rfl (Nat.le_of_ble_eq_true rfl) (Nat.le_of_ble_eq_true rfl) (jj_bare0 rfl) ?_
        refine ri_moved (a := c) hG hS113 hI113 hTD114 (by omega) (by omega) (by omega) hz5 (fun M5 D5 T5 p5 hS5 hlen5 t5 u5 ho5 hf5 hI5 e7 e8 => ?_)
        show jj G kRF_less (d + 9) Q rc113 rs113 92 [some (.ref f), some (.int (nI (u))), some (.int (nI (l))), some (.int (nI (x))), some (.int (nI (y))), some (.int (nI (s))), some (.int (nI (1))), some (.int (nI (T))), some (.int (nI (pp))), some (.int (nI (1)))] [.int (nI (p5)), .ref f] M5
        have hloc := MVX.loc (⟨e7, e8⟩ : MVX D5 T T5 p5)
        clear e7 e8
        have hC5 := hC113.rf hf5
        have hF5 := hF113.trans (FF.ofRF hC113 hf5)
        have hsm : ∀ i, i < T → D5.getD i 0 = D.getD i 0 := fun i hi => by rw [ho5 i (by omega), ho113 i (by omega), ho111 i (by omega), ho9 i (by omega)]
        obtain ⟨hW115, hB115, hTD115, hz115, hp115⟩ := id hS5
        obtain ⟨dd115, hw115, hd115⟩ := id hW115
        have hcap115 := hB115.cap
        refine jj_putf (pc := 92) kRF_less_d92 (kpRF_up hG) hC5.1 (by rfl) rfl ?_
        refine jn_gen (fun M116 hM117 => ?_)
        have hC118 : FC M116 f w vv pv V (t) (nI (p5)) (low) P (rk) := by rw [hM117]; exact hC5.putf
        have hF118 : FF M M116 f := by rw [hM117]; exact hF5.trans (FF.putf hC5)
        have hS118 : RS M116 w D5 (T5) v9 cm X Z rc113 rs113 := by rw [hM117]; exact hS5.other hC5.2.2.2.2.1
        obtain ⟨hW119, hB119, hTD119, hz119, hp119⟩ := id hS118
        obtain ⟨dd119, hw119, hd119⟩ := id hW119
        have hcap119 := hB119.cap
        refine jj_aload_n (pc := 95) kRF_less_d95 rfl ?_
        refine jn_iconst (pc := 96) 1 kRF_less_d96 (by decide) ?_
        refine jj_putf (pc := 97) kRF_less_d97 (kpRF_low hG) hC118.1 (by rfl) rfl ?_
        refine jn_gen (fun M120 hM121 => ?_)
        have hC122 : FC M120 f w vv pv V (t) (nI (p5)) (nI (1)) P (rk) := by rw [hM121]; exact hC118.putf
        have hF122 : FF M M120 f := by rw [hM121]; exact hF118.trans (FF.putf hC118)
        have hS122 : RS M120 w D5 (T5) v9 cm X Z rc113 rs113 := by rw [hM121]; exact hS118.other hC118.2.2.2.2.1
        obtain ⟨hW123, hB123, hTD123, hz123, hp123⟩ := id hS122
        obtain ⟨dd123, hw123, hd123⟩ := id hW123
        have hcap123 := hB123.cap
        exact jj_vret (pc := 100) kRF_less_d100 rfl (K _ D5 T5 p5 1 _ _ _ hC122 hS122 (by omega) (by omega) hsm hF122 ⟨by rw [e1]; exact hI5, by rw [e2]; exact h1.congr (by omega) hsm, fun _ => rfl⟩ (by omega) (Or.inl rfl))
  refine jj_aload_n (pc := 0) kRF_less_d0 rfl ?_
  refine jj_getf (pc := 1) kRF_less_d1 (kfRF_w hG) hC.1 rfl ?_
  refine jj_getf (pc := 4) kRF_less_d4 (kfRF_RW_top hG) hw101 rfl ?_
  refine jj_istore (pc := 7) kRF_less_d7 (Nat.le_of_ble_eq_true rfl) ?_
  refine jj_aload_n (pc := 9) kRF_less_d9 rfl ?_
  refine jj_getf (pc := 10) kRF_less_d10 (kfRF_w hG) hC.1 rfl ?_
  refine jj_iload_n (pc := 13) kRF_less_d13 rfl ?_
  refine jj_iload_n (pc := 14) kRF_less_d14 rfl ?_
  refine jj_callV (pc := 15) (b := w) (As := [.int (nI (u)), .int (nI (x))]) kRF_less_d15 (kvRF_RW_multiply hG) (kG_cl hG rfl) rfl hw101 rfl rfl rfl (Nat.le_of_ble_eq_true rfl) (Nat.le_of_ble_eq_true rfl) (jj_bare0 rfl) ?_
  refine rs_multiply (a := a) (b := a) hG hS hu hx bp bq (by omega) (fun M124 D124 T124 p124 rc124 rs124 hS124 t124 u124 ho124 hf124 hI124 => ?_)
  show jj G kRF_less (d + 9) Q rc124 rs124 18 [some (.ref f), some (.int (nI (u))), some (.int (nI (l))), some (.int (nI (x))), some (.int (nI (y))), some (.int (nI (s))), some (.int (nI (e))), some (.int (nI (T))), none, none] [.int (nI (p124))] M124
  have hC124 := hC.rf hf124
  have hF124 := (FF.refl M f).trans (FF.ofRF hC hf124)
  have hu_124 := hu.congr t124.1 ho124
  have hl_124 := hl.congr t124.1 ho124
  have hx_124 := hx.congr t124.1 ho124
  have hy_124 := hy.congr t124.1 ho124
  have hs_124 := hs.congr t124.1 ho124
  have he_124 := he.congr t124.1 ho124
  obtain ⟨hW125, hB125, hTD125, hz125, hp125⟩ := id hS124
  obtain ⟨dd125, hw125, hd125⟩ := id hW125
  have hcap125 := hB125.cap
  refine jj_istore (pc := 18) kRF_less_d18 (Nat.le_of_ble_eq_true rfl) ?_
  refine jj_iload_n (pc := 20) kRF_less_d20 rfl ?_
  refine jn_iconst (pc := 21) 1 kRF_less_d21 (by decide) ?_
  refine jn_icmp_ne (pc := 22) (tgt := 30) kRF_less_d22 (by decide) (by omega) (by omega) (fun c1 => ?_) (fun c1 => ?_)
  · skip
    refine jj_iload (pc := 30) kRF_less_d30 rfl ?_
    refine jn_iconst (pc := 32) 1 kRF_less_d32 (by decide) ?_
    refine jn_icmp_ne (pc := 33) (tgt := 40) kRF_less_d33 (by decide) (by omega) (by omega) (fun c2 => ?_) (fun c2 => ?_)
    · skip
      refine jj_aload_n (pc := 40) kRF_less_d40 rfl ?_
      refine jj_getf (pc := 41) kRF_less_d41 (kfRF_w hG) hC124.1 rfl ?_
      refine jj_iload_n (pc := 44) kRF_less_d44 rfl ?_
      refine jj_iload (pc := 45) kRF_less_d45 rfl ?_
      refine jj_callV (pc := 47) (b := w) (As := [.int (nI (l)), .int (nI (y))]) kRF_less_d47 (kvRF_RW_multiply hG) (kG_cl hG rfl) rfl hw125 rfl rfl rfl (Nat.le_of_ble_eq_true rfl) (Nat.le_of_ble_eq_true rfl) (jj_bare0 rfl) ?_
      refine rs_multiply (a := a) (b := a) hG hS124 hl_124 hy_124 ep eq_ (by omega) (fun M126 D126 T126 p126 rc126 rs126 hS126 t126 u126 ho126 hf126 hI126 => ?_)
      show jj G kRF_less (d + 9) Q rc126 rs126 50 [some (.ref f), some (.int (nI (u))), some (.int (nI (l))), some (.int (nI (x))), some (.int (nI (y))), some (.int (nI (s))), some (.int (nI (e))), some (.int (nI (T))), some (.int (nI (p124))), none] [.int (nI (p126))] M126
      have hC126 := hC124.rf hf126
      have hF126 := hF124.trans (FF.ofRF hC124 hf126)
      have hu_126 := hu_124.congr t126.1 ho126
      have hl_126 := hl_124.congr t126.1 ho126
      have hx_126 := hx_124.congr t126.1 ho126
      have hy_126 := hy_124.congr t126.1 ho126
      have hs_126 := hs_124.congr t126.1 ho126
      have he_126 := he_124.congr t126.1 ho126
      have hI124_126 := hI124.congr t126.1 ho126
      obtain ⟨hW127, hB127, hTD127, hz127, hp127⟩ := id hS126
      obtain ⟨dd127, hw127, hd127⟩ := id hW127
      have hcap127 := hB127.cap
      show jj G kRF_less (d + 9) Q rc126 rs126 50 [some (.ref f), some (.int (nI (u))), some (.int (nI (l))), some (.int (nI (x))), some (.int (nI (y))), some (.int (nI (s))), some (.int (nI (e))), some (.int (nI (T))), some (.int (nI (p124))), none] [.int (nI (p126))] M126
      exact k50 p124 p126 M126 D126 (T126) _ rc126 rs126 hC126 hS126 (by omega) (by omega) (fun i hi => by rw [ho126 i (by omega), ho124 i (by omega)]) hF126 hI124_126 hI126
    · skip
      refine jj_iload_n (pc := 36) kRF_less_d36 rfl ?_
      refine jj_goto (pc := 37) (tgt := 50) kRF_less_d37 (by decide) ?_
      subst c2
      have d2 := hq.den1 h1 (by omega)
      have hpr : (p.den : Int) * (q.den : Int) = p.den := by rw [d2]; omega
      exact k50 p124 l M124 D124 (T124) _ rc124 rs124 hC124 hS124 (by omega) (by omega) (fun i hi => by rw [ho124 i (by omega)]) hF124 hI124 (by rw [hpr]; exact hl_124)
  · skip
    refine jj_iload (pc := 25) kRF_less_d25 rfl ?_
    refine jj_goto (pc := 27) (tgt := 50) kRF_less_d27 (by decide) ?_
    subst c1
    have d1 := hp.den1 h1 (by omega)
    have hpr : (p.den : Int) * (q.den : Int) = q.den := by rw [d1]; omega
    exact k50 p124 y M124 D124 (T124) _ rc124 rs124 hC124 hS124 (by omega) (by omega) (fun i hi => by rw [ho124 i (by omega)]) hF124 hI124 (by rw [hpr]; exact hy_124)
end RF4
