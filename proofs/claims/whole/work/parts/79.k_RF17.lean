/-! ===== Fractions.determinant (printed by wip/gen/rf17.py) ===== -/
/-- the sign that the reference keeps -/
def sgb (z : Nat) : Rat := if z = 0 then 1 else -1
theorem neg_num_den (q : Rat) : (-q).num = -q.num ∧ (-q).den = q.den := ⟨rfl, rfl⟩
section RF17
variable {G : jg} {d : Nat} {Q : jq} {rc rs : Nat} {M : mheap} {f w vv pv : Nat} {v2 : Value} {D V P : List Int32} {t : Nat} {up low rk : Int32}
/-- what holds behind determinant -/
def DTK (Q : jq) (M : mheap) (f w pv : Nat) (D V : List Int32) (t : Nat) (P : List Int32) (rk : Int32) (T cm cv X' Z' E : Nat) (q : Rat) : Prop := ∀ M' vv' D' T' V' p l X1 Z1 v2' rc' rs', FC M' f w vv' pv V' t (nI p) (nI l) P rk → RS M' w D' T' v2' cm X1 Z1 rc' rs' → FXB cv V' X1 Z1 X' Z' → T ≤ T' → T' ≤ E → (∀ i, i < T → D'.getD i 0 = D.getD i 0) → (∀ i, i < t → V'.getD i 0 = V.getD i 0) → t ≤ V'.length → FF M M' f → FQ D' T' p l q → (p = 0 ∨ T ≤ p) → (l = 1 ∨ T ≤ l) → Q (.returned none) M' rc' rs'
theorem rf_determinant {b n lob T s e S wb EE cm cv X Z X' Z' : Nat} {q : Nat → Rat} {A W : qmat} {wt : Nat → Rat} (hG : kG G) (hC : FC M f w vv pv V t up low P rk) (hS : RS M w D T v2 cm X Z rc rs) (hX : FXB cv V X Z X' Z') (htV : t ≤ V.length) (h1 : RI D T 1 1) (hT3 : 3 ≤ T) (hb : MX D T V t b n n lob q) (hA : ∀ i, i < n → ∀ j, j < n → A i j = q (i * n + j)) (hn : n < 64) (hn1 : 1 ≤ n) (hW : ∀ i, i < n → ∀ j, j < n → W i j = wt i * A i j) (hw : ∀ i, i < n → zle wb (wt i) ∧ wt i ≠ 0) (hs : S = 4 * s + 4) (hesz : ESZ W wt n n s) (hpz : ∀ B E c x g u ω z, DI A W wt wb B E n c x g u ω z → c ≤ n → ZB e u.num ∧ ZB e (u.den : Int)) (hse : s ≤ e) (hs2 : 3 * s + 1 ≤ 9000) (he3 : 2 * e ≤ 9000) (he4 : 2 ≤ e) (hE : EE = T + n * n * S + 2 * e + 10) (ht : t + 12 + 4 * (n * n) ≤ cv) (hT : EE + n * n * S + 20000 + 100 * s + 60 * e + 600 ≤ cm)
    (K : DTK Q M f w pv D V t P rk T cm cv X' Z' (T + 2 * e + 6) (det n A)) : jj G kRF_determinant (d + 10) Q rc rs 0 (jj_ent [.ref f, .int (nI b)] 23) [] M := by
  have hcap := hX.cap
  have hcapD := hS.2.1.cap
  obtain ⟨m, hmm⟩ : ∃ m, n * n = m := ⟨_, rfl⟩
  have hm24 : m < 64 * 1024 := by rw [← hmm]; exact Nat.mul_lt_mul_of_lt_of_le hn (by omega) (by decide)
  unfold DTK at K
  obtain ⟨hb1, hb2, hb3, hb4⟩ := id hb
  have loop : ∀ mu c, n = c + mu → ∀ (o10 o11 o12 o13 o14 o15 o16 o17 o18 o19 o20 o21 o22 : Option Value) (u l bz : Nat) (B9 E9 : qmat) (xx g : Nat → Nat) (π ω : Rat) (q9 : Nat → Rat) (M9 : mheap) (vv : Nat) (D9 : List Int32) (T9 : Nat) (V9 : List Int32) (t9 : Nat) (up9 low9 : Int32) (X9 Z9 : Nat) (v9 : Value) (rc9 rs9 : Nat), FC M9 f w vv pv V9 t9 up9 low9 P rk → RS M9 w D9 T9 v9 cm X9 Z9 rc9 rs9 → FXB cv V9 X9 Z9 X' Z' → T ≤ T9 → T9 ≤ EE → (∀ i, i < T → D9.getD i 0 = D.getD i 0) → (∀ i, i < t → V9.getD i 0 = V.getD i 0) → (t + 2 + 2 * m ≤ t9 ∧ t9 ≤ t + 6 + 2 * m ∧ t9 ≤ V9.length) → FF M M9 f → MX D9 T9 V9 t9 t n n T q9 → (∀ i, i < n → ∀ j, j < n → B9 i j = q9 (i * n + j)) → DI A W wt wb B9 E9 n c xx g π ω (sgb bz) → bz ≤ 1 → (∀ i j, i < c → j < n → ZB s (B9 i j).num ∧ ZB s ((B9 i j).den : Int)) → FQ D9 T9 u l π → jj G kRF_determinant (d + 10) Q rc9 rs9 50 [some (.ref f), some (.int (nI (b))), some (.int (nI (T))), some (.int (nI (t))), some (.int (nI (t))), some (.int (nI (n))), some (.int (nI (u))), some (.int (nI (l))), some (.int (nI (bz))), some (.int (nI (c))), (o10), (o11), (o12), (o13), (o14), (o15), (o16), (o17), (o18), (o19), (o20), (o21), (o22)] [] M9 := by
    intro mu
    induction mu with
    | zero =>
      intro c hk o10 o11 o12 o13 o14 o15 o16 o17 o18 o19 o20 o21 o22 u l bz B9 E9 xx g π ω q9 M9 vv D9 T9 V9 t9 up9 low9 X9 Z9 v9 rc9 rs9 hC9 hS9 hX9 t9_ u9 ho9 hV9 hl9 hF9 hm9 hB9 hI9 hbz hz9 hq9
      have e9 : n = c := by omega
      subst e9
      have hdn := hI9.done
      obtain ⟨zn, zd⟩ := hpz _ _ _ _ _ _ _ _ hI9 (Nat.le_refl _)
      obtain ⟨hu, hl, hl1⟩ := id hq9
      have lu := hu.lt
      have ll := hl.lt
      have hcap9 := hX9.cap
      obtain ⟨hW101, hB101, hTD101, hz101, hp101⟩ := id hS9
      obtain ⟨dd101, hw101, hd101⟩ := id hW101
      have hcap101 := hB101.cap
      refine jj_iload (pc := 50) kRF_determinant_d50 rfl ?_
      refine jj_iload (pc := 52) kRF_determinant_d52 rfl ?_
      refine jn_icmp_ge (pc := 54) (tgt := 712) kRF_determinant_d54 (by decide) (by omega) (by omega) (fun _ => ?_) (fun c => by exfalso; omega)
      refine jj_iload (pc := 712) kRF_determinant_d712 rfl ?_
      refine jn_if_eq (pc := 714) (tgt := 729) kRF_determinant_d714 (by decide) (by omega) (fun c0 => ?_) (fun c0 => ?_)
      · skip
        have hdv : det n A = π := by rw [hdn]; unfold sgb; rw [if_pos c0]; grind
        refine jj_aload_n (pc := 729) kRF_determinant_d729 rfl ?_
        refine jj_getf (pc := 730) kRF_determinant_d730 (kfRF_w hG) hC9.1 rfl ?_
        refine jj_iload (pc := 733) kRF_determinant_d733 rfl ?_
        refine jj_callV (pc := 735) (b := w) (As := [.int (nI (u))]) kRF_determinant_d735 (kvRF_RW_copy hG) (kG_cl hG rfl) rfl hw101 rfl rfl rfl (Nat.le_of_ble_eq_true rfl) (Nat.le_of_ble_eq_true rfl) (jj_bare0 rfl) ?_
        refine ri_copy (a := e) hG hS9 hu zn (by omega) (fun M102 D102 T102 p102 rc102 rs102 hS102 t102 u102 ho102 hf102 hI102 => ?_)
        show jj G kRF_determinant (d + 10) Q rc102 rs102 738 [some (.ref f), some (.int (nI (b))), some (.int (nI (T))), some (.int (nI (t))), some (.int (nI (t))), some (.int (nI (n))), some (.int (nI (u))), some (.int (nI (l))), some (.int (nI (bz))), some (.int (nI (n))), (o10), (o11), (o12), (o13), (o14), (o15), (o16), (o17), (o18), (o19), (o20), (o21), (o22)] [.int (nI (p102))] M102
        have hC102 := hC9.rf hf102
        have hF102 := hF9.trans (FF.ofRF hC9 hf102)
        have hu_102 := hu.congr t102.1 ho102
        have hl_102 := hl.congr t102.1 ho102
        obtain ⟨hW103, hB103, hTD103, hz103, hp103⟩ := id hS102
        obtain ⟨dd103, hw103, hd103⟩ := id hW103
        have hcap103 := hB103.cap
        refine jj_istore (pc := 738) kRF_determinant_d738 (Nat.le_of_ble_eq_true rfl) ?_
        refine jj_aload_n (pc := 740) kRF_determinant_d740 rfl ?_
        refine jj_getf (pc := 741) kRF_determinant_d741 (kfRF_w hG) hC102.1 rfl ?_
        refine jj_iload (pc := 744) kRF_determinant_d744 rfl ?_
        refine jj_callV (pc := 746) (b := w) (As := [.int (nI (l))]) kRF_determinant_d746 (kvRF_RW_copy hG) (kG_cl hG rfl) rfl hw103 rfl rfl rfl (Nat.le_of_ble_eq_true rfl) (Nat.le_of_ble_eq_true rfl) (jj_bare0 rfl) ?_
        refine ri_copy (a := e) hG hS102 hl_102 zd (by omega) (fun M104 D104 T104 p104 rc104 rs104 hS104 t104 u104 ho104 hf104 hI104 => ?_)
        show jj G kRF_determinant (d + 10) Q rc104 rs104 749 [some (.ref f), some (.int (nI (b))), some (.int (nI (T))), some (.int (nI (t))), some (.int (nI (t))), some (.int (nI (n))), some (.int (nI (u))), some (.int (nI (l))), some (.int (nI (bz))), some (.int (nI (p102))), (o10), (o11), (o12), (o13), (o14), (o15), (o16), (o17), (o18), (o19), (o20), (o21), (o22)] [.int (nI (p104))] M104
        have hC104 := hC102.rf hf104
        have hF104 := hF102.trans (FF.ofRF hC102 hf104)
        have hu_104 := hu_102.congr t104.1 ho104
        have hl_104 := hl_102.congr t104.1 ho104
        have hI102_104 := hI102.congr t104.1 ho104
        obtain ⟨hW105, hB105, hTD105, hz105, hp105⟩ := id hS104
        obtain ⟨dd105, hw105, hd105⟩ := id hW105
        have hcap105 := hB105.cap
        refine jj_istore (pc := 749) kRF_determinant_d749 (Nat.le_of_ble_eq_true rfl) ?_
        refine jj_aload_n (pc := 751) kRF_determinant_d751 rfl ?_
        refine jj_iload_n (pc := 752) kRF_determinant_d752 rfl ?_
        refine jj_putf (pc := 753) kRF_determinant_d753 (kpRF_top hG) hC104.1 (by rfl) rfl ?_
        refine jn_gen (fun M106 hM107 => ?_)
        have hC108 : FC M106 f w vv pv V9 (t) (up9) (low9) P (rk) := by rw [hM107]; exact hC104.putf
        have hF108 : FF M M106 f := by rw [hM107]; exact hF104.trans (FF.putf hC104)
        have hS108 : RS M106 w D104 (T104) v9 cm X9 Z9 rc104 rs104 := by rw [hM107]; exact hS104.other hC104.2.2.2.2.1
        obtain ⟨hW109, hB109, hTD109, hz109, hp109⟩ := id hS108
        obtain ⟨dd109, hw109, hd109⟩ := id hW109
        have hcap109 := hB109.cap
        refine jj_aload_n (pc := 756) kRF_determinant_d756 rfl ?_
        refine jj_iload_n (pc := 757) kRF_determinant_d757 rfl ?_
        refine jj_iload (pc := 758) kRF_determinant_d758 rfl ?_
        refine jj_iload (pc := 760) kRF_determinant_d760 rfl ?_
        have he0 : p104 ≠ 0 := fun e => by have h9 := hI104; rw [e] at h9; have := h9.z0 hz109 (by omega); have := π.den_nz; omega
        have hsm : ∀ i, i < T9 → D104.getD i 0 = D9.getD i 0 := (fun i hi => by rw [ho104 i (by omega), ho102 i (by omega)])
        refine jj_callV (pc := 762) (b := f) (As := [.int (nI (T)), .int (nI (p102)), .int (nI (p104))]) kRF_determinant_d762 (kvRF_RF_settle hG) (kG_cl hG rfl) rfl hC108.1 rfl rfl rfl (Nat.le_of_ble_eq_true rfl) (Nat.le_of_ble_eq_true rfl) (jj_bare0 rfl) ?_
        refine rf_settle (Tc := T102) (Te := T104) (a := e) (b := e) hG hC108 hS108 (hI102.congr (Nat.le_refl _) ho104) hI104 (by omega) (by omega) (by omega) (by omega) (by omega) (by omega) (zn) zd (fun M5 D5 T5 p5 l5 hC5 hS5 t5 u5 ho5 hF5 hI5 g1 g2 hl5 => ?_)
        show jj G kRF_determinant (d + 10) Q rc104 rs104 765 [some (.ref f), some (.int (nI (b))), some (.int (nI (T))), some (.int (nI (t))), some (.int (nI (t))), some (.int (nI (n))), some (.int (nI (u))), some (.int (nI (l))), some (.int (nI (bz))), some (.int (nI (p102))), some (.int (nI (p104))), (o11), (o12), (o13), (o14), (o15), (o16), (o17), (o18), (o19), (o20), (o21), (o22)] [] M5
        have hsT : ∀ i, i < T → D5.getD i 0 = D.getD i 0 := fun i hi => by rw [ho5 i hi, hsm i (by omega), ho9 i hi]
        have hT5 : T5 < 2 ^ 31 := by have := hS5.2.1.cap; have := hS5.2.2.1; omega
        have hq : FQ D5 T5 p5 l5 (det n A) := by
          rw [hdv]
          refine ⟨hI5, ?_, fun e => g1 (by rw [show (π.den : Nat) = 1 from e]; rfl)⟩
          show RI D5 T5 l5 (π.den : Int)
          by_cases c9 : (π.den : Int) = 1
          · rw [c9, g1 c9]; exact h1.congr t5 hsT
          · exact (g2 c9).1
        have hl6 : l5 = 1 ∨ T ≤ l5 := by
          by_cases c9 : (π.den : Int) = 1
          · exact Or.inl (g1 c9)
          · rcases (g2 c9).2 with h | h
            · have h9 := (g2 c9).1
              rw [h] at h9
              have := h9.z0 (by rw [hsT 0 (by omega)]; exact hS.2.2.2.1) (by omega)
              have := π.den_nz
              omega
            · exact Or.inr h
        exact jj_vret (pc := 765) kRF_determinant_d765 rfl (K M5 vv D5 T5 V9 p5 l5 X9 Z9 _ _ _ hC5 hS5 hX9 t5 (by omega) hsT hV9 (by omega) (hF108.trans hF5) hq (by omega) hl6)
      · skip
        have hdv : det n A = -π := by rw [hdn]; unfold sgb; rw [if_neg (by omega)]; grind
        refine jj_aload_n (pc := 717) kRF_determinant_d717 rfl ?_
        refine jj_getf (pc := 718) kRF_determinant_d718 (kfRF_w hG) hC9.1 rfl ?_
        refine jj_iload (pc := 721) kRF_determinant_d721 rfl ?_
        refine jj_callV (pc := 723) (b := w) (As := [.int (nI (u))]) kRF_determinant_d723 (kvRF_RW_negative hG) (kG_cl hG rfl) rfl hw101 rfl rfl rfl (Nat.le_of_ble_eq_true rfl) (Nat.le_of_ble_eq_true rfl) (jj_bare0 rfl) ?_
        refine ri_negative (a := e) hG hS9 hu zn (by omega) (fun M110 D110 T110 p110 rc110 rs110 hS110 t110 u110 ho110 hf110 hI110 => ?_)
        show jj G kRF_determinant (d + 10) Q rc110 rs110 726 [some (.ref f), some (.int (nI (b))), some (.int (nI (T))), some (.int (nI (t))), some (.int (nI (t))), some (.int (nI (n))), some (.int (nI (u))), some (.int (nI (l))), some (.int (nI (bz))), some (.int (nI (n))), (o10), (o11), (o12), (o13), (o14), (o15), (o16), (o17), (o18), (o19), (o20), (o21), (o22)] [.int (nI (p110))] M110
        have hC110 := hC9.rf hf110
        have hF110 := hF9.trans (FF.ofRF hC9 hf110)
        have hu_110 := hu.congr t110.1 ho110
        have hl_110 := hl.congr t110.1 ho110
        obtain ⟨hW111, hB111, hTD111, hz111, hp111⟩ := id hS110
        obtain ⟨dd111, hw111, hd111⟩ := id hW111
        have hcap111 := hB111.cap
        refine jj_goto (pc := 726) (tgt := 738) kRF_determinant_d726 (by decide) ?_
        refine jj_istore (pc := 738) kRF_determinant_d738 (Nat.le_of_ble_eq_true rfl) ?_
        refine jj_aload_n (pc := 740) kRF_determinant_d740 rfl ?_
        refine jj_getf (pc := 741) kRF_determinant_d741 (kfRF_w hG) hC110.1 rfl ?_
        refine jj_iload (pc := 744) kRF_determinant_d744 rfl ?_
        refine jj_callV (pc := 746) (b := w) (As := [.int (nI (l))]) kRF_determinant_d746 (kvRF_RW_copy hG) (kG_cl hG rfl) rfl hw111 rfl rfl rfl (Nat.le_of_ble_eq_true rfl) (Nat.le_of_ble_eq_true rfl) (jj_bare0 rfl) ?_
        refine ri_copy (a := e) hG hS110 hl_110 zd (by omega) (fun M112 D112 T112 p112 rc112 rs112 hS112 t112 u112 ho112 hf112 hI112 => ?_)
        show jj G kRF_determinant (d + 10) Q rc112 rs112 749 [some (.ref f), some (.int (nI (b))), some (.int (nI (T))), some (.int (nI (t))), some (.int (nI (t))), some (.int (nI (n))), some (.int (nI (u))), some (.int (nI (l))), some (.int (nI (bz))), some (.int (nI (p110))), (o10), (o11), (o12), (o13), (o14), (o15), (o16), (o17), (o18), (o19), (o20), (o21), (o22)] [.int (nI (p112))] M112
        have hC112 := hC110.rf hf112
        have hF112 := hF110.trans (FF.ofRF hC110 hf112)
        have hu_112 := hu_110.congr t112.1 ho112
        have hl_112 := hl_110.congr t112.1 ho112
        have hI110_112 := hI110.congr t112.1 ho112
        obtain ⟨hW113, hB113, hTD113, hz113, hp113⟩ := id hS112
        obtain ⟨dd113, hw113, hd113⟩ := id hW113
        have hcap113 := hB113.cap
        refine jj_istore (pc := 749) kRF_determinant_d749 (Nat.le_of_ble_eq_true rfl) ?_
        refine jj_aload_n (pc := 751) kRF_determinant_d751 rfl ?_
        refine jj_iload_n (pc := 752) kRF_determinant_d752 rfl ?_
        refine jj_putf (pc := 753) kRF_determinant_d753 (kpRF_top hG) hC112.1 (by rfl) rfl ?_
        refine jn_gen (fun M114 hM115 => ?_)
        have hC116 : FC M114 f w vv pv V9 (t) (up9) (low9) P (rk) := by rw [hM115]; exact hC112.putf
        have hF116 : FF M M114 f := by rw [hM115]; exact hF112.trans (FF.putf hC112)
        have hS116 : RS M114 w D112 (T112) v9 cm X9 Z9 rc112 rs112 := by rw [hM115]; exact hS112.other hC112.2.2.2.2.1
        obtain ⟨hW117, hB117, hTD117, hz117, hp117⟩ := id hS116
        obtain ⟨dd117, hw117, hd117⟩ := id hW117
        have hcap117 := hB117.cap
        refine jj_aload_n (pc := 756) kRF_determinant_d756 rfl ?_
        refine jj_iload_n (pc := 757) kRF_determinant_d757 rfl ?_
        refine jj_iload (pc := 758) kRF_determinant_d758 rfl ?_
        refine jj_iload (pc := 760) kRF_determinant_d760 rfl ?_
        have he0 : p112 ≠ 0 := fun e => by have h9 := hI112; rw [e] at h9; have := h9.z0 hz117 (by omega); have := π.den_nz; omega
        have hsm : ∀ i, i < T9 → D112.getD i 0 = D9.getD i 0 := (fun i hi => by rw [ho112 i (by omega), ho110 i (by omega)])
        refine jj_callV (pc := 762) (b := f) (As := [.int (nI (T)), .int (nI (p110)), .int (nI (p112))]) kRF_determinant_d762 (kvRF_RF_settle hG) (kG_cl hG rfl) rfl hC116.1 rfl rfl rfl (Nat.le_of_ble_eq_true rfl) (Nat.le_of_ble_eq_true rfl) (jj_bare0 rfl) ?_
        refine rf_settle (Tc := T110) (Te := T112) (a := e) (b := e) hG hC116 hS116 (hI110.congr (Nat.le_refl _) ho112) hI112 (by omega) (by omega) (by omega) (by omega) (by omega) (by omega) (ZB.neg zn) zd (fun M5 D5 T5 p5 l5 hC5 hS5 t5 u5 ho5 hF5 hI5 g1 g2 hl5 => ?_)
        show jj G kRF_determinant (d + 10) Q rc112 rs112 765 [some (.ref f), some (.int (nI (b))), some (.int (nI (T))), some (.int (nI (t))), some (.int (nI (t))), some (.int (nI (n))), some (.int (nI (u))), some (.int (nI (l))), some (.int (nI (bz))), some (.int (nI (p110))), some (.int (nI (p112))), (o11), (o12), (o13), (o14), (o15), (o16), (o17), (o18), (o19), (o20), (o21), (o22)] [] M5
        have hsT : ∀ i, i < T → D5.getD i 0 = D.getD i 0 := fun i hi => by rw [ho5 i hi, hsm i (by omega), ho9 i hi]
        have hT5 : T5 < 2 ^ 31 := by have := hS5.2.1.cap; have := hS5.2.2.1; omega
        have hq : FQ D5 T5 p5 l5 (det n A) := by
          rw [hdv]
          refine ⟨hI5, ?_, fun e => g1 (by rw [show (π.den : Nat) = 1 from e]; rfl)⟩
          show RI D5 T5 l5 (π.den : Int)
          by_cases c9 : (π.den : Int) = 1
          · rw [c9, g1 c9]; exact h1.congr t5 hsT
          · exact (g2 c9).1
        have hl6 : l5 = 1 ∨ T ≤ l5 := by
          by_cases c9 : (π.den : Int) = 1
          · exact Or.inl (g1 c9)
          · rcases (g2 c9).2 with h | h
            · have h9 := (g2 c9).1
              rw [h] at h9
              have := h9.z0 (by rw [hsT 0 (by omega)]; exact hS.2.2.2.1) (by omega)
              have := π.den_nz
              omega
            · exact Or.inr h
        exact jj_vret (pc := 765) kRF_determinant_d765 rfl (K M5 vv D5 T5 V9 p5 l5 X9 Z9 _ _ _ hC5 hS5 hX9 t5 (by omega) hsT hV9 (by omega) (hF116.trans hF5) hq (by omega) hl6)
    | succ mu ih =>
      intro c hk o10 o11 o12 o13 o14 o15 o16 o17 o18 o19 o20 o21 o22 u l bz B9 E9 xx g π ω q9 M9 vv D9 T9 V9 t9 up9 low9 X9 Z9 v9 rc9 rs9 hC9 hS9 hX9 t9_ u9 ho9 hV9 hl9 hF9 hm9 hB9 hI9 hbz hz9 hq9
      obtain ⟨hb1, hb2, hb3, hb4⟩ := id hm9
      have hcap9 := hX9.cap
      have hcap9D := hS9.2.1.cap
      have hTD9 := hS9.2.2.1
      have hz90 := hS9.2.2.2.1
      rw [hmm] at hb1
      refine jj_iload (pc := 50) kRF_determinant_d50 rfl ?_
      refine jj_iload (pc := 52) kRF_determinant_d52 rfl ?_
      refine jn_icmp_ge (pc := 54) (tgt := 712) kRF_determinant_d54 (by decide) (by omega) (by omega) (fun c => by exfalso; omega) (fun _ => ?_)
      refine jj_iload (pc := 57) kRF_determinant_d57 rfl ?_
      refine jj_istore (pc := 59) kRF_determinant_d59 (Nat.le_of_ble_eq_true rfl) ?_
      have inner : ∀ mu2 p, n = p + mu2 → c ≤ p → (∀ i, c ≤ i → i < p → B9 i c = 0) → jj G kRF_determinant (d + 10) Q rc9 rs9 61 [some (.ref f), some (.int (nI (b))), some (.int (nI (T))), some (.int (nI (t))), some (.int (nI (t))), some (.int (nI (n))), some (.int (nI (u))), some (.int (nI (l))), some (.int (nI (bz))), some (.int (nI (c))), some (.int (nI (p))), (o11), (o12), (o13), (o14), (o15), (o16), (o17), (o18), (o19), (o20), (o21), (o22)] [] M9 := by
        intro mu2
        induction mu2 with
        | zero =>
          intro p hp hrp h0
          have e9 : n = p := by omega
          subst e9
          have hd0 := hI9.none (by omega) h0
          obtain ⟨hW118, hB118, hTD118, hz118, hp118⟩ := id hS9
          obtain ⟨dd118, hw118, hd118⟩ := id hW118
          have hcap118 := hB118.cap
          refine jj_iload (pc := 61) kRF_determinant_d61 rfl ?_
          refine jj_iload (pc := 63) kRF_determinant_d63 rfl ?_
          refine jn_icmp_ge (pc := 65) (tgt := 91) kRF_determinant_d65 (by decide) (by omega) (by omega) (fun _ => ?_) (fun c => by exfalso; omega)
          refine jj_iload (pc := 91) kRF_determinant_d91 rfl ?_
          refine jj_iload (pc := 93) kRF_determinant_d93 rfl ?_
          refine jn_icmp_ne (pc := 95) (tgt := 117) kRF_determinant_d95 (by decide) (by omega) (by omega) (fun c => by exfalso; omega) (fun _ => ?_)
          refine jj_aload_n (pc := 98) kRF_determinant_d98 rfl ?_
          refine jj_getf (pc := 99) kRF_determinant_d99 (kfRF_w hG) hC9.1 rfl ?_
          refine jj_iload_n (pc := 102) kRF_determinant_d102 rfl ?_
          refine jj_putf (pc := 103) kRF_determinant_d103 (kpRF_RW_top hG) hw118 (by rfl) rfl ?_
          refine jn_gen (fun M119 hM120 => ?_)
          have hf121 : RF M9 M119 w := by rw [hM120]; exact RF.top hw118
          have hS121 : RS M119 w D9 (T) v9 cm X9 Z9 rc9 rs9 := ⟨⟨dd118, by rw [hM120]; exact jj_up_at _ _ _, by rw [hM120, jj_up_ne _ _ (fun e => by have q1 := hd118; rw [e, hw118] at q1; cases q1)]; exact hd118⟩, hB118, by omega, hz118, by omega⟩
          have hC121 := hC9.rf hf121
          have hF121 := hF9.trans (FF.ofRF hC9 hf121)
          obtain ⟨hW122, hB122, hTD122, hz122, hp122⟩ := id hS121
          obtain ⟨dd122, hw122, hd122⟩ := id hW122
          have hcap122 := hB122.cap
          refine jj_aload_n (pc := 106) kRF_determinant_d106 rfl ?_
          refine jj_iload_n (pc := 107) kRF_determinant_d107 rfl ?_
          refine jj_putf (pc := 108) kRF_determinant_d108 (kpRF_top hG) hC121.1 (by rfl) rfl ?_
          refine jn_gen (fun M123 hM124 => ?_)
          have hC125 : FC M123 f w vv pv V9 (t) (up9) (low9) P (rk) := by rw [hM124]; exact hC121.putf
          have hF125 : FF M M123 f := by rw [hM124]; exact hF121.trans (FF.putf hC121)
          have hS125 : RS M123 w D9 (T) v9 cm X9 Z9 rc9 rs9 := by rw [hM124]; exact hS121.other hC121.2.2.2.2.1
          obtain ⟨hW126, hB126, hTD126, hz126, hp126⟩ := id hS125
          obtain ⟨dd126, hw126, hd126⟩ := id hW126
          have hcap126 := hB126.cap
          refine jj_aload_n (pc := 111) kRF_determinant_d111 rfl ?_
          refine jj_lconst (pc := 112) (v := lN 0) kRF_determinant_d112 (by decide) ?_
          refine jj_callV (pc := 113) (b := f) (As := [.long (lN (0))]) kRF_determinant_d113 (kvRF_RF_whole hG) (kG_cl hG rfl) rfl hC125.1 rfl rfl rfl (Nat.le_of_ble_eq_true rfl) (Nat.le_of_ble_eq_true rfl) (jj_bare0 rfl) ?_
          refine rf_whole hG hC125 hS125 (h1.congr (Nat.le_refl _) ho9) (by omega) (by omega) (fun M6 D6 T6 p6 l6 v6 rc6 rs6 hC6 hS6 t6 u6 ho6 hF6 hq6 g1 g2 => ?_)
          show jj G kRF_determinant (d + 10) Q rc6 rs6 116 [some (.ref f), some (.int (nI (b))), some (.int (nI (T))), some (.int (nI (t))), some (.int (nI (t))), some (.int (nI (n))), some (.int (nI (u))), some (.int (nI (l))), some (.int (nI (bz))), some (.int (nI (c))), some (.int (nI (n))), (o11), (o12), (o13), (o14), (o15), (o16), (o17), (o18), (o19), (o20), (o21), (o22)] [] M6
          rw [show (((lN 0).toInt : Int) : Rat) = det n A by rw [hd0]; rfl] at hq6
          exact jj_vret (pc := 116) kRF_determinant_d116 rfl (K M6 vv D6 T6 V9 p6 l6 X9 Z9 _ _ _ hC6 hS6 hX9 t6 (by omega) (fun i hi => by rw [ho6 i hi, ho9 i hi]) hV9 (by omega) (hF125.trans hF6) hq6 g1 g2)
        | succ mu2 ih2 =>
          intro p hp hrp h0
          obtain ⟨pn, hpn⟩ : ∃ pn, p * n = pn := ⟨_, rfl⟩
          obtain ⟨ix, hix⟩ : ∃ ix, pn + c = ix := ⟨_, rfl⟩
          have hil : ix < n * n := by rw [← hix, ← hpn]; exact cell_lt (by omega) (by omega)
          obtain ⟨pp, lp, a1, a2, a3, -⟩ := hb4 ix hil
          rw [hmm] at hil
          have hpc : B9 p c = q9 ix := by rw [hB9 p (by omega) c (by omega), hpn, hix]
          have hpl := a3.1.lt
          have hll := a3.2.1.lt
          refine jj_iload (pc := 61) kRF_determinant_d61 rfl ?_
          refine jj_iload (pc := 63) kRF_determinant_d63 rfl ?_
          refine jn_icmp_ge (pc := 65) (tgt := 91) kRF_determinant_d65 (by decide) (by omega) (by omega) (fun c => by exfalso; omega) (fun _ => ?_)
          refine jj_aload_n (pc := 68) kRF_determinant_d68 rfl ?_
          refine jj_iload (pc := 69) kRF_determinant_d69 rfl ?_
          refine jj_iload (pc := 71) kRF_determinant_d71 rfl ?_
          refine jj_iload (pc := 73) kRF_determinant_d73 rfl ?_
          refine jn_imul (pc := 75) (pn) kRF_determinant_d75 hpn ?_
          refine jj_iload (pc := 76) kRF_determinant_d76 rfl ?_
          refine jn_iadd (pc := 78) (ix) kRF_determinant_d78 hix ?_
          refine jj_callV (pc := 79) (b := f) (As := [.int (nI (t)), .int (nI (ix))]) kRF_determinant_d79 (kvRF_RF_upper hG) (kG_cl hG rfl) rfl hC9.1 rfl rfl rfl (Nat.le_of_ble_eq_true rfl) (Nat.le_of_ble_eq_true rfl) (jj_bare0 rfl) ?_
          refine rf_upper hG hC9 (by omega) (by omega) ?_
          show jj G kRF_determinant (d + 10) Q rc9 rs9 82 [some (.ref f), some (.int (nI (b))), some (.int (nI (T))), some (.int (nI (t))), some (.int (nI (t))), some (.int (nI (n))), some (.int (nI (u))), some (.int (nI (l))), some (.int (nI (bz))), some (.int (nI (c))), some (.int (nI (p))), (o11), (o12), (o13), (o14), (o15), (o16), (o17), (o18), (o19), (o20), (o21), (o22)] [.int (V9.getD (t + 2 + 2 * ix) 0)] M9
          refine jn_top (.int (nI (pp))) (by rw [a1]) ?_
          refine jn_if_ne (pc := 82) (tgt := 91) kRF_determinant_d82 (by decide) (by omega) (fun c2 => ?_) (fun c2 => ?_)
          · skip
            clear ih2
            have hn0 : B9 p c ≠ 0 := fun e => by have h9 := a3.1; rw [← hpc, e] at h9; have := RI.p0 h9; omega
            have hst := hI9.step hw hrp (by omega) hn0
            obtain ⟨zn, zd⟩ := hpz _ _ _ _ _ _ _ _ hI9 (by omega)
            obtain ⟨zn', zd'⟩ := hpz _ _ _ _ _ _ _ _ hst (by omega)
            obtain ⟨z1, z2⟩ := hesz _ _ _ _ _ hI9.2.2.2.1 hI9.2.2.2.2.1 (by omega)
            obtain ⟨z3, -⟩ := hesz _ _ _ _ _ hst.2.2.2.1 hst.2.2.2.2.1 (by omega)
            have z2' := z2 (by omega)
            have hBE := hI9.2.2.2.2.2.1
            have hBE' := hst.2.2.2.2.2.1
            have hall : ∀ i j, i < n → j < n → ZB s (B9 i j).num ∧ ZB s ((B9 i j).den : Int) := fun i j hi hj => by
              by_cases e : i < c
              · exact hz9 i j e hj
              · rw [hBE i (by omega) hi j]; exact z1 i j hi hj
            have hfw : ∀ i j, i ≤ c → i < n → j < n → fw B9 c p c i j = B9 (clo c p i) j := fun i j h2 h3 h4 => by
              show (if i ≤ c then rswap B9 c p i j else _) = _
              rw [if_pos h2]
              rfl
            have hall' : ∀ i j, i < n → j < n → ZB s (fw B9 c p c i j).num ∧ ZB s ((fw B9 c p c i j).den : Int) := fun i j hi hj => by
              by_cases e : i ≤ c
              · rw [hfw i j e hi hj]; exact hall _ _ (clo_lt (by omega) (by omega) hi) hj
              · rw [hBE' i (by omega) hi j]; exact z3 i j hi hj
            have hce : ∀ i j, i < n → j < n → fw B9 c p c i j = fw (fun i k => q9 (i * n + k)) c p c i j := fun i j hi hj => by
              have hr : ∀ j, j < n → rswap B9 c p i j = rswap (fun i k => q9 (i * n + k)) c p i j := fun j hj => hB9 _ (clo_lt (r := c) (p := p) (by omega) (by omega) hi) j hj
              unfold fw
              rw [hr j hj, hr c (by omega), hB9 p (by omega) c (by omega), hB9 p (by omega) j hj]
            obtain ⟨zc1, zc2⟩ := hall p c (by omega) (by omega)
            rw [hpc] at zc1 zc2
            have lu := hq9.1.lt
            have ll := hq9.2.1.lt
            refine jj_iload (pc := 91) kRF_determinant_d91 rfl ?_
            refine jj_iload (pc := 93) kRF_determinant_d93 rfl ?_
            refine jn_icmp_ne (pc := 95) (tgt := 117) kRF_determinant_d95 (by decide) (by omega) (by omega) (fun _ => ?_) (fun c => by exfalso; omega)
            refine jj_iload (pc := 117) kRF_determinant_d117 rfl ?_
            refine jj_iload (pc := 119) kRF_determinant_d119 rfl ?_
            refine jj_iload (pc := 121) kRF_determinant_d121 rfl ?_
            have k139 : ∀ bz', bz' ≤ 1 → sgb bz' = (if p = c then sgb bz else -sgb bz) → jj G kRF_determinant (d + 10) Q rc9 rs9 139 [some (.ref f), some (.int (nI (b))), some (.int (nI (T))), some (.int (nI (t))), some (.int (nI (t))), some (.int (nI (n))), some (.int (nI (u))), some (.int (nI (l))), some (.int (nI (bz))), some (.int (nI (c))), some (.int (nI (p))), (o11), (o12), (o13), (o14), (o15), (o16), (o17), (o18), (o19), (o20), (o21), (o22)] [.int (nI (bz'))] M9 := by
              intro bz' hbz' hsg
              rw [← hsg] at hst
              refine jj_istore (pc := 139) kRF_determinant_d139 (Nat.le_of_ble_eq_true rfl) ?_
              refine jj_aload_n (pc := 141) kRF_determinant_d141 rfl ?_
              refine jj_iload (pc := 142) kRF_determinant_d142 rfl ?_
              refine jj_iload (pc := 144) kRF_determinant_d144 rfl ?_
              refine jj_aload_n (pc := 146) kRF_determinant_d146 rfl ?_
              refine jj_iload (pc := 147) kRF_determinant_d147 rfl ?_
              refine jj_iload (pc := 149) kRF_determinant_d149 rfl ?_
              refine jj_iload (pc := 151) kRF_determinant_d151 rfl ?_
              refine jn_imul (pc := 153) (pn) kRF_determinant_d153 hpn ?_
              refine jj_iload (pc := 154) kRF_determinant_d154 rfl ?_
              refine jn_iadd (pc := 156) (ix) kRF_determinant_d156 hix ?_
              refine jj_callV (pc := 157) (b := f) (As := [.int (nI (t)), .int (nI (ix))]) kRF_determinant_d157 (kvRF_RF_upper hG) (kG_cl hG rfl) rfl hC9.1 rfl rfl rfl (Nat.le_of_ble_eq_true rfl) (Nat.le_of_ble_eq_true rfl) (jj_bare0 rfl) ?_
              refine rf_upper hG hC9 (by omega) (by omega) ?_
              show jj G kRF_determinant (d + 10) Q rc9 rs9 160 [some (.ref f), some (.int (nI (b))), some (.int (nI (T))), some (.int (nI (t))), some (.int (nI (t))), some (.int (nI (n))), some (.int (nI (u))), some (.int (nI (l))), some (.int (nI (bz'))), some (.int (nI (c))), some (.int (nI (p))), (o11), (o12), (o13), (o14), (o15), (o16), (o17), (o18), (o19), (o20), (o21), (o22)] [.int (V9.getD (t + 2 + 2 * ix) 0), .int (nI (l)), .int (nI (u)), .ref f] M9
              refine jn_top (.int (nI (pp))) (by rw [a1]) ?_
              refine jj_aload_n (pc := 160) kRF_determinant_d160 rfl ?_
              refine jj_iload (pc := 161) kRF_determinant_d161 rfl ?_
              refine jj_iload (pc := 163) kRF_determinant_d163 rfl ?_
              refine jj_iload (pc := 165) kRF_determinant_d165 rfl ?_
              refine jn_imul (pc := 167) (pn) kRF_determinant_d167 hpn ?_
              refine jj_iload (pc := 168) kRF_determinant_d168 rfl ?_
              refine jn_iadd (pc := 170) (ix) kRF_determinant_d170 hix ?_
              refine jj_callV (pc := 171) (b := f) (As := [.int (nI (t)), .int (nI (ix))]) kRF_determinant_d171 (kvRF_RF_lower hG) (kG_cl hG rfl) rfl hC9.1 rfl rfl rfl (Nat.le_of_ble_eq_true rfl) (Nat.le_of_ble_eq_true rfl) (jj_bare0 rfl) ?_
              refine rf_lower hG hC9 (by omega) (by omega) ?_
              show jj G kRF_determinant (d + 10) Q rc9 rs9 174 [some (.ref f), some (.int (nI (b))), some (.int (nI (T))), some (.int (nI (t))), some (.int (nI (t))), some (.int (nI (n))), some (.int (nI (u))), some (.int (nI (l))), some (.int (nI (bz'))), some (.int (nI (c))), some (.int (nI (p))), (o11), (o12), (o13), (o14), (o15), (o16), (o17), (o18), (o19), (o20), (o21), (o22)] [.int (V9.getD (t + 3 + 2 * ix) 0), .int (nI (pp)), .int (nI (l)), .int (nI (u)), .ref f] M9
              refine jn_top (.int (nI (lp))) (by rw [a2]) ?_
              refine jj_callV (pc := 174) (b := f) (As := [.int (nI (u)), .int (nI (l)), .int (nI (pp)), .int (nI (lp))]) kRF_determinant_d174 (kvRF_RF_multiply hG) (kG_cl hG rfl) rfl hC9.1 rfl rfl rfl (Nat.le_of_ble_eq_true rfl) (Nat.le_of_ble_eq_true rfl) (jj_bare0 rfl) ?_
              refine rf_multiply (a := e) (c := e) hG hC9 hS9 (h1.congr t9_ ho9) (by omega) hq9 a3 zn zd (zc1.mono hse) (zc2.mono hse) (by omega) (by rw [← hpc]; exact zn') (by rw [← hpc]; exact zd') (by omega) (fun M6 D6 T6 p6 l6 v6 rc6 rs6 hC6 hS6 t6 u6 ho6 hF6 hq6 g1 g2 => ?_)
              show jj G kRF_determinant (d + 10) Q rc6 rs6 177 [some (.ref f), some (.int (nI (b))), some (.int (nI (T))), some (.int (nI (t))), some (.int (nI (t))), some (.int (nI (n))), some (.int (nI (u))), some (.int (nI (l))), some (.int (nI (bz'))), some (.int (nI (c))), some (.int (nI (p))), (o11), (o12), (o13), (o14), (o15), (o16), (o17), (o18), (o19), (o20), (o21), (o22)] [] M6
              rw [← hpc] at hq6
              have hcap6 := hS6.2.1.cap
              refine jj_aload_n (pc := 177) kRF_determinant_d177 rfl ?_
              refine jj_getf (pc := 178) kRF_determinant_d178 (kfRF_up hG) hC6.1 rfl ?_
              refine jj_istore (pc := 181) kRF_determinant_d181 (Nat.le_of_ble_eq_true rfl) ?_
              refine jj_aload_n (pc := 183) kRF_determinant_d183 rfl ?_
              refine jj_getf (pc := 184) kRF_determinant_d184 (kfRF_low hG) hC6.1 rfl ?_
              refine jj_istore (pc := 187) kRF_determinant_d187 (Nat.le_of_ble_eq_true rfl) ?_
              show jj G kRF_determinant (d + 10) Q rc6 rs6 189 [some (.ref f), some (.int (nI (b))), some (.int (nI (T))), some (.int (nI (t))), some (.int (nI (t))), some (.int (nI (n))), some (.int (nI (u))), some (.int (nI (l))), some (.int (nI (bz'))), some (.int (nI (c))), some (.int (nI (p))), some (.int (nI (p6))), some (.int (nI (l6))), (o13), (o14), (o15), (o16), (o17), (o18), (o19), (o20), (o21), (o22)] [] M6
              have hm6 := hm9.congr (lo' := T) t6 ho6 (Nat.le_refl _) (fun _ _ => rfl) (Nat.le_refl _)
              have ho60 : ∀ i, i < T → D6.getD i 0 = D.getD i 0 := fun i hi => by rw [ho6 i (by omega), ho9 i hi]
              refine rf_det_mid (loa := T) (s := s) (S := S) (q := q9) hG hC6 hS6 hX9 hl9.2.2 (h1.congr (by omega) ho60) (by omega) hm6 (by omega) (by omega) (by omega) (by rw [hpn, hix, ← hpc]; exact hn0) (fun k hk => by
                  obtain ⟨k1, k2, k3⟩ := at_back hk
                  have := hall _ _ k1 k2
                  rw [hB9 _ k1 _ k2, k3] at this
                  exact this) (fun i hi hne => by
                  have hcl : c ≤ clo c p i := by unfold clo; rw [if_neg (by omega)]; split <;> omega
                  have := z2' (clo c p i) p (clo_lt (by omega) (by omega) hi) hrp (by omega) (by rw [← hBE p hrp (by omega) c]; exact hn0)
                  rw [← hBE _ hcl (clo_lt (by omega) (by omega) hi) c, ← hBE p hrp (by omega) c, hB9 _ (clo_lt (by omega) (by omega) hi) c (by omega), hB9 p (by omega) c (by omega)] at this
                  exact this) (fun k hk => by
                  obtain ⟨k1, k2, k3⟩ := at_back hk
                  have := hall' _ _ k1 k2
                  rw [hce _ _ k1 k2] at this
                  exact this) hs hs2 (by omega) (by omega) (fun M7 vv D7 T7 V7 up7 low7 X7 Z7 v7 rc7 rs7 hC7 hS7 hX7 t7 u7 ho7 hv7 hl7 hF7 hm7 fu fl p18 p19 p20 p21 p22 => ?_)
              rw [hmm] at hC7 hl7 hm7
              have hcap7 := hX7.cap
              show jj G kRF_determinant (d + 10) Q rc7 rs7 469 [some (.ref f), some (.int (nI (b))), some (.int (nI (T))), some (.int (nI (t))), some (.int (nI (t))), some (.int (nI (n))), some (.int (nI (u))), some (.int (nI (l))), some (.int (nI (bz'))), some (.int (nI (c))), some (.int (nI (p))), some (.int (nI (p6))), some (.int (nI (l6))), some (.int (nI (T6))), some (.int (nI (t9))), some (.int (nI (fu))), some (.int (nI (fl))), some (.int (nI (n * n))), (p18), (p19), (p20), (p21), (p22)] [] M7
              have hm7' : MX D7 T7 V7 (t9 + 2 + 2 * m) t9 n n T6 (fun k => fw (fun i k => q9 (i * n + k)) c p c (k / n) (k % n)) := hm7
              have ho70 : ∀ i, i < T → D7.getD i 0 = D.getD i 0 := fun i hi => by rw [ho7 i (by omega), ho60 i hi]
              refine rf_det_slide (m := m) (e := e) hG hC7 hS7 hX7 hl7 rfl hmm (by omega) hm7' (h1.congr (Nat.le_refl _) ho70) hT3 (by omega) (by omega) (by omega) (hq6.congr t7 ho7) zn' zd' (by omega) (by omega) (fun M8 vv D8 T8 V8 up8 low8 u8 l8 X8 Z8 v8 rc8 rs8 o10 o11 o12 o13 o14 o15 o16 o17 o18 o19 o20 o21 o22 hC8 hS8 hX8 t8 u8_ ho8 hv8 hl8 hF8 hm8 hq8 => ?_)
              refine ih (c + 1) (by omega) _ _ _ _ _ _ _ _ _ _ _ _ _ u8 l8 bz' (fw B9 c p c) (gj E9 c p c) _ _ (π * B9 p c) _ _ M8 vv D8 T8 V8 _ up8 low8 X8 Z8 v8 rc8 rs8 hC8 hS8 hX8 t8 (by omega) (fun i hi => by rw [ho8 i hi, ho70 i hi]) (fun i hi => by rw [hv8 i hi, hv7 i (by omega), hV9 i hi]) ⟨by omega, by omega, by omega⟩ (((hF9.trans hF6).trans hF7).trans hF8) hm8 (fun i hi j hj => ?_) hst hbz' (fun i j hi hj => hall' i j (by omega) hj) hq8
              obtain ⟨e1, e2⟩ := at_div (i := i) hj
              rw [e1, e2]
              exact hce i j hi hj
            refine jn_icmp_eq (pc := 123) (tgt := 130) kRF_determinant_d123 (by decide) (by omega) (by omega) (fun c3 => ?_) (fun c3 => ?_)
            · skip
              refine jn_iconst (pc := 130) 0 kRF_determinant_d130 (by decide) ?_
              refine jn_icmp_eq (pc := 131) (tgt := 138) kRF_determinant_d131 (by decide) (by omega) (by omega) (fun c4 => ?_) (fun c4 => ?_)
              · skip
                refine jn_iconst (pc := 138) 0 kRF_determinant_d138 (by decide) ?_
                exact k139 0 (by omega) (by rw [if_pos c3, c4])
              · skip
                refine jn_iconst (pc := 134) 1 kRF_determinant_d134 (by decide) ?_
                refine jj_goto (pc := 135) (tgt := 139) kRF_determinant_d135 (by decide) ?_
                exact k139 1 (by omega) (by rw [if_pos c3, show bz = 1 by omega])
            · skip
              refine jn_iconst (pc := 126) 1 kRF_determinant_d126 (by decide) ?_
              refine jj_goto (pc := 127) (tgt := 131) kRF_determinant_d127 (by decide) ?_
              refine jn_icmp_eq (pc := 131) (tgt := 138) kRF_determinant_d131 (by decide) (by omega) (by omega) (fun c4 => ?_) (fun c4 => ?_)
              · skip
                refine jn_iconst (pc := 138) 0 kRF_determinant_d138 (by decide) ?_
                exact k139 0 (by omega) (by rw [if_neg c3, c4]; unfold sgb; rw [if_pos rfl, if_neg (by omega)]; grind)
              · skip
                refine jn_iconst (pc := 134) 1 kRF_determinant_d134 (by decide) ?_
                refine jj_goto (pc := 135) (tgt := 139) kRF_determinant_d135 (by decide) ?_
                exact k139 1 (by omega) (by rw [if_neg c3, show bz = 0 by omega]; unfold sgb; rw [if_pos rfl, if_neg (by omega)])
          · skip
            have hz0 : B9 p c = 0 := by rw [hpc]; exact Rat.num_eq_zero.mp (by have h9 := a3.1; rw [show pp = 0 by omega] at h9; exact h9.z0 hz90 (by omega))
            refine jn_iinc (pc := 85) (p + 1) kRF_determinant_d85 rfl (nI_1 _) ?_
            refine jj_goto (pc := 88) (tgt := 61) kRF_determinant_d88 (by decide) ?_
            show jj G kRF_determinant (d + 10) Q rc9 rs9 61 [some (.ref f), some (.int (nI (b))), some (.int (nI (T))), some (.int (nI (t))), some (.int (nI (t))), some (.int (nI (n))), some (.int (nI (u))), some (.int (nI (l))), some (.int (nI (bz))), some (.int (nI (c))), some (.int (nI (p + 1))), (o11), (o12), (o13), (o14), (o15), (o16), (o17), (o18), (o19), (o20), (o21), (o22)] [] M9
            exact ih2 (p + 1) (by omega) (by omega) (fun i h2 h3 => by
                by_cases e : i = p
                · rw [e]; exact hz0
                · exact h0 i h2 (by omega))
      exact inner (n - c) c (by omega) (Nat.le_refl _) (fun i h2 h3 => by omega)
  have hall0 : ∀ k, k < n * n → ZB s (q k).num ∧ ZB s ((q k).den : Int) := fun k hk => by
    obtain ⟨k1, k2, k3⟩ := at_back hk
    have := (hesz A 0 0 (fun i => i) (fun i => i) (GI_start hW) (gjinv_start A n _) (by omega)).1 _ _ k1 k2
    rw [hA _ k1 _ k2, k3] at this
    exact this
  obtain ⟨hW127, hB127, hTD127, hz127, hp127⟩ := id hS
  obtain ⟨dd127, hw127, hd127⟩ := id hW127
  have hcap127 := hB127.cap
  show jj G kRF_determinant (d + 10) Q rc rs 0 [some (.ref f), some (.int (nI (b))), none, none, none, none, none, none, none, none, none, none, none, none, none, none, none, none, none, none, none, none, none] [] M
  refine jj_aload_n (pc := 0) kRF_determinant_d0 rfl ?_
  refine jj_getf (pc := 1) kRF_determinant_d1 (kfRF_w hG) hC.1 rfl ?_
  refine jj_getf (pc := 4) kRF_determinant_d4 (kfRF_RW_top hG) hw127 rfl ?_
  refine jj_istore_n (pc := 7) kRF_determinant_d7 (Nat.le_of_ble_eq_true rfl) ?_
  refine jj_aload_n (pc := 8) kRF_determinant_d8 rfl ?_
  refine jj_getf (pc := 9) kRF_determinant_d9 (kfRF_top hG) hC.1 rfl ?_
  refine jj_istore_n (pc := 12) kRF_determinant_d12 (Nat.le_of_ble_eq_true rfl) ?_
  refine jj_aload_n (pc := 13) kRF_determinant_d13 rfl ?_
  refine jj_iload_n (pc := 14) kRF_determinant_d14 rfl ?_
  refine jj_callV (pc := 15) (b := f) (As := [.int (nI (b))]) kRF_determinant_d15 (kvRF_RF_copy hG) (kG_cl hG rfl) rfl hC.1 rfl rfl rfl (Nat.le_of_ble_eq_true rfl) (Nat.le_of_ble_eq_true rfl) (jj_bare0 rfl) ?_
  refine rf_copy (lo := lob) (s := s) (S := 2 * s + 2) hG hC hS hX htV h1 hT3 hb (by omega) (by omega) rfl hall0 (by omega) (by rw [hmm]; rw [hmm] at hT hE; have := Nat.mul_le_mul_left m (show 2 * s + 2 ≤ S by omega); omega) (fun M1 vv D1 T1 V1 up1 low1 X1 Z1 v1 rc1 rs1 hC1 hS1 hX1 t1 u1 ho1 hv1 hl1 hF1 hm1 => ?_)
  show jj G kRF_determinant (d + 10) Q rc1 rs1 18 [some (.ref f), some (.int (nI (b))), some (.int (nI (T))), some (.int (nI (t))), none, none, none, none, none, none, none, none, none, none, none, none, none, none, none, none, none, none, none] [.int (nI (t))] M1
  have hcap1 := hX1.cap
  have hmS := Nat.mul_le_mul_left (n * n) (show 2 * s + 2 ≤ S by omega)
  rw [hmm] at hC1 hl1 u1 hmS hE hT ht
  obtain ⟨t1x, ht1x⟩ : ∃ t1x, t + 2 + 2 * m = t1x := ⟨_, rfl⟩
  rw [ht1x] at hC1 hl1
  have hm1' : MX D1 T1 V1 t1x t n n T (fun k => q k) := by rw [hmm, ht1x] at hm1; exact hm1
  refine jj_istore (pc := 18) kRF_determinant_d18 (Nat.le_of_ble_eq_true rfl) ?_
  refine jj_aload_n (pc := 20) kRF_determinant_d20 rfl ?_
  refine jj_iload_n (pc := 21) kRF_determinant_d21 rfl ?_
  refine jj_callV (pc := 22) (b := f) (As := [.int (nI (b))]) kRF_determinant_d22 (kvRF_RF_rows hG) (kG_cl hG rfl) rfl hC1.1 rfl rfl rfl (Nat.le_of_ble_eq_true rfl) (Nat.le_of_ble_eq_true rfl) (jj_bare0 rfl) ?_
  refine rf_rows hG hC1 (by omega) (by omega) ?_
  show jj G kRF_determinant (d + 10) Q rc1 rs1 25 [some (.ref f), some (.int (nI (b))), some (.int (nI (T))), some (.int (nI (t))), some (.int (nI (t))), none, none, none, none, none, none, none, none, none, none, none, none, none, none, none, none, none, none] [.int (V1.getD b 0)] M1
  refine jn_top (.int (nI (n))) (by rw [hv1 b (by omega), hb2]) ?_
  refine jj_istore (pc := 25) kRF_determinant_d25 (Nat.le_of_ble_eq_true rfl) ?_
  refine jj_aload_n (pc := 27) kRF_determinant_d27 rfl ?_
  refine jj_lconst (pc := 28) (v := lN 1) kRF_determinant_d28 (by decide) ?_
  refine jj_callV (pc := 29) (b := f) (As := [.long (lN (1))]) kRF_determinant_d29 (kvRF_RF_whole hG) (kG_cl hG rfl) rfl hC1.1 rfl rfl rfl (Nat.le_of_ble_eq_true rfl) (Nat.le_of_ble_eq_true rfl) (jj_bare0 rfl) ?_
  refine rf_whole hG hC1 hS1 (h1.congr t1 ho1) (by omega) (by omega) (fun M6 D6 T6 p6 l6 v6 rc6 rs6 hC6 hS6 t6 u6 ho6 hF6 hq6 g1 g2 => ?_)
  show jj G kRF_determinant (d + 10) Q rc6 rs6 32 [some (.ref f), some (.int (nI (b))), some (.int (nI (T))), some (.int (nI (t))), some (.int (nI (t))), some (.int (nI (n))), none, none, none, none, none, none, none, none, none, none, none, none, none, none, none, none, none] [] M6
  rw [show (((lN 1).toInt : Int) : Rat) = 1 from rfl] at hq6
  refine jj_aload_n (pc := 32) kRF_determinant_d32 rfl ?_
  refine jj_getf (pc := 33) kRF_determinant_d33 (kfRF_up hG) hC6.1 rfl ?_
  refine jj_istore (pc := 36) kRF_determinant_d36 (Nat.le_of_ble_eq_true rfl) ?_
  refine jj_aload_n (pc := 38) kRF_determinant_d38 rfl ?_
  refine jj_getf (pc := 39) kRF_determinant_d39 (kfRF_low hG) hC6.1 rfl ?_
  refine jj_istore (pc := 42) kRF_determinant_d42 (Nat.le_of_ble_eq_true rfl) ?_
  refine jn_iconst (pc := 44) 0 kRF_determinant_d44 (by decide) ?_
  refine jj_istore (pc := 45) kRF_determinant_d45 (Nat.le_of_ble_eq_true rfl) ?_
  refine jn_iconst (pc := 47) 0 kRF_determinant_d47 (by decide) ?_
  refine jj_istore (pc := 48) kRF_determinant_d48 (Nat.le_of_ble_eq_true rfl) ?_
  show jj G kRF_determinant (d + 10) Q rc6 rs6 50 [some (.ref f), some (.int (nI (b))), some (.int (nI (T))), some (.int (nI (t))), some (.int (nI (t))), some (.int (nI (n))), some (.int (nI (p6))), some (.int (nI (l6))), some (.int (nI (0))), some (.int (nI (0))), none, none, none, none, none, none, none, none, none, none, none, none, none] [] M6
  exact loop n 0 (by omega) none none none none none none none none none none none none none p6 l6 0 A A (fun i => i) (fun i => i) 1 1 (fun k => q k) M6 vv D6 T6 V1 t1x _ _ X1 Z1 v6 rc6 rs6 hC6 hS6 hX1 (by omega) (by omega) (fun i hi => by rw [ho6 i (by omega), ho1 i hi]) hv1 ⟨by omega, by omega, by omega⟩ (hF1.trans hF6) (hm1'.congr t6 ho6 (Nat.le_refl _) (fun _ _ => rfl) (Nat.le_refl _)) hA (show DI A W wt wb A A n 0 _ _ 1 1 (sgb 0) from DI_start hW) (by omega) (fun i j h => by omega) hq6
end RF17
