/-! ===== the reference: constructors of Wholes, Fractions, Forms (printed by wip/gen/rR1.py) ===== -/
section R1
variable {G : jg} {d : Nat} {Q : jq} {rc rs : Nat} {M : mheap}
theorem rw_make {w : Nat} (hG : kG G) (hw : M w = some (.inl nRW, [.null, .int (nI (0)), .int (nI (0))])) (hrc : 1 ≤ rc) (hrs : 4096 ≤ rs) (k : ∀ (M' : mheap) (dd : Nat), M dd = none → M' w = some (.inl nRW, [.ref dd, .int (nI 1), .int (nI 0)]) → M' dd = some (.inr 0, (List.replicate 4096 (0 : Int32)).map .int) → (∀ x, x ≠ w → x ≠ dd → M' x = M x) → Q (.returned none) M' (rc - 1) (rs - 4096)) : jj G kRW_init (d + 2) Q rc rs 0 (jj_ent [.ref w] 1) [] M := by
  show jj G kRW_init (d + 2) Q rc rs 0 [some (.ref w)] [] M
  refine jj_aload_n (pc := 0) kRW_init_d0 rfl ?_
  refine jj_objInit (pc := 1) kRW_init_d1 (koRW_obj hG) (ko_inst hG) (ko_code hG) rfl (Nat.le_of_ble_eq_true rfl) ?_
  show jj G kRW_init (d + 2) Q rc rs 4 [some (.ref w)] [] M
  refine jj_aload_n (pc := 4) kRW_init_d4 rfl ?_
  refine jn_sipush (pc := 5) 4096 kRW_init_d5 (by decide) ?_
  refine jj_newa (pc := 8) (j := 0) (n := 4096) (ty := .int) kRW_init_d8 rfl (kG_t hG rfl) (fun C h => by cases h) (ka_int hG) rfl (by decide) (by omega) (by omega) (fun dd hdd => ?_)
  refine jn_gen (fun M101 hM102 => ?_)
  have ne_dd_w : dd ≠ w := fun e => by have q := hw; rw [← e, hdd] at q; cases q
  have h103 : M101 w = some (.inl nRW, [.null, .int (nI (0)), .int (nI (0))]) := by rw [hM102, jj_up_ne _ _ (Ne.symm ne_dd_w)]; exact hw
  have hn_dd : M101 dd = some (.inr 0, (List.replicate 4096 (0 : Int32)).map .int) := by rw [hM102, jj_up_at, List.map_replicate]; rfl
  show jj G kRW_init (d + 2) Q (rc - 1) (rs - 4096) 10 [some (.ref w)] [.ref dd, .ref w] M101
  refine jj_putf (pc := 10) kRW_init_d10 (kpRW_d hG) h103 (by rfl) rfl ?_
  refine jn_gen (fun M104 hM105 => ?_)
  have h106 : M104 dd = some (.inr 0, (List.replicate 4096 (0 : Int32)).map .int) := by rw [hM105, jj_up_ne _ _ ne_dd_w]; exact hn_dd
  have h107 : M104 w = some (.inl nRW, [.ref dd, .int (nI (0)), .int (nI (0))]) := by rw [hM105]; exact jj_up_at _ _ _
  refine jj_aload_n (pc := 13) kRW_init_d13 rfl ?_
  refine jn_iconst (pc := 14) 1 kRW_init_d14 (by decide) ?_
  refine jj_putf (pc := 15) kRW_init_d15 (kpRW_top hG) h107 (by rfl) rfl ?_
  refine jn_gen (fun M108 hM109 => ?_)
  have h110 : M108 dd = some (.inr 0, (List.replicate 4096 (0 : Int32)).map .int) := by rw [hM109, jj_up_ne _ _ ne_dd_w]; exact h106
  have h111 : M108 w = some (.inl nRW, [.ref dd, .int (nI (1)), .int (nI (0))]) := by rw [hM109]; exact jj_up_at _ _ _
  have fr : ∀ x, x ≠ w → x ≠ dd → M108 x = M x := fun x h_w h_dd => by
    rw [hM109, jj_up_ne _ _ h_w, hM105, jj_up_ne _ _ h_w, hM102, jj_up_ne _ _ h_dd]
  exact jj_vret (pc := 18) kRW_init_d18 rfl (k M108 dd hdd h111 h110 fr)
theorem ri_start : RI (((List.replicate 4096 (0 : Int32)).set 1 (nI 1)).set 2 (nI 1)) 3 1 1 ∧ (((List.replicate 4096 (0 : Int32)).set 1 (nI 1)).set 2 (nI 1)).getD 0 0 = 0 ∧ (((List.replicate 4096 (0 : Int32)).set 1 (nI 1)).set 2 (nI 1)).length = 4096 := by
  have h1 : (((List.replicate 4096 (0 : Int32)).set 1 (nI 1)).set 2 (nI 1)).getD 1 0 = nI 1 := by rw [List.getD_eq_getElem?_getD, List.getElem?_set_ne (by decide), List.getElem?_set_self (by rw [List.length_replicate]; decide)]; rfl
  have h2 : (((List.replicate 4096 (0 : Int32)).set 1 (nI 1)).set 2 (nI 1)).getD 2 0 = nI 1 := by rw [List.getD_eq_getElem?_getD, List.getElem?_set_self (by rw [List.length_set, List.length_replicate]; decide)]; rfl
  refine ⟨⟨1, ⟨by decide, fun h => by cases h⟩, ?_, ?_, ?_, ?_⟩, ?_, by rw [List.length_set, List.length_set, List.length_replicate]⟩
  · rw [h1]; rfl
  · intro i h3 h4
    have e : i = 1 := by omega
    subst e
    exact ⟨1, by decide, h2⟩
  · intro _
    rw [h2]; decide
  · show rnat _ 1 1 = 1
    unfold rnat dv
    rw [show 1 + (0 + 1) = 2 from rfl, h2]
    rfl
  · rw [List.getD_eq_getElem?_getD, List.getElem?_set_ne (by decide), List.getElem?_set_ne (by decide), List.getElem?_replicate]; rfl
theorem rf_init {f : Nat} (hG : kG G) (hf : M f = some (.inl nRF, [.null, .null, .int (nI (0)), .int (nI (0)), .int (nI (0)), .null, .int (nI (0))])) (hrc : 4 ≤ rc) (hrs : 8259 ≤ rs) (k : ∀ (M' : mheap) (w vv pv dd : Nat), (M w = none ∧ M vv = none ∧ M pv = none ∧ M dd = none) → FB M' f w vv pv dd (((List.replicate 4096 (0 : Int32)).set 1 (nI 1)).set 2 (nI 1)) 3 (.int (nI 0)) (List.replicate 4096 (0 : Int32)) 0 (nI 0) (nI 0) (List.replicate 64 (0 : Int32)) (nI 0) → (∀ x, x ≠ f → x ≠ w → x ≠ vv → x ≠ pv → x ≠ dd → M' x = M x) → Q (.returned none) M' (rc - 4) (rs - 8259)) : jj G kRF_init (d + 3) Q rc rs 0 (jj_ent [.ref f] 1) [] M := by
  show jj G kRF_init (d + 3) Q rc rs 0 [some (.ref f)] [] M
  refine jj_aload_n (pc := 0) kRF_init_d0 rfl ?_
  refine jj_objInit (pc := 1) kRF_init_d1 (koRF_obj hG) (ko_inst hG) (ko_code hG) rfl (Nat.le_of_ble_eq_true rfl) ?_
  show jj G kRF_init (d + 3) Q rc rs 4 [some (.ref f)] [] M
  refine jj_aload_n (pc := 4) kRF_init_d4 rfl ?_
  refine jj_new (pc := 5) kRF_init_d5 (knRF_RW hG) (by omega) (show 3 ≤ _ by omega) (fun w hw => ?_)
  refine jn_gen (fun M112 hM113 => ?_)
  have ne_w_f : w ≠ f := fun e => by have q := hf; rw [← e, hw] at q; cases q
  have h114 : M112 f = some (.inl nRF, [.null, .null, .int (nI (0)), .int (nI (0)), .int (nI (0)), .null, .int (nI (0))]) := by rw [hM113, jj_up_ne _ _ (Ne.symm ne_w_f)]; exact hf
  have hn_w : M112 w = some (.inl nRW, [.null, .int (nI (0)), .int (nI (0))]) := by rw [hM113]; exact jj_up_at _ _ _
  show jj G kRF_init (d + 3) Q (rc - 1) (rs - 3) 8 [some (.ref f)] [.ref w, .ref f] M112
  refine jj_dup (pc := 8) kRF_init_d8 rfl ?_
  refine jj_callI (pc := 9) (b := w) (As := []) kRF_init_d9 (kvRF_RW_init hG) rfl rfl rfl (Nat.le_of_ble_eq_true rfl) (Nat.le_of_ble_eq_true rfl) (jj_bare0 rfl) ?_
  refine rw_make hG hn_w (by omega) (by omega) (fun Mw dd hdd hw1 hd1 fw => ?_)
  have ne_w_dd : w ≠ dd := fun e => by have q := hn_w; rw [e, hdd] at q; cases q
  have ne_f_dd : f ≠ dd := fun e => by have q := h114; rw [e, hdd] at q; cases q
  have hf2 := (fw f (Ne.symm ne_w_f) ne_f_dd).trans h114
  have hddM : M dd = none := (show M112 dd = M dd by rw [hM113, jj_up_ne _ _ (Ne.symm ne_w_dd)]).symm.trans hdd
  show jj G kRF_init (d + 3) Q ((rc - 1) - 1) ((rs - 3) - 4096) 12 [some (.ref f)] [.ref w, .ref f] Mw
  have hl0 : (List.replicate 4096 (0 : Int32)).length = 4096 := List.length_replicate
  have hl1 : ((List.replicate 4096 (0 : Int32)).set 1 (nI 1)).length = 4096 := by rw [List.length_set, List.length_replicate]
  refine jj_putF (pc := 12) kRF_init_d12 (kpRF_w hG) rfl hf2 (by rfl) rfl ?_
  refine jn_gen (fun M115 hM116 => ?_)
  have h117 : M115 w = some (.inl nRW, [.ref dd, .int (nI (1)), .int (nI (0))]) := by rw [hM116, jj_up_ne _ _ ne_w_f]; exact hw1
  have h118 : M115 dd = some (.inr 0, (List.replicate 4096 (0 : Int32)).map .int) := by rw [hM116, jj_up_ne _ _ (Ne.symm ne_f_dd)]; exact hd1
  have h119 : M115 f = some (.inl nRF, [.ref w, .null, .int (nI (0)), .int (nI (0)), .int (nI (0)), .null, .int (nI (0))]) := by rw [hM116]; exact jj_up_at _ _ _
  refine jj_aload_n (pc := 15) kRF_init_d15 rfl ?_
  refine jn_sipush (pc := 16) 4096 kRF_init_d16 (by decide) ?_
  refine jj_newa (pc := 19) (j := 0) (n := 4096) (ty := .int) kRF_init_d19 rfl (kG_t hG rfl) (fun C h => by cases h) (ka_int hG) rfl (by decide) (by omega) (by omega) (fun vv hvv => ?_)
  refine jn_gen (fun M120 hM121 => ?_)
  have ne_vv_f : vv ≠ f := fun e => by have q := h119; rw [← e, hvv] at q; cases q
  have h122 : M120 f = some (.inl nRF, [.ref w, .null, .int (nI (0)), .int (nI (0)), .int (nI (0)), .null, .int (nI (0))]) := by rw [hM121, jj_up_ne _ _ (Ne.symm ne_vv_f)]; exact h119
  have ne_vv_w : vv ≠ w := fun e => by have q := h117; rw [← e, hvv] at q; cases q
  have h123 : M120 w = some (.inl nRW, [.ref dd, .int (nI (1)), .int (nI (0))]) := by rw [hM121, jj_up_ne _ _ (Ne.symm ne_vv_w)]; exact h117
  have ne_vv_dd : vv ≠ dd := fun e => by have q := h118; rw [← e, hvv] at q; cases q
  have h124 : M120 dd = some (.inr 0, (List.replicate 4096 (0 : Int32)).map .int) := by rw [hM121, jj_up_ne _ _ (Ne.symm ne_vv_dd)]; exact h118
  have hn_vv : M120 vv = some (.inr 0, (List.replicate 4096 (0 : Int32)).map .int) := by rw [hM121, jj_up_at, List.map_replicate]; rfl
  show jj G kRF_init (d + 3) Q (((rc - 1) - 1) - 1) (((rs - 3) - 4096) - 4096) 21 [some (.ref f)] [.ref vv, .ref f] M120
  refine jj_putf (pc := 21) kRF_init_d21 (kpRF_v hG) h122 (by rfl) rfl ?_
  refine jn_gen (fun M125 hM126 => ?_)
  have h127 : M125 w = some (.inl nRW, [.ref dd, .int (nI (1)), .int (nI (0))]) := by rw [hM126, jj_up_ne _ _ ne_w_f]; exact h123
  have h128 : M125 dd = some (.inr 0, (List.replicate 4096 (0 : Int32)).map .int) := by rw [hM126, jj_up_ne _ _ (Ne.symm ne_f_dd)]; exact h124
  have h129 : M125 vv = some (.inr 0, (List.replicate 4096 (0 : Int32)).map .int) := by rw [hM126, jj_up_ne _ _ ne_vv_f]; exact hn_vv
  have h130 : M125 f = some (.inl nRF, [.ref w, .ref vv, .int (nI (0)), .int (nI (0)), .int (nI (0)), .null, .int (nI (0))]) := by rw [hM126]; exact jj_up_at _ _ _
  refine jj_aload_n (pc := 24) kRF_init_d24 rfl ?_
  refine jn_bipush (pc := 25) 64 kRF_init_d25 (by decide) ?_
  refine jj_newa (pc := 27) (j := 0) (n := 64) (ty := .int) kRF_init_d27 rfl (kG_t hG rfl) (fun C h => by cases h) (ka_int hG) rfl (by decide) (by omega) (by omega) (fun pv hpv => ?_)
  refine jn_gen (fun M131 hM132 => ?_)
  have ne_pv_f : pv ≠ f := fun e => by have q := h130; rw [← e, hpv] at q; cases q
  have h133 : M131 f = some (.inl nRF, [.ref w, .ref vv, .int (nI (0)), .int (nI (0)), .int (nI (0)), .null, .int (nI (0))]) := by rw [hM132, jj_up_ne _ _ (Ne.symm ne_pv_f)]; exact h130
  have ne_pv_w : pv ≠ w := fun e => by have q := h127; rw [← e, hpv] at q; cases q
  have h134 : M131 w = some (.inl nRW, [.ref dd, .int (nI (1)), .int (nI (0))]) := by rw [hM132, jj_up_ne _ _ (Ne.symm ne_pv_w)]; exact h127
  have ne_pv_dd : pv ≠ dd := fun e => by have q := h128; rw [← e, hpv] at q; cases q
  have h135 : M131 dd = some (.inr 0, (List.replicate 4096 (0 : Int32)).map .int) := by rw [hM132, jj_up_ne _ _ (Ne.symm ne_pv_dd)]; exact h128
  have ne_pv_vv : pv ≠ vv := fun e => by have q := h129; rw [← e, hpv] at q; cases q
  have h136 : M131 vv = some (.inr 0, (List.replicate 4096 (0 : Int32)).map .int) := by rw [hM132, jj_up_ne _ _ (Ne.symm ne_pv_vv)]; exact h129
  have hn_pv : M131 pv = some (.inr 0, (List.replicate 64 (0 : Int32)).map .int) := by rw [hM132, jj_up_at, List.map_replicate]; rfl
  show jj G kRF_init (d + 3) Q ((((rc - 1) - 1) - 1) - 1) ((((rs - 3) - 4096) - 4096) - 64) 29 [some (.ref f)] [.ref pv, .ref f] M131
  refine jj_putF (pc := 29) kRF_init_d29 (kpRF_pivots hG) rfl h133 (by rfl) rfl ?_
  refine jn_gen (fun M137 hM138 => ?_)
  have h139 : M137 w = some (.inl nRW, [.ref dd, .int (nI (1)), .int (nI (0))]) := by rw [hM138, jj_up_ne _ _ ne_w_f]; exact h134
  have h140 : M137 dd = some (.inr 0, (List.replicate 4096 (0 : Int32)).map .int) := by rw [hM138, jj_up_ne _ _ (Ne.symm ne_f_dd)]; exact h135
  have h141 : M137 vv = some (.inr 0, (List.replicate 4096 (0 : Int32)).map .int) := by rw [hM138, jj_up_ne _ _ ne_vv_f]; exact h136
  have h142 : M137 pv = some (.inr 0, (List.replicate 64 (0 : Int32)).map .int) := by rw [hM138, jj_up_ne _ _ ne_pv_f]; exact hn_pv
  have h143 : M137 f = some (.inl nRF, [.ref w, .ref vv, .int (nI (0)), .int (nI (0)), .int (nI (0)), .ref pv, .int (nI (0))]) := by rw [hM138]; exact jj_up_at _ _ _
  refine jj_aload_n (pc := 32) kRF_init_d32 rfl ?_
  refine jj_getf (pc := 33) kRF_init_d33 (kfRF_w hG) h143 rfl ?_
  refine jj_getf (pc := 36) kRF_init_d36 (kfRF_RW_d hG) h139 rfl ?_
  refine jn_iconst (pc := 39) 1 kRF_init_d39 (by decide) ?_
  refine jn_iconst (pc := 40) 1 kRF_init_d40 (by decide) ?_
  refine jn_iast (pc := 41) kRF_init_d41 (kG_t hG rfl) h140 (by rw [List.length_replicate]; omega) (by omega) ?_
  refine jn_gen (fun M144 hM145 => ?_)
  have h146 : M144 f = some (.inl nRF, [.ref w, .ref vv, .int (nI (0)), .int (nI (0)), .int (nI (0)), .ref pv, .int (nI (0))]) := by rw [hM145, jj_up_ne _ _ (fun e => by have q1 := h143; rw [e, h140] at q1; cases q1)]; exact h143
  have h147 : M144 w = some (.inl nRW, [.ref dd, .int (nI (1)), .int (nI (0))]) := by rw [hM145, jj_up_ne _ _ (fun e => by have q1 := h139; rw [e, h140] at q1; cases q1)]; exact h139
  have h148 : M144 vv = some (.inr 0, (List.replicate 4096 (0 : Int32)).map .int) := by rw [hM145, jj_up_ne _ _ ne_vv_dd]; exact h141
  have h149 : M144 pv = some (.inr 0, (List.replicate 64 (0 : Int32)).map .int) := by rw [hM145, jj_up_ne _ _ ne_pv_dd]; exact h142
  have h150 : M144 dd = some (.inr 0, ((List.replicate 4096 (0 : Int32)).set (1) ((nI (1)))).map .int) := by rw [hM145]; exact jj_up_at _ _ _
  refine jj_aload_n (pc := 42) kRF_init_d42 rfl ?_
  refine jj_getf (pc := 43) kRF_init_d43 (kfRF_w hG) h146 rfl ?_
  refine jj_getf (pc := 46) kRF_init_d46 (kfRF_RW_d hG) h147 rfl ?_
  refine jn_iconst (pc := 49) 2 kRF_init_d49 (by decide) ?_
  refine jn_iconst (pc := 50) 1 kRF_init_d50 (by decide) ?_
  refine jn_iast (pc := 51) kRF_init_d51 (kG_t hG rfl) h150 (by rw [List.length_set, List.length_replicate]; omega) (by omega) ?_
  refine jn_gen (fun M151 hM152 => ?_)
  have h153 : M151 f = some (.inl nRF, [.ref w, .ref vv, .int (nI (0)), .int (nI (0)), .int (nI (0)), .ref pv, .int (nI (0))]) := by rw [hM152, jj_up_ne _ _ (fun e => by have q1 := h146; rw [e, h150] at q1; cases q1)]; exact h146
  have h154 : M151 w = some (.inl nRW, [.ref dd, .int (nI (1)), .int (nI (0))]) := by rw [hM152, jj_up_ne _ _ (fun e => by have q1 := h147; rw [e, h150] at q1; cases q1)]; exact h147
  have h155 : M151 vv = some (.inr 0, (List.replicate 4096 (0 : Int32)).map .int) := by rw [hM152, jj_up_ne _ _ ne_vv_dd]; exact h148
  have h156 : M151 pv = some (.inr 0, (List.replicate 64 (0 : Int32)).map .int) := by rw [hM152, jj_up_ne _ _ ne_pv_dd]; exact h149
  have h157 : M151 dd = some (.inr 0, (((List.replicate 4096 (0 : Int32)).set (1) ((nI (1)))).set (2) ((nI (1)))).map .int) := by rw [hM152]; exact jj_up_at _ _ _
  refine jj_aload_n (pc := 52) kRF_init_d52 rfl ?_
  refine jj_getf (pc := 53) kRF_init_d53 (kfRF_w hG) h153 rfl ?_
  refine jn_iconst (pc := 56) 3 kRF_init_d56 (by decide) ?_
  refine jj_putf (pc := 57) kRF_init_d57 (kpRF_RW_top hG) h154 (by rfl) rfl ?_
  refine jn_gen (fun M158 hM159 => ?_)
  have h160 : M158 f = some (.inl nRF, [.ref w, .ref vv, .int (nI (0)), .int (nI (0)), .int (nI (0)), .ref pv, .int (nI (0))]) := by rw [hM159, jj_up_ne _ _ (Ne.symm ne_w_f)]; exact h153
  have h161 : M158 dd = some (.inr 0, (((List.replicate 4096 (0 : Int32)).set (1) ((nI (1)))).set (2) ((nI (1)))).map .int) := by rw [hM159, jj_up_ne _ _ (Ne.symm ne_w_dd)]; exact h157
  have h162 : M158 vv = some (.inr 0, (List.replicate 4096 (0 : Int32)).map .int) := by rw [hM159, jj_up_ne _ _ ne_vv_w]; exact h155
  have h163 : M158 pv = some (.inr 0, (List.replicate 64 (0 : Int32)).map .int) := by rw [hM159, jj_up_ne _ _ ne_pv_w]; exact h156
  have h164 : M158 w = some (.inl nRW, [.ref dd, .int (nI (3)), .int (nI (0))]) := by rw [hM159]; exact jj_up_at _ _ _
  have fr2 : ∀ x, x ≠ f → x ≠ w → x ≠ vv → x ≠ pv → x ≠ dd → M158 x = Mw x := fun x h_f h_w h_vv h_pv h_dd => by
    rw [hM159, jj_up_ne _ _ h_w, hM152, jj_up_ne _ _ h_dd, hM145, jj_up_ne _ _ h_dd, hM138, jj_up_ne _ _ h_f, hM132, jj_up_ne _ _ h_pv, hM126, jj_up_ne _ _ h_f, hM121, jj_up_ne _ _ h_vv, hM116, jj_up_ne _ _ h_f]
  have fr : ∀ x, x ≠ f → x ≠ w → x ≠ vv → x ≠ pv → x ≠ dd → M158 x = M x := fun x h_f h_w h_vv h_pv h_dd => (fr2 x h_f h_w h_vv h_pv h_dd).trans ((fw x h_w h_dd).trans (by rw [hM113, jj_up_ne _ _ h_w]))
  have bk : ∀ x, M115 x = none → x ≠ w → x ≠ dd → M x = none := fun x h1 h_w h_dd => by
    have h_f : x ≠ f := fun e => by rw [e, hM116] at h1; rw [jj_up_at] at h1; cases h1
    rw [hM116, jj_up_ne _ _ h_f, fw x h_w h_dd, hM113, jj_up_ne _ _ h_w] at h1
    exact h1
  have mvv : M vv = none := bk vv hvv ne_vv_w ne_vv_dd
  have mpv : M pv = none := bk pv (by
    have q := hpv
    rw [hM126, jj_up_ne _ _ ne_pv_f, hM121, jj_up_ne _ _ ne_pv_vv] at q
    exact q) ne_pv_w ne_pv_dd
  have ro : ∀ q, RO M158 w q → q = w ∨ q = dd := fun q hq => by
    rcases hq with e | ⟨l, e⟩
    · exact Or.inl e
    · rw [h164] at e
      simp only [Option.some.injEq, Prod.mk.injEq, List.cons.injEq, Value.ref.injEq] at e
      exact Or.inr e.2.1.symm
  exact jj_vret (pc := 60) kRF_init_d60 rfl (by rw [show ((((rc - 1) - 1) - 1) - 1) = rc - 4 by omega, show ((((rs - 3) - 4096) - 4096) - 64) = rs - 8259 by omega]; exact k M158 w vv pv dd ⟨hw, mvv, mpv, hddM⟩ ⟨⟨h160, h162, h163, Ne.symm ne_pv_vv, (fun e => by rcases ro f e with e | e; exact (Ne.symm ne_w_f) e; exact ne_f_dd e), (fun e => by rcases ro vv e with e | e; exact ne_vv_w e; exact ne_vv_dd e), (fun e => by rcases ro pv e with e | e; exact ne_pv_w e; exact ne_pv_dd e)⟩, h164, h161⟩ fr)
theorem ro_init {o f w vv pv : Nat} {v3 v4 v5 v7 : Int32} (hG : kG G) (ho : M o = some (.inl nRO, [.null, .null, .null, .null, .int (nI (0)), .int (nI (0))])) (hf : M f = some (.inl nRF, [.ref w, .ref vv, .int (v3), .int (v4), .int (v5), .ref pv, .int (v7)])) (hrc : 2 ≤ rc) (hrs : 128 ≤ rs) (k : ∀ (M' : mheap) (ca ra : Nat), (M ca = none ∧ M ra = none) → M' o = some (.inl nRO, [.ref f, .ref w, .ref ca, .ref ra, .int (nI 0), .int (nI 0)]) → M' ca = some (.inr 0, (List.replicate 64 (0 : Int32)).map .int) → M' ra = some (.inr 0, (List.replicate 64 (0 : Int32)).map .int) → ca ≠ ra → (∀ x, x ≠ o → x ≠ ca → x ≠ ra → M' x = M x) → Q (.returned none) M' (rc - 2) (rs - 128)) : jj G kRO_init (d + 2) Q rc rs 0 (jj_ent [.ref o, .ref f] 2) [] M := by
  show jj G kRO_init (d + 2) Q rc rs 0 [some (.ref o), some (.ref f)] [] M
  refine jj_aload_n (pc := 0) kRO_init_d0 rfl ?_
  refine jj_objInit (pc := 1) kRO_init_d1 (koRO_obj hG) (ko_inst hG) (ko_code hG) rfl (Nat.le_of_ble_eq_true rfl) ?_
  show jj G kRO_init (d + 2) Q rc rs 4 [some (.ref o), some (.ref f)] [] M
  refine jj_aload_n (pc := 4) kRO_init_d4 rfl ?_
  refine jn_bipush (pc := 5) 64 kRO_init_d5 (by decide) ?_
  refine jj_newa (pc := 7) (j := 0) (n := 64) (ty := .int) kRO_init_d7 rfl (kG_t hG rfl) (fun C h => by cases h) (ka_int hG) rfl (by decide) (by omega) (by omega) (fun ca hca => ?_)
  refine jn_gen (fun M165 hM166 => ?_)
  have ne_ca_o : ca ≠ o := fun e => by have q := ho; rw [← e, hca] at q; cases q
  have h167 : M165 o = some (.inl nRO, [.null, .null, .null, .null, .int (nI (0)), .int (nI (0))]) := by rw [hM166, jj_up_ne _ _ (Ne.symm ne_ca_o)]; exact ho
  have ne_ca_f : ca ≠ f := fun e => by have q := hf; rw [← e, hca] at q; cases q
  have h168 : M165 f = some (.inl nRF, [.ref w, .ref vv, .int (v3), .int (v4), .int (v5), .ref pv, .int (v7)]) := by rw [hM166, jj_up_ne _ _ (Ne.symm ne_ca_f)]; exact hf
  have hn_ca : M165 ca = some (.inr 0, (List.replicate 64 (0 : Int32)).map .int) := by rw [hM166, jj_up_at, List.map_replicate]; rfl
  show jj G kRO_init (d + 2) Q (rc - 1) (rs - 64) 9 [some (.ref o), some (.ref f)] [.ref ca, .ref o] M165
  refine jj_putF (pc := 9) kRO_init_d9 (kpRO_columnsAt hG) rfl h167 (by rfl) rfl ?_
  refine jn_gen (fun M169 hM170 => ?_)
  have h171 : M169 f = some (.inl nRF, [.ref w, .ref vv, .int (v3), .int (v4), .int (v5), .ref pv, .int (v7)]) := by rw [hM170, jj_up_ne _ _ (fun e => by have q1 := h168; rw [e, h167] at q1; cases q1)]; exact h168
  have h172 : M169 ca = some (.inr 0, (List.replicate 64 (0 : Int32)).map .int) := by rw [hM170, jj_up_ne _ _ ne_ca_o]; exact hn_ca
  have h173 : M169 o = some (.inl nRO, [.null, .null, .ref ca, .null, .int (nI (0)), .int (nI (0))]) := by rw [hM170]; exact jj_up_at _ _ _
  refine jj_aload_n (pc := 12) kRO_init_d12 rfl ?_
  refine jn_bipush (pc := 13) 64 kRO_init_d13 (by decide) ?_
  refine jj_newa (pc := 15) (j := 0) (n := 64) (ty := .int) kRO_init_d15 rfl (kG_t hG rfl) (fun C h => by cases h) (ka_int hG) rfl (by decide) (by omega) (by omega) (fun ra hra => ?_)
  refine jn_gen (fun M174 hM175 => ?_)
  have ne_ra_o : ra ≠ o := fun e => by have q := h173; rw [← e, hra] at q; cases q
  have h176 : M174 o = some (.inl nRO, [.null, .null, .ref ca, .null, .int (nI (0)), .int (nI (0))]) := by rw [hM175, jj_up_ne _ _ (Ne.symm ne_ra_o)]; exact h173
  have ne_ra_f : ra ≠ f := fun e => by have q := h171; rw [← e, hra] at q; cases q
  have h177 : M174 f = some (.inl nRF, [.ref w, .ref vv, .int (v3), .int (v4), .int (v5), .ref pv, .int (v7)]) := by rw [hM175, jj_up_ne _ _ (Ne.symm ne_ra_f)]; exact h171
  have ne_ra_ca : ra ≠ ca := fun e => by have q := h172; rw [← e, hra] at q; cases q
  have h178 : M174 ca = some (.inr 0, (List.replicate 64 (0 : Int32)).map .int) := by rw [hM175, jj_up_ne _ _ (Ne.symm ne_ra_ca)]; exact h172
  have hn_ra : M174 ra = some (.inr 0, (List.replicate 64 (0 : Int32)).map .int) := by rw [hM175, jj_up_at, List.map_replicate]; rfl
  show jj G kRO_init (d + 2) Q ((rc - 1) - 1) ((rs - 64) - 64) 17 [some (.ref o), some (.ref f)] [.ref ra, .ref o] M174
  refine jj_putF (pc := 17) kRO_init_d17 (kpRO_rowsAt hG) rfl h176 (by rfl) rfl ?_
  refine jn_gen (fun M179 hM180 => ?_)
  have h181 : M179 f = some (.inl nRF, [.ref w, .ref vv, .int (v3), .int (v4), .int (v5), .ref pv, .int (v7)]) := by rw [hM180, jj_up_ne _ _ (fun e => by have q1 := h177; rw [e, h176] at q1; cases q1)]; exact h177
  have h182 : M179 ca = some (.inr 0, (List.replicate 64 (0 : Int32)).map .int) := by rw [hM180, jj_up_ne _ _ ne_ca_o]; exact h178
  have h183 : M179 ra = some (.inr 0, (List.replicate 64 (0 : Int32)).map .int) := by rw [hM180, jj_up_ne _ _ ne_ra_o]; exact hn_ra
  have h184 : M179 o = some (.inl nRO, [.null, .null, .ref ca, .ref ra, .int (nI (0)), .int (nI (0))]) := by rw [hM180]; exact jj_up_at _ _ _
  refine jj_aload_n (pc := 20) kRO_init_d20 rfl ?_
  refine jj_aload_n (pc := 21) kRO_init_d21 rfl ?_
  refine jj_putF (pc := 22) kRO_init_d22 (kpRO_f hG) rfl h184 (by rfl) rfl ?_
  refine jn_gen (fun M185 hM186 => ?_)
  have h187 : M185 f = some (.inl nRF, [.ref w, .ref vv, .int (v3), .int (v4), .int (v5), .ref pv, .int (v7)]) := by rw [hM186, jj_up_ne _ _ (fun e => by have q1 := h181; rw [e, h184] at q1; cases q1)]; exact h181
  have h188 : M185 ca = some (.inr 0, (List.replicate 64 (0 : Int32)).map .int) := by rw [hM186, jj_up_ne _ _ ne_ca_o]; exact h182
  have h189 : M185 ra = some (.inr 0, (List.replicate 64 (0 : Int32)).map .int) := by rw [hM186, jj_up_ne _ _ ne_ra_o]; exact h183
  have h190 : M185 o = some (.inl nRO, [.ref f, .null, .ref ca, .ref ra, .int (nI (0)), .int (nI (0))]) := by rw [hM186]; exact jj_up_at _ _ _
  refine jj_aload_n (pc := 25) kRO_init_d25 rfl ?_
  refine jj_aload_n (pc := 26) kRO_init_d26 rfl ?_
  refine jj_getf (pc := 27) kRO_init_d27 (kfRO_RF_w hG) h187 rfl ?_
  refine jj_putF (pc := 30) kRO_init_d30 (kpRO_w hG) rfl h190 (by rfl) rfl ?_
  refine jn_gen (fun M191 hM192 => ?_)
  have h193 : M191 f = some (.inl nRF, [.ref w, .ref vv, .int (v3), .int (v4), .int (v5), .ref pv, .int (v7)]) := by rw [hM192, jj_up_ne _ _ (fun e => by have q1 := h187; rw [e, h190] at q1; cases q1)]; exact h187
  have h194 : M191 ca = some (.inr 0, (List.replicate 64 (0 : Int32)).map .int) := by rw [hM192, jj_up_ne _ _ ne_ca_o]; exact h188
  have h195 : M191 ra = some (.inr 0, (List.replicate 64 (0 : Int32)).map .int) := by rw [hM192, jj_up_ne _ _ ne_ra_o]; exact h189
  have h196 : M191 o = some (.inl nRO, [.ref f, .ref w, .ref ca, .ref ra, .int (nI (0)), .int (nI (0))]) := by rw [hM192]; exact jj_up_at _ _ _
  have fr : ∀ x, x ≠ o → x ≠ ca → x ≠ ra → M191 x = M x := fun x h_o h_ca h_ra => by
    rw [hM192, jj_up_ne _ _ h_o, hM186, jj_up_ne _ _ h_o, hM180, jj_up_ne _ _ h_o, hM175, jj_up_ne _ _ h_ra, hM170, jj_up_ne _ _ h_o, hM166, jj_up_ne _ _ h_ca]
  have mra : M ra = none := by
    have q := hra
    rw [hM170, jj_up_ne _ _ ne_ra_o, hM166, jj_up_ne _ _ ne_ra_ca] at q
    exact q
  exact jj_vret (pc := 33) kRO_init_d33 rfl (by rw [show ((rc - 1) - 1) = rc - 2 by omega, show ((rs - 64) - 64) = rs - 128 by omega]; exact k M191 ca ra ⟨hca, mra⟩ h196 h194 h195 (Ne.symm ne_ra_ca) fr)
end R1
