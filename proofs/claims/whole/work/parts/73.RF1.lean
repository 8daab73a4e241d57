/-! ===== Fractions: rows, columns, cells, upper, lower, put, whole, settle, reduce (printed by wip/gen/rf1.py) ===== -/
theorem RI.one {D : List Int32} {T p : Nat} {z : Int} (h : RI D T p z) (hT : T < 2 ^ 31) : (D.getD p 0 = 1 ∧ D.getD (p + 1) 0 = 1) ↔ z = 1 := by
  have hn := h.neg hT
  obtain ⟨r, h1, h2, h3, h4, h5⟩ := h
  constructor
  · rintro ⟨a, b⟩
    have hz : ¬ z < 0 := fun c => absurd (hn.mpr c) (by rw [a]; decide)
    rw [if_neg hz, a] at h2
    have e : r = 1 := nI_inj (by omega) (by decide) (h2.symm.trans (show (1 : Int32) = nI 1 from rfl))
    subst e
    have e1 : rnat D p 1 = dv D (p + 1) := by show 0 + dv D (p + (0 + 1)) * 32768 ^ 0 = dv D (p + 1); simp
    rw [e1, dv_nI (v := 1) (by rw [b]; rfl) (by decide)] at h5
    omega
  · intro e
    subst e
    have l1 := rnat_lt h3
    have hr : r = 1 := by
      cases r with
      | zero => have : (0 : Nat) = 1 := h5; omega
      | succ r =>
        cases r with
        | zero => rfl
        | succ r =>
          have := rnat_ge h3 (h4 (by omega))
          have h6 : 32768 ^ 1 ≤ 32768 ^ (r + 1) := Nat.pow_le_pow_right (by decide) (by omega)
          rw [h5] at this
          have : (1 : Int).natAbs = 1 := rfl
          omega
    subst hr
    have e1 : rnat D p 1 = dv D (p + 1) := by show 0 + dv D (p + (0 + 1)) * 32768 ^ 0 = dv D (p + 1); simp
    obtain ⟨g1, g2⟩ := h3.dv (i := 1) (by omega) (by omega)
    rw [e1] at h5
    rw [if_neg (by decide)] at h2
    exact ⟨h2, by rw [g2, h5]; rfl⟩
section RF1
variable {G : jg} {d : Nat} {Q : jq} {rc rs : Nat} {M : mheap} {f w vv pv : Nat} {v2 : Value} {D V P : List Int32} {t : Nat} {up low rk : Int32}
theorem rf_rows {a : Nat} (hG : kG G) (hC : FC M f w vv pv V t up low P rk) (hV : V.length < 2 ^ 31) (ha : a < V.length) (k : Q (.returned (some (.int (V.getD a 0)))) M rc rs) : jj G kRF_rows d Q rc rs 0 (jj_ent [.ref f, .int (nI (a))] 2) [] M := by
  show jj G kRF_rows (d) Q rc rs 0 [some (.ref f), some (.int (nI (a)))] [] M
  refine jj_aload_n (pc := 0) kRF_rows_d0 rfl ?_
  refine jj_getf (pc := 1) kRF_rows_d1 (kfRF_v hG) hC.1 rfl ?_
  refine jj_iload_n (pc := 4) kRF_rows_d4 rfl ?_
  refine jn_iald (pc := 5) (v := ((V).getD (a) 0)) kRF_rows_d5 (kG_t hG rfl) hC.2.1 (by omega) (by omega) (rfl) ?_
  exact jj_iret (pc := 6) kRF_rows_d6 rfl (by rfl) k
theorem rf_columns {a : Nat} (hG : kG G) (hC : FC M f w vv pv V t up low P rk) (hV : V.length < 2 ^ 31) (ha : a + 1 < V.length) (k : Q (.returned (some (.int (V.getD (a + 1) 0)))) M rc rs) : jj G kRF_columns d Q rc rs 0 (jj_ent [.ref f, .int (nI (a))] 2) [] M := by
  show jj G kRF_columns (d) Q rc rs 0 [some (.ref f), some (.int (nI (a)))] [] M
  refine jj_aload_n (pc := 0) kRF_columns_d0 rfl ?_
  refine jj_getf (pc := 1) kRF_columns_d1 (kfRF_v hG) hC.1 rfl ?_
  refine jj_iload_n (pc := 4) kRF_columns_d4 rfl ?_
  refine jn_iconst (pc := 5) 1 kRF_columns_d5 (by decide) ?_
  refine jn_iadd (pc := 6) (a + 1) kRF_columns_d6 (by omega) ?_
  refine jn_iald (pc := 7) (v := ((V).getD (a + 1) 0)) kRF_columns_d7 (kG_t hG rfl) hC.2.1 (by omega) (by omega) (rfl) ?_
  exact jj_iret (pc := 8) kRF_columns_d8 rfl (by rfl) k
theorem rf_cells {a r c : Nat} (hG : kG G) (hC : FC M f w vv pv V t up low P rk) (hV : V.length < 2 ^ 31) (ha : a + 1 < V.length) (hr : V.getD a 0 = nI r) (hc : V.getD (a + 1) 0 = nI c) (k : Q (.returned (some (.int (nI (r * c))))) M rc rs) : jj G kRF_cells d Q rc rs 0 (jj_ent [.ref f, .int (nI (a))] 2) [] M := by
  show jj G kRF_cells (d) Q rc rs 0 [some (.ref f), some (.int (nI (a)))] [] M
  refine jj_aload_n (pc := 0) kRF_cells_d0 rfl ?_
  refine jj_getf (pc := 1) kRF_cells_d1 (kfRF_v hG) hC.1 rfl ?_
  refine jj_iload_n (pc := 4) kRF_cells_d4 rfl ?_
  refine jn_iald (pc := 5) (v := (nI (r))) kRF_cells_d5 (kG_t hG rfl) hC.2.1 (by omega) (by omega) (hr) ?_
  refine jj_aload_n (pc := 6) kRF_cells_d6 rfl ?_
  refine jj_getf (pc := 7) kRF_cells_d7 (kfRF_v hG) hC.1 rfl ?_
  refine jj_iload_n (pc := 10) kRF_cells_d10 rfl ?_
  refine jn_iconst (pc := 11) 1 kRF_cells_d11 (by decide) ?_
  refine jn_iadd (pc := 12) (a + 1) kRF_cells_d12 (by omega) ?_
  refine jn_iald (pc := 13) (v := (nI (c))) kRF_cells_d13 (kG_t hG rfl) hC.2.1 (by omega) (by omega) (hc) ?_
  refine jn_imul (pc := 14) (r * c) kRF_cells_d14 rfl ?_
  exact jj_iret (pc := 15) kRF_cells_d15 rfl (by rfl) k
theorem rf_upper {a i : Nat} (hG : kG G) (hC : FC M f w vv pv V t up low P rk) (hV : V.length < 2 ^ 31) (ha : a + 2 + 2 * i < V.length) (k : Q (.returned (some (.int (V.getD (a + 2 + 2 * i) 0)))) M rc rs) : jj G kRF_upper d Q rc rs 0 (jj_ent [.ref f, .int (nI (a)), .int (nI (i))] 3) [] M := by
  show jj G kRF_upper (d) Q rc rs 0 [some (.ref f), some (.int (nI (a))), some (.int (nI (i)))] [] M
  refine jj_aload_n (pc := 0) kRF_upper_d0 rfl ?_
  refine jj_getf (pc := 1) kRF_upper_d1 (kfRF_v hG) hC.1 rfl ?_
  refine jj_iload_n (pc := 4) kRF_upper_d4 rfl ?_
  refine jn_iconst (pc := 5) 2 kRF_upper_d5 (by decide) ?_
  refine jn_iadd (pc := 6) (a + 2) kRF_upper_d6 (by omega) ?_
  refine jn_iconst (pc := 7) 2 kRF_upper_d7 (by decide) ?_
  refine jj_iload_n (pc := 8) kRF_upper_d8 rfl ?_
  refine jn_imul (pc := 9) (2 * i) kRF_upper_d9 (by omega) ?_
  refine jn_iadd (pc := 10) (a + 2 * i + 2) kRF_upper_d10 (by omega) ?_
  refine jn_iald (pc := 11) (v := (V.getD (a + 2 + 2 * i) 0)) kRF_upper_d11 (kG_t hG rfl) hC.2.1 (by omega) (by omega) (by rw [show a + 2 * i + 2 = a + 2 + 2 * i by omega]) ?_
  exact jj_iret (pc := 12) kRF_upper_d12 rfl (by rfl) k
theorem rf_lower {a i : Nat} (hG : kG G) (hC : FC M f w vv pv V t up low P rk) (hV : V.length < 2 ^ 31) (ha : a + 3 + 2 * i < V.length) (k : Q (.returned (some (.int (V.getD (a + 3 + 2 * i) 0)))) M rc rs) : jj G kRF_lower d Q rc rs 0 (jj_ent [.ref f, .int (nI (a)), .int (nI (i))] 3) [] M := by
  show jj G kRF_lower (d) Q rc rs 0 [some (.ref f), some (.int (nI (a))), some (.int (nI (i)))] [] M
  refine jj_aload_n (pc := 0) kRF_lower_d0 rfl ?_
  refine jj_getf (pc := 1) kRF_lower_d1 (kfRF_v hG) hC.1 rfl ?_
  refine jj_iload_n (pc := 4) kRF_lower_d4 rfl ?_
  refine jn_iconst (pc := 5) 3 kRF_lower_d5 (by decide) ?_
  refine jn_iadd (pc := 6) (a + 3) kRF_lower_d6 (by omega) ?_
  refine jn_iconst (pc := 7) 2 kRF_lower_d7 (by decide) ?_
  refine jj_iload_n (pc := 8) kRF_lower_d8 rfl ?_
  refine jn_imul (pc := 9) (2 * i) kRF_lower_d9 (by omega) ?_
  refine jn_iadd (pc := 10) (a + 2 * i + 3) kRF_lower_d10 (by omega) ?_
  refine jn_iald (pc := 11) (v := (V.getD (a + 3 + 2 * i) 0)) kRF_lower_d11 (kG_t hG rfl) hC.2.1 (by omega) (by omega) (by rw [show a + 2 * i + 3 = a + 3 + 2 * i by omega]) ?_
  exact jj_iret (pc := 12) kRF_lower_d12 rfl (by rfl) k
theorem rf_put {a i T cm X Z : Nat} (hG : kG G) (hC : FC M f w vv pv V t up low P rk) (hS : RS M w D T v2 cm X Z rc rs) (hV : V.length < 2 ^ 31) (ha : a + 3 + 2 * i < V.length) (k : ∀ M', FC M' f w vv pv ((V.set (a + 2 + 2 * i) up).set (a + 3 + 2 * i) low) t up low P rk → RS M' w D T v2 cm X Z rc rs → FF M M' f → Q (.returned none) M' rc rs) : jj G kRF_put d Q rc rs 0 (jj_ent [.ref f, .int (nI a), .int (nI i)] 3) [] M := by
  show jj G kRF_put (d) Q rc rs 0 [some (.ref f), some (.int (nI (a))), some (.int (nI (i)))] [] M
  refine jj_aload_n (pc := 0) kRF_put_d0 rfl ?_
  refine jj_getf (pc := 1) kRF_put_d1 (kfRF_v hG) hC.1 rfl ?_
  refine jj_iload_n (pc := 4) kRF_put_d4 rfl ?_
  refine jn_iconst (pc := 5) 2 kRF_put_d5 (by decide) ?_
  refine jn_iadd (pc := 6) (a + 2) kRF_put_d6 (by omega) ?_
  refine jn_iconst (pc := 7) 2 kRF_put_d7 (by decide) ?_
  refine jj_iload_n (pc := 8) kRF_put_d8 rfl ?_
  refine jn_imul (pc := 9) (2 * i) kRF_put_d9 (by omega) ?_
  refine jn_iadd (pc := 10) (a + 2 * i + 2) kRF_put_d10 (by omega) ?_
  refine jj_aload_n (pc := 11) kRF_put_d11 rfl ?_
  refine jj_getf (pc := 12) kRF_put_d12 (kfRF_up hG) hC.1 rfl ?_
  refine jn_iast (pc := 15) kRF_put_d15 (kG_t hG rfl) hC.2.1 (by omega) (by omega) ?_
  refine jn_gen (fun M101 hM102 => ?_)
  have hC103 : FC M101 f w vv pv ((V).set (a + 2 * i + 2) ((up))) (t) (up) (low) P (rk) := by rw [hM102]; exact hC.putv
  have hF103 : FF M M101 f := by rw [hM102]; exact (FF.refl M f).trans (FF.putv hC)
  have hS103 : RS M101 w D (T) v2 cm X Z rc rs := by rw [hM102]; exact hS.other hC.2.2.2.2.2.1
  have hl1 : (V.set (a + 2 * i + 2) up).length < 2 ^ 31 := by rw [List.length_set]; exact hV
  have hl2 : (V.set (a + 2 * i + 2) up).length = V.length := List.length_set ..
  refine jj_aload_n (pc := 16) kRF_put_d16 rfl ?_
  refine jj_getf (pc := 17) kRF_put_d17 (kfRF_v hG) hC103.1 rfl ?_
  refine jj_iload_n (pc := 20) kRF_put_d20 rfl ?_
  refine jn_iconst (pc := 21) 3 kRF_put_d21 (by decide) ?_
  refine jn_iadd (pc := 22) (a + 3) kRF_put_d22 (by omega) ?_
  refine jn_iconst (pc := 23) 2 kRF_put_d23 (by decide) ?_
  refine jj_iload_n (pc := 24) kRF_put_d24 rfl ?_
  refine jn_imul (pc := 25) (2 * i) kRF_put_d25 (by omega) ?_
  refine jn_iadd (pc := 26) (a + 2 * i + 3) kRF_put_d26 (by omega) ?_
  refine jj_aload_n (pc := 27) kRF_put_d27 rfl ?_
  refine jj_getf (pc := 28) kRF_put_d28 (kfRF_low hG) hC103.1 rfl ?_
  refine jn_iast (pc := 31) kRF_put_d31 (kG_t hG rfl) hC103.2.1 (by omega) (by omega) ?_
  refine jn_gen (fun M104 hM105 => ?_)
  have hC106 : FC M104 f w vv pv (((V).set (a + 2 * i + 2) ((up))).set (a + 2 * i + 3) ((low))) (t) (up) (low) P (rk) := by rw [hM105]; exact hC103.putv
  have hF106 : FF M M104 f := by rw [hM105]; exact hF103.trans (FF.putv hC103)
  have hS106 : RS M104 w D (T) v2 cm X Z rc rs := by rw [hM105]; exact hS103.other hC103.2.2.2.2.2.1
  rw [show a + 2 * i + 2 = a + 2 + 2 * i by omega, show a + 2 * i + 3 = a + 3 + 2 * i by omega] at hC106
  exact jj_vret (pc := 32) kRF_put_d32 rfl (k _ hC106 hS106 hF106)
theorem rf_settle {mark c e T Tc Te cm X Z a b : Nat} {zc ze : Int} (hG : kG G) (hC : FC M f w vv pv V t up low P rk) (hS : RS M w D T v2 cm X Z rc rs) (hc : RI D Tc c zc) (he : RI D Te e ze) (hTc : Tc ≤ D.length) (hTe : Te ≤ D.length) (hmc : c = 0 ∨ mark ≤ c) (hmT : mark ≤ Tc) (hce : Tc ≤ e) (hm : 0 < mark) (ha : zc.natAbs < 32768 ^ a) (hb : ze.natAbs < 32768 ^ b)
    (k : ∀ M' D' T' p l, FC M' f w vv pv V t (nI p) (nI l) P rk → RS M' w D' T' v2 cm X Z rc rs → mark ≤ T' → T' ≤ mark + a + b + 2 → (∀ i, i < mark → D'.getD i 0 = D.getD i 0) → FF M M' f → RI D' T' p zc → (ze = 1 → l = 1) → (ze ≠ 1 → RI D' T' l ze ∧ (l = 0 ∨ mark ≤ l)) → (p = 0 ∨ p = mark) → Q (.returned none) M' rc rs) : jj G kRF_settle (d + 2) Q rc rs 0 (jj_ent [.ref f, .int (nI mark), .int (nI c), .int (nI e)] 6) [] M := by
  have hcl := hc.lt
  have hel := he.lt
  have hel2 : e + 1 < Te := by obtain ⟨r, g1, -⟩ := id he; omega
  obtain ⟨hW107, hB107, hTD107, hz107, hp107⟩ := id hS
  obtain ⟨dd107, hw107, hd107⟩ := id hW107
  have hcap107 := hB107.cap
  have hone := he.one (show Te < 2 ^ 31 by omega)
  show jj G kRF_settle (d + 2) Q rc rs 0 [some (.ref f), some (.int (nI (mark))), some (.int (nI (c))), some (.int (nI (e))), none, none] [] M
  refine jj_aload_n (pc := 0) kRF_settle_d0 rfl ?_
  refine jj_getf (pc := 1) kRF_settle_d1 (kfRF_w hG) hC.1 rfl ?_
  refine jj_iload_n (pc := 4) kRF_settle_d4 rfl ?_
  refine jj_callV (pc := 5) (b := w) (As := [.int (nI (e))]) kRF_settle_d5 (kvRF_RW_isOne hG) (kG_cl hG rfl) rfl hw107 rfl rfl rfl (Nat.le_of_ble_eq_true rfl) (Nat.le_of_ble_eq_true rfl) (jj_bare0 rfl) ?_
  refine rs_isOne hG hW107 (by omega) (by omega) ?_
  show jj G kRF_settle (d + 2) Q rc rs 8 [some (.ref f), some (.int (nI (mark))), some (.int (nI (c))), some (.int (nI (e))), none, none] [.int (if D.getD e 0 = 1 ∧ D.getD (e + 1) 0 = 1 then 1 else 0)] M
  refine jj_istore (pc := 8) kRF_settle_d8 (Nat.le_of_ble_eq_true rfl) ?_
  refine jj_aload_n (pc := 10) kRF_settle_d10 rfl ?_
  refine jj_aload_n (pc := 11) kRF_settle_d11 rfl ?_
  refine jj_getf (pc := 12) kRF_settle_d12 (kfRF_w hG) hC.1 rfl ?_
  refine jj_iload_n (pc := 15) kRF_settle_d15 rfl ?_
  refine jj_iload_n (pc := 16) kRF_settle_d16 rfl ?_
  refine jj_callV (pc := 17) (b := w) (As := [.int (nI (c)), .int (nI (mark))]) kRF_settle_d17 (kvRF_RW_moved hG) (kG_cl hG rfl) rfl hw107 rfl rfl rfl (Nat.le_of_ble_eq_true rfl) (Nat.le_of_ble_eq_true rfl) (jj_bare0 rfl) ?_
  refine ri_moved (a := a) hG hS hc hTc (by omega) hm (by omega) ha (fun M7 D7 T7 p7 hS7 hlen7 t7 u7 ho7 hf7 hI7 e7 e8 => ?_)
  show jj G kRF_settle (d + 2) Q rc rs 20 [some (.ref f), some (.int (nI (mark))), some (.int (nI (c))), some (.int (nI (e))), some (.int (if D.getD e 0 = 1 ∧ D.getD (e + 1) 0 = 1 then 1 else 0)), none] [.int (nI (p7)), .ref f] M7
  have e78 : MVX D7 mark T7 p7 := ⟨e7, e8⟩
  clear e7 e8
  have hloc := e78.loc
  have he7 : RI D7 Te e ze := he.above (lo := Tc) hz107 (by omega) (Nat.le_refl _) (by omega) (fun i h1 h2 => ho7 i (by omega))
  have hC7 := hC.rf hf7
  have hF7 := FF.ofRF hC hf7
  obtain ⟨hW108, hB108, hTD108, hz108, hp108⟩ := id hS7
  obtain ⟨dd108, hw108, hd108⟩ := id hW108
  have hcap108 := hB108.cap
  have hI7l := hI7.lt
  refine jj_putf (pc := 20) kRF_settle_d20 (kpRF_up hG) hC7.1 (by rfl) rfl ?_
  refine jn_gen (fun M109 hM110 => ?_)
  have hC111 : FC M109 f w vv pv V (t) (nI (p7)) (low) P (rk) := by rw [hM110]; exact hC7.putf
  have hF111 : FF M M109 f := by rw [hM110]; exact hF7.trans (FF.putf hC7)
  have hS111 : RS M109 w D7 (T7) v2 cm X Z rc rs := by rw [hM110]; exact hS7.other hC7.2.2.2.2.1
  obtain ⟨hW112, hB112, hTD112, hz112, hp112⟩ := id hS111
  obtain ⟨dd112, hw112, hd112⟩ := id hW112
  have hcap112 := hB112.cap
  refine jj_aload_n (pc := 23) kRF_settle_d23 rfl ?_
  refine jj_getf (pc := 24) kRF_settle_d24 (kfRF_up hG) hC111.1 rfl ?_
  have k52 : jj G kRF_settle (d + 2) Q rc rs 52 [some (.ref f), some (.int (nI (mark))), some (.int (nI (c))), some (.int (nI (e))), some (.int (if D.getD e 0 = 1 ∧ D.getD (e + 1) 0 = 1 then 1 else 0)), none] [.int (nI (T7))] M109 := by
    refine jj_istore (pc := 52) kRF_settle_d52 (Nat.le_of_ble_eq_true rfl) ?_
    refine jj_iload (pc := 54) kRF_settle_d54 rfl ?_
    refine jn_ifb_eq (pc := 56) (tgt := 76) kRF_settle_d56 (by decide) (fun c1 => ?_) (fun c1 => ?_)
    · skip
      have hz1 : ze ≠ 1 := fun e => c1 (hone.mpr e)
      refine jj_aload_n (pc := 76) kRF_settle_d76 rfl ?_
      refine jj_aload_n (pc := 77) kRF_settle_d77 rfl ?_
      refine jj_getf (pc := 78) kRF_settle_d78 (kfRF_w hG) hC111.1 rfl ?_
      refine jj_iload_n (pc := 81) kRF_settle_d81 rfl ?_
      refine jj_iload (pc := 82) kRF_settle_d82 rfl ?_
      refine jj_callV (pc := 84) (b := w) (As := [.int (nI (e)), .int (nI (T7))]) kRF_settle_d84 (kvRF_RW_moved hG) (kG_cl hG rfl) rfl hw112 rfl rfl rfl (Nat.le_of_ble_eq_true rfl) (Nat.le_of_ble_eq_true rfl) (jj_bare0 rfl) ?_
      refine ri_moved (a := b) hG hS111 he7 (by omega) (by omega) (by omega) (by omega) hb (fun M8 D8 T8 p8 hS8 hlen8 t8 u8 ho8 hf8 hI8 e7 e8 => ?_)
      show jj G kRF_settle (d + 2) Q rc rs 87 [some (.ref f), some (.int (nI (mark))), some (.int (nI (c))), some (.int (nI (e))), some (.int (if D.getD e 0 = 1 ∧ D.getD (e + 1) 0 = 1 then 1 else 0)), some (.int (nI (T7)))] [.int (nI (p8)), .ref f] M8
      have hloc8 := MVX.loc (⟨e7, e8⟩ : MVX D8 T7 T8 p8)
      clear e7 e8
      have hC8 := hC111.rf hf8
      have hF8 := hF111.trans (FF.ofRF hC111 hf8)
      obtain ⟨hW113, hB113, hTD113, hz113, hp113⟩ := id hS8
      obtain ⟨dd113, hw113, hd113⟩ := id hW113
      have hcap113 := hB113.cap
      refine jj_putf (pc := 87) kRF_settle_d87 (kpRF_low hG) hC8.1 (by rfl) rfl ?_
      refine jn_gen (fun M114 hM115 => ?_)
      have hC116 : FC M114 f w vv pv V (t) (nI (p7)) (nI (p8)) P (rk) := by rw [hM115]; exact hC8.putf
      have hF116 : FF M M114 f := by rw [hM115]; exact hF8.trans (FF.putf hC8)
      have hS116 : RS M114 w D8 (T8) v2 cm X Z rc rs := by rw [hM115]; exact hS8.other hC8.2.2.2.2.1
      obtain ⟨hW117, hB117, hTD117, hz117, hp117⟩ := id hS116
      obtain ⟨dd117, hw117, hd117⟩ := id hW117
      have hcap117 := hB117.cap
      exact jj_vret (pc := 90) kRF_settle_d90 rfl (k _ D8 T8 p7 p8 hC116 hS116 (by omega) (by omega) (fun i hi => by rw [ho8 i (by omega), ho7 i (by omega)]) hF116 (hI7.congr t8.1 (fun i hi => ho8 i (by omega))) (fun e => absurd e hz1) (fun _ => ⟨hI8, by omega⟩) hloc)
    · skip
      have hz1 : ze = 1 := hone.mp c1
      refine jj_aload_n (pc := 59) kRF_settle_d59 rfl ?_
      refine jn_iconst (pc := 60) 1 kRF_settle_d60 (by decide) ?_
      refine jj_putf (pc := 61) kRF_settle_d61 (kpRF_low hG) hC111.1 (by rfl) rfl ?_
      refine jn_gen (fun M118 hM119 => ?_)
      have hC120 : FC M118 f w vv pv V (t) (nI (p7)) (nI (1)) P (rk) := by rw [hM119]; exact hC111.putf
      have hF120 : FF M M118 f := by rw [hM119]; exact hF111.trans (FF.putf hC111)
      have hS120 : RS M118 w D7 (T7) v2 cm X Z rc rs := by rw [hM119]; exact hS111.other hC111.2.2.2.2.1
      obtain ⟨hW121, hB121, hTD121, hz121, hp121⟩ := id hS120
      obtain ⟨dd121, hw121, hd121⟩ := id hW121
      have hcap121 := hB121.cap
      refine jj_aload_n (pc := 64) kRF_settle_d64 rfl ?_
      refine jj_getf (pc := 65) kRF_settle_d65 (kfRF_w hG) hC120.1 rfl ?_
      refine jj_iload (pc := 68) kRF_settle_d68 rfl ?_
      refine jj_putf (pc := 70) kRF_settle_d70 (kpRF_RW_top hG) hw121 (by rfl) rfl ?_
      refine jn_gen (fun M122 hM123 => ?_)
      have hf124 : RF M118 M122 w := by rw [hM123]; exact RF.top hw121
      have hS124 : RS M122 w D7 (T7) v2 cm X Z rc rs := ⟨⟨dd121, by rw [hM123]; exact jj_up_at _ _ _, by rw [hM123, jj_up_ne _ _ (fun e => by have q1 := hd121; rw [e, hw121] at q1; cases q1)]; exact hd121⟩, hB121, by omega, hz121, by omega⟩
      have hC124 := hC120.rf hf124
      have hF124 := hF120.trans (FF.ofRF hC120 hf124)
      obtain ⟨hW125, hB125, hTD125, hz125, hp125⟩ := id hS124
      obtain ⟨dd125, hw125, hd125⟩ := id hW125
      have hcap125 := hB125.cap
      refine jj_goto (pc := 73) (tgt := 90) kRF_settle_d73 (by decide) ?_
      exact jj_vret (pc := 90) kRF_settle_d90 rfl (k _ D7 T7 p7 1 hC124 hS124 (by omega) (by omega) (fun i hi => ho7 i (by omega)) hF124 hI7 (fun _ => rfl) (fun e => absurd hz1 e) hloc)
  refine jn_if_ne (pc := 27) (tgt := 34) kRF_settle_d27 (by decide) (by omega) (fun c3 => ?_) (fun c3 => ?_)
  · skip
    obtain ⟨e8, r, e9, e10⟩ := e78.2 (by omega)
    refine jj_aload_n (pc := 34) kRF_settle_d34 rfl ?_
    refine jj_getf (pc := 35) kRF_settle_d35 (kfRF_up hG) hC111.1 rfl ?_
    refine jj_aload_n (pc := 38) kRF_settle_d38 rfl ?_
    refine jj_getf (pc := 39) kRF_settle_d39 (kfRF_w hG) hC111.1 rfl ?_
    refine jj_aload_n (pc := 42) kRF_settle_d42 rfl ?_
    refine jj_getf (pc := 43) kRF_settle_d43 (kfRF_up hG) hC111.1 rfl ?_
    refine jj_callV (pc := 46) (b := w) (As := [.int (nI (p7))]) kRF_settle_d46 (kvRF_RW_digits hG) (kG_cl hG rfl) rfl hw112 rfl rfl rfl (Nat.le_of_ble_eq_true rfl) (Nat.le_of_ble_eq_true rfl) (jj_bare0 rfl) ?_
    refine rw_digits hG hw112 hd112 (by omega) (by omega) ?_
    show jj G kRF_settle (d + 2) Q rc rs 49 [some (.ref f), some (.int (nI (mark))), some (.int (nI (c))), some (.int (nI (e))), some (.int (if D.getD e 0 = 1 ∧ D.getD (e + 1) 0 = 1 then 1 else 0)), none] [.int (iabs (D7.getD p7 0)), .int (nI (p7))] M109
    refine jn_top (.int (nI (r))) (by rw [e9]) ?_
    refine jn_iadd (pc := 49) (p7 + r) kRF_settle_d49 (by omega) ?_
    refine jn_iconst (pc := 50) 1 kRF_settle_d50 (by decide) ?_
    refine jn_iadd (pc := 51) (p7 + r + 1) kRF_settle_d51 (by omega) ?_
    refine jn_top (.int (nI (T7))) (by rw [show p7 + r + 1 = T7 by omega]) ?_
    exact k52
  · skip
    refine jj_iload_n (pc := 30) kRF_settle_d30 rfl ?_
    have e9 : mark = T7 := (e78.1 c3).symm
    refine jn_top (.int (nI (T7))) (by rw [← e9]) ?_
    refine jj_goto (pc := 31) (tgt := 52) kRF_settle_d31 (by decide) ?_
    exact k52
end RF1
