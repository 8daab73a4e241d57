/-! ===== Fractions.same; the cells of a matrix (printed by wip/gen/rf6.py) ===== -/
/-- the cell k of the matrix at a is the fraction q; its numbers stand at lo or above it, or are 0 and 1 -/
def MC (D : List Int32) (T : Nat) (V : List Int32) (a lo k : Nat) (q : Rat) : Prop := ∃ p l, V.getD (a + 2 + 2 * k) 0 = nI p ∧ V.getD (a + 3 + 2 * k) 0 = nI l ∧ FQ D T p l q ∧ (p = 0 ∨ lo ≤ p) ∧ (l = 1 ∨ lo ≤ l)
theorem MC.congr {D D' V V' : List Int32} {T T' a lo lo' k : Nat} {q : Rat} (h : MC D T V a lo k q) (hT : T ≤ T') (e : ∀ i, i < T → D'.getD i 0 = D.getD i 0) (eV : ∀ i, a + 2 + 2 * k ≤ i → i < a + 4 + 2 * k → V'.getD i 0 = V.getD i 0) (hlo : lo' ≤ lo) : MC D' T' V' a lo' k q := by
  obtain ⟨p, l, h1, h2, h3, h4, h5⟩ := h
  exact ⟨p, l, by rw [eV _ (by omega) (by omega)]; exact h1, by rw [eV _ (by omega) (by omega)]; exact h2, h3.congr hT e, by omega, by omega⟩
/-- a matrix at a, below t: r rows, c columns, the cells q -/
def MX (D : List Int32) (T : Nat) (V : List Int32) (t a r c lo : Nat) (q : Nat → Rat) : Prop := a + 2 + 2 * (r * c) ≤ t ∧ V.getD a 0 = nI r ∧ V.getD (a + 1) 0 = nI c ∧ ∀ k, k < r * c → MC D T V a lo k (q k)
theorem MX.congr {D D' V V' : List Int32} {T T' t t' a r c lo lo' : Nat} {q : Nat → Rat} (h : MX D T V t a r c lo q) (hT : T ≤ T') (e : ∀ i, i < T → D'.getD i 0 = D.getD i 0) (ht : t ≤ t') (eV : ∀ i, i < t → V'.getD i 0 = V.getD i 0) (hlo : lo' ≤ lo) : MX D' T' V' t' a r c lo' q := by
  obtain ⟨h1, h2, h3, h4⟩ := h
  exact ⟨by omega, by rw [eV _ (by omega)]; exact h2, by rw [eV _ (by omega)]; exact h3, fun k hk => (h4 k hk).congr hT e (fun i _ h6 => eV i (by omega)) hlo⟩
section RF6
variable {G : jg} {d : Nat} {Q : jq} {rc rs : Nat} {M : mheap} {f w vv pv : Nat} {v2 : Value} {D V P : List Int32} {t : Nat} {up low rk : Int32}
theorem rf_same {a i b j lo T c cm X Z : Nat} {q : Rat} (hG : kG G) (hC : FC M f w vv pv V t up low P rk) (hS : RS M w D T v2 cm X Z rc rs) (h1 : RI D T 1 1) (hT3 : 3 ≤ T) (hV : V.length < 2 ^ 31) (hq : MC D T V b lo j q) (hb : b + 3 + 2 * j < V.length) (ha : a + 3 + 2 * i < V.length) (hcn : ZB c q.num) (hcd : ZB c (q.den : Int)) (hT : T + 2 * c + 2 ≤ cm)
    (K : ∀ M' D' T' V' up' low' rc' rs', FC M' f w vv pv V' t up' low' P rk → RS M' w D' T' v2 cm X Z rc' rs' → T ≤ T' → T' ≤ T + 2 * c + 2 → (∀ i, i < T → D'.getD i 0 = D.getD i 0) → V'.length = V.length → (∀ k, k < a + 2 + 2 * i ∨ a + 4 + 2 * i ≤ k → V'.getD k 0 = V.getD k 0) → FF M M' f → MC D' T' V' a T i q → Q (.returned none) M' rc' rs') : jj G kRF_same (d + 4) Q rc rs 0 (jj_ent [.ref f, .int (nI a), .int (nI i), .int (nI b), .int (nI j)] 5) [] M := by
  obtain ⟨pu, pl, g1, g2, hF, g4, g5⟩ := id hq
  obtain ⟨hu, hl, hl1⟩ := id hF
  have llu := hu.lt
  have lll := hl.lt
  obtain ⟨hW101, hB101, hTD101, hz101, hp101⟩ := id hS
  obtain ⟨dd101, hw101, hd101⟩ := id hW101
  have hcap101 := hB101.cap
  show jj G kRF_same (d + 4) Q rc rs 0 [some (.ref f), some (.int (nI (a))), some (.int (nI (i))), some (.int (nI (b))), some (.int (nI (j)))] [] M
  refine jj_aload_n (pc := 0) kRF_same_d0 rfl ?_
  refine jj_aload_n (pc := 1) kRF_same_d1 rfl ?_
  refine jj_getf (pc := 2) kRF_same_d2 (kfRF_w hG) hC.1 rfl ?_
  refine jj_aload_n (pc := 5) kRF_same_d5 rfl ?_
  refine jj_iload_n (pc := 6) kRF_same_d6 rfl ?_
  refine jj_iload (pc := 7) kRF_same_d7 rfl ?_
  refine jj_callV (pc := 9) (b := f) (As := [.int (nI (b)), .int (nI (j))]) kRF_same_d9 (kvRF_RF_upper hG) (kG_cl hG rfl) rfl hC.1 rfl rfl rfl (Nat.le_of_ble_eq_true rfl) (Nat.le_of_ble_eq_true rfl) (jj_bare0 rfl) ?_
  refine rf_upper hG hC hV (by omega) ?_
  show jj G kRF_same (d + 4) Q rc rs 12 [some (.ref f), some (.int (nI (a))), some (.int (nI (i))), some (.int (nI (b))), some (.int (nI (j)))] [.int (V.getD (b + 2 + 2 * j) 0), .ref w, .ref f] M
  refine jn_top (.int (nI (pu))) (by rw [g1]) ?_
  refine jj_callV (pc := 12) (b := w) (As := [.int (nI (pu))]) kRF_same_d12 (kvRF_RW_copy hG) (kG_cl hG rfl) rfl hw101 rfl rfl rfl (Nat.le_of_ble_eq_true rfl) (Nat.le_of_ble_eq_true rfl) (jj_bare0 rfl) ?_
  refine ri_copy (a := c) hG hS hu hcn (by omega) (fun M102 D102 T102 p102 rc102 rs102 hS102 t102 u102 ho102 hf102 hI102 => ?_)
  show jj G kRF_same (d + 4) Q rc102 rs102 15 [some (.ref f), some (.int (nI (a))), some (.int (nI (i))), some (.int (nI (b))), some (.int (nI (j)))] [.int (nI (p102)), .ref f] M102
  have hC102 := hC.rf hf102
  have hF102 := (FF.refl M f).trans (FF.ofRF hC hf102)
  have hu_102 := hu.congr t102.1 ho102
  have hl_102 := hl.congr t102.1 ho102
  obtain ⟨hW103, hB103, hTD103, hz103, hp103⟩ := id hS102
  obtain ⟨dd103, hw103, hd103⟩ := id hW103
  have hcap103 := hB103.cap
  refine jj_putf (pc := 15) kRF_same_d15 (kpRF_up hG) hC102.1 (by rfl) rfl ?_
  refine jn_gen (fun M104 hM105 => ?_)
  have hC106 : FC M104 f w vv pv V (t) (nI (p102)) (low) P (rk) := by rw [hM105]; exact hC102.putf
  have hF106 : FF M M104 f := by rw [hM105]; exact hF102.trans (FF.putf hC102)
  have hS106 : RS M104 w D102 (T102) v2 cm X Z rc102 rs102 := by rw [hM105]; exact hS102.other hC102.2.2.2.2.1
  obtain ⟨hW107, hB107, hTD107, hz107, hp107⟩ := id hS106
  obtain ⟨dd107, hw107, hd107⟩ := id hW107
  have hcap107 := hB107.cap
  refine jj_aload_n (pc := 18) kRF_same_d18 rfl ?_
  refine jj_aload_n (pc := 19) kRF_same_d19 rfl ?_
  refine jj_iload_n (pc := 20) kRF_same_d20 rfl ?_
  refine jj_iload (pc := 21) kRF_same_d21 rfl ?_
  refine jj_callV (pc := 23) (b := f) (As := [.int (nI (b)), .int (nI (j))]) kRF_same_d23 (kvRF_RF_lower hG) (kG_cl hG rfl) rfl hC106.1 rfl rfl rfl (Nat.le_of_ble_eq_true rfl) (Nat.le_of_ble_eq_true rfl) (jj_bare0 rfl) ?_
  refine rf_lower hG hC106 hV (by omega) ?_
  show jj G kRF_same (d + 4) Q rc102 rs102 26 [some (.ref f), some (.int (nI (a))), some (.int (nI (i))), some (.int (nI (b))), some (.int (nI (j)))] [.int (V.getD (b + 3 + 2 * j) 0), .ref f] M104
  refine jn_top (.int (nI (pl))) (by rw [g2]) ?_
  have k48 : ∀ (p9 : Nat) (M9 : mheap) (D9 : List Int32) (T9 : Nat) (rc9 rs9 : Nat), FC M9 f w vv pv V (t) (nI (p102)) (low) P (rk) → RS M9 w D9 T9 v2 cm X Z rc9 rs9 → T ≤ T9 → T9 ≤ T + 2 * c + 2 → (∀ i, i < T → D9.getD i 0 = D.getD i 0) → FF M M9 f → RI D9 T9 p102 (q.num) → (p9 = 1 ∨ T ≤ p9) → (q.den = 1 → p9 = 1) → RI D9 T9 p9 ((q.den : Int)) → jj G kRF_same (d + 4) Q rc9 rs9 48 [some (.ref f), some (.int (nI (a))), some (.int (nI (i))), some (.int (nI (b))), some (.int (nI (j)))] [.int (nI (p9)), .ref f] M9 := by
    intro p9 M9 D9 T9 rc9 rs9 hC9 hS9 t9 u9 ho9 hF9 hN9x0 hloc hone hN9x1
    have hcap9 := hS9.2.1.cap
    refine jj_putf (pc := 48) kRF_same_d48 (kpRF_low hG) hC9.1 (by rfl) rfl ?_
    refine jn_gen (fun M108 hM109 => ?_)
    have hC110 : FC M108 f w vv pv V (t) (nI (p102)) (nI (p9)) P (rk) := by rw [hM109]; exact hC9.putf
    have hF110 : FF M M108 f := by rw [hM109]; exact hF9.trans (FF.putf hC9)
    have hS110 : RS M108 w D9 (T9) v2 cm X Z rc9 rs9 := by rw [hM109]; exact hS9.other hC9.2.2.2.2.1
    refine jj_aload_n (pc := 51) kRF_same_d51 rfl ?_
    refine jj_iload_n (pc := 52) kRF_same_d52 rfl ?_
    refine jj_iload_n (pc := 53) kRF_same_d53 rfl ?_
    refine jj_callV (pc := 54) (b := f) (As := [.int (nI (a)), .int (nI (i))]) kRF_same_d54 (kvRF_RF_put hG) (kG_cl hG rfl) rfl hC110.1 rfl rfl rfl (Nat.le_of_ble_eq_true rfl) (Nat.le_of_ble_eq_true rfl) (jj_bare0 rfl) ?_
    refine rf_put hG hC110 hS110 hV (by omega) (fun M5 hC5 hS5 hF5 => ?_)
    show jj G kRF_same (d + 4) Q rc9 rs9 57 [some (.ref f), some (.int (nI (a))), some (.int (nI (i))), some (.int (nI (b))), some (.int (nI (j)))] [] M5
    have hv1 : ((V.set (a + 2 + 2 * i) (nI p102)).set (a + 3 + 2 * i) (nI p9)).length = V.length := by rw [List.length_set, List.length_set]
    exact jj_vret (pc := 57) kRF_same_d57 rfl (K _ D9 T9 _ _ _ _ _ hC5 hS5 t9 (by omega) ho9 hv1 (fun k hk => by rw [gd_set_ne (by omega), gd_set_ne (by omega)]) (hF110.trans hF5) ⟨p102, p9, by rw [gd_set_ne (by omega)]; exact gd_set_eq (by omega), gd_set_eq (by rw [List.length_set]; omega), ⟨hN9x0, hN9x1, hone⟩, by omega, hloc⟩)
  refine jn_iconst (pc := 26) 1 kRF_same_d26 (by decide) ?_
  refine jn_icmp_ne (pc := 27) (tgt := 34) kRF_same_d27 (by decide) (by omega) (by omega) (fun c1 => ?_) (fun c1 => ?_)
  · skip
    refine jj_aload_n (pc := 34) kRF_same_d34 rfl ?_
    refine jj_getf (pc := 35) kRF_same_d35 (kfRF_w hG) hC106.1 rfl ?_
    refine jj_aload_n (pc := 38) kRF_same_d38 rfl ?_
    refine jj_iload_n (pc := 39) kRF_same_d39 rfl ?_
    refine jj_iload (pc := 40) kRF_same_d40 rfl ?_
    refine jj_callV (pc := 42) (b := f) (As := [.int (nI (b)), .int (nI (j))]) kRF_same_d42 (kvRF_RF_lower hG) (kG_cl hG rfl) rfl hC106.1 rfl rfl rfl (Nat.le_of_ble_eq_true rfl) (Nat.le_of_ble_eq_true rfl) (jj_bare0 rfl) ?_
    refine rf_lower hG hC106 hV (by omega) ?_
    show jj G kRF_same (d + 4) Q rc102 rs102 45 [some (.ref f), some (.int (nI (a))), some (.int (nI (i))), some (.int (nI (b))), some (.int (nI (j)))] [.int (V.getD (b + 3 + 2 * j) 0), .ref w, .ref f] M104
    refine jn_top (.int (nI (pl))) (by rw [g2]) ?_
    have hd1 : q.den ≠ 1 := fun e => c1 (hl1 e)
    refine jj_callV (pc := 45) (b := w) (As := [.int (nI (pl))]) kRF_same_d45 (kvRF_RW_copy hG) (kG_cl hG rfl) rfl hw107 rfl rfl rfl (Nat.le_of_ble_eq_true rfl) (Nat.le_of_ble_eq_true rfl) (jj_bare0 rfl) ?_
    refine ri_copy (a := c) hG hS106 hl_102 hcd (by omega) (fun M111 D111 T111 p111 rc111 rs111 hS111 t111 u111 ho111 hf111 hI111 => ?_)
    show jj G kRF_same (d + 4) Q rc111 rs111 48 [some (.ref f), some (.int (nI (a))), some (.int (nI (i))), some (.int (nI (b))), some (.int (nI (j)))] [.int (nI (p111)), .ref f] M111
    have hC111 := hC106.rf hf111
    have hF111 := hF106.trans (FF.ofRF hC106 hf111)
    have hu_111 := hu_102.congr t111.1 ho111
    have hl_111 := hl_102.congr t111.1 ho111
    have hI102_111 := hI102.congr t111.1 ho111
    obtain ⟨hW112, hB112, hTD112, hz112, hp112⟩ := id hS111
    obtain ⟨dd112, hw112, hd112⟩ := id hW112
    have hcap112 := hB112.cap
    have hp0 : p111 ≠ 0 := fun e => by have h := hI111; rw [e] at h; have := h.z0 hz112 (by omega); have := q.den_nz; omega
    show jj G kRF_same (d + 4) Q rc111 rs111 48 [some (.ref f), some (.int (nI (a))), some (.int (nI (i))), some (.int (nI (b))), some (.int (nI (j)))] [.int (nI (p111)), .ref f] M111
    exact k48 p111 M111 D111 T111 rc111 rs111 hC111 hS111 (by omega) (by omega) (fun i hi => by rw [ho111 i (by omega), ho102 i (by omega)]) hF111 hI102_111 (by omega) (fun e => absurd e hd1) hI111
  · skip
    refine jn_iconst (pc := 30) 1 kRF_same_d30 (by decide) ?_
    refine jj_goto (pc := 31) (tgt := 48) kRF_same_d31 (by decide) ?_
    have hd1 : (q.den : Int) = 1 := by have h := hl; rw [c1] at h; exact h.uniq h1 (by omega) (by omega)
    exact k48 1 M104 D102 T102 rc102 rs102 hC106 hS106 (by omega) (by omega) (fun i hi => by rw [ho102 i (by omega)]) hF106 hI102 (Or.inl rfl) (fun _ => rfl) (by rw [hd1]; exact h1.congr t102.1 ho102)
end RF6
