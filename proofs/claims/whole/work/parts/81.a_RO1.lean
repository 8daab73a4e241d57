/-! ===== Forms: echelon, rankOf, pivotOf, whole, modulo, isDiagonal (printed by wip/gen/ro1.py) ===== -/
theorem ECK.shift {Q : jq} {M M1 : mheap} {f w pv : Nat} {D V P D1 V1 : List Int32} {b nu m n first cm cv X' Z' E : Nat} {A : qmat} {J : qmat → Nat → (Nat → Nat) → Prop} (K : ECK Q M f w pv D V P b nu m n first cm cv X' Z' E A J) (hF : FF M M1 f) (hD : ∀ i, i < nu → D1.getD i 0 = D.getD i 0) (hV : ∀ i, i < b → V1.getD i 0 = V.getD i 0) : ECK Q M1 f w pv D1 V1 P b nu m n first cm cv X' Z' E A J := by
  intro M' vv' D' T' V' P' up' low' rk' g A' q' X1 Z1 v2' rc' rs' h1 h2 h3 h4 h5 h6 h7 h8 h9 h10 h11 h12 h13 h14 h15 h16 h17
  exact K M' vv' D' T' V' P' up' low' rk' g A' q' X1 Z1 v2' rc' rs' h1 h2 h3 h4 h5 (fun i hi => by rw [h6 i hi, hD i hi]) (fun i hi => by rw [h7 i hi, hV i hi]) h8 (hF.trans h9) h10 h11 h12 h13 h14 h15 h16 h17
/-- the cells at the start have the size too -/
theorem EJ.start {A : qmat} {J : qmat → Nat → (Nat → Nat) → Prop} {m n s : Nat} {q : Nat → Rat} (h : EJ J m n s) (hJ0 : J A 0 (fun i => i)) (hA : ∀ i, i < m → ∀ j, j < n → A i j = q (i * n + j)) : ∀ k, k < m * n → ZB s (q k).num ∧ ZB s ((q k).den : Int) := fun k hk => by
  obtain ⟨k1, k2, k3⟩ := at_back hk
  have := (h.2 A 0 0 (fun i => i) hJ0 (gjinv_start A m _) (by omega)).1 _ _ k1 k2
  rw [hA _ k1 _ k2, k3] at this
  exact this
section RO1
variable {G : jg} {d : Nat} {Q : jq} {rc rs : Nat} {M : mheap} {o f w vv pv ca ra : Nat} {v2 : Value} {D V P CA RA : List Int32} {t : Nat} {up low rk fi se : Int32}
theorem ro_echelon {a m n loa T s S E cm cv X Z X' Z' : Nat} {q : Nat → Rat} {A : qmat} {J : qmat → Nat → (Nat → Nat) → Prop} (hG : kG G) (hO : OC M o f w ca ra CA RA fi se) (hC : FC M f w vv pv V t up low P rk) (hS : RS M w D T v2 cm X Z rc rs) (hX : FXB cv V X Z X' Z') (htV : t ≤ V.length) (h1 : RI D T 1 1) (hT3 : 3 ≤ T) (hb : MX D T V t a m n loa q) (hA : ∀ i, i < m → ∀ j, j < n → A i j = q (i * n + j)) (hm : m < 64) (hn : n < 64) (hP : P.length = 64) (hsz : EJ J m n s) (hJ0 : J A 0 (fun i => i)) (hs : S = 4 * s + 4) (hs2 : 3 * s + 1 ≤ 9000) (hE : E = T + m * n * S) (ht : t + 4 + 4 * (m * n) ≤ cv) (hT : E + m * n * S + 20000 + 100 * s + 500 ≤ cm)
    (K : ECK Q M f w pv D V P t T m n n cm cv X' Z' E A J) : jj G kRO_echelon (d + 12) Q rc rs 0 (jj_ent [.ref o, .int (nI a)] 3) [] M := by
  have hcap := hX.cap
  have hcapD := hS.2.1.cap
  obtain ⟨hb1, hb2, hb3, hb4⟩ := id hb
  have hq := hsz.start hJ0 hA
  have hmS := Nat.mul_le_mul_left (m * n) (show 2 * s + 2 ≤ S by omega)
  have hmn : m * n < 64 * 1024 := Nat.mul_lt_mul_of_lt_of_le hm (by omega) (by decide)
  obtain ⟨hW101, hB101, hTD101, hz101, hp101⟩ := id hS
  obtain ⟨dd101, hw101, hd101⟩ := id hW101
  have hcap101 := hB101.cap
  show jj G kRO_echelon (d + 12) Q rc rs 0 [some (.ref o), some (.int (nI (a))), none] [] M
  refine jj_aload_n (pc := 0) kRO_echelon_d0 rfl ?_
  refine jj_getf (pc := 1) kRO_echelon_d1 (kfRO_w hG) hO.1 rfl ?_
  refine jj_getf (pc := 4) kRO_echelon_d4 (kfRO_RW_top hG) hw101 rfl ?_
  refine jj_istore_n (pc := 7) kRO_echelon_d7 (Nat.le_of_ble_eq_true rfl) ?_
  refine jj_aload_n (pc := 8) kRO_echelon_d8 rfl ?_
  refine jj_getf (pc := 9) kRO_echelon_d9 (kfRO_f hG) hO.1 rfl ?_
  refine jj_aload_n (pc := 12) kRO_echelon_d12 rfl ?_
  refine jj_getf (pc := 13) kRO_echelon_d13 (kfRO_f hG) hO.1 rfl ?_
  refine jj_iload_n (pc := 16) kRO_echelon_d16 rfl ?_
  refine jj_callV (pc := 17) (b := f) (As := [.int (nI (a))]) kRO_echelon_d17 (kvRO_RF_copy hG) (kG_cl hG rfl) rfl hC.1 rfl rfl rfl (Nat.le_of_ble_eq_true rfl) (Nat.le_of_ble_eq_true rfl) (jj_bare0 rfl) ?_
  refine rf_copy (lo := loa) (s := s) (S := 2 * s + 2) hG hC hS hX htV h1 hT3 hb (by omega) (by omega) rfl hq (by omega) (by omega) (fun M1 vv D1 T1 V1 up1 low1 X1 Z1 v1 rc1 rs1 hC1 hS1 hX1 t1 u1 ho1 hv1 hl1 hF1 hm1 => ?_)
  show jj G kRO_echelon (d + 12) Q rc1 rs1 20 [some (.ref o), some (.int (nI (a))), some (.int (nI (T)))] [.int (nI (t)), .ref f] M1
  have hcap1 := hX1.cap
  obtain ⟨t1x, ht1x⟩ : ∃ t1x, t + 2 + 2 * (m * n) = t1x := ⟨_, rfl⟩
  rw [ht1x] at hC1 hl1 hm1
  obtain ⟨hW102, hB102, hTD102, hz102, hp102⟩ := id hS1
  obtain ⟨dd102, hw102, hd102⟩ := id hW102
  have hcap102 := hB102.cap
  refine jj_iload_n (pc := 20) kRO_echelon_d20 rfl ?_
  refine jj_aload_n (pc := 21) kRO_echelon_d21 rfl ?_
  refine jj_getf (pc := 22) kRO_echelon_d22 (kfRO_f hG) (hO.ff hF1).1 rfl ?_
  refine jj_iload_n (pc := 25) kRO_echelon_d25 rfl ?_
  refine jj_callV (pc := 26) (b := f) (As := [.int (nI (a))]) kRO_echelon_d26 (kvRO_RF_columns hG) (kG_cl hG rfl) rfl hC1.1 rfl rfl rfl (Nat.le_of_ble_eq_true rfl) (Nat.le_of_ble_eq_true rfl) (jj_bare0 rfl) ?_
  refine rf_columns hG hC1 (by omega) (by omega) ?_
  show jj G kRO_echelon (d + 12) Q rc1 rs1 29 [some (.ref o), some (.int (nI (a))), some (.int (nI (T)))] [.int (V1.getD (a + 1) 0), .int (nI (T)), .int (nI (t)), .ref f] M1
  refine jn_top (.int (nI (n))) (by rw [hv1 (a + 1) (by omega), hb3]) ?_
  refine jj_callV (pc := 29) (b := f) (As := [.int (nI (t)), .int (nI (T)), .int (nI (n))]) kRO_echelon_d29 (kvRO_RF_echelon hG) (kG_cl hG rfl) rfl hC1.1 rfl rfl rfl (Nat.le_of_ble_eq_true rfl) (Nat.le_of_ble_eq_true rfl) (jj_bare0 rfl) ?_
  refine rf_echelon (b := t) (nu := T) (m := m) (n := n) (s := s) (S := S) (E := E) (A := A) (J := J) hG hC1 hS1 hX1 hl1 (h1.congr (Nat.le_refl _) ho1) hT3 t1 (hm1.congr (Nat.le_refl _) (fun _ _ => rfl) (Nat.le_refl _) (fun _ _ => rfl) (Nat.zero_le _)) hA hm (by omega) (Nat.le_refl _) hP ht1x.symm hsz hJ0 hs hs2 hE (by omega) (by omega) hT (fun M2 vv D2 T2 V2 P2 up2 low2 rk2 g2 A2 q2 X2 Z2 v2_ rc2 rs2 hC2 hS2 hX2 t2 u2 ho2 hv2 hl2 hF2 hm2 hA2 hg2 hI2 hr2 hs2_ hP2 hp2 => ?_)
  show jj G kRO_echelon (d + 12) Q rc2 rs2 32 [some (.ref o), some (.int (nI (a))), some (.int (nI (T)))] [.int (nI (t))] M2
  exact jj_iret (pc := 32) kRO_echelon_d32 rfl (by rfl) (K.shift hF1 ho1 hv1 M2 vv D2 T2 V2 P2 up2 low2 rk2 g2 A2 q2 X2 Z2 _ rc2 rs2 hC2 hS2 hX2 t2 u2 ho2 hv2 hl2 hF2 hm2 hA2 hg2 hI2 hr2 hs2_ hP2 hp2)
theorem ro_rankOf {a m n loa T s S E cm cv X Z X' Z' : Nat} {q : Nat → Rat} {A : qmat} {J : qmat → Nat → (Nat → Nat) → Prop} (hG : kG G) (hO : OC M o f w ca ra CA RA fi se) (hC : FC M f w vv pv V t up low P rk) (hS : RS M w D T v2 cm X Z rc rs) (hX : FXB cv V X Z X' Z') (htV : t ≤ V.length) (h1 : RI D T 1 1) (hT3 : 3 ≤ T) (hb : MX D T V t a m n loa q) (hA : ∀ i, i < m → ∀ j, j < n → A i j = q (i * n + j)) (hm : m < 64) (hn : n < 64) (hP : P.length = 64) (hsz : EJ J m n s) (hJ0 : J A 0 (fun i => i)) (hs : S = 4 * s + 4) (hs2 : 3 * s + 1 ≤ 9000) (hE : E = T + m * n * S) (ht : t + 4 + 4 * (m * n) ≤ cv) (hT : E + m * n * S + 20000 + 100 * s + 500 ≤ cm)
    (K : ∀ M' vv' D' V' P' up' low' rk' g A' X1 Z1 v2' rc' rs', FC M' f w vv' pv V' t up' low' P' (nI rk') → RS M' w D' T v2' cm X1 Z1 rc' rs' → FXB cv V' X1 Z1 X' Z' → (∀ i, i < T → D'.getD i 0 = D.getD i 0) → (∀ i, i < t → V'.getD i 0 = V.getD i 0) → t ≤ V'.length → FF M M' f → gjinv A' m n rk' g → rowsIn A' m A m n → rowsIn A m A' m n → P'.length = P.length → Q (.returned (some (.int (nI rk')))) M' rc' rs') : jj G kRO_rankOf (d + 12) Q rc rs 0 (jj_ent [.ref o, .int (nI a)] 4) [] M := by
  have hcap := hX.cap
  have hcapD := hS.2.1.cap
  obtain ⟨hb1, hb2, hb3, hb4⟩ := id hb
  have hq := hsz.start hJ0 hA
  have hmS := Nat.mul_le_mul_left (m * n) (show 2 * s + 2 ≤ S by omega)
  have hmn : m * n < 64 * 1024 := Nat.mul_lt_mul_of_lt_of_le hm (by omega) (by decide)
  obtain ⟨hW103, hB103, hTD103, hz103, hp103⟩ := id hS
  obtain ⟨dd103, hw103, hd103⟩ := id hW103
  have hcap103 := hB103.cap
  show jj G kRO_rankOf (d + 12) Q rc rs 0 [some (.ref o), some (.int (nI (a))), none, none] [] M
  refine jj_aload_n (pc := 0) kRO_rankOf_d0 rfl ?_
  refine jj_getf (pc := 1) kRO_rankOf_d1 (kfRO_w hG) hO.1 rfl ?_
  refine jj_getf (pc := 4) kRO_rankOf_d4 (kfRO_RW_top hG) hw103 rfl ?_
  refine jj_istore_n (pc := 7) kRO_rankOf_d7 (Nat.le_of_ble_eq_true rfl) ?_
  refine jj_aload_n (pc := 8) kRO_rankOf_d8 rfl ?_
  refine jj_getf (pc := 9) kRO_rankOf_d9 (kfRO_f hG) hO.1 rfl ?_
  refine jj_getf (pc := 12) kRO_rankOf_d12 (kfRO_RF_top hG) hC.1 rfl ?_
  refine jj_istore_n (pc := 15) kRO_rankOf_d15 (Nat.le_of_ble_eq_true rfl) ?_
  refine jj_aload_n (pc := 16) kRO_rankOf_d16 rfl ?_
  refine jj_getf (pc := 17) kRO_rankOf_d17 (kfRO_f hG) hO.1 rfl ?_
  refine jj_aload_n (pc := 20) kRO_rankOf_d20 rfl ?_
  refine jj_getf (pc := 21) kRO_rankOf_d21 (kfRO_f hG) hO.1 rfl ?_
  refine jj_iload_n (pc := 24) kRO_rankOf_d24 rfl ?_
  refine jj_callV (pc := 25) (b := f) (As := [.int (nI (a))]) kRO_rankOf_d25 (kvRO_RF_copy hG) (kG_cl hG rfl) rfl hC.1 rfl rfl rfl (Nat.le_of_ble_eq_true rfl) (Nat.le_of_ble_eq_true rfl) (jj_bare0 rfl) ?_
  refine rf_copy (lo := loa) (s := s) (S := 2 * s + 2) hG hC hS hX htV h1 hT3 hb (by omega) (by omega) rfl hq (by omega) (by omega) (fun M1 vv D1 T1 V1 up1 low1 X1 Z1 v1 rc1 rs1 hC1 hS1 hX1 t1 u1 ho1 hv1 hl1 hF1 hm1 => ?_)
  show jj G kRO_rankOf (d + 12) Q rc1 rs1 28 [some (.ref o), some (.int (nI (a))), some (.int (nI (T))), some (.int (nI (t)))] [.int (nI (t)), .ref f] M1
  have hcap1 := hX1.cap
  obtain ⟨t1x, ht1x⟩ : ∃ t1x, t + 2 + 2 * (m * n) = t1x := ⟨_, rfl⟩
  rw [ht1x] at hC1 hl1 hm1
  obtain ⟨hW104, hB104, hTD104, hz104, hp104⟩ := id hS1
  obtain ⟨dd104, hw104, hd104⟩ := id hW104
  have hcap104 := hB104.cap
  refine jj_iload_n (pc := 28) kRO_rankOf_d28 rfl ?_
  refine jj_aload_n (pc := 29) kRO_rankOf_d29 rfl ?_
  refine jj_getf (pc := 30) kRO_rankOf_d30 (kfRO_f hG) (hO.ff hF1).1 rfl ?_
  refine jj_iload_n (pc := 33) kRO_rankOf_d33 rfl ?_
  refine jj_callV (pc := 34) (b := f) (As := [.int (nI (a))]) kRO_rankOf_d34 (kvRO_RF_columns hG) (kG_cl hG rfl) rfl hC1.1 rfl rfl rfl (Nat.le_of_ble_eq_true rfl) (Nat.le_of_ble_eq_true rfl) (jj_bare0 rfl) ?_
  refine rf_columns hG hC1 (by omega) (by omega) ?_
  show jj G kRO_rankOf (d + 12) Q rc1 rs1 37 [some (.ref o), some (.int (nI (a))), some (.int (nI (T))), some (.int (nI (t)))] [.int (V1.getD (a + 1) 0), .int (nI (T)), .int (nI (t)), .ref f] M1
  refine jn_top (.int (nI (n))) (by rw [hv1 (a + 1) (by omega), hb3]) ?_
  refine jj_callV (pc := 37) (b := f) (As := [.int (nI (t)), .int (nI (T)), .int (nI (n))]) kRO_rankOf_d37 (kvRO_RF_echelon hG) (kG_cl hG rfl) rfl hC1.1 rfl rfl rfl (Nat.le_of_ble_eq_true rfl) (Nat.le_of_ble_eq_true rfl) (jj_bare0 rfl) ?_
  refine rf_echelon (b := t) (nu := T) (m := m) (n := n) (s := s) (S := S) (E := E) (A := A) (J := J) hG hC1 hS1 hX1 hl1 (h1.congr (Nat.le_refl _) ho1) hT3 t1 (hm1.congr (Nat.le_refl _) (fun _ _ => rfl) (Nat.le_refl _) (fun _ _ => rfl) (Nat.zero_le _)) hA hm (by omega) (Nat.le_refl _) hP ht1x.symm hsz hJ0 hs hs2 hE (by omega) (by omega) hT (fun M2 vv D2 T2 V2 P2 up2 low2 rk2 g2 A2 q2 X2 Z2 v2_ rc2 rs2 hC2 hS2 hX2 t2 u2 ho2 hv2 hl2 hF2 hm2 hA2 hg2 hI2 hr2 hs2_ hP2 hp2 => ?_)
  show jj G kRO_rankOf (d + 12) Q rc2 rs2 40 [some (.ref o), some (.int (nI (a))), some (.int (nI (T))), some (.int (nI (t)))] [.int (nI (t))] M2
  have hF3 := hF1.trans hF2
  have hcap2 := hX2.cap
  obtain ⟨t2x, ht2x⟩ : ∃ t2x, t + 2 + 2 * (m * n) = t2x := ⟨_, rfl⟩
  rw [ht2x] at hC2 hl2
  obtain ⟨hW105, hB105, hTD105, hz105, hp105⟩ := id hS2
  obtain ⟨dd105, hw105, hd105⟩ := id hW105
  have hcap105 := hB105.cap
  refine jj_pop (pc := 40) kRO_rankOf_d40 rfl ?_
  refine jj_aload_n (pc := 41) kRO_rankOf_d41 rfl ?_
  refine jj_getf (pc := 42) kRO_rankOf_d42 (kfRO_w hG) (hO.ff hF3).1 rfl ?_
  refine jj_iload_n (pc := 45) kRO_rankOf_d45 rfl ?_
  refine jj_putf (pc := 46) kRO_rankOf_d46 (kpRO_RW_top hG) hw105 (by rfl) rfl ?_
  refine jn_gen (fun M106 hM107 => ?_)
  have hf108 : RF M2 M106 w := by rw [hM107]; exact RF.top hw105
  have hS108 : RS M106 w D2 (T) v2_ cm X2 Z2 rc2 rs2 := ⟨⟨dd105, by rw [hM107]; exact jj_up_at _ _ _, by rw [hM107, jj_up_ne _ _ (fun e => by have q1 := hd105; rw [e, hw105] at q1; cases q1)]; exact hd105⟩, hB105, by omega, hz105, by omega⟩
  have hC108 := hC2.rf hf108
  have hF108 := hF3.trans (FF.ofRF hC2 hf108)
  obtain ⟨hW109, hB109, hTD109, hz109, hp109⟩ := id hS108
  obtain ⟨dd109, hw109, hd109⟩ := id hW109
  have hcap109 := hB109.cap
  refine jj_aload_n (pc := 49) kRO_rankOf_d49 rfl ?_
  refine jj_getf (pc := 50) kRO_rankOf_d50 (kfRO_f hG) (hO.ff hF108).1 rfl ?_
  refine jj_iload_n (pc := 53) kRO_rankOf_d53 rfl ?_
  refine jj_putf (pc := 54) kRO_rankOf_d54 (kpRO_RF_top hG) hC108.1 (by rfl) rfl ?_
  refine jn_gen (fun M110 hM111 => ?_)
  have hC112 : FC M110 f w vv pv V2 (t) (up2) (low2) P2 (nI (rk2)) := by rw [hM111]; exact hC108.putf
  have hF112 : FF M M110 f := by rw [hM111]; exact hF108.trans (FF.putf hC108)
  have hS112 : RS M110 w D2 (T) v2_ cm X2 Z2 rc2 rs2 := by rw [hM111]; exact hS108.other hC108.2.2.2.2.1
  obtain ⟨hW113, hB113, hTD113, hz113, hp113⟩ := id hS112
  obtain ⟨dd113, hw113, hd113⟩ := id hW113
  have hcap113 := hB113.cap
  refine jj_aload_n (pc := 57) kRO_rankOf_d57 rfl ?_
  refine jj_getf (pc := 58) kRO_rankOf_d58 (kfRO_f hG) (hO.ff hF112).1 rfl ?_
  refine jj_getf (pc := 61) kRO_rankOf_d61 (kfRO_RF_rank hG) hC112.1 rfl ?_
  exact jj_iret (pc := 64) kRO_rankOf_d64 rfl (by rfl) (K M110 vv D2 V2 P2 up2 low2 rk2 g2 A2 X2 Z2 _ rc2 rs2 hC112 hS112 hX2 (fun i hi => by rw [ho2 i hi, ho1 i hi]) (fun i hi => by rw [hv2 i hi, hv1 i hi]) (by omega) hF112 hg2 hr2 hs2_ hP2)
theorem ro_pivotOf {c rkn : Nat} {g : Nat → Nat} (hG : kG G) (hO : OC M o f w ca ra CA RA fi se) (hC : FC M f w vv pv V t up low P (nI rkn)) (hP : P.length = 64) (hrk : rkn ≤ 64) (hc : c < 2 ^ 31) (hg : ∀ i, i < rkn → P.getD i 0 = nI (g i) ∧ g i < 2 ^ 31)
    (K1 : ∀ r, r < rkn → g r = c → Q (.returned (some (.int (nI r)))) M rc rs) (K2 : (∀ r, r < rkn → g r ≠ c) → Q (.returned (some (.int (-1)))) M rc rs) : jj G kRO_pivotOf (d + 1) Q rc rs 0 (jj_ent [.ref o, .int (nI c)] 3) [] M := by
  have loop : ∀ mu k, rkn = k + mu → (∀ r, r < k → g r ≠ c) → jj G kRO_pivotOf (d + 1) Q rc rs 2 [some (.ref o), some (.int (nI (c))), some (.int (nI (k)))] [] M := by
    intro mu
    induction mu with
    | zero =>
      intro k hk h0
      have e : rkn = k := by omega
      subst e
      refine jj_iload_n (pc := 2) kRO_pivotOf_d2 rfl ?_
      refine jj_aload_n (pc := 3) kRO_pivotOf_d3 rfl ?_
      refine jj_getf (pc := 4) kRO_pivotOf_d4 (kfRO_f hG) hO.1 rfl ?_
      refine jj_getf (pc := 7) kRO_pivotOf_d7 (kfRO_RF_rank hG) hC.1 rfl ?_
      refine jn_icmp_ge (pc := 10) (tgt := 34) kRO_pivotOf_d10 (by decide) (by omega) (by omega) (fun _ => ?_) (fun c => by exfalso; omega)
      refine jj_iconst (pc := 34) (v := (-1)) kRO_pivotOf_d34 (by decide) ?_
      exact jj_iret (pc := 35) kRO_pivotOf_d35 rfl (by rfl) (K2 h0)
    | succ mu ih =>
      intro k hk h0
      obtain ⟨e1, e2⟩ := hg k (by omega)
      refine jj_iload_n (pc := 2) kRO_pivotOf_d2 rfl ?_
      refine jj_aload_n (pc := 3) kRO_pivotOf_d3 rfl ?_
      refine jj_getf (pc := 4) kRO_pivotOf_d4 (kfRO_f hG) hO.1 rfl ?_
      refine jj_getf (pc := 7) kRO_pivotOf_d7 (kfRO_RF_rank hG) hC.1 rfl ?_
      refine jn_icmp_ge (pc := 10) (tgt := 34) kRO_pivotOf_d10 (by decide) (by omega) (by omega) (fun c => by exfalso; omega) (fun _ => ?_)
      refine jj_aload_n (pc := 13) kRO_pivotOf_d13 rfl ?_
      refine jj_getf (pc := 14) kRO_pivotOf_d14 (kfRO_f hG) hO.1 rfl ?_
      refine jj_getf (pc := 17) kRO_pivotOf_d17 (kfRO_RF_pivots hG) hC.1 rfl ?_
      refine jj_iload_n (pc := 20) kRO_pivotOf_d20 rfl ?_
      refine jn_iald (pc := 21) (v := (nI (g k))) kRO_pivotOf_d21 (kG_t hG rfl) hC.2.2.1 (by omega) (by omega) (e1) ?_
      refine jj_iload_n (pc := 22) kRO_pivotOf_d22 rfl ?_
      refine jn_icmp_ne (pc := 23) (tgt := 28) kRO_pivotOf_d23 (by decide) (by omega) (by omega) (fun c0 => ?_) (fun c0 => ?_)
      · skip
        refine jn_iinc (pc := 28) (k + 1) kRO_pivotOf_d28 rfl (nI_1 _) ?_
        refine jj_goto (pc := 31) (tgt := 2) kRO_pivotOf_d31 (by decide) ?_
        show jj G kRO_pivotOf (d + 1) Q rc rs 2 [some (.ref o), some (.int (nI (c))), some (.int (nI (k + 1)))] [] M
        exact ih (k + 1) (by omega) (fun r hr => by
            by_cases e : r = k
            · rw [e]; exact c0
            · exact h0 r (by omega))
      · skip
        refine jj_iload_n (pc := 26) kRO_pivotOf_d26 rfl ?_
        exact jj_iret (pc := 27) kRO_pivotOf_d27 rfl (by rfl) (K1 k (by omega) c0)
  show jj G kRO_pivotOf (d + 1) Q rc rs 0 [some (.ref o), some (.int (nI (c))), none] [] M
  refine jn_iconst (pc := 0) 0 kRO_pivotOf_d0 (by decide) ?_
  refine jj_istore_n (pc := 1) kRO_pivotOf_d1 (Nat.le_of_ble_eq_true rfl) ?_
  show jj G kRO_pivotOf (d + 1) Q rc rs 2 [some (.ref o), some (.int (nI (c))), some (.int (nI (0)))] [] M
  exact loop rkn 0 (by omega) (fun r hr => by omega)
theorem ro_whole {a i x T cm X Z : Nat} (hG : kG G) (hO : OC M o f w ca ra CA RA fi se) (hC : FC M f w vv pv V t up low P rk) (hS : RS M w D T v2 cm X Z rc rs) (hV : V.length < 2 ^ 31) (ha : a + 3 + 2 * i < V.length) (K : ∀ M', FC M' f w vv pv ((V.set (a + 2 + 2 * i) (nI x)).set (a + 3 + 2 * i) (nI 1)) t (nI x) (nI 1) P rk → RS M' w D T v2 cm X Z rc rs → FF M M' f → Q (.returned none) M' rc rs) : jj G kRO_whole (d + 1) Q rc rs 0 (jj_ent [.ref o, .int (nI a), .int (nI i), .int (nI x)] 4) [] M := by
  show jj G kRO_whole (d + 1) Q rc rs 0 [some (.ref o), some (.int (nI (a))), some (.int (nI (i))), some (.int (nI (x)))] [] M
  refine jj_aload_n (pc := 0) kRO_whole_d0 rfl ?_
  refine jj_getf (pc := 1) kRO_whole_d1 (kfRO_f hG) hO.1 rfl ?_
  refine jj_iload_n (pc := 4) kRO_whole_d4 rfl ?_
  refine jj_putf (pc := 5) kRO_whole_d5 (kpRO_RF_up hG) hC.1 (by rfl) rfl ?_
  refine jn_gen (fun M114 hM115 => ?_)
  have hC116 : FC M114 f w vv pv V (t) (nI (x)) (low) P (rk) := by rw [hM115]; exact hC.putf
  have hF116 : FF M M114 f := by rw [hM115]; exact (FF.refl M f).trans (FF.putf hC)
  have hS116 : RS M114 w D (T) v2 cm X Z rc rs := by rw [hM115]; exact hS.other hC.2.2.2.2.1
  refine jj_aload_n (pc := 8) kRO_whole_d8 rfl ?_
  refine jj_getf (pc := 9) kRO_whole_d9 (kfRO_f hG) (hO.ff hF116).1 rfl ?_
  refine jn_iconst (pc := 12) 1 kRO_whole_d12 (by decide) ?_
  refine jj_putf (pc := 13) kRO_whole_d13 (kpRO_RF_low hG) hC116.1 (by rfl) rfl ?_
  refine jn_gen (fun M117 hM118 => ?_)
  have hC119 : FC M117 f w vv pv V (t) (nI (x)) (nI (1)) P (rk) := by rw [hM118]; exact hC116.putf
  have hF119 : FF M M117 f := by rw [hM118]; exact hF116.trans (FF.putf hC116)
  have hS119 : RS M117 w D (T) v2 cm X Z rc rs := by rw [hM118]; exact hS116.other hC116.2.2.2.2.1
  refine jj_aload_n (pc := 16) kRO_whole_d16 rfl ?_
  refine jj_getf (pc := 17) kRO_whole_d17 (kfRO_f hG) (hO.ff hF119).1 rfl ?_
  refine jj_iload_n (pc := 20) kRO_whole_d20 rfl ?_
  refine jj_iload_n (pc := 21) kRO_whole_d21 rfl ?_
  refine jj_callV (pc := 22) (b := f) (As := [.int (nI (a)), .int (nI (i))]) kRO_whole_d22 (kvRO_RF_put hG) (kG_cl hG rfl) rfl hC119.1 rfl rfl rfl (Nat.le_of_ble_eq_true rfl) (Nat.le_of_ble_eq_true rfl) (jj_bare0 rfl) ?_
  refine rf_put (a := a) (i := i) hG hC119 hS119 hV ha (fun M5 hC5 hS5 hF5 => ?_)
  show jj G kRO_whole (d + 1) Q rc rs 25 [some (.ref o), some (.int (nI (a))), some (.int (nI (i))), some (.int (nI (x)))] [] M5
  exact jj_vret (pc := 25) kRO_whole_d25 rfl (K M5 hC5 hS5 (hF119.trans hF5))
theorem ro_modulo {x y T cm X Z a b : Nat} {zx zy : Int} (hG : kG G) (hO : OC M o f w ca ra CA RA fi se) (hC : FC M f w vv pv V t up low P rk) (hS : RS M w D T v2 cm X Z rc rs) (hx : RI D T x zx) (hy : RI D T y zy) (hy0 : 0 < zy) (ha : zx.natAbs < 32768 ^ a) (hb : zy.natAbs < 32768 ^ b) (hT : T + 3 * a + 3 * b + 40 ≤ cm)
    (K : ∀ M' D' T' r v2' rc' rs', FC M' f w vv pv V t up low P rk → RS M' w D' T' v2' cm X Z rc' rs' → T ≤ T' ∧ (r = 0 ∨ T ≤ r) → T' ≤ T + a + b + 3 → (∀ i, i < T → D'.getD i 0 = D.getD i 0) → FF M M' f → RI D' T' r (zx % zy) → Q (.returned (some (.int (nI r)))) M' rc' rs') : jj G kRO_modulo (d + 7) Q rc rs 0 (jj_ent [.ref o, .int (nI x), .int (nI y)] 3) [] M := by
  obtain ⟨hW120, hB120, hTD120, hz120, hp120⟩ := id hS
  obtain ⟨dd120, hw120, hd120⟩ := id hW120
  have hcap120 := hB120.cap
  show jj G kRO_modulo (d + 7) Q rc rs 0 [some (.ref o), some (.int (nI (x))), some (.int (nI (y)))] [] M
  refine jj_aload_n (pc := 0) kRO_modulo_d0 rfl ?_
  refine jj_getf (pc := 1) kRO_modulo_d1 (kfRO_w hG) hO.1 rfl ?_
  refine jj_iload_n (pc := 4) kRO_modulo_d4 rfl ?_
  refine jj_iload_n (pc := 5) kRO_modulo_d5 rfl ?_
  refine jj_callV (pc := 6) (b := w) (As := [.int (nI (x)), .int (nI (y))]) kRO_modulo_d6 (kvRO_RW_divide hG) (kG_cl hG rfl) rfl hw120 rfl rfl rfl (Nat.le_of_ble_eq_true rfl) (Nat.le_of_ble_eq_true rfl) (jj_bare0 rfl) ?_
  refine ri_divide (a := a) (b := b) hG hS hx hy hy0 ha hb hT (fun M121 D121 T121 p121 s121 rc121 rs121 hS121 t121 u121 ho121 hf121 hI121 hJ121 => ?_)
  show jj G kRO_modulo (d + 7) Q rc121 rs121 9 [some (.ref o), some (.int (nI (x))), some (.int (nI (y)))] [.int (nI (p121))] M121
  have hC121 := hC.rf hf121
  have hF121 := (FF.refl M f).trans (FF.ofRF hC hf121)
  have hx_121 := hx.congr t121.1 ho121
  have hy_121 := hy.congr t121.1 ho121
  obtain ⟨hW122, hB122, hTD122, hz122, hp122⟩ := id hS121
  obtain ⟨dd122, hw122, hd122⟩ := id hW122
  have hcap122 := hB122.cap
  have hp5 : s121 = 0 ∨ T ≤ s121 := t121.2.2
  refine jj_pop (pc := 9) kRO_modulo_d9 rfl ?_
  refine jj_aload_n (pc := 10) kRO_modulo_d10 rfl ?_
  refine jj_getf (pc := 11) kRO_modulo_d11 (kfRO_w hG) (hO.ff hF121).1 rfl ?_
  refine jj_getf (pc := 14) kRO_modulo_d14 (kfRO_RW_rest hG) hw122 rfl ?_
  exact jj_iret (pc := 17) kRO_modulo_d17 rfl (by rfl) (K _ D121 T121 s121 _ _ _ hC121 hS121 ⟨t121.1, hp5⟩ u121 ho121 hF121 hJ121)
theorem ro_isDiagonal {a m n lo T cm X Z : Nat} {q : Nat → Rat} (hG : kG G) (hO : OC M o f w ca ra CA RA fi se) (hC : FC M f w vv pv V t up low P rk) (hS : RS M w D T v2 cm X Z rc rs) (hV : V.length < 2 ^ 31) (htV : t ≤ V.length) (hb : MX D T V t a m n lo q) (hm : m < 1024) (hn : n < 1024) (K : ∀ b : Nat, b ≤ 1 → (b = 1 ↔ ∀ k, k < m * n → k / n ≠ k % n → q k = 0) → Q (.returned (some (.int (nI b)))) M rc rs) : jj G kRO_isDiagonal (d + 1) Q rc rs 0 (jj_ent [.ref o, .int (nI a)] 4) [] M := by
  obtain ⟨hb1, hb2, hb3, hb4⟩ := id hb
  have hmn : m * n < 1024 * 1024 := Nat.mul_lt_mul_of_lt_of_le hm (by omega) (by decide)
  have hcap := hS.2.1.cap
  have hz0 := hS.2.2.2.1
  have hTD := hS.2.2.1
  have loop : ∀ mu k, m * n = k + mu → ∀ b, b ≤ 1 → (b = 1 ↔ ∀ k', k' < k → k' / n ≠ k' % n → q k' = 0) → jj G kRO_isDiagonal (d + 1) Q rc rs 4 [some (.ref o), some (.int (nI (a))), some (.int (nI (b))), some (.int (nI (k)))] [] M := by
    intro mu
    induction mu with
    | zero =>
      intro k hk b hb9 h0
      have e : m * n = k := by omega
      subst e
      refine jj_iload_n (pc := 4) kRO_isDiagonal_d4 rfl ?_
      refine jj_aload_n (pc := 5) kRO_isDiagonal_d5 rfl ?_
      refine jj_getf (pc := 6) kRO_isDiagonal_d6 (kfRO_f hG) hO.1 rfl ?_
      refine jj_iload_n (pc := 9) kRO_isDiagonal_d9 rfl ?_
      refine jj_callV (pc := 10) (b := f) (As := [.int (nI (a))]) kRO_isDiagonal_d10 (kvRO_RF_cells hG) (kG_cl hG rfl) rfl hC.1 rfl rfl rfl (Nat.le_of_ble_eq_true rfl) (Nat.le_of_ble_eq_true rfl) (jj_bare0 rfl) ?_
      refine rf_cells (r := m) (c := n) hG hC hV (by omega) hb2 hb3 ?_
      show jj G kRO_isDiagonal (d + 1) Q rc rs 13 [some (.ref o), some (.int (nI (a))), some (.int (nI (b))), some (.int (nI (m * n)))] [.int (nI (m * n)), .int (nI (m * n))] M
      refine jn_icmp_ge (pc := 13) (tgt := 65) kRO_isDiagonal_d13 (by decide) (by omega) (by omega) (fun _ => ?_) (fun c => by exfalso; omega)
      refine jj_iload_n (pc := 65) kRO_isDiagonal_d65 rfl ?_
      exact jj_iret (pc := 66) kRO_isDiagonal_d66 rfl (by rcases (show b = 0 ∨ b = 1 by omega) with e | e <;> rw [e] <;> rfl) (K b hb9 h0)
    | succ mu ih =>
      intro k hk b hb9 h0
      have hn0 : 0 < n := Nat.pos_of_ne_zero (fun e => by rw [e, Nat.mul_zero] at hk; omega)
      obtain ⟨p1, l1, g1, g2, g3, -⟩ := hb4 k (by omega)
      have lp := g3.1.lt
      refine jj_iload_n (pc := 4) kRO_isDiagonal_d4 rfl ?_
      refine jj_aload_n (pc := 5) kRO_isDiagonal_d5 rfl ?_
      refine jj_getf (pc := 6) kRO_isDiagonal_d6 (kfRO_f hG) hO.1 rfl ?_
      refine jj_iload_n (pc := 9) kRO_isDiagonal_d9 rfl ?_
      refine jj_callV (pc := 10) (b := f) (As := [.int (nI (a))]) kRO_isDiagonal_d10 (kvRO_RF_cells hG) (kG_cl hG rfl) rfl hC.1 rfl rfl rfl (Nat.le_of_ble_eq_true rfl) (Nat.le_of_ble_eq_true rfl) (jj_bare0 rfl) ?_
      refine rf_cells (r := m) (c := n) hG hC hV (by omega) hb2 hb3 ?_
      show jj G kRO_isDiagonal (d + 1) Q rc rs 13 [some (.ref o), some (.int (nI (a))), some (.int (nI (b))), some (.int (nI (k)))] [.int (nI (m * n)), .int (nI (k))] M
      refine jn_icmp_ge (pc := 13) (tgt := 65) kRO_isDiagonal_d13 (by decide) (by omega) (by omega) (fun c => by exfalso; omega) (fun _ => ?_)
      refine jj_iload_n (pc := 16) kRO_isDiagonal_d16 rfl ?_
      refine jj_aload_n (pc := 17) kRO_isDiagonal_d17 rfl ?_
      refine jj_getf (pc := 18) kRO_isDiagonal_d18 (kfRO_f hG) hO.1 rfl ?_
      refine jj_iload_n (pc := 21) kRO_isDiagonal_d21 rfl ?_
      refine jj_iload_n (pc := 22) kRO_isDiagonal_d22 rfl ?_
      refine jj_callV (pc := 23) (b := f) (As := [.int (nI (a)), .int (nI (k))]) kRO_isDiagonal_d23 (kvRO_RF_upper hG) (kG_cl hG rfl) rfl hC.1 rfl rfl rfl (Nat.le_of_ble_eq_true rfl) (Nat.le_of_ble_eq_true rfl) (jj_bare0 rfl) ?_
      refine rf_upper hG hC hV (by omega) ?_
      show jj G kRO_isDiagonal (d + 1) Q rc rs 26 [some (.ref o), some (.int (nI (a))), some (.int (nI (b))), some (.int (nI (k)))] [.int (V.getD (a + 2 + 2 * k) 0), .int (nI (b))] M
      refine jn_top (.int (nI (p1))) (by rw [g1]) ?_
      have k57 : (k / n ≠ k % n → q k = 0) → jj G kRO_isDiagonal (d + 1) Q rc rs 57 [some (.ref o), some (.int (nI (a))), some (.int (nI (b))), some (.int (nI (k)))] [.int (nI (1)), .int (nI (b))] M := by
        intro h9
        refine jj_iand (pc := 57) kRO_isDiagonal_d57 ?_
        refine jn_top (.int (nI (b))) (by rcases (show b = 0 ∨ b = 1 by omega) with e | e <;> rw [e] <;> decide) ?_
        refine jj_istore_n (pc := 58) kRO_isDiagonal_d58 (Nat.le_of_ble_eq_true rfl) ?_
        refine jn_iinc (pc := 59) (k + 1) kRO_isDiagonal_d59 rfl (nI_1 _) ?_
        refine jj_goto (pc := 62) (tgt := 4) kRO_isDiagonal_d62 (by decide) ?_
        show jj G kRO_isDiagonal (d + 1) Q rc rs 4 [some (.ref o), some (.int (nI (a))), some (.int (nI (b))), some (.int (nI (k + 1)))] [] M
        exact ih (k + 1) (by omega) (b) (by omega) (by
            constructor
            · intro e k' hk' hne
              by_cases e2 : k' = k
              · rw [e2] at hne ⊢; exact h9 hne
              · exact h0.mp e k' (by omega) hne
            · intro e; exact h0.mpr (fun k' hk' hne => e k' (by omega) hne))
      refine jn_if_eq (pc := 26) (tgt := 52) kRO_isDiagonal_d26 (by decide) (by omega) (fun c1 => ?_) (fun c1 => ?_)
      · skip
        refine jn_iconst (pc := 52) 1 kRO_isDiagonal_d52 (by decide) ?_
        refine jj_goto (pc := 53) (tgt := 57) kRO_isDiagonal_d53 (by decide) ?_
        exact k57 (fun _ => Rat.num_eq_zero.mp (by have h9 := g3.1; rw [c1] at h9; exact h9.z0 hz0 (by omega)))
      · skip
        have hx0 : q k ≠ 0 := fun e => by have h9 := g3.1; rw [e] at h9; have := RI.p0 h9; omega
        have hd1 : k / n ≤ k := Nat.div_le_self _ _
        have hd2 := Nat.mod_lt k hn0
        refine jj_iload_n (pc := 29) kRO_isDiagonal_d29 rfl ?_
        refine jj_aload_n (pc := 30) kRO_isDiagonal_d30 rfl ?_
        refine jj_getf (pc := 31) kRO_isDiagonal_d31 (kfRO_f hG) hO.1 rfl ?_
        refine jj_iload_n (pc := 34) kRO_isDiagonal_d34 rfl ?_
        refine jj_callV (pc := 35) (b := f) (As := [.int (nI (a))]) kRO_isDiagonal_d35 (kvRO_RF_columns hG) (kG_cl hG rfl) rfl hC.1 rfl rfl rfl (Nat.le_of_ble_eq_true rfl) (Nat.le_of_ble_eq_true rfl) (jj_bare0 rfl) ?_
        refine rf_columns hG hC hV (by omega) ?_
        show jj G kRO_isDiagonal (d + 1) Q rc rs 38 [some (.ref o), some (.int (nI (a))), some (.int (nI (b))), some (.int (nI (k)))] [.int (V.getD (a + 1) 0), .int (nI (k)), .int (nI (b))] M
        refine jn_top (.int (nI (n))) (by rw [hb3]) ?_
        refine jn_idiv (pc := 38) (k / n) kRO_isDiagonal_d38 (by omega) (by omega) (by omega) rfl ?_
        refine jj_iload_n (pc := 39) kRO_isDiagonal_d39 rfl ?_
        refine jj_aload_n (pc := 40) kRO_isDiagonal_d40 rfl ?_
        refine jj_getf (pc := 41) kRO_isDiagonal_d41 (kfRO_f hG) hO.1 rfl ?_
        refine jj_iload_n (pc := 44) kRO_isDiagonal_d44 rfl ?_
        refine jj_callV (pc := 45) (b := f) (As := [.int (nI (a))]) kRO_isDiagonal_d45 (kvRO_RF_columns hG) (kG_cl hG rfl) rfl hC.1 rfl rfl rfl (Nat.le_of_ble_eq_true rfl) (Nat.le_of_ble_eq_true rfl) (jj_bare0 rfl) ?_
        refine rf_columns hG hC hV (by omega) ?_
        show jj G kRO_isDiagonal (d + 1) Q rc rs 48 [some (.ref o), some (.int (nI (a))), some (.int (nI (b))), some (.int (nI (k)))] [.int (V.getD (a + 1) 0), .int (nI (k)), .int (nI (k / n)), .int (nI (b))] M
        refine jn_top (.int (nI (n))) (by rw [hb3]) ?_
        refine jn_irem (pc := 48) (k % n) kRO_isDiagonal_d48 (by omega) (by omega) (by omega) rfl ?_
        refine jn_icmp_ne (pc := 49) (tgt := 56) kRO_isDiagonal_d49 (by decide) (by omega) (by omega) (fun c2 => ?_) (fun c2 => ?_)
        · skip
          refine jn_iconst (pc := 56) 0 kRO_isDiagonal_d56 (by decide) ?_
          refine jj_iand (pc := 57) kRO_isDiagonal_d57 ?_
          refine jn_top (.int (nI (0))) (by rcases (show b = 0 ∨ b = 1 by omega) with e | e <;> rw [e] <;> decide) ?_
          refine jj_istore_n (pc := 58) kRO_isDiagonal_d58 (Nat.le_of_ble_eq_true rfl) ?_
          refine jn_iinc (pc := 59) (k + 1) kRO_isDiagonal_d59 rfl (nI_1 _) ?_
          refine jj_goto (pc := 62) (tgt := 4) kRO_isDiagonal_d62 (by decide) ?_
          show jj G kRO_isDiagonal (d + 1) Q rc rs 4 [some (.ref o), some (.int (nI (a))), some (.int (nI (0))), some (.int (nI (k + 1)))] [] M
          exact ih (k + 1) (by omega) (0) (by omega) (by
              constructor
              · intro e; omega
              · intro e; exact absurd (e k (by omega) c2) hx0)
        · skip
          refine jn_iconst (pc := 52) 1 kRO_isDiagonal_d52 (by decide) ?_
          refine jj_goto (pc := 53) (tgt := 57) kRO_isDiagonal_d53 (by decide) ?_
          exact k57 (fun e => absurd c2 e)
  show jj G kRO_isDiagonal (d + 1) Q rc rs 0 [some (.ref o), some (.int (nI (a))), none, none] [] M
  refine jn_iconst (pc := 0) 1 kRO_isDiagonal_d0 (by decide) ?_
  refine jj_istore_n (pc := 1) kRO_isDiagonal_d1 (Nat.le_of_ble_eq_true rfl) ?_
  refine jn_iconst (pc := 2) 0 kRO_isDiagonal_d2 (by decide) ?_
  refine jj_istore_n (pc := 3) kRO_isDiagonal_d3 (Nat.le_of_ble_eq_true rfl) ?_
  show jj G kRO_isDiagonal (d + 1) Q rc rs 4 [some (.ref o), some (.int (nI (a))), some (.int (nI (1))), some (.int (nI (0)))] [] M
  exact loop (m * n) 0 (by omega) 1 (by omega) ⟨fun _ k' h => by omega, fun _ => rfl⟩
end RO1
