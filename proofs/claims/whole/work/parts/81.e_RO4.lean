/-! ===== Forms.inverse (printed by wip/gen/ro4.py) ===== -/
theorem nI_m1ne {n : Nat} (h : n < 2 ^ 31) : nI n ≠ -1 := fun e => by
  have h1 := congrArg Int32.toInt e
  rw [nI_toInt h] at h1
  have h2 : (-1 : Int32).toInt = -1 := by decide
  omega
theorem one_lt_ZB {s : Nat} (h : 2 ≤ s) : 1 < 32768 ^ s := Nat.one_lt_pow (by omega) (by decide)
section RO4
variable {G : jg} {d : Nat} {Q : jq} {rc rs : Nat} {M : mheap} {o f w vv pv ca ra : Nat} {v2 : Value} {D V P CA RA : List Int32} {t : Nat} {up low rk fi se : Int32}
theorem ro_inverse {a n N loa T s Sz E cm cv X Z X' Z' : Nat} {qa : Nat → Rat} {AB : qmat} {J : qmat → Nat → (Nat → Nat) → Prop} (hG : kG G) (hO : OC M o f w ca ra CA RA fi se) (hC : FC M f w vv pv V t up low P rk) (hS : RS M w D T v2 cm X Z rc rs) (hX : FXB cv V X Z X' Z') (htV : t ≤ V.length) (h1 : RI D T 1 1) (hT3 : 3 ≤ T) (hma : MX D T V t a n n loa qa) (hN : n + n = N) (hA : ∀ i, i < n → ∀ j, j < N → AB i j = if j < n then qa (i * n + j) else if i = j - n then 1 else 0) (hqa : ∀ k, k < n * n → ZB s (qa k).num ∧ ZB s ((qa k).den : Int)) (hn : n < 64) (hP : P.length = 64) (hsz : EJ J n N s) (hJ0 : J AB 0 (fun i => i)) (hn0 : 0 < n) (hSz : Sz = (n * N + n) * (2 * s + 2)) (hs2 : 3 * s + 1 ≤ 9000) (hs3 : 2 ≤ s) (hE : E = T + n * n * 7 + Sz) (ht : t + 8 + 4 * (n * N) + 4 * (n * n) ≤ cv) (hT : E + Sz + n * n * (2 * s + 8) + 20000 + 100 * s + 500 ≤ cm)
    (K0 : ∀ M' vv' D' V' P' up' low' rk' X1 Z1 v2' rc' rs' Ef p, FC M' f w vv' pv V' t up' low' P' (nI rk') → RS M' w D' T v2' cm X1 Z1 rc' rs' → FXB cv V' X1 Z1 X' Z' → (∀ i, i < T → D'.getD i 0 = D.getD i 0) → (∀ i, i < t → V'.getD i 0 = V.getD i 0) → t ≤ V'.length → FF M M' f → P'.length = P.length → SEC AB Ef n n N rk' p → (rk' < n ∨ ¬ ∀ r' k', rk' ≤ r' → r' < n → n ≤ k' → k' < N → Ef r' k' = 0) → Q (.returned (some (.int (-1)))) M' rc' rs')
    (K : ∀ P' Ef p, P'.length = P.length → SEC AB Ef n n N n p → (∀ a b, a < n → b < N → ZB s (Ef a b).num ∧ ZB s ((Ef a b).den : Int)) → MKP Q M f w pv D V t P' (nI n) T cm cv X' Z' n n (T + n * n * (2 * s + 8)) (fun k => solF Ef n p n (k / n) (k % n))) : jj G kRO_inverse (d + 13) Q rc rs 0 (jj_ent [.ref o, .int (nI a)] 8) [] M := by
  have hcap := hX.cap
  have hcapD := hS.2.1.cap
  obtain ⟨ha1, ha2, ha3, ha4⟩ := id hma
  have hnN : n * N < 64 * 1024 := Nat.mul_lt_mul_of_lt_of_le hn (by omega) (by decide)
  have hnn : n * n < 64 * 1024 := Nat.mul_lt_mul_of_lt_of_le hn (by omega) (by decide)
  obtain ⟨hW101, hB101, hTD101, hz101, hp101⟩ := id hS
  obtain ⟨dd101, hw101, hd101⟩ := id hW101
  have hcap101 := hB101.cap
  show jj G kRO_inverse (d + 13) Q rc rs 0 [some (.ref o), some (.int (nI (a))), none, none, none, none, none, none] [] M
  refine jj_aload_n (pc := 0) kRO_inverse_d0 rfl ?_
  refine jj_getf (pc := 1) kRO_inverse_d1 (kfRO_w hG) hO.1 rfl ?_
  refine jj_getf (pc := 4) kRO_inverse_d4 (kfRO_RW_top hG) hw101 rfl ?_
  refine jj_istore_n (pc := 7) kRO_inverse_d7 (Nat.le_of_ble_eq_true rfl) ?_
  refine jj_aload_n (pc := 8) kRO_inverse_d8 rfl ?_
  refine jj_getf (pc := 9) kRO_inverse_d9 (kfRO_f hG) hO.1 rfl ?_
  refine jj_getf (pc := 12) kRO_inverse_d12 (kfRO_RF_top hG) hC.1 rfl ?_
  refine jj_istore_n (pc := 15) kRO_inverse_d15 (Nat.le_of_ble_eq_true rfl) ?_
  refine jj_aload_n (pc := 16) kRO_inverse_d16 rfl ?_
  refine jj_getf (pc := 17) kRO_inverse_d17 (kfRO_f hG) hO.1 rfl ?_
  refine jj_iload_n (pc := 20) kRO_inverse_d20 rfl ?_
  refine jj_callV (pc := 21) (b := f) (As := [.int (nI (a))]) kRO_inverse_d21 (kvRO_RF_rows hG) (kG_cl hG rfl) rfl hC.1 rfl rfl rfl (Nat.le_of_ble_eq_true rfl) (Nat.le_of_ble_eq_true rfl) (jj_bare0 rfl) ?_
  refine rf_rows hG hC (by omega) (by omega) ?_
  show jj G kRO_inverse (d + 13) Q rc rs 24 [some (.ref o), some (.int (nI (a))), some (.int (nI (T))), some (.int (nI (t))), none, none, none, none] [.int (V.getD a 0)] M
  refine jn_top (.int (nI (n))) (by rw [ha2]) ?_
  refine jj_istore (pc := 24) kRO_inverse_d24 (Nat.le_of_ble_eq_true rfl) ?_
  refine jj_aload_n (pc := 26) kRO_inverse_d26 rfl ?_
  refine jj_getf (pc := 27) kRO_inverse_d27 (kfRO_f hG) hO.1 rfl ?_
  refine jj_iload (pc := 30) kRO_inverse_d30 rfl ?_
  refine jj_callV (pc := 32) (b := f) (As := [.int (nI (n))]) kRO_inverse_d32 (kvRO_RF_unit hG) (kG_cl hG rfl) rfl hC.1 rfl rfl rfl (Nat.le_of_ble_eq_true rfl) (Nat.le_of_ble_eq_true rfl) (jj_bare0 rfl) ?_
  refine rf_unit hG hC hS hX htV h1 hT3 (by omega) (by omega) (by omega) (fun M1 vv D1 T1 V1 up1 low1 X1 Z1 v1 rc1 rs1 hC1 hS1 hX1 t1 u1 ho1 hv1 hl1 hF1 hm1 => ?_)
  show jj G kRO_inverse (d + 13) Q rc1 rs1 35 [some (.ref o), some (.int (nI (a))), some (.int (nI (T))), some (.int (nI (t))), some (.int (nI (n))), none, none, none] [.int (nI (t))] M1
  have hcap1 := hX1.cap
  obtain ⟨tu, htu⟩ : ∃ tu, t + 2 + 2 * (n * n) = tu := ⟨_, rfl⟩
  rw [htu] at hC1 hl1 hm1
  have hma1 := hma.congr (lo' := loa) t1 ho1 (show t ≤ tu by omega) hv1 (Nat.le_refl _)
  obtain ⟨hW102, hB102, hTD102, hz102, hp102⟩ := id hS1
  obtain ⟨dd102, hw102, hd102⟩ := id hW102
  have hcap102 := hB102.cap
  refine jj_istore (pc := 35) kRO_inverse_d35 (Nat.le_of_ble_eq_true rfl) ?_
  refine jj_aload_n (pc := 37) kRO_inverse_d37 rfl ?_
  refine jj_getf (pc := 38) kRO_inverse_d38 (kfRO_w hG) (hO.ff hF1).1 rfl ?_
  refine jj_getf (pc := 41) kRO_inverse_d41 (kfRO_RW_top hG) hw102 rfl ?_
  refine jj_istore (pc := 44) kRO_inverse_d44 (Nat.le_of_ble_eq_true rfl) ?_
  refine jj_aload_n (pc := 46) kRO_inverse_d46 rfl ?_
  refine jj_iload_n (pc := 47) kRO_inverse_d47 rfl ?_
  refine jj_iload (pc := 48) kRO_inverse_d48 rfl ?_
  refine jj_callV (pc := 50) (b := o) (As := [.int (nI (a)), .int (nI (t))]) kRO_inverse_d50 (kvRO_RO_solve hG) (kG_cl hG rfl) rfl (hO.ff hF1).1 rfl rfl rfl (Nat.le_of_ble_eq_true rfl) (Nat.le_of_ble_eq_true rfl) (jj_bare0 rfl) ?_
  refine ro_solve (m := n) (n := n) (nb := n) (N := N) (s := s) (Sz := Sz) (E := T1 + Sz) (AB := AB) (J := J) hG (hO.ff hF1) hC1 hS1 hX1 hl1 (h1.congr t1 ho1) (by omega) hma1 hm1 hN (fun i hi j hj => by
      rw [hA i hi j hj]
      by_cases c : j < n
      · rw [if_pos c, if_pos c]
      · obtain ⟨e1, e2⟩ := at_div (i := i) (show j - n < n by omega)
        rw [if_neg c, if_neg c, e1, e2]) hqa (fun k hk => by
      try dsimp only
      split
      · exact ⟨ZB.of_le (show ((1 : Rat).num).natAbs ≤ 1 from Nat.le_refl _) (one_lt_ZB hs3), ZB.of_le (show (((1 : Rat).den : Nat) : Int).natAbs ≤ 1 from Nat.le_refl _) (one_lt_ZB hs3)⟩
      · exact ⟨ZB.of_le (show ((0 : Rat).num).natAbs ≤ 1 from Nat.zero_le _) (one_lt_ZB hs3), ZB.of_le (show (((0 : Rat).den : Nat) : Int).natAbs ≤ 1 from Nat.le_refl _) (one_lt_ZB hs3)⟩) hn hn hn hP hsz hJ0 (by omega) hSz hs2 hs3 rfl (by omega) (by omega) (fun M2 vv D2 V2 P2 up2 low2 rk2 X2 Z2 v2_ rc2 rs2 E2 g2 hC2 hS2 hX2 ho2 hv2 hl2 hF2 hP2 hsec hnal => ?_) (fun P2 rk2 E2 g2 hP2 hsec hal zA M2 vv D2 T2 V2 up2 low2 X2 Z2 v2_ rc2 rs2 hC2 hS2 hX2 t2 u2 ho2 hv2 hl2 hF2 hm2 => ?_)
  · skip
    show jj G kRO_inverse (d + 13) Q rc2 rs2 53 [some (.ref o), some (.int (nI (a))), some (.int (nI (T))), some (.int (nI (t))), some (.int (nI (n))), some (.int (nI (t))), some (.int (nI (T1))), none] [.int (-1)] M2
    have hF3 := hF1.trans hF2
    have hcap2 := hX2.cap
    obtain ⟨hW103, hB103, hTD103, hz103, hp103⟩ := id hS2
    obtain ⟨dd103, hw103, hd103⟩ := id hW103
    have hcap103 := hB103.cap
    refine jj_istore (pc := 53) kRO_inverse_d53 (Nat.le_of_ble_eq_true rfl) ?_
    refine jj_iload (pc := 55) kRO_inverse_d55 rfl ?_
    refine jj_iconst (pc := 57) (v := (-1)) kRO_inverse_d57 (by decide) ?_
    refine jj_icmp_eq (pc := 58) (tgt := 73) kRO_inverse_d58 (by decide) (fun _ => ?_) (fun c => absurd c (by decide))
    refine jj_aload_n (pc := 73) kRO_inverse_d73 rfl ?_
    refine jj_getf (pc := 74) kRO_inverse_d74 (kfRO_w hG) (hO.ff hF3).1 rfl ?_
    refine jj_iload_n (pc := 77) kRO_inverse_d77 rfl ?_
    refine jj_putf (pc := 78) kRO_inverse_d78 (kpRO_RW_top hG) hw103 (by rfl) rfl ?_
    refine jn_gen (fun M104 hM105 => ?_)
    have hf106 : RF M2 M104 w := by rw [hM105]; exact RF.top hw103
    have hS106 : RS M104 w D2 (T) v2_ cm X2 Z2 rc2 rs2 := ⟨⟨dd103, by rw [hM105]; exact jj_up_at _ _ _, by rw [hM105, jj_up_ne _ _ (fun e => by have q1 := hd103; rw [e, hw103] at q1; cases q1)]; exact hd103⟩, hB103, by omega, hz103, by omega⟩
    have hC106 := hC2.rf hf106
    have hF106 := hF3.trans (FF.ofRF hC2 hf106)
    obtain ⟨hW107, hB107, hTD107, hz107, hp107⟩ := id hS106
    obtain ⟨dd107, hw107, hd107⟩ := id hW107
    have hcap107 := hB107.cap
    refine jj_aload_n (pc := 81) kRO_inverse_d81 rfl ?_
    refine jj_getf (pc := 82) kRO_inverse_d82 (kfRO_f hG) (hO.ff hF106).1 rfl ?_
    refine jj_iload_n (pc := 85) kRO_inverse_d85 rfl ?_
    refine jj_putf (pc := 86) kRO_inverse_d86 (kpRO_RF_top hG) hC106.1 (by rfl) rfl ?_
    refine jn_gen (fun M108 hM109 => ?_)
    have hC110 : FC M108 f w vv pv V2 (t) (up2) (low2) P2 (nI (rk2)) := by rw [hM109]; exact hC106.putf
    have hF110 : FF M M108 f := by rw [hM109]; exact hF106.trans (FF.putf hC106)
    have hS110 : RS M108 w D2 (T) v2_ cm X2 Z2 rc2 rs2 := by rw [hM109]; exact hS106.other hC106.2.2.2.2.1
    obtain ⟨hW111, hB111, hTD111, hz111, hp111⟩ := id hS110
    obtain ⟨dd111, hw111, hd111⟩ := id hW111
    have hcap111 := hB111.cap
    refine jj_iconst (pc := 89) (v := (-1)) kRO_inverse_d89 (by decide) ?_
    exact jj_iret (pc := 90) kRO_inverse_d90 rfl (by rfl) (K0 M108 vv D2 V2 P2 _ _ rk2 X2 Z2 _ rc2 rs2 E2 g2 hC110 hS110 hX2 (fun i hi => by rw [ho2 i (by omega), ho1 i hi]) (fun i hi => by rw [hv2 i (by omega), hv1 i hi]) (by omega) hF110 hP2 hsec (Or.inr hnal))
  · skip
    show jj G kRO_inverse (d + 13) Q rc2 rs2 53 [some (.ref o), some (.int (nI (a))), some (.int (nI (T))), some (.int (nI (t))), some (.int (nI (n))), some (.int (nI (t))), some (.int (nI (T1))), none] [.int (nI (tu))] M2
    have hrm := hsec.1.1
    have hF3 := hF1.trans hF2
    have hcap2 := hX2.cap
    obtain ⟨t2x, ht2x⟩ : ∃ t2x, tu + 2 + 2 * (n * n) = t2x := ⟨_, rfl⟩
    rw [ht2x] at hC2 hl2 hm2
    obtain ⟨hW112, hB112, hTD112, hz112, hp112⟩ := id hS2
    obtain ⟨dd112, hw112, hd112⟩ := id hW112
    have hcap112 := hB112.cap
    refine jj_istore (pc := 53) kRO_inverse_d53 (Nat.le_of_ble_eq_true rfl) ?_
    refine jj_iload (pc := 55) kRO_inverse_d55 rfl ?_
    refine jj_iconst (pc := 57) (v := (-1)) kRO_inverse_d57 (by decide) ?_
    refine jj_icmp_eq (pc := 58) (tgt := 73) kRO_inverse_d58 (by decide) (fun c => absurd c (nI_m1ne (by omega))) (fun _ => ?_)
    refine jj_aload_n (pc := 61) kRO_inverse_d61 rfl ?_
    refine jj_getf (pc := 62) kRO_inverse_d62 (kfRO_f hG) (hO.ff hF3).1 rfl ?_
    refine jj_getf (pc := 65) kRO_inverse_d65 (kfRO_RF_rank hG) hC2.1 rfl ?_
    refine jj_iload (pc := 68) kRO_inverse_d68 rfl ?_
    refine jn_icmp_ge (pc := 70) (tgt := 91) kRO_inverse_d70 (by decide) (by omega) (by omega) (fun c1 => ?_) (fun c1 => ?_)
    · skip
      have e9 : rk2 = n := by omega
      rw [e9] at hsec hC2 hm2
      refine jj_aload_n (pc := 91) kRO_inverse_d91 rfl ?_
      refine jj_getf (pc := 92) kRO_inverse_d92 (kfRO_f hG) (hO.ff hF3).1 rfl ?_
      refine jj_iload_n (pc := 95) kRO_inverse_d95 rfl ?_
      refine jj_iload_n (pc := 96) kRO_inverse_d96 rfl ?_
      refine jj_iload (pc := 97) kRO_inverse_d97 rfl ?_
      refine jj_iload (pc := 99) kRO_inverse_d99 rfl ?_
      refine jj_callV (pc := 101) (b := f) (As := [.int (nI (T)), .int (nI (t)), .int (nI (T1)), .int (nI (tu))]) kRO_inverse_d101 (kvRO_RF_slide hG) (kG_cl hG rfl) rfl hC2.1 rfl rfl rfl (Nat.le_of_ble_eq_true rfl) (Nat.le_of_ble_eq_true rfl) (jj_bare0 rfl) ?_
      refine rf_slide hG hC2 hS2 (by omega) (by omega) hm2 (h1.congr (Nat.le_refl _) (fun i hi => by rw [ho2 i (by omega), ho1 i hi])) hT3 t1 t2 (by omega) (by omega) (by omega) (by omega) (fun M6 D6 T6 V6 hC6 hS6 t6 ho6 hl6 hv6 hF6' hm6 => ?_)
      show jj G kRO_inverse (d + 13) Q rc2 rs2 104 [some (.ref o), some (.int (nI (a))), some (.int (nI (T))), some (.int (nI (t))), some (.int (nI (n))), some (.int (nI (t))), some (.int (nI (T1))), some (.int (nI (tu)))] [.int (nI (t))] M6
      exact jj_iret (pc := 104) kRO_inverse_d104 rfl (by rfl) (K P2 E2 g2 hP2 hsec zA M6 vv D6 T6 V6 _ _ X2 Z2 _ rc2 rs2 hC6 hS6 (hX2.same hl6) (by omega) (by omega) (fun i hi => by rw [ho6 i hi, ho2 i (by omega), ho1 i hi]) (fun i hi => by rw [hv6 i hi, hv2 i (by omega), hv1 i hi]) (by omega) (hF3.trans hF6') hm6)
    · skip
      refine jj_aload_n (pc := 73) kRO_inverse_d73 rfl ?_
      refine jj_getf (pc := 74) kRO_inverse_d74 (kfRO_w hG) (hO.ff hF3).1 rfl ?_
      refine jj_iload_n (pc := 77) kRO_inverse_d77 rfl ?_
      refine jj_putf (pc := 78) kRO_inverse_d78 (kpRO_RW_top hG) hw112 (by rfl) rfl ?_
      refine jn_gen (fun M113 hM114 => ?_)
      have hf115 : RF M2 M113 w := by rw [hM114]; exact RF.top hw112
      have hS115 : RS M113 w D2 (T) v2_ cm X2 Z2 rc2 rs2 := ⟨⟨dd112, by rw [hM114]; exact jj_up_at _ _ _, by rw [hM114, jj_up_ne _ _ (fun e => by have q1 := hd112; rw [e, hw112] at q1; cases q1)]; exact hd112⟩, hB112, by omega, hz112, by omega⟩
      have hC115 := hC2.rf hf115
      have hF115 := hF3.trans (FF.ofRF hC2 hf115)
      obtain ⟨hW116, hB116, hTD116, hz116, hp116⟩ := id hS115
      obtain ⟨dd116, hw116, hd116⟩ := id hW116
      have hcap116 := hB116.cap
      refine jj_aload_n (pc := 81) kRO_inverse_d81 rfl ?_
      refine jj_getf (pc := 82) kRO_inverse_d82 (kfRO_f hG) (hO.ff hF115).1 rfl ?_
      refine jj_iload_n (pc := 85) kRO_inverse_d85 rfl ?_
      refine jj_putf (pc := 86) kRO_inverse_d86 (kpRO_RF_top hG) hC115.1 (by rfl) rfl ?_
      refine jn_gen (fun M117 hM118 => ?_)
      have hC119 : FC M117 f w vv pv V2 (t) (up2) (low2) P2 (nI (rk2)) := by rw [hM118]; exact hC115.putf
      have hF119 : FF M M117 f := by rw [hM118]; exact hF115.trans (FF.putf hC115)
      have hS119 : RS M117 w D2 (T) v2_ cm X2 Z2 rc2 rs2 := by rw [hM118]; exact hS115.other hC115.2.2.2.2.1
      obtain ⟨hW120, hB120, hTD120, hz120, hp120⟩ := id hS119
      obtain ⟨dd120, hw120, hd120⟩ := id hW120
      have hcap120 := hB120.cap
      refine jj_iconst (pc := 89) (v := (-1)) kRO_inverse_d89 (by decide) ?_
      exact jj_iret (pc := 90) kRO_inverse_d90 rfl (by rfl) (K0 M117 vv D2 V2 P2 _ _ rk2 X2 Z2 _ rc2 rs2 E2 g2 hC119 hS119 hX2 (fun i hi => by rw [ho2 i (by omega), ho1 i hi]) (fun i hi => by rw [hv2 i (by omega), hv1 i hi]) (by omega) hF119 hP2 hsec (Or.inl (by omega)))
end RO4
