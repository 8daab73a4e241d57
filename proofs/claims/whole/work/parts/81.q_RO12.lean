/-! ===== Forms.hermite: both echelon forms (printed by wip/gen/ro12.py) ===== -/
section RO12
variable {G : jg} {d : Nat} {Q : jq} {rc rs : Nat} {M : mheap} {o f w vv pv ca ra : Nat} {v2 : Value} {D V P CA RA : List Int32} {t : Nat} {up low rk fi se : Int32}
theorem ro_herm_one {b m n lob T s S cm cv X Z X' Z' : Nat} {qb : Nat → Rat} {Bz : imat} (hG : kG G) (hO : OC M o f w ca ra CA RA fi se) (hC : FC M f w vv pv V t up low P rk) (hS : RS M w D T v2 cm X Z rc rs) (hX : FXB cv V X Z X' Z') (htV : t ≤ V.length) (h1 : RI D T 1 1) (hT3 : 3 ≤ T) (hb : MX D T V t b m n lob qb) (hB : ∀ i, i < m → ∀ j, j < n → qb (i * n + j) = ((Bz i j : Int) : Rat)) (hm : m < 32) (hn : n < 32) (hm1 : 1 ≤ m) (hn1 : 1 ≤ n) (hP : P.length = 64) (hCA : CA.length = 64) (hRA : RA.length = 64) (hs1 : ESZ (fun i j => zq Bz j i) (fun _ => (1 : Rat)) n m s) (hs2 : ESZ (zq Bz) (fun _ => (1 : Rat)) m n s) (hs : S = 4 * s + 4) (hs3 : 3 * s + 1 ≤ 9000) (ht : t + 10 + 6 * (m * n) ≤ cv) (hT : T + m * n * (2 * s + 2) + m * n * S + m * n * S + 20000 + 100 * s + 500 ≤ cm)
    (K0 : (∀ i, i < m → ∀ j, j < n → Bz i j = 0) → ∀ M' vv' D' T' V' P' up' low' rk' RA' X1 Z1 v2' rc' rs', P'.length = 64 → OC M' o f w ca ra CA RA' fi se → RA'.length = 64 → FC M' f w vv' pv V' (t + 2 + 2 * (m * n)) up' low' P' rk' → RS M' w D' T' v2' cm X1 Z1 rc' rs' → FXB cv V' X1 Z1 X' Z' → T ≤ T' → T' ≤ T + m * n * (2 * s + 2) → (∀ i, i < T → D'.getD i 0 = D.getD i 0) → (∀ i, i < t → V'.getD i 0 = V.getD i 0) → t + 2 + 2 * (m * n) ≤ V'.length → OF M M' o → MX D' T' V' (t + 2 + 2 * (m * n)) t m n T (fun k => qb k) → Q (.returned (some (.int (nI t)))) M' rc' rs')
    (K : ∀ (r : Nat) (g1 g2 x2 : Nat → Nat) (A2 : qmat) (q2 : Nat → Rat) M' vv' D' T' V' P' up' low' rk' CA' RA' X1 Z1 v2' rc' rs' o8 o9 o10 o11 o12 o13 o14 o15, 0 < r → r ≤ m → r ≤ n → det r (fun a b => zq Bz (g1 a) (g2 b)) ≠ 0 → gjinv A2 m n r g2 → GI (zq Bz) (fun _ => (1 : Rat)) A2 m n r x2 g2 → rowsIn A2 m (zq Bz) m n → rowsIn (zq Bz) m A2 m n → (∀ i, i < m → ∀ j, j < n → A2 i j = q2 (i * n + j)) → (∀ i, i < r → RA'.getD i 0 = nI (g1 i) ∧ g1 i < m) → (∀ i, i < r → CA'.getD i 0 = nI (g2 i) ∧ g2 i < n) → RA'.length = 64 → CA'.length = 64 → P'.length = 64 → OC M' o f w ca ra CA' RA' fi se → FC M' f w vv' pv V' (t + 2 + 2 * (m * n)) up' low' P' rk' → RS M' w D' T' v2' cm X1 Z1 rc' rs' → FXB cv V' X1 Z1 X' Z' → T ≤ T' → T' ≤ T + m * n * S → (∀ i, i < T → D'.getD i 0 = D.getD i 0) → (∀ i, i < t → V'.getD i 0 = V.getD i 0) → t + 2 + 2 * (m * n) ≤ V'.length → OF M M' o → MX D' T' V' (t + 2 + 2 * (m * n)) t m n 0 q2 → jj G kRO_hermite (d + 13) Q rc' rs' 161 [some (.ref o), some (.int (nI (b))), some (.int (nI (T))), some (.int (nI (t))), some (.int (nI (r))), some (.int (nI (t))), some (.int (nI (n))), some (.int (nI (m))), (o8), (o9), (o10), (o11), (o12), (o13), (o14), (o15)] [] M') : jj G kRO_hermite (d + 13) Q rc rs 0 (jj_ent [.ref o, .int (nI b)] 16) [] M := by
  have hcap := hX.cap
  have hcapD := hS.2.1.cap
  obtain ⟨hb1, hb2, hb3, hb4⟩ := id hb
  have hmn : m * n < 32 * 1024 := Nat.mul_lt_mul_of_lt_of_le hm (by omega) (by decide)
  have hnm : n * m = m * n := Nat.mul_comm n m
  have hq : ∀ k, k < m * n → ZB s (qb k).num ∧ ZB s ((qb k).den : Int) := fun k hk => by
    obtain ⟨k1, k2, k3⟩ := at_back hk
    have := (hs2 (zq Bz) 0 0 (fun i => i) (fun i => i) (GI_start (fun i _ j _ => by grind)) (gjinv_start _ m _) (by omega)).1 _ _ k1 k2
    rw [show zq Bz (k / n) (k % n) = qb k by rw [← k3, hB _ k1 _ k2, k3]; rfl] at this
    exact this
  obtain ⟨hW101, hB101, hTD101, hz101, hp101⟩ := id hS
  obtain ⟨dd101, hw101, hd101⟩ := id hW101
  have hcap101 := hB101.cap
  show jj G kRO_hermite (d + 13) Q rc rs 0 [some (.ref o), some (.int (nI (b))), none, none, none, none, none, none, none, none, none, none, none, none, none, none] [] M
  refine jj_aload_n (pc := 0) kRO_hermite_d0 rfl ?_
  refine jj_getf (pc := 1) kRO_hermite_d1 (kfRO_w hG) hO.1 rfl ?_
  refine jj_getf (pc := 4) kRO_hermite_d4 (kfRO_RW_top hG) hw101 rfl ?_
  refine jj_istore_n (pc := 7) kRO_hermite_d7 (Nat.le_of_ble_eq_true rfl) ?_
  refine jj_aload_n (pc := 8) kRO_hermite_d8 rfl ?_
  refine jj_getf (pc := 9) kRO_hermite_d9 (kfRO_f hG) hO.1 rfl ?_
  refine jj_getf (pc := 12) kRO_hermite_d12 (kfRO_RF_top hG) hC.1 rfl ?_
  refine jj_istore_n (pc := 15) kRO_hermite_d15 (Nat.le_of_ble_eq_true rfl) ?_
  show jj G kRO_hermite (d + 13) Q rc rs 16 [some (.ref o), some (.int (nI (b))), some (.int (nI (T))), some (.int (nI (t))), none, none, none, none, none, none, none, none, none, none, none, none] [] M
  refine jj_aload_n (pc := 16) kRO_hermite_d16 rfl ?_
  refine jj_aload_n (pc := 17) kRO_hermite_d17 rfl ?_
  refine jj_getf (pc := 18) kRO_hermite_d18 (kfRO_f hG) hO.1 rfl ?_
  refine jj_iload_n (pc := 21) kRO_hermite_d21 rfl ?_
  refine jj_callV (pc := 22) (b := f) (As := [.int (nI (b))]) kRO_hermite_d22 (kvRO_RF_turned hG) (kG_cl hG rfl) rfl hC.1 rfl rfl rfl (Nat.le_of_ble_eq_true rfl) (Nat.le_of_ble_eq_true rfl) (jj_bare0 rfl) ?_
  refine rf_turned (lo := lob) (s := s) (S := 2 * s + 2) hG hC hS hX htV h1 hT3 hb (by omega) (by omega) rfl hq (by omega) (by omega) (fun M1 vv D1 T1 V1 up1 low1 X1 Z1 v1 rc1 rs1 hC1 hS1 hX1 t1 u1 ho1 hv1 hl1 hF1 hm1 => ?_)
  show jj G kRO_hermite (d + 13) Q rc1 rs1 25 [some (.ref o), some (.int (nI (b))), some (.int (nI (T))), some (.int (nI (t))), none, none, none, none, none, none, none, none, none, none, none, none] [.int (nI (t)), .ref o] M1
  have hcap1 := hX1.cap
  obtain ⟨t1x, ht1x⟩ : ∃ t1x, t + 2 + 2 * (n * m) = t1x := ⟨_, rfl⟩
  rw [ht1x] at hC1 hl1 hm1
  obtain ⟨hW102, hB102, hTD102, hz102, hp102⟩ := id hS1
  obtain ⟨dd102, hw102, hd102⟩ := id hW102
  have hcap102 := hB102.cap
  refine jj_callV (pc := 25) (b := o) (As := [.int (nI (t))]) kRO_hermite_d25 (kvRO_RO_echelon hG) (kG_cl hG rfl) rfl (hO.ff hF1).1 rfl rfl rfl (Nat.le_of_ble_eq_true rfl) (Nat.le_of_ble_eq_true rfl) (jj_bare0 rfl) ?_
  refine ro_echelon (loa := T) (m := n) (n := m) (s := s) (S := S) (E := T1 + n * m * S) (A := (fun i j => zq Bz j i)) (J := (fun A' rk g => ∃ x, GI (fun i j => zq Bz j i) (fun _ => (1 : Rat)) A' n m rk x g)) hG (hO.ff hF1) hC1 hS1 hX1 hl1 (h1.congr t1 ho1) (by omega) hm1 (fun i hi j hj => by
      obtain ⟨e1, e2⟩ := at_div (i := i) hj
      try dsimp only
      rw [e1, e2, hB j hj i hi]
      rfl) (by omega) (by omega) hP (EJ.ofESZ hs1 (fun i _ => by decide)) ⟨fun i => i, GI_start (fun i _ j _ => by grind)⟩ hs hs3 rfl (by rw [hnm]; omega) (by rw [hnm]; omega) (fun M2 vv D2 T2 V2 P2 up2 low2 rk2 g2 A2 q2 X2 Z2 v2_ rc2 rs2 hC2 hS2 hX2 t2 u2 ho2 hv2 hl2 hF2 hm2 hA2 hg2 hI2 hr2 hs2_ hP2 hp2 => ?_)
  show jj G kRO_hermite (d + 13) Q rc2 rs2 28 [some (.ref o), some (.int (nI (b))), some (.int (nI (T))), some (.int (nI (t))), none, none, none, none, none, none, none, none, none, none, none, none] [.int (nI (t1x))] M2
  have hF12 := hF1.trans hF2
  have hcap2 := hX2.cap
  obtain ⟨x2, hI2⟩ := hI2
  obtain ⟨t2x, ht2x⟩ : ∃ t2x, t1x + 2 + 2 * (n * m) = t2x := ⟨_, rfl⟩
  rw [ht2x] at hC2 hl2
  have hrk2 := hg2.1
  have ho20 : ∀ i, i < T → D2.getD i 0 = D.getD i 0 := fun i hi => by rw [ho2 i (by omega), ho1 i hi]
  have hv20 : ∀ i, i < t → V2.getD i 0 = V.getD i 0 := fun i hi => by rw [hv2 i (by omega), hv1 i hi]
  obtain ⟨hW103, hB103, hTD103, hz103, hp103⟩ := id hS2
  obtain ⟨dd103, hw103, hd103⟩ := id hW103
  have hcap103 := hB103.cap
  refine jj_pop (pc := 28) kRO_hermite_d28 rfl ?_
  refine jj_aload_n (pc := 29) kRO_hermite_d29 rfl ?_
  refine jj_getf (pc := 30) kRO_hermite_d30 (kfRO_f hG) (hO.ff hF12).1 rfl ?_
  refine jj_getf (pc := 33) kRO_hermite_d33 (kfRO_RF_rank hG) hC2.1 rfl ?_
  refine jj_istore (pc := 36) kRO_hermite_d36 (Nat.le_of_ble_eq_true rfl) ?_
  refine jn_iconst (pc := 38) 0 kRO_hermite_d38 (by decide) ?_
  refine jj_istore (pc := 39) kRO_hermite_d39 (Nat.le_of_ble_eq_true rfl) ?_
  show jj G kRO_hermite (d + 13) Q rc2 rs2 41 [some (.ref o), some (.int (nI (b))), some (.int (nI (T))), some (.int (nI (t))), some (.int (nI (rk2))), some (.int (nI (0))), none, none, none, none, none, none, none, none, none, none] [] M2
  show jj G kRO_hermite (d + 13) Q rc2 rs2 41 [some (.ref o), some (.int (nI (b))), some (.int (nI (T))), some (.int (nI (t))), some (.int (nI (rk2))), some (.int (nI (0))), none, none, none, none, none, none, none, none, none, none] [] M2
  refine ro_rowsAt (g := g2) hG (hO.ff hF12) hC2 hS2 (by omega) hRA (by omega) hp2 (fun M3 RA3 hO3 hC3 hS3 hG3 hl3 hg3 => ?_)
  have hG3x := (OF.ofFF hO hF12).trans hG3
  show jj G kRO_hermite (d + 13) Q rc2 rs2 71 [some (.ref o), some (.int (nI (b))), some (.int (nI (T))), some (.int (nI (t))), some (.int (nI (rk2))), some (.int (nI (rk2))), none, none, none, none, none, none, none, none, none, none] [] M3
  obtain ⟨hW104, hB104, hTD104, hz104, hp104⟩ := id hS3
  obtain ⟨dd104, hw104, hd104⟩ := id hW104
  have hcap104 := hB104.cap
  refine jj_aload_n (pc := 71) kRO_hermite_d71 rfl ?_
  refine jj_getf (pc := 72) kRO_hermite_d72 (kfRO_f hG) hO3.1 rfl ?_
  refine jj_iload_n (pc := 75) kRO_hermite_d75 rfl ?_
  refine jj_putf (pc := 76) kRO_hermite_d76 (kpRO_RF_top hG) hC3.1 (by rfl) rfl ?_
  refine jn_gen (fun M105 hM106 => ?_)
  have hC107 : FC M105 f w vv pv V2 (t) (up2) (low2) P2 (nI (rk2)) := by rw [hM106]; exact hC3.putf
  have hF107 : FF M3 M105 f := by rw [hM106]; exact (FF.refl M3 f).trans (FF.putf hC3)
  have hS107 : RS M105 w D2 (T2) v2_ cm X2 Z2 rc2 rs2 := by rw [hM106]; exact hS3.other hC3.2.2.2.2.1
  obtain ⟨hW108, hB108, hTD108, hz108, hp108⟩ := id hS107
  obtain ⟨dd108, hw108, hd108⟩ := id hW108
  have hcap108 := hB108.cap
  refine jj_aload_n (pc := 79) kRO_hermite_d79 rfl ?_
  refine jj_getf (pc := 80) kRO_hermite_d80 (kfRO_w hG) (hO3.ff hF107).1 rfl ?_
  refine jj_iload_n (pc := 83) kRO_hermite_d83 rfl ?_
  refine jj_putf (pc := 84) kRO_hermite_d84 (kpRO_RW_top hG) hw108 (by rfl) rfl ?_
  refine jn_gen (fun M109 hM110 => ?_)
  have hf111 : RF M105 M109 w := by rw [hM110]; exact RF.top hw108
  have hS111 : RS M109 w D2 (T) v2_ cm X2 Z2 rc2 rs2 := ⟨⟨dd108, by rw [hM110]; exact jj_up_at _ _ _, by rw [hM110, jj_up_ne _ _ (fun e => by have q1 := hd108; rw [e, hw108] at q1; cases q1)]; exact hd108⟩, hB108, by omega, hz108, by omega⟩
  have hC111 := hC107.rf hf111
  have hF111 := hF107.trans (FF.ofRF hC107 hf111)
  obtain ⟨hW112, hB112, hTD112, hz112, hp112⟩ := id hS111
  obtain ⟨dd112, hw112, hd112⟩ := id hW112
  have hcap112 := hB112.cap
  refine jj_iload (pc := 87) kRO_hermite_d87 rfl ?_
  refine jn_if_ne (pc := 89) (tgt := 101) kRO_hermite_d89 (by decide) (by omega) (fun c0 => ?_) (fun c0 => ?_)
  · skip
    clear K0
    refine jj_aload_n (pc := 101) kRO_hermite_d101 rfl ?_
    refine jj_iload_n (pc := 102) kRO_hermite_d102 rfl ?_
    have hb3_ : MX D2 T V2 t b m n lob qb := hb.congr (Nat.le_refl _) ho20 (Nat.le_refl _) hv20 (Nat.le_refl _)
    refine jj_callV (pc := 103) (b := o) (As := [.int (nI (b))]) kRO_hermite_d103 (kvRO_RO_echelon hG) (kG_cl hG rfl) rfl (hO3.ff hF111).1 rfl rfl rfl (Nat.le_of_ble_eq_true rfl) (Nat.le_of_ble_eq_true rfl) (jj_bare0 rfl) ?_
    refine ro_echelon (loa := lob) (m := m) (n := n) (s := s) (S := S) (E := T + m * n * S) (A := zq Bz) (J := (fun A' rk g => ∃ x, GI (zq Bz) (fun _ => (1 : Rat)) A' m n rk x g)) hG (hO3.ff hF111) hC111 hS111 hX2 (by omega) (h1.congr (Nat.le_refl _) ho20) hT3 hb3_ (fun i hi j hj => by rw [hB i hi j hj]; rfl) (by omega) (by omega) (by omega) (EJ.ofESZ hs2 (fun i _ => by decide)) ⟨fun i => i, GI_start (fun i _ j _ => by grind)⟩ hs hs3 rfl (by omega) (by omega) (fun M5 vv D5 T5 V5 P5 up5 low5 rk5 g5 A5 q5 X5 Z5 v5 rc5 rs5 hC5 hS5 hX5 t5 u5 ho5 hv5 hl5 hF5 hm5 hA5 hg5 hI5 hr5 hs5 hP5 hp5 => ?_)
    show jj G kRO_hermite (d + 13) Q rc5 rs5 106 [some (.ref o), some (.int (nI (b))), some (.int (nI (T))), some (.int (nI (t))), some (.int (nI (rk2))), some (.int (nI (rk2))), none, none, none, none, none, none, none, none, none, none] [.int (nI (t))] M5
    have hcap5 := hX5.cap
    obtain ⟨x5, hI5⟩ := hI5
    obtain ⟨hreq, hdne⟩ := rank_turn hI2 hg2 hs2_ hI5 hg5 hs5 rowsIn_cut
    have hrk5 := hg5.1
    have hrn5 := gjinv_le hg5
    have hG5x := (hG3x.trans (OF.ofFF hO3 hF111))
    obtain ⟨t5x, ht5x⟩ : ∃ t5x, t + 2 + 2 * (m * n) = t5x := ⟨_, rfl⟩
    rw [ht5x] at hC5 hl5 hm5 K
    have hO5 := (hO3.ff hF111).ff hF5
    have hG6 := hG5x.trans (OF.ofFF (hO3.ff hF111) hF5)
    have hp5' : ∀ i, i < rk2 → P5.getD i 0 = nI (g5 i) := fun i hi => hp5 i (by omega)
    obtain ⟨hW113, hB113, hTD113, hz113, hp113⟩ := id hS5
    obtain ⟨dd113, hw113, hd113⟩ := id hW113
    have hcap113 := hB113.cap
    refine jj_istore (pc := 106) kRO_hermite_d106 (Nat.le_of_ble_eq_true rfl) ?_
    refine jn_iconst (pc := 108) 0 kRO_hermite_d108 (by decide) ?_
    refine jj_istore (pc := 109) kRO_hermite_d109 (Nat.le_of_ble_eq_true rfl) ?_
    show jj G kRO_hermite (d + 13) Q rc5 rs5 111 [some (.ref o), some (.int (nI (b))), some (.int (nI (T))), some (.int (nI (t))), some (.int (nI (rk2))), some (.int (nI (t))), some (.int (nI (0))), none, none, none, none, none, none, none, none, none] [] M5
    show jj G kRO_hermite (d + 13) Q rc5 rs5 111 [some (.ref o), some (.int (nI (b))), some (.int (nI (T))), some (.int (nI (t))), some (.int (nI (rk2))), some (.int (nI (t))), some (.int (nI (0))), none, none, none, none, none, none, none, none, none] [] M5
    refine ro_columnsAt (g := g5) hG hO5 hC5 hS5 (by omega) hCA (by omega) hp5' (fun M6 CA6 hO6 hC6 hS6 hG7 hl6 hg6 => ?_)
    have hG8 := hG6.trans hG7
    show jj G kRO_hermite (d + 13) Q rc5 rs5 141 [some (.ref o), some (.int (nI (b))), some (.int (nI (T))), some (.int (nI (t))), some (.int (nI (rk2))), some (.int (nI (t))), some (.int (nI (rk2))), none, none, none, none, none, none, none, none, none] [] M6
    refine jj_aload_n (pc := 141) kRO_hermite_d141 rfl ?_
    refine jj_getf (pc := 142) kRO_hermite_d142 (kfRO_f hG) hO6.1 rfl ?_
    refine jj_iload_n (pc := 145) kRO_hermite_d145 rfl ?_
    refine jj_callV (pc := 146) (b := f) (As := [.int (nI (b))]) kRO_hermite_d146 (kvRO_RF_columns hG) (kG_cl hG rfl) rfl hC6.1 rfl rfl rfl (Nat.le_of_ble_eq_true rfl) (Nat.le_of_ble_eq_true rfl) (jj_bare0 rfl) ?_
    refine rf_columns hG hC6 (by omega) (by omega) ?_
    show jj G kRO_hermite (d + 13) Q rc5 rs5 149 [some (.ref o), some (.int (nI (b))), some (.int (nI (T))), some (.int (nI (t))), some (.int (nI (rk2))), some (.int (nI (t))), some (.int (nI (rk2))), none, none, none, none, none, none, none, none, none] [.int (V5.getD (b + 1) 0)] M6
    refine jn_top (.int (nI (n))) (by rw [hv5 (b + 1) (by omega), hv20 (b + 1) (by omega), hb3]) ?_
    refine jj_istore (pc := 149) kRO_hermite_d149 (Nat.le_of_ble_eq_true rfl) ?_
    refine jj_aload_n (pc := 151) kRO_hermite_d151 rfl ?_
    refine jj_getf (pc := 152) kRO_hermite_d152 (kfRO_f hG) hO6.1 rfl ?_
    refine jj_iload_n (pc := 155) kRO_hermite_d155 rfl ?_
    refine jj_callV (pc := 156) (b := f) (As := [.int (nI (b))]) kRO_hermite_d156 (kvRO_RF_rows hG) (kG_cl hG rfl) rfl hC6.1 rfl rfl rfl (Nat.le_of_ble_eq_true rfl) (Nat.le_of_ble_eq_true rfl) (jj_bare0 rfl) ?_
    refine rf_rows hG hC6 (by omega) (by omega) ?_
    show jj G kRO_hermite (d + 13) Q rc5 rs5 159 [some (.ref o), some (.int (nI (b))), some (.int (nI (T))), some (.int (nI (t))), some (.int (nI (rk2))), some (.int (nI (t))), some (.int (nI (n))), none, none, none, none, none, none, none, none, none] [.int (V5.getD b 0)] M6
    refine jn_top (.int (nI (m))) (by rw [hv5 b (by omega), hv20 b (by omega), hb2]) ?_
    refine jj_istore (pc := 159) kRO_hermite_d159 (Nat.le_of_ble_eq_true rfl) ?_
    show jj G kRO_hermite (d + 13) Q rc5 rs5 161 [some (.ref o), some (.int (nI (b))), some (.int (nI (T))), some (.int (nI (t))), some (.int (nI (rk2))), some (.int (nI (t))), some (.int (nI (n))), some (.int (nI (m))), none, none, none, none, none, none, none, none] [] M6
    exact K rk2 g2 g5 x5 A5 q5 M6 vv D5 T5 V5 P5 up5 low5 _ CA6 RA3 X5 Z5 v5 rc5 rs5 _ _ _ _ _ _ _ _ (by omega) (by omega) (by omega) (by rw [hreq]; exact hdne) (by rw [hreq]; exact hg5) (by rw [hreq]; exact hI5) hr5 hs5 hA5 (fun i hi => ⟨hg3 i hi, hg2.2.1 i hi⟩) (fun i hi => ⟨hg6 i hi, hg5.2.1 i (by omega)⟩) hl3 hl6 (by omega) hO6 hC6 hS6 hX5 t5 u5 (fun i hi => by rw [ho5 i hi, ho20 i hi]) (fun i hi => by rw [hv5 i hi, hv20 i hi]) hl5 hG8 hm5
  · skip
    clear K
    have hz : ∀ i, i < m → ∀ j, j < n → Bz i j = 0 := fun i hi j hj => by
      obtain ⟨cc, hcc⟩ := rowsIn_cut hs2_ hg2.1 (fun i a b j hj => hg2.2.2.2.2.2.2 i a b j hj) j hj
      have h9 := hcc i hi
      rw [show rk2 = 0 by omega] at h9
      exact Rat.intCast_inj.mp (h9.trans (show (0 : Rat) = ((0 : Int) : Rat) from rfl))
    have hb3_ : MX D2 T V2 t b m n lob qb := hb.congr (Nat.le_refl _) ho20 (Nat.le_refl _) hv20 (Nat.le_refl _)
    refine jj_aload_n (pc := 92) kRO_hermite_d92 rfl ?_
    refine jj_getf (pc := 93) kRO_hermite_d93 (kfRO_f hG) (hO3.ff hF111).1 rfl ?_
    refine jj_iload_n (pc := 96) kRO_hermite_d96 rfl ?_
    refine jj_callV (pc := 97) (b := f) (As := [.int (nI (b))]) kRO_hermite_d97 (kvRO_RF_copy hG) (kG_cl hG rfl) rfl hC111.1 rfl rfl rfl (Nat.le_of_ble_eq_true rfl) (Nat.le_of_ble_eq_true rfl) (jj_bare0 rfl) ?_
    refine rf_copy (lo := lob) (s := s) (S := 2 * s + 2) hG hC111 hS111 hX2 (by omega) (h1.congr (Nat.le_refl _) ho20) hT3 hb3_ (by omega) (by omega) rfl hq (by omega) (by omega) (fun M5 vv D5 T5 V5 up5 low5 X5 Z5 v5 rc5 rs5 hC5 hS5 hX5 t5 u5 ho5 hv5 hl5 hF5 hm5 => ?_)
    show jj G kRO_hermite (d + 13) Q rc5 rs5 100 [some (.ref o), some (.int (nI (b))), some (.int (nI (T))), some (.int (nI (t))), some (.int (nI (rk2))), some (.int (nI (rk2))), none, none, none, none, none, none, none, none, none, none] [.int (nI (t))] M5
    exact jj_iret (pc := 100) kRO_hermite_d100 rfl (by rfl) (K0 hz M5 vv D5 T5 V5 P2 up5 low5 _ RA3 X5 Z5 v5 rc5 rs5 (by omega) ((hO3.ff hF111).ff hF5) hl3 hC5 hS5 hX5 t5 u5 (fun i hi => by rw [ho5 i hi, ho20 i hi]) (fun i hi => by rw [hv5 i hi, hv20 i hi]) hl5 ((hG3x.trans (OF.ofFF hO3 hF111)).trans (OF.ofFF (hO3.ff hF111) hF5)) hm5)
end RO12
