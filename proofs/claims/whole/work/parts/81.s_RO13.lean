/-! ===== Forms.hermite: from the part of full rank on (printed by wip/gen/ro13.py) ===== -/
theorem part_id {r i j : Nat} (h : j < r) : (0 + (i * r + j) / r) * r + 0 + (i * r + j) % r = i * r + j := by
  obtain ⟨e1, e2⟩ := at_div (i := i) h
  rw [e1, e2, Nat.zero_add, Nat.add_zero]
theorem ZB.ofzle {s b : Nat} {q : Rat} (h : zle b q) (hb : b < 32768 ^ s) : ∃ z : Int, q = z ∧ ZB s z := by
  obtain ⟨z, e, l⟩ := h
  exact ⟨z, e, ZB.of_le l hb⟩
section RO13
variable {G : jg} {d : Nat} {Q : jq} {rc rs : Nat} {M : mheap} {o f w vv pv ca ra : Nat} {v2 : Value} {D V P CA RA : List Int32} {t : Nat} {up low rk fi se : Int32}
theorem ro_herm_three {b nu he m n r R t1x t4x pt dp fr ii T5 s sd e cm cv X5 Z5 X' Z' rc5 rs5 : Nat} {p13 p14 p15 : Option Value} {M5 : mheap} {D5 V5 : List Int32} {up5 low5 fi5 se5 : Int32} {v5 : Value} {q2 : Nat → Rat} {Bz Y : imat} {A2 : qmat} {g2 x2 : Nat → Nat} (hG : kG G) (hO5 : OC M5 o f w ca ra CA RA fi5 se5) (hC5 : FC M5 f w vv pv V5 t4x up5 low5 P rk) (hS5 : RS M5 w D5 T5 v5 cm X5 Z5 rc5 rs5) (hX5 : FXB cv V5 X5 Z5 X' Z') (hl5 : t4x ≤ V5.length) (h1n : RI D5 nu 1 1) (hnu : 3 ≤ nu) (hnT : nu ≤ T5) (hz5 : MZ D5 T5 V5 t4x t1x R r Y) (hmE : MX D5 T5 V5 t4x he m n 0 q2) (het : he + 2 + 2 * (m * n) ≤ t1x) (hR : R = m + r) (hm : m < 32) (hn : n < 32) (hr0 : 0 < r) (hrm : r ≤ m) (hrn : r ≤ n) (hA2 : ∀ i, i < m → ∀ j, j < n → A2 i j = q2 (i * n + j)) (hg : gjinv A2 m n r g2) (hI : GI (zq Bz) (fun _ => (1 : Rat)) A2 m n r x2 g2) (hAr : rowsIn (zq Bz) m A2 m n) (hgc : ∀ i, i < r → g2 i < n) (hs2 : ESZ (zq Bz) (fun _ => (1 : Rat)) m n s) (hs5 : ∀ x y : Nat → Nat, (∀ i, i < r → x i < m) → (∀ i, i < r → y i < n) → ∀ z : Int, det r (fun a b => zq Bz (x a) (y b)) = (z : Rat) → z.natAbs + 1 ≤ 32768 ^ sd) (hsd : sd ≤ s) (hs6 : 3 * s + 1 ≤ 3000) (he2 : e = s + 1) (hsp : 2 ≤ s) (hY1 : hermF Y r r (fun i => i)) (hY2 : rowsZ Y r (fun i k => Bz i (g2 k)) m r) (hY3 : rowsZ (fun i k => Bz i (g2 k)) m Y r r) (hY4 : ∀ a k, a < r → k < r → (Y a k).natAbs + 1 ≤ 32768 ^ sd) (hY5 : ∀ a k, r ≤ a → a < R → k < r → Y a k = 0) (hcv : t4x + 40 + 10 * (m * n) ≤ cv) (hT2 : T5 + m * n * (2 * s + 2) + m * n * (2 * s + 2) + m * n * (2 * e + 2) + m * n * (2 * e + 2) + 42000 + 200 * s + 1000 ≤ cm)
    (K : ∀ H M' vv' D' T' V' up' low' X1 Z1 v2' rc' rs', hermF H n r g2 → rowsZ H r Bz m n → rowsZ Bz m H r n → (∀ i j, i < r → j < n → ZB e (H i j)) → FF M5 M' f → FC M' f w vv' pv V' (he + 2 + 2 * (m * n)) up' low' P rk → RS M' w D' T' v2' cm X1 Z1 rc' rs' → FXB cv V' X1 Z1 X' Z' → nu ≤ T' → T' ≤ nu + m * n * (2 * e + 2) → (∀ i, i < nu → D'.getD i 0 = D5.getD i 0) → (∀ i, i < he → V'.getD i 0 = V5.getD i 0) → he + 2 + 2 * (m * n) ≤ V'.length → MX D' T' V' (he + 2 + 2 * (m * n)) he m n nu (fun k => if k < r * n then ((H (k / n) (k % n) : Int) : Rat) else 0) → Q (.returned (some (.int (nI he)))) M' rc' rs') : jj G kRO_hermite (d + 13) Q rc5 rs5 401 [some (.ref o), some (.int (nI (b))), some (.int (nI (nu))), some (.int (nI (he))), some (.int (nI (r))), some (.int (nI (he))), some (.int (nI (n))), some (.int (nI (m))), some (.int (nI (pt))), some (.int (nI (dp))), some (.int (nI (fr))), some (.int (nI (t1x))), some (.int (nI (ii))), (p13), (p14), (p15)] [] M5 := by
  have hcap5 := hX5.cap
  have hcap5D := hS5.2.1.cap
  have h15 : RI D5 T5 1 1 := h1n.congr hnT (fun _ _ => rfl)
  obtain ⟨mn, hmn⟩ : ∃ mn, m * n = mn := ⟨_, rfl⟩
  have hmn_ : mn < 32 * 1024 := by rw [← hmn]; exact Nat.mul_lt_mul_of_lt_of_le hm (by omega) (by decide)
  have hrr : r * r ≤ mn := by rw [← hmn]; exact Nat.mul_le_mul hrm hrn
  have hrn' : r * n ≤ mn := by rw [← hmn]; exact Nat.mul_le_mul_right _ hrm
  have hRr : R * r ≤ 64 * 64 := Nat.mul_le_mul (by omega) (by omega)
  obtain ⟨C2, hC2_⟩ : ∃ C2, 2 * s + 2 = C2 := ⟨_, rfl⟩
  obtain ⟨q1, hq1⟩ : ∃ q1, mn * C2 = q1 := ⟨_, rfl⟩
  obtain ⟨q5, hq5⟩ : ∃ q5, mn * (2 * e + 2) = q5 := ⟨_, rfl⟩
  have c1 : r * r * C2 ≤ q1 := by rw [← hq1]; exact Nat.mul_le_mul_right _ hrr
  have c4 : r * n * C2 ≤ q1 := by rw [← hq1]; exact Nat.mul_le_mul_right _ hrn'
  have c5 : r * n * (2 * e + 2) ≤ q5 := by rw [← hq5]; exact Nat.mul_le_mul_right _ hrn'
  have c9 : q1 ≤ q5 := by rw [← hq1, ← hq5]; exact Nat.mul_le_mul_left _ (by omega)
  rw [hmn, hC2_, hq1, hq5] at hT2
  have hz51 := hz5.1
  have hmY := hz5.toMX h15
  have hps : 32768 ^ sd ≤ 32768 ^ s := Nat.pow_le_pow_right (by decide) hsd
  have bY : ∀ i k, i < r → k < r → ZB s (Y i k) := fun i k hi hk => ZB.of_le (b := (Y i k).natAbs) (Nat.le_refl _) (by have := hY4 i k hi hk; omega)
  refine jj_aload_n (pc := 401) kRO_hermite_d401 rfl ?_
  refine jj_getf (pc := 402) kRO_hermite_d402 (kfRO_f hG) hO5.1 rfl ?_
  refine jj_aload_n (pc := 405) kRO_hermite_d405 rfl ?_
  refine jj_getf (pc := 406) kRO_hermite_d406 (kfRO_f hG) hO5.1 rfl ?_
  refine jj_iload (pc := 409) kRO_hermite_d409 rfl ?_
  refine jn_iconst (pc := 411) 0 kRO_hermite_d411 (by decide) ?_
  refine jn_iconst (pc := 412) 0 kRO_hermite_d412 (by decide) ?_
  refine jj_iload (pc := 413) kRO_hermite_d413 rfl ?_
  refine jj_iload (pc := 415) kRO_hermite_d415 rfl ?_
  have bR : ∀ k, k < R * r → ZB s (((Y (k / r) (k % r) : Int) : Rat)).num ∧ ZB s (((((Y (k / r) (k % r) : Int) : Rat)).den : Nat) : Int) := fun k hk => by
    obtain ⟨k1, k2, k3⟩ := at_back hk
    refine ⟨?_, ZB.of_le (show ((((Y (k / r) (k % r) : Int) : Rat).den : Nat) : Int).natAbs ≤ 1 from Nat.le_refl _) (one_lt_ZB hsp)⟩
    show ZB s (Y (k / r) (k % r))
    by_cases c : k / r < r
    · exact bY _ _ c k2
    · rw [hY5 _ _ (by omega) k1 k2]
      exact ZB.of_le (show (0 : Int).natAbs ≤ 0 from Nat.le_refl _) (Nat.pow_pos (by decide))
  have bE : ∀ k, k < m * n → ZB s (q2 k).num ∧ ZB s ((q2 k).den : Int) := fun k hk => by
    obtain ⟨k1, k2, k3⟩ := at_back hk
    have := (hs2 _ _ _ _ _ hI hg (Nat.le_refl _)).1 _ _ k1 k2
    rw [hA2 _ k1 _ k2, k3] at this
    exact this
  refine jj_callV (pc := 417) (b := f) (As := [.int (nI (t1x)), .int (nI (0)), .int (nI (0)), .int (nI (r)), .int (nI (r))]) kRO_hermite_d417 (kvRO_RF_part hG) (kG_cl hG rfl) rfl hC5.1 rfl rfl rfl (Nat.le_of_ble_eq_true rfl) (Nat.le_of_ble_eq_true rfl) (jj_bare0 rfl) ?_
  refine rf_part (row := 0) (col := 0) (rows := r) (cols := r) (r := R) (c := r) (lob := 0) (s := s) (S := 2 * s + 2) hG hC5 hS5 hX5 hl5 h15 (by omega) hmY (by omega) (by omega) bR (by omega) (by omega) rfl (by omega) (by rw [hC2_]; omega) (fun M6 vv D6 T6 V6 up6 low6 X6 Z6 v6 rc6 rs6 hC6 hS6 hX6 t6 u6 ho6 hv6 hl6 hF6 hm6 => ?_)
  show jj G kRO_hermite (d + 13) Q rc6 rs6 420 [some (.ref o), some (.int (nI (b))), some (.int (nI (nu))), some (.int (nI (he))), some (.int (nI (r))), some (.int (nI (he))), some (.int (nI (n))), some (.int (nI (m))), some (.int (nI (pt))), some (.int (nI (dp))), some (.int (nI (fr))), some (.int (nI (t1x))), some (.int (nI (ii))), (p13), (p14), (p15)] [.int (nI (t4x)), .ref f] M6
  have hcap6 := hX6.cap
  rw [hC2_] at u6
  obtain ⟨t6x, ht6x⟩ : ∃ t6x, t4x + 2 + 2 * (r * r) = t6x := ⟨_, rfl⟩
  rw [ht6x] at hC6 hl6 hm6
  have hmE6 : MX D6 T6 V6 t6x he m n 0 q2 := hmE.congr t6 ho6 (by omega) hv6 (Nat.le_refl _)
  refine jj_aload_n (pc := 420) kRO_hermite_d420 rfl ?_
  refine jj_getf (pc := 421) kRO_hermite_d421 (kfRO_f hG) (hO5.ff hF6).1 rfl ?_
  refine jj_iload (pc := 424) kRO_hermite_d424 rfl ?_
  refine jn_iconst (pc := 426) 0 kRO_hermite_d426 (by decide) ?_
  refine jn_iconst (pc := 427) 0 kRO_hermite_d427 (by decide) ?_
  refine jj_iload (pc := 428) kRO_hermite_d428 rfl ?_
  refine jj_iload (pc := 430) kRO_hermite_d430 rfl ?_
  refine jj_callV (pc := 432) (b := f) (As := [.int (nI (he)), .int (nI (0)), .int (nI (0)), .int (nI (r)), .int (nI (n))]) kRO_hermite_d432 (kvRO_RF_part hG) (kG_cl hG rfl) rfl hC6.1 rfl rfl rfl (Nat.le_of_ble_eq_true rfl) (Nat.le_of_ble_eq_true rfl) (jj_bare0 rfl) ?_
  refine rf_part (row := 0) (col := 0) (rows := r) (cols := n) (r := m) (c := n) (lob := 0) (s := s) (S := 2 * s + 2) hG hC6 hS6 hX6 hl6 (h15.congr t6 ho6) (by omega) hmE6 (by omega) (by omega) bE (by omega) (by omega) rfl (by omega) (by rw [hC2_]; omega) (fun M7 vv D7 T7 V7 up7 low7 X7 Z7 v7 rc7 rs7 hC7 hS7 hX7 t7 u7 ho7 hv7 hl7 hF7 hm7 => ?_)
  show jj G kRO_hermite (d + 13) Q rc7 rs7 435 [some (.ref o), some (.int (nI (b))), some (.int (nI (nu))), some (.int (nI (he))), some (.int (nI (r))), some (.int (nI (he))), some (.int (nI (n))), some (.int (nI (m))), some (.int (nI (pt))), some (.int (nI (dp))), some (.int (nI (fr))), some (.int (nI (t1x))), some (.int (nI (ii))), (p13), (p14), (p15)] [.int (nI (t6x)), .int (nI (t4x)), .ref f] M7
  have hcap7 := hX7.cap
  have hF67 := hF6.trans hF7
  rw [hC2_] at u7
  obtain ⟨t7x, ht7x⟩ : ∃ t7x, t6x + 2 + 2 * (r * n) = t7x := ⟨_, rfl⟩
  rw [ht7x] at hC7 hl7 hm7
  have hm67 := hm6.congr (lo' := T5) t7 ho7 (show t6x ≤ t7x by omega) hv7 (Nat.le_refl _)
  obtain ⟨qP, hqP⟩ : ∃ qP : Nat → Rat, (fun k => ((Y (((0 + k / r) * r + 0 + k % r) / r) (((0 + k / r) * r + 0 + k % r) % r) : Int) : Rat)) = qP := ⟨_, rfl⟩
  obtain ⟨qE, hqE⟩ : ∃ qE : Nat → Rat, (fun k => q2 ((0 + k / n) * n + 0 + k % n)) = qE := ⟨_, rfl⟩
  rw [hqP] at hm67
  rw [hqE] at hm7
  -- the common multiple of the lower parts
  obtain ⟨d0, hd0⟩ := isZ_det (n := r) (M := fun a b => zq Bz (x2 a) (g2 b)) (fun i _ j _ => isZ_zq Bz _ _)
  have hd00 : d0 ≠ 0 := fun e => hI.2.2.2.2 (by rw [hd0, e]; rfl)
  obtain ⟨Bd, hBd⟩ : ∃ Bd, Bd + 1 = 32768 ^ sd := ⟨32768 ^ sd - 1, Nat.sub_add_cancel (Nat.pow_pos (by decide))⟩
  have hx2m : ∀ i, i < r → x2 i < m := fun i hi => hI.2.1 i (by omega)
  have hL0 : 0 < (d0.natAbs : Int) := by omega
  have hLz : ∀ k j, k < r → j < n → zle Bd (A2 k j * ((d0.natAbs : Int) : Rat)) := fun k j hk hj => by
    have hc := hI.top hk hj
    obtain ⟨z, hz⟩ := isZ_det (n := r) (M := fun a b => zq Bz (x2 a) (if b = k then j else g2 b)) (fun i _ j _ => isZ_zq Bz _ _)
    have hzs := hs5 x2 (fun b => if b = k then j else g2 b) hx2m (fun i hi => by split; exact hj; exact hgc i hi) z hz
    rw [hz, hd0] at hc
    rcases (show (d0.natAbs : Int) = d0 ∨ (d0.natAbs : Int) = -d0 by omega) with g | g
    · exact ⟨z, by rw [g, ← hc], by omega⟩
    · exact ⟨-z, by rw [g, Rat.intCast_neg, Rat.intCast_neg, hc]; grind, by omega⟩
  have hLd := hs5 x2 g2 hx2m (fun i hi => hgc i hi) d0 hd0
  have hYB : ∀ i k, i < r → k < r → (Y i k).natAbs ≤ Bd := fun i k hi hk => by have := hY4 i k hi hk; omega
  have hpw : r * (Bd * Bd) < 32768 ^ (2 * s + 1) := by
    have p1 : Bd * Bd ≤ 32768 ^ s * 32768 ^ s := Nat.mul_le_mul (by omega) (by omega)
    have p2 : r * (Bd * Bd) ≤ 32 * (32768 ^ s * 32768 ^ s) := Nat.mul_le_mul (by omega) p1
    rw [show 2 * s + 1 = s + s + 1 by omega, Nat.pow_succ, Nat.pow_add]
    have p3 : 0 < 32768 ^ s * 32768 ^ s := Nat.mul_pos (Nat.pow_pos (by decide)) (Nat.pow_pos (by decide))
    omega
  -- the form
  obtain ⟨H, hH1, hH2, hH3, hH4⟩ := herm_build (b := Bz) (T := Y) (gjinv_rref hg) (rowsIn_cut hAr hg.1 (fun i a b j hj => hg.2.2.2.2.2.2 i a b j hj)) hY1 hY2 hY3
  have eP : ∀ i k, k < r → qP (i * r + k) = ((Y i k : Int) : Rat) := fun i k hk => by
    rw [← hqP]
    try dsimp only
    rw [part_id hk, (at_div hk).1, (at_div hk).2]
  have eE : ∀ k j, k < r → j < n → qE (k * n + j) = A2 k j := fun k j hk hj => by
    rw [← hqE]
    try dsimp only
    rw [part_id hj, hA2 k (by omega) j hj]
  have eS : ∀ i j K, j < n → K ≤ r → qsum (fun k => qP (i * r + k) * qE (k * n + j)) K = qsum (fun k => ((Y i k : Int) : Rat) * A2 k j) K := fun i j K hj hK => qsum_congr (fun k hk => by rw [eP i k (by omega), eE k j (by omega) hj])
  clear hqP hqE
  have hYd := herm_le_det hx2m hd0 hd00 hY1 hY3
  have hHz : ∀ i j, i < r → j < n → ZB e (H i j) := fun i j hi hj => by
    obtain ⟨z, hz, hl⟩ := herm_sizes2 hYd hLz hi hj (Nat.le_refl r)
    rw [← hH1 i hi j hj, ← Rat.intCast_mul] at hz
    have hz' := Rat.intCast_inj.mp hz
    have h8 : (H i j * (d0.natAbs : Int)).natAbs = z.natAbs := by rw [hz']
    rw [Int.natAbs_mul, show ((d0.natAbs : Int)).natAbs = d0.natAbs from rfl] at h8
    have h9 : d0.natAbs * (H i j).natAbs ≤ d0.natAbs * (r * Bd) := by
      rw [Nat.mul_comm d0.natAbs (H i j).natAbs, h8, Nat.mul_left_comm]
      exact hl
    have h10 := Nat.le_of_mul_le_mul_left h9 (show 0 < d0.natAbs by omega)
    refine ZB.of_le h10 ?_
    rw [he2, Nat.pow_succ]
    have p2 : r * Bd ≤ 32 * 32768 ^ s := Nat.mul_le_mul (by omega) (by omega)
    have p3 : 0 < 32768 ^ s := Nat.pow_pos (by decide)
    omega
  refine jj_callV (pc := 435) (b := f) (As := [.int (nI (t4x)), .int (nI (t6x))]) kRO_hermite_d435 (kvRO_RF_product hG) (kG_cl hG rfl) rfl hC7.1 rfl rfl rfl (Nat.le_of_ble_eq_true rfl) (Nat.le_of_ble_eq_true rfl) (jj_bare0 rfl) ?_
  refine rf_product (r := r) (n := r) (m := n) (lob := T5) (s := s) (mm := 2 * s + 1) (e := e) (S := 2 * e + 2) (L := (d0.natAbs : Int)) hG hC7 hS7 hX7 hl7 ((h15.congr t6 ho6).congr t7 ho7) (by omega) hm67 (by omega) (by omega) (fun k hk => by
      obtain ⟨k1, k2, k3⟩ := at_back hk
      have h9 := bR k (by have : r * r ≤ R * r := Nat.mul_le_mul_right _ (by omega)
                          omega)
      have h8 := eP (k / r) (k % r) k2
      rw [k3] at h8
      rw [h8]
      exact h9) hm7 (by omega) (fun k hk => by
      obtain ⟨k1, k2, k3⟩ := at_back hk
      have h9 := bE k (by omega)
      have h8 := eE (k / n) (k % n) k1 k2
      rw [k3] at h8
      rw [h8, hA2 _ (by omega) _ k2, k3]
      exact h9) (by omega) (by omega) hL0 (ZB.of_le (b := d0.natAbs) (by omega) (Nat.lt_of_lt_of_le (show d0.natAbs < 32768 ^ sd by omega) (Nat.pow_le_pow_right (by decide) (by omega)))) (fun i j hi hj k hk => by
      have h8 := eP i k hk
      have h9 := eE k j hk hj
      rw [h8, h9]
      obtain ⟨z, hz, -⟩ := hLz k j hk hj
      have := den_dvd hz
      rw [show (((Y i k : Int) : Rat).den : Int) = 1 from rfl, Int.one_mul]
      exact this) (fun i j hi hj k hk => by
      have h8 := eS i j k hj hk
      rw [h8]
      exact ZB.ofzle (herm_sizes hYB hLz hi hj hk) (Nat.lt_of_le_of_lt (Nat.mul_le_mul_right _ hk) hpw)) (fun i j hi hj => by
      have h8 := eS i j r hj (Nat.le_refl _)
      rw [h8, ← hH1 i hi j hj]
      exact ⟨hHz i j hi hj, ZB.of_le (show ((((H i j : Int) : Rat).den : Nat) : Int).natAbs ≤ 1 from Nat.le_refl _) (one_lt_ZB (by omega))⟩) rfl (by omega) (by rw [hC2_]; omega) (fun M8 vv D8 T8 V8 up8 low8 X8 Z8 v8 rc8 rs8 hC8 hS8 hX8 t8 u8 ho8 hv8 hl8 hF8 hm8 => ?_)
  show jj G kRO_hermite (d + 13) Q rc8 rs8 438 [some (.ref o), some (.int (nI (b))), some (.int (nI (nu))), some (.int (nI (he))), some (.int (nI (r))), some (.int (nI (he))), some (.int (nI (n))), some (.int (nI (m))), some (.int (nI (pt))), some (.int (nI (dp))), some (.int (nI (fr))), some (.int (nI (t1x))), some (.int (nI (ii))), (p13), (p14), (p15)] [.int (nI (t7x))] M8
  have hcap8 := hX8.cap
  have hF68 := hF67.trans hF8
  obtain ⟨t8x, ht8x⟩ : ∃ t8x, t7x + 2 + 2 * (r * n) = t8x := ⟨_, rfl⟩
  rw [ht8x] at hC8 hl8 hm8
  obtain ⟨qH, hqH_⟩ : ∃ qH : Nat → Rat, (fun k => qsum (fun x => qP (k / n * r + x) * qE (x * n + k % n)) r) = qH := ⟨_, rfl⟩
  rw [hqH_] at hm8
  have hqH : ∀ k, k < r * n → qH k = ((H (k / n) (k % n) : Int) : Rat) := fun k hk => by
    obtain ⟨k1, k2, k3⟩ := at_back hk
    have h8 := eS (k / n) (k % n) r k2 (Nat.le_refl _)
    rw [hH1 _ k1 _ k2, ← h8, ← hqH_]
  have ho80 : ∀ i, i < nu → D8.getD i 0 = D5.getD i 0 := fun i hi => by rw [ho8 i (by omega), ho7 i (by omega), ho6 i (by omega)]
  have hv80 : ∀ i, i < he → V8.getD i 0 = V5.getD i 0 := fun i hi => by rw [hv8 i (by omega), hv7 i (by omega), hv6 i (by omega)]
  have h18 : RI D8 T8 1 1 := h1n.congr (by omega) ho80
  refine jj_istore (pc := 438) kRO_hermite_d438 (Nat.le_of_ble_eq_true rfl) ?_
  show jj G kRO_hermite (d + 13) Q rc8 rs8 440 [some (.ref o), some (.int (nI (b))), some (.int (nI (nu))), some (.int (nI (he))), some (.int (nI (r))), some (.int (nI (he))), some (.int (nI (n))), some (.int (nI (m))), some (.int (nI (pt))), some (.int (nI (dp))), some (.int (nI (fr))), some (.int (nI (t1x))), some (.int (nI (t7x))), (p13), (p14), (p15)] [] M8
  refine ro_herm_fill (r := r) (m := m) (n := n) (lof := T7) (s := e) (S := 2 * e + 2) hG (hO5.ff hF68) hC8 hS8 hX8 hl8 h18 (by omega) hm8 (fun k hk => by
      have h9 := hqH k hk
      rw [h9]
      obtain ⟨k1, k2, k3⟩ := at_back hk
      exact ⟨hHz _ _ k1 k2, ZB.of_le (show ((((H (k / n) (k % n) : Int) : Rat).den : Nat) : Int).natAbs ≤ 1 from Nat.le_refl _) (one_lt_ZB (by omega))⟩) (by omega) (by omega) hrm rfl (by omega) (by rw [hmn, hq5]; omega) (fun M9 vv D9 T9 V9 up9 low9 X9 Z9 v9 rc9 rs9 hC9 hS9 hX9 t9 u9 ho9 hv9 hl9 hF9 hm9 => ?_)
  have hcap9 := hX9.cap
  rw [hmn, hq5] at u9
  obtain ⟨t9x, ht9x⟩ : ∃ t9x, t8x + 2 + 2 * (m * n) = t9x := ⟨_, rfl⟩
  rw [ht9x] at hC9 hl9 hm9
  show jj G kRO_hermite (d + 13) Q rc9 rs9 518 [some (.ref o), some (.int (nI (b))), some (.int (nI (nu))), some (.int (nI (he))), some (.int (nI (r))), some (.int (nI (he))), some (.int (nI (n))), some (.int (nI (m))), some (.int (nI (pt))), some (.int (nI (dp))), some (.int (nI (fr))), some (.int (nI (t1x))), some (.int (nI (t7x))), some (.int (nI (T8))), some (.int (nI (t8x))), some (.int (nI (m * n)))] [] M9
  have hF69 := hF68.trans hF9
  refine jj_aload_n (pc := 518) kRO_hermite_d518 rfl ?_
  refine jj_getf (pc := 519) kRO_hermite_d519 (kfRO_f hG) (hO5.ff hF69).1 rfl ?_
  refine jj_iload_n (pc := 522) kRO_hermite_d522 rfl ?_
  refine jj_iload_n (pc := 523) kRO_hermite_d523 rfl ?_
  refine jj_iload (pc := 524) kRO_hermite_d524 rfl ?_
  refine jj_iload (pc := 526) kRO_hermite_d526 rfl ?_
  refine jj_callV (pc := 528) (b := f) (As := [.int (nI (nu)), .int (nI (he)), .int (nI (T8)), .int (nI (t8x))]) kRO_hermite_d528 (kvRO_RF_slide hG) (kG_cl hG rfl) rfl hC9.1 rfl rfl rfl (Nat.le_of_ble_eq_true rfl) (Nat.le_of_ble_eq_true rfl) (jj_bare0 rfl) ?_
  refine rf_slide (nu := nu) (he := he) (fr := T8) (a := t8x) hG hC9 hS9 (by omega) (by omega) hm9 (h1n.congr (Nat.le_refl _) (fun i hi => by rw [ho9 i (by omega), ho80 i hi])) hnu (by omega) t9 (by omega) (by omega) (by omega) (by omega) (fun MA DA TA VA hCA' hSA tA hoA hlA hvA hFA hmA => ?_)
  show jj G kRO_hermite (d + 13) Q rc9 rs9 531 [some (.ref o), some (.int (nI (b))), some (.int (nI (nu))), some (.int (nI (he))), some (.int (nI (r))), some (.int (nI (he))), some (.int (nI (n))), some (.int (nI (m))), some (.int (nI (pt))), some (.int (nI (dp))), some (.int (nI (fr))), some (.int (nI (t1x))), some (.int (nI (t7x))), some (.int (nI (T8))), some (.int (nI (t8x))), some (.int (nI (m * n)))] [.int (nI (he))] MA
  have hcong : (fun k => if k < r * n then qH k else 0) = (fun k => if k < r * n then ((H (k / n) (k % n) : Int) : Rat) else 0) := funext (fun k => by
    by_cases c : k < r * n
    · rw [if_pos c, if_pos c]; exact hqH k c
    · rw [if_neg c, if_neg c])
  have hmA' : MX DA TA VA (he + 2 + 2 * (m * n)) he m n nu (fun k => if k < r * n then ((H (k / n) (k % n) : Int) : Rat) else 0) := by rw [← hcong]; exact hmA
  exact jj_iret (pc := 531) kRO_hermite_d531 rfl (by rfl) (K H MA vv DA TA VA _ _ X9 Z9 _ rc9 rs9 hH2 hH3 hH4 hHz (hF69.trans hFA) hCA' hSA (hX9.same hlA) (by omega) (by rw [hmn, hq5]; omega) (fun i hi => by rw [hoA i hi, ho9 i (by omega), ho80 i hi]) (fun i hi => by rw [hvA i hi, hv9 i (by omega), hv80 i hi]) (by omega) hmA')
theorem ro_herm_two {b nu he m n r lob T s sd e S LIM NS cm cv X Z X' Z' : Nat} {p8 p9 p10 p11 p12 p13 p14 p15 : Option Value} {qb q2 : Nat → Rat} {Bz : imat} {A2 : qmat} {g1 g2 x2 : Nat → Nat} (hG : kG G) (hO : OC M o f w ca ra CA RA fi se) (hC : FC M f w vv pv V t up low P rk) (hS : RS M w D T v2 cm X Z rc rs) (hX : FXB cv V X Z X' Z') (htV : t ≤ V.length) (h1n : RI D nu 1 1) (hnu : 3 ≤ nu) (hnT : nu ≤ T) (hte : t = he + 2 + 2 * (m * n)) (hb : MX D T V t b m n lob qb) (hbh : b + 2 + 2 * (m * n) ≤ he) (hB : ∀ i, i < m → ∀ j, j < n → qb (i * n + j) = ((Bz i j : Int) : Rat)) (hme : MX D T V t he m n 0 q2) (hA2 : ∀ i, i < m → ∀ j, j < n → A2 i j = q2 (i * n + j)) (hm : m < 32) (hn : n < 32) (hr0 : 0 < r) (hrm : r ≤ m) (hrn : r ≤ n) (hdne : det r (fun a b => zq Bz (g1 a) (g2 b)) ≠ 0) (hg : gjinv A2 m n r g2) (hI : GI (zq Bz) (fun _ => (1 : Rat)) A2 m n r x2 g2) (hrA : rowsIn A2 m (zq Bz) m n) (hAr : rowsIn (zq Bz) m A2 m n) (hgr : ∀ i, i < r → RA.getD i 0 = nI (g1 i) ∧ g1 i < m) (hgc : ∀ i, i < r → CA.getD i 0 = nI (g2 i) ∧ g2 i < n) (hRA : RA.length = 64) (hCA : CA.length = 64) (hs2 : ESZ (zq Bz) (fun _ => (1 : Rat)) m n s) (hs3 : ESZ (fun i j => zq Bz (g1 i) (g2 j)) (fun _ => (1 : Rat)) r r s) (hs4 : ∀ B E c x g u ω z, DI (fun i j => zq Bz (g1 i) (g2 j)) (fun i j => zq Bz (g1 i) (g2 j)) (fun _ => (1 : Rat)) 1 B E r c x g u ω z → c ≤ r → ZB s u.num ∧ ZB s (u.den : Int)) (hs5 : ∀ x y : Nat → Nat, (∀ i, i < r → x i < m) → (∀ i, i < r → y i < n) → ∀ z : Int, det r (fun a b => zq Bz (x a) (y b)) = (z : Rat) → z.natAbs + 1 ≤ 32768 ^ sd) (hsd : sd ≤ s) (hs : S = 4 * s + 4) (hs6 : 3 * s + 1 ≤ 3000) (he2 : e = s + 1) (hsp : 2 ≤ s) (hL1 : 100000 ≤ LIM) (hL2 : 2 * (m * n) * (2 * s + 2) ≤ LIM) (hNS : nsum (thG r sd) r ≤ NS) (hcv : t + 60 + 16 * (m * n) ≤ cv) (hT : T + m * n * (2 * s + 2) + m * n * S + m * n * S + LIM + 33000 + 300 * s + m * (18 * s + 40) + 2 * (m * n) * (2 * s + 2) + 3000 ≤ cm) (hT2 : T + m * n * (2 * s + 2) + LIM + NS + m * n * (2 * s + 2) + m * n * (2 * s + 2) + m * n * (2 * e + 2) + m * n * (2 * e + 2) + 42000 + 200 * s + 8 * (s * 33) + 2000 ≤ cm)
    (K : ∀ H M' vv' D' T' V' up' low' fi' se' X1 Z1 v2' rc' rs', hermF H n r g2 → rowsZ H r Bz m n → rowsZ Bz m H r n → (∀ i j, i < r → j < n → ZB e (H i j)) → OC M' o f w ca ra CA RA fi' se' → FC M' f w vv' pv V' (he + 2 + 2 * (m * n)) up' low' P rk → RS M' w D' T' v2' cm X1 Z1 rc' rs' → FXB cv V' X1 Z1 X' Z' → nu ≤ T' → T' ≤ nu + m * n * (2 * e + 2) → (∀ i, i < nu → D'.getD i 0 = D.getD i 0) → (∀ i, i < he → V'.getD i 0 = V.getD i 0) → he + 2 + 2 * (m * n) ≤ V'.length → OF M M' o → MX D' T' V' (he + 2 + 2 * (m * n)) he m n nu (fun k => if k < r * n then ((H (k / n) (k % n) : Int) : Rat) else 0) → Q (.returned (some (.int (nI he)))) M' rc' rs') : jj G kRO_hermite (d + 13) Q rc rs 161 [some (.ref o), some (.int (nI (b))), some (.int (nI (nu))), some (.int (nI (he))), some (.int (nI (r))), some (.int (nI (he))), some (.int (nI (n))), some (.int (nI (m))), (p8), (p9), (p10), (p11), (p12), (p13), (p14), (p15)] [] M := by
  have hcap := hX.cap
  have hcapD := hS.2.1.cap
  have h1 : RI D T 1 1 := h1n.congr hnT (fun _ _ => rfl)
  obtain ⟨hb1, hb2, hb3, hb4⟩ := id hb
  obtain ⟨mn, hmn⟩ : ∃ mn, m * n = mn := ⟨_, rfl⟩
  have hmn_ : mn < 32 * 1024 := by rw [← hmn]; exact Nat.mul_lt_mul_of_lt_of_le hm (by omega) (by decide)
  have hrr : r * r ≤ mn := by rw [← hmn]; exact Nat.mul_le_mul hrm hrn
  have hrn' : r * n ≤ mn := by rw [← hmn]; exact Nat.mul_le_mul_right _ hrm
  have hmr : m * r ≤ mn := by rw [← hmn]; exact Nat.mul_le_mul_left _ hrn
  have hRr : (m + r) * r ≤ 2 * mn := by rw [Nat.add_mul]; omega
  obtain ⟨R, hR⟩ : ∃ R, R = m + r := ⟨_, rfl⟩
  rw [← hR] at hRr
  obtain ⟨C2, hC2_⟩ : ∃ C2, 2 * s + 2 = C2 := ⟨_, rfl⟩
  obtain ⟨q1, hq1⟩ : ∃ q1, mn * C2 = q1 := ⟨_, rfl⟩
  obtain ⟨q3, hq3⟩ : ∃ q3, mn * S = q3 := ⟨_, rfl⟩
  obtain ⟨q5, hq5⟩ : ∃ q5, mn * (2 * e + 2) = q5 := ⟨_, rfl⟩
  have c1 : r * r * C2 ≤ q1 := by rw [← hq1]; exact Nat.mul_le_mul_right _ hrr
  have c2 : r * r * S ≤ q3 := by rw [← hq3]; exact Nat.mul_le_mul_right _ hrr
  have c3 : R * r * C2 ≤ 2 * q1 := by rw [← hq1, ← Nat.mul_assoc]; exact Nat.mul_le_mul_right _ hRr
  have c4 : r * n * C2 ≤ q1 := by rw [← hq1]; exact Nat.mul_le_mul_right _ hrn'
  have c5 : r * n * (2 * e + 2) ≤ q5 := by rw [← hq5]; exact Nat.mul_le_mul_right _ hrn'
  have c6 : 2 * mn * C2 = 2 * q1 := by rw [← hq1, Nat.mul_assoc]
  have c9 : q1 ≤ q5 := by rw [← hq1, ← hq5]; exact Nat.mul_le_mul_left _ (by omega)
  have c7 : r * (18 * s + 40) ≤ m * (18 * s + 40) := Nat.mul_le_mul_right _ hrm
  have c8 : sd * (r + 1) ≤ s * 33 := Nat.mul_le_mul hsd (by omega)
  rw [hmn, hC2_, hq1, hq3, c6] at hT
  rw [hmn, hC2_, hq1, hq5] at hT2
  rw [hmn, hC2_, c6] at hL2
  have hqb : ∀ k, k < m * n → ZB s (qb k).num ∧ ZB s ((qb k).den : Int) := fun k hk => by
    obtain ⟨k1, k2, k3⟩ := at_back hk
    have := (hs2 (zq Bz) 0 0 (fun i => i) (fun i => i) (GI_start (fun i _ j _ => by grind)) (gjinv_start _ m _) (by omega)).1 _ _ k1 k2
    rw [show zq Bz (k / n) (k % n) = qb k by rw [← k3, hB _ k1 _ k2, k3]; rfl] at this
    exact this
  -- the determinant
  obtain ⟨dz, hdz⟩ := isZ_det (n := r) (M := (fun i j => zq Bz (g1 i) (g2 j))) (fun i _ j _ => isZ_zq Bz _ _)
  have hdz0 : dz ≠ 0 := fun e => hdne (by rw [hdz, e]; rfl)
  have hdzs := hs5 g1 g2 (fun i hi => (hgr i hi).2) (fun i hi => (hgc i hi).2) dz hdz
  have hps : 32768 ^ sd ≤ 32768 ^ s := Nat.pow_le_pow_right (by decide) hsd
  have bdz : ZB s dz := ZB.of_le (b := dz.natAbs) (Nat.le_refl _) (by omega)
  refine ro_herm_part (lob := lob) (s := s) (S := 2 * s + 2) hG hO hC hS hX htV h1 (by omega) hb hqb (by omega) (by omega) (by omega) hRA hCA hgr hgc rfl (by omega) (by rw [hC2_]; omega) (fun M1 vv D1 T1 V1 up1 low1 X1 Z1 v1 rc1 rs1 hC1 hS1 hX1 t1 u1 ho1 hv1 hl1 hF1 hm1 p10 p11 p12 p13 p14 p15 => ?_)
  have hcap1 := hX1.cap
  rw [hC2_] at u1
  obtain ⟨t1x, ht1x⟩ : ∃ t1x, t + 2 + 2 * (r * r) = t1x := ⟨_, rfl⟩
  rw [ht1x] at hC1 hl1 hm1
  show jj G kRO_hermite (d + 13) Q rc1 rs1 229 [some (.ref o), some (.int (nI (b))), some (.int (nI (nu))), some (.int (nI (he))), some (.int (nI (r))), some (.int (nI (he))), some (.int (nI (n))), some (.int (nI (m))), some (.int (nI (t))), some (.int (nI (r * r))), (p10), (p11), (p12), (p13), (p14), (p15)] [] M1
  refine jj_aload_n (pc := 229) kRO_hermite_d229 rfl ?_
  refine jj_getf (pc := 230) kRO_hermite_d230 (kfRO_f hG) (hO.ff hF1).1 rfl ?_
  refine jj_iload (pc := 233) kRO_hermite_d233 rfl ?_
  refine jj_callV (pc := 235) (b := f) (As := [.int (nI (t))]) kRO_hermite_d235 (kvRO_RF_determinant hG) (kG_cl hG rfl) rfl hC1.1 rfl rfl rfl (Nat.le_of_ble_eq_true rfl) (Nat.le_of_ble_eq_true rfl) (jj_bare0 rfl) ?_
  refine rf_determinant (n := r) (lob := T) (s := s) (e := s) (S := S) (wb := 1) (EE := T1 + r * r * S + 2 * s + 10) (A := (fun i j => zq Bz (g1 i) (g2 j))) (W := (fun i j => zq Bz (g1 i) (g2 j))) (wt := (fun _ => (1 : Rat))) hG hC1 hS1 hX1 hl1 (h1.congr t1 ho1) (by omega) hm1 (fun i hi j hj => by
      obtain ⟨e1, e2⟩ := at_div (i := i) hj
      try dsimp only
      rw [e1, e2, hB _ (hgr i hi).2 _ (hgc j hj).2]
      rfl) (by omega) (by omega) (fun i _ j _ => by grind) (fun i _ => ⟨⟨1, rfl, Nat.le_refl _⟩, by decide⟩) hs hs3 hs4 (Nat.le_refl _) (by omega) (by omega) hsp rfl (by omega) (by omega) (fun M2 vv D2 T2 V2 pd ld X2 Z2 v2_ rc2 rs2 hC2 hS2 hX2 t2 u2 ho2 hv2 hl2 hF2 hq2 gd1 gd2 => ?_)
  show jj G kRO_hermite (d + 13) Q rc2 rs2 238 [some (.ref o), some (.int (nI (b))), some (.int (nI (nu))), some (.int (nI (he))), some (.int (nI (r))), some (.int (nI (he))), some (.int (nI (n))), some (.int (nI (m))), some (.int (nI (t))), some (.int (nI (r * r))), (p10), (p11), (p12), (p13), (p14), (p15)] [] M2
  have hF12 := hF1.trans hF2
  rw [hdz] at hq2
  have hpd : RI D2 T2 pd dz := hq2.1
  obtain ⟨hW101, hB101, hTD101, hz101, hp101⟩ := id hS2
  obtain ⟨dd101, hw101, hd101⟩ := id hW101
  have hcap101 := hB101.cap
  refine jj_aload_n (pc := 238) kRO_hermite_d238 rfl ?_
  refine jj_getf (pc := 239) kRO_hermite_d239 (kfRO_w hG) (hO.ff hF12).1 rfl ?_
  refine jj_aload_n (pc := 242) kRO_hermite_d242 rfl ?_
  refine jj_getf (pc := 243) kRO_hermite_d243 (kfRO_w hG) (hO.ff hF12).1 rfl ?_
  refine jj_aload_n (pc := 246) kRO_hermite_d246 rfl ?_
  refine jj_getf (pc := 247) kRO_hermite_d247 (kfRO_f hG) (hO.ff hF12).1 rfl ?_
  refine jj_getf (pc := 250) kRO_hermite_d250 (kfRO_RF_up hG) hC2.1 rfl ?_
  refine jj_callV (pc := 253) (b := w) (As := [.int (nI (pd))]) kRO_hermite_d253 (kvRO_RW_copy hG) (kG_cl hG rfl) rfl hw101 rfl rfl rfl (Nat.le_of_ble_eq_true rfl) (Nat.le_of_ble_eq_true rfl) (jj_bare0 rfl) ?_
  refine ri_copy (a := s) hG hS2 hpd bdz (by omega) (fun M102 D102 T102 p102 rc102 rs102 hS102 t102 u102 ho102 hf102 hI102 => ?_)
  show jj G kRO_hermite (d + 13) Q rc102 rs102 256 [some (.ref o), some (.int (nI (b))), some (.int (nI (nu))), some (.int (nI (he))), some (.int (nI (r))), some (.int (nI (he))), some (.int (nI (n))), some (.int (nI (m))), some (.int (nI (t))), some (.int (nI (r * r))), (p10), (p11), (p12), (p13), (p14), (p15)] [.int (nI (p102)), .ref w] M102
  have hC102 := hC2.rf hf102
  have hF102 := hF12.trans (FF.ofRF hC2 hf102)
  have hpd_102 := hpd.congr t102.1 ho102
  obtain ⟨hW103, hB103, hTD103, hz103, hp103⟩ := id hS102
  obtain ⟨dd103, hw103, hd103⟩ := id hW103
  have hcap103 := hB103.cap
  refine jj_callV (pc := 256) (b := w) (As := [.int (nI (p102))]) kRO_hermite_d256 (kvRO_RW_size hG) (kG_cl hG rfl) rfl hw103 rfl rfl rfl (Nat.le_of_ble_eq_true rfl) (Nat.le_of_ble_eq_true rfl) (jj_bare0 rfl) ?_
  refine ri_size (a := s) hG hS102 hI102 bdz (by omega) (fun M104 D104 T104 p104 rc104 rs104 hS104 t104 u104 ho104 hf104 hI104 => ?_)
  show jj G kRO_hermite (d + 13) Q rc104 rs104 259 [some (.ref o), some (.int (nI (b))), some (.int (nI (nu))), some (.int (nI (he))), some (.int (nI (r))), some (.int (nI (he))), some (.int (nI (n))), some (.int (nI (m))), some (.int (nI (t))), some (.int (nI (r * r))), (p10), (p11), (p12), (p13), (p14), (p15)] [.int (nI (p104))] M104
  have hC104 := hC102.rf hf104
  have hF104 := hF102.trans (FF.ofRF hC102 hf104)
  have hpd_104 := hpd_102.congr t104 ho104
  have hI102_104 := hI102.congr t104 ho104
  obtain ⟨hW105, hB105, hTD105, hz105, hp105⟩ := id hS104
  obtain ⟨dd105, hw105, hd105⟩ := id hW105
  have hcap105 := hB105.cap
  refine jj_istore (pc := 259) kRO_hermite_d259 (Nat.le_of_ble_eq_true rfl) ?_
  show jj G kRO_hermite (d + 13) Q rc104 rs104 261 [some (.ref o), some (.int (nI (b))), some (.int (nI (nu))), some (.int (nI (he))), some (.int (nI (r))), some (.int (nI (he))), some (.int (nI (n))), some (.int (nI (m))), some (.int (nI (t))), some (.int (nI (p104))), (p10), (p11), (p12), (p13), (p14), (p15)] [] M104
  have hcap2 := hX2.cap
  have t3 : T ≤ T104 := by omega
  have u3 : T104 ≤ T + q1 + 4 * s + 8 := by omega
  have ho3 : ∀ i, i < T → D104.getD i 0 = D.getD i 0 := fun i hi => by rw [ho104 i (by omega), ho102 i (by omega), ho2 i (by omega), ho1 i hi]
  have hv3 : ∀ i, i < t → V2.getD i 0 = V.getD i 0 := fun i hi => by rw [hv2 i (by omega), hv1 i hi]
  have hb3' : MX D104 T104 V2 t1x b m n lob qb := hb.congr t3 ho3 (by omega) hv3 (Nat.le_refl _)
  have bza : ZB s (dz.natAbs : Int) := bdz.le (by omega)
  refine ro_herm_mat (R := R) (lob := lob) (s := s) (S := 2 * s + 2) hG (hO.ff hF104) hC104 hS104 hX2 hl2 (h1.congr t3 ho3) (by omega) hR hb3' hqb (by omega) (by omega) (by omega) hCA hgc hI104 bza rfl (by omega) (by rw [hC2_]; omega) (fun M4 vv D4 T4 V4 up4 low4 X4 Z4 v4 rc4 rs4 hC4 hS4 hX4 t4 u4 ho4 hv4 hl4 hF4 hm4 p13 p14 p15 => ?_)
  have hcap4 := hX4.cap
  rw [hC2_] at u4
  obtain ⟨t4x, ht4x⟩ : ∃ t4x, t1x + 2 + 2 * (R * r) = t4x := ⟨_, rfl⟩
  rw [ht4x] at hC4 hl4 hm4
  show jj G kRO_hermite (d + 13) Q rc4 rs4 389 [some (.ref o), some (.int (nI (b))), some (.int (nI (nu))), some (.int (nI (he))), some (.int (nI (r))), some (.int (nI (he))), some (.int (nI (n))), some (.int (nI (m))), some (.int (nI (t))), some (.int (nI (p104))), some (.int (nI (T104))), some (.int (nI (t1x))), some (.int (nI (R * r))), (p13), (p14), (p15)] [] M4
  have hF34 := hF104.trans hF4
  obtain ⟨Z0, hZ0⟩ : ∃ Z0 : imat, Z0 = fun i j => if i < m then Bz i (g2 j) else if i - m = j then (dz.natAbs : Int) else 0 := ⟨_, rfl⟩
  have hz4 : MZ D4 T4 V4 t4x t1x R r Z0 := MZ.ofMX hm4 (fun i hi j hj => by
    obtain ⟨e1, e2⟩ := at_div (i := i) hj
    try dsimp only
    rw [e1, e2, hZ0]
    try dsimp only
    by_cases c : i < m
    · rw [if_pos c, if_pos c, hB i c _ (hgc j hj).2]
    · rw [if_neg c, if_neg c]
      split <;> rfl)
  obtain ⟨B, hBB⟩ : ∃ B, B + 1 = 32768 ^ s := ⟨32768 ^ s - 1, Nat.sub_add_cancel (Nat.pow_pos (by decide))⟩
  have hdr : ∀ k, k < r → ∀ j, j < r → Z0 (m + k) j = if j = k then (dz.natAbs : Int) else 0 := fun k hk j hj => by
    rw [hZ0]
    try dsimp only
    rw [if_neg (by omega), show m + k - m = k by omega]
    by_cases c : j = k
    · rw [if_pos c, if_pos c.symm]
    · rw [if_neg c, if_neg (fun e => c e.symm)]
  have hZt : ∀ i, i < m → ∀ j, j < r → Z0 i j = Bz i (g2 j) := fun i hi j hj => by rw [hZ0]; exact if_pos hi
  have hZB : ∀ a b, a < m + r → b < r → (Z0 a b).natAbs ≤ B := fun a b ha hb' => by
    by_cases c : a < m
    · rw [hZt a c b hb']
      have h9 := (hqb (a * n + g2 b) (cell_lt c (hgc b hb').2)).1
      rw [hB a c _ (hgc b hb').2] at h9
      have : (Bz a (g2 b)).natAbs < 32768 ^ s := h9
      omega
    · have h9 := hdr (a - m) (by omega) b hb'
      rw [show m + (a - m) = a by omega] at h9
      rw [h9]
      split <;> omega
  have hdB : ((dz.natAbs : Int)).natAbs ≤ B := by omega
  have ho4' : ∀ i, i < T → D4.getD i 0 = D.getD i 0 := fun i hi => by rw [ho4 i (by omega), ho3 i hi]
  refine jj_aload_n (pc := 389) kRO_hermite_d389 rfl ?_
  refine jj_iload (pc := 390) kRO_hermite_d390 rfl ?_
  refine jj_iload (pc := 392) kRO_hermite_d392 rfl ?_
  refine jj_iload (pc := 394) kRO_hermite_d394 rfl ?_
  refine jj_callV (pc := 396) (b := o) (As := [.int (nI (t1x)), .int (nI (T104)), .int (nI (p104))]) kRO_hermite_d396 (kvRO_RO_triangle hG) (kG_cl hG rfl) rfl (hO.ff hF34).1 rfl rfl rfl (Nat.le_of_ble_eq_true rfl) (Nat.le_of_ble_eq_true rfl) (jj_bare0 rfl) ?_
  refine ro_triangle (m := m) (n := r) (R := R) (sa := s) (sd := sd) (B := B) (LIM := LIM) (Z0 := Z0) hG (hO.ff hF34) hC4 hS4 hX4 ht4x.symm hl4 hR hz4 (by omega) hrm (by omega) (h1.congr t3 (fun i hi => by rw [ho4 i (by omega), ho3 i hi])) (by omega) t4 (hI104.congr (Nat.le_refl _) ho4) (by omega) hdB hdr hZB (by omega) (by omega) (by omega) hL1 (by rw [hC2_]; omega) (by omega) (by omega) (by rw [hC2_]; omega) (by omega) (fun Y M5 vv D5 T5 V5 up5 low5 fi5 se5 X5 Z5 v5 rc5 rs5 hY1 hY2 hY3 hY4 hY5 hO5 hC5 hS5 hX5 t5 u5 ho5 hv5 hl5 hG5 hz5 => ?_)
  show jj G kRO_hermite (d + 13) Q rc5 rs5 399 [some (.ref o), some (.int (nI (b))), some (.int (nI (nu))), some (.int (nI (he))), some (.int (nI (r))), some (.int (nI (he))), some (.int (nI (n))), some (.int (nI (m))), some (.int (nI (t))), some (.int (nI (p104))), some (.int (nI (T104))), some (.int (nI (t1x))), some (.int (nI (R * r))), (p13), (p14), (p15)] [.int (nI (t1x))] M5
  have hG5x := (OF.ofFF hO hF34).trans hG5
  have hcap5 := hX5.cap
  have hcap5D := hS5.2.1.cap
  have ho50 : ∀ i, i < T → D5.getD i 0 = D.getD i 0 := fun i hi => by rw [ho5 i (by omega), ho4' i hi] <;> omega
  have hv50 : ∀ i, i < t → V5.getD i 0 = V.getD i 0 := fun i hi => by rw [hv5 i (by omega), hv4 i (by omega), hv3 i hi]
  have h15 := h1.congr (show T ≤ T5 by omega) ho50
  have hmY := hz5.toMX h15
  have hmE : MX D5 T5 V5 t4x he m n 0 q2 := hme.congr (by omega) ho50 (by omega) hv50 (Nat.le_refl _)
  have bY : ∀ i k, i < r → k < r → ZB s (Y i k) := fun i k hi hk => ZB.of_le (hY4 i k hi hk) (by omega)
  refine jj_istore (pc := 399) kRO_hermite_d399 (Nat.le_of_ble_eq_true rfl) ?_
  show jj G kRO_hermite (d + 13) Q rc5 rs5 401 [some (.ref o), some (.int (nI (b))), some (.int (nI (nu))), some (.int (nI (he))), some (.int (nI (r))), some (.int (nI (he))), some (.int (nI (n))), some (.int (nI (m))), some (.int (nI (t))), some (.int (nI (p104))), some (.int (nI (T104))), some (.int (nI (t1x))), some (.int (nI (R * r))), (p13), (p14), (p15)] [] M5
  exact ro_herm_three (sd := sd) (s := s) (e := e) (Y := Y) (R := R) hG hO5 hC5 hS5 hX5 hl5 (h1n.congr (Nat.le_refl _) (fun i hi => ho50 i (by omega))) hnu (by omega) hz5 hmE (by omega) hR hm hn hr0 hrm hrn hA2 hg hI hAr (fun i hi => (hgc i hi).2) hs2 hs5 hsd hs6 he2 hsp hY1 (rowsZ_trans hY2 (herm_lat (fun i hi => (hgr i hi).2) hdz hZt hdr).1) (rowsZ_trans (herm_lat (fun i hi => (hgr i hi).2) hdz hZt hdr).2 hY3) (fun a k ha hk => by have := hY4 a k ha hk; omega) hY5 (by omega) (by rw [hmn, hC2_, hq1, hq5]; omega) (fun H M6 vv D6 T6 V6 up6 low6 X6 Z6 v6 rc6 rs6 hH1 hH2 hH3 hH4 hF6 hC6 hS6 hX6 t6 u6 ho6 hv6 hl6 hm6 => K H M6 vv D6 T6 V6 up6 low6 fi5 se5 X6 Z6 v6 rc6 rs6 hH1 hH2 hH3 hH4 (hO5.ff hF6) hC6 hS6 hX6 t6 u6 (fun i hi => by rw [ho6 i hi, ho50 i (by omega)]) (fun i hi => by rw [hv6 i hi, hv50 i (by omega)]) hl6 (hG5x.trans (OF.ofFF hO5 hF6)) hm6)
end RO13
