/-! ===== Fractions.slide (printed by wip/gen/rf8.py) ===== -/
def icp (D : List Int32) (sp dp n : Nat) : List Int32 := D.take dp ++ ((D.drop sp).take n ++ D.drop (dp + n))
theorem cp_map {D : List Int32} {sp dp n : Nat} : jj_cp (D.map Value.int) (D.map Value.int) sp dp n = (icp D sp dp n).map Value.int := by
  simp [jj_cp, icp]
theorem icp_len {D : List Int32} {sp dp n : Nat} (h1 : sp + n ≤ D.length) (h2 : dp + n ≤ D.length) : (icp D sp dp n).length = D.length := by
  simp [icp]; omega
theorem icp_lo {D : List Int32} {sp dp n i : Nat} (h2 : dp + n ≤ D.length) (hi : i < dp) : (icp D sp dp n).getD i 0 = D.getD i 0 := by
  simp only [icp, List.getD_eq_getElem?_getD]
  rw [List.getElem?_append_left (by simp; omega), List.getElem?_take_of_lt hi]
theorem icp_mid {D : List Int32} {sp dp n i : Nat} (h1 : sp + n ≤ D.length) (h2 : dp + n ≤ D.length) (hi : i < n) : (icp D sp dp n).getD (dp + i) 0 = D.getD (sp + i) 0 := by
  simp only [icp, List.getD_eq_getElem?_getD]
  have hl : (D.take dp).length = dp := by simp; omega
  rw [List.getElem?_append_right (by omega), hl, Nat.add_sub_cancel_left, List.getElem?_append_left (by simp; omega), List.getElem?_take_of_lt hi, List.getElem?_drop]
/-- a number that was moved down with all that stands above fr -/
theorem RI.slide {D D' : List Int32} {T T' nu fr ls p : Nat} {z : Int} (h : RI D T p z) (hp : fr ≤ p) (hls : fr = ls + nu) (hT : T' + ls = T) (e : ∀ i, fr ≤ i → i < T → D'.getD (i - ls) 0 = D.getD i 0) (hnu : 0 < nu) : RI D' T' (p - ls) z := by
  obtain ⟨r, h1, h2, h3, h4, h5⟩ := h
  have e' : ∀ i, 0 < i → i ≤ r → D'.getD (p - ls + i) 0 = D.getD (p + i) 0 := fun i _ hi => by
    rw [show p - ls + i = p + i - ls by omega]
    exact e _ (by omega) (by omega)
  refine ⟨r, by omega, (e p hp (by omega)).trans h2, h3.congr e', fun h => ?_, (rnat_congr e').trans h5⟩
  rw [e' r h (Nat.le_refl r)]
  exact h4 h
/-- the place of a number behind the slide -/
def slid (fr ls x : Nat) : Nat := if fr ≤ x then x - ls else x
theorem FQ.slide {D D' : List Int32} {T T' nu fr ls p l : Nat} {q : Rat} (h : FQ D T p l q) (hp : p = 0 ∨ fr ≤ p) (hl : l = 1 ∨ fr ≤ l) (hls : fr = ls + nu) (hT : T' + ls = T) (hnu : 3 ≤ nu) (hz : D.getD 0 0 = 0) (hz' : D'.getD 0 0 = 0) (hT31 : T < 2 ^ 31) (h1 : RI D T 1 1) (h1' : RI D' T' 1 1) (e : ∀ i, fr ≤ i → i < T → D'.getD (i - ls) 0 = D.getD i 0) : FQ D' T' (slid fr ls p) (slid fr ls l) q ∧ (slid fr ls p = 0 ∨ nu ≤ slid fr ls p) ∧ (slid fr ls l = 1 ∨ nu ≤ slid fr ls l) := by
  obtain ⟨a, b, c⟩ := h
  unfold slid
  refine ⟨⟨?_, ?_, fun g => ?_⟩, ?_, ?_⟩
  · rcases hp with g | g
    · rw [if_neg (by omega), g]
      rw [g] at a
      rw [a.z0 hz hT31]
      have := h1'.lt
      exact RI.zero hz' (by omega)
    · rw [if_pos g]; exact a.slide g hls hT e (by omega)
  · rcases hl with g | g
    · rw [if_neg (by omega), g]
      rw [g] at b
      rw [b.uniq h1 hT31 hT31]
      exact h1'
    · rw [if_pos g]; exact b.slide g hls hT e (by omega)
  · rw [c g, if_neg (by omega)]
  · split <;> omega
  · split <;> omega
section RF8
variable {G : jg} {d : Nat} {Q : jq} {rc rs : Nat} {M : mheap} {f w vv pv : Nat} {v2 : Value} {D V P : List Int32} {t : Nat} {up low rk : Int32}
theorem rf_slide {nu he fr a r c T cm X Z : Nat} {q : Nat → Rat} (hG : kG G) (hC : FC M f w vv pv V t up low P rk) (hS : RS M w D T v2 cm X Z rc rs) (hV : V.length < 2 ^ 31) (htV : t ≤ V.length) (hm : MX D T V t a r c fr q) (h1 : RI D nu 1 1) (hnu : 3 ≤ nu) (hnf : nu ≤ fr) (hfT : fr ≤ T) (hha : he ≤ a) (hrc : r * c < 2 ^ 24) (hrr : r < 2 ^ 31) (hcc : c < 2 ^ 31)
    (K : ∀ M' D' T' V', FC M' f w vv pv V' (he + 2 + 2 * (r * c)) up low P rk → RS M' w D' T' v2 cm X Z rc rs → T' + fr = nu + T → (∀ i, i < nu → D'.getD i 0 = D.getD i 0) → V'.length = V.length → (∀ i, i < he → V'.getD i 0 = V.getD i 0) → FF M M' f → MX D' T' V' (he + 2 + 2 * (r * c)) he r c nu q → Q (.returned (some (.int (nI he)))) M' rc rs) : jj G kRF_slide (d + 1) Q rc rs 0 (jj_ent [.ref f, .int (nI nu), .int (nI he), .int (nI fr), .int (nI a)] 10) [] M := by
  obtain ⟨ls, hls⟩ : ∃ ls, fr = ls + nu := ⟨fr - nu, by omega⟩
  obtain ⟨n6, hn6⟩ : ∃ n6, T = n6 + fr := ⟨T - fr, by omega⟩
  obtain ⟨hm1, hm2, hm3, hm4⟩ := id hm
  have hT1 : RI D T 1 1 := h1.congr (by omega) (fun _ _ => rfl)
  obtain ⟨hW101, hB101, hTD101, hz101, hp101⟩ := id hS
  obtain ⟨dd101, hw101, hd101⟩ := id hW101
  have hcap101 := hB101.cap
  have hwd : w ≠ dd101 := fun e => by have q1 := hd101; rw [← e, hw101] at q1; cases q1
  show jj G kRF_slide (d + 1) Q rc rs 0 [some (.ref f), some (.int (nI (nu))), some (.int (nI (he))), some (.int (nI (fr))), some (.int (nI (a))), none, none, none, none, none] [] M
  refine jj_iload_n (pc := 0) kRF_slide_d0 rfl ?_
  refine jj_iload_n (pc := 1) kRF_slide_d1 rfl ?_
  refine jn_isub (pc := 2) (ls) kRF_slide_d2 (by omega) ?_
  refine jj_istore (pc := 3) kRF_slide_d3 (Nat.le_of_ble_eq_true rfl) ?_
  refine jj_aload_n (pc := 5) kRF_slide_d5 rfl ?_
  refine jj_getf (pc := 6) kRF_slide_d6 (kfRF_w hG) hC.1 rfl ?_
  refine jj_getf (pc := 9) kRF_slide_d9 (kfRF_RW_top hG) hw101 rfl ?_
  refine jj_iload_n (pc := 12) kRF_slide_d12 rfl ?_
  refine jn_isub (pc := 13) (n6) kRF_slide_d13 (by omega) ?_
  refine jj_istore (pc := 14) kRF_slide_d14 (Nat.le_of_ble_eq_true rfl) ?_
  refine jj_aload_n (pc := 16) kRF_slide_d16 rfl ?_
  refine jj_getf (pc := 17) kRF_slide_d17 (kfRF_w hG) hC.1 rfl ?_
  refine jj_getf (pc := 20) kRF_slide_d20 (kfRF_RW_d hG) hw101 rfl ?_
  refine jj_iload_n (pc := 23) kRF_slide_d23 rfl ?_
  refine jj_aload_n (pc := 24) kRF_slide_d24 rfl ?_
  refine jj_getf (pc := 25) kRF_slide_d25 (kfRF_w hG) hC.1 rfl ?_
  refine jj_getf (pc := 28) kRF_slide_d28 (kfRF_RW_d hG) hw101 rfl ?_
  refine jj_iload_n (pc := 31) kRF_slide_d31 rfl ?_
  refine jj_iload (pc := 32) kRF_slide_d32 rfl ?_
  refine jj_acopy (pc := 34) (sp := fr) (dp := nu) (n := n6) kRF_slide_d34 (koRF_copy hG) (ka_nat hG) (ka_sta hG) (ka_ini hG) (kG_t hG rfl) hd101 hd101 rfl rfl rfl (by rw [List.length_map]; omega) (by rw [List.length_map]; omega) (by rw [List.length_map]; omega) (by rw [List.length_map]; omega) (fun i hi => ⟨_, gd_int (by omega)⟩) rfl (by decide +kernel) ?_
  rw [cp_map]
  have hln := icp_len (D := D) (sp := fr) (dp := nu) (n := n6) (by omega) (by omega)
  have hlo : ∀ i, i < nu → (icp D fr nu n6).getD i 0 = D.getD i 0 := fun i hi => icp_lo (by omega) hi
  have hmi : ∀ i, fr ≤ i → i < T → (icp D fr nu n6).getD (i - ls) 0 = D.getD i 0 := fun i h2 h3 => by
    have := icp_mid (D := D) (sp := fr) (dp := nu) (n := n6) (i := i - fr) (by omega) (by omega) (by omega)
    rw [show nu + (i - fr) = i - ls by omega, show fr + (i - fr) = i by omega] at this
    exact this
  revert hln hlo hmi
  generalize icp D fr nu n6 = D7
  intro hln hlo hmi
  refine jn_gen (fun M7 hM7 => ?_)
  have hf7 : RF M M7 w := by rw [hM7]; exact RF.put hw101 hwd
  have hS7 : RS M7 w D7 T v2 cm X Z rc rs := ⟨⟨dd101, by rw [hM7, jj_up_ne _ _ hwd]; exact hw101, by rw [hM7]; exact jj_up_at _ _ _⟩, hB101.same hln, by omega, by rw [hlo 0 (by omega)]; exact hz101, by omega⟩
  have hC7 := hC.rf hf7
  have hF7 := FF.ofRF hC hf7
  have hz0 : D.getD 0 0 = 0 := hz101
  obtain ⟨hW102, hB102, hTD102, hz102, hp102⟩ := id hS7
  obtain ⟨dd102, hw102, hd102⟩ := id hW102
  have hcap102 := hB102.cap
  show jj G kRF_slide (d + 1) Q rc rs 37 [some (.ref f), some (.int (nI (nu))), some (.int (nI (he))), some (.int (nI (fr))), some (.int (nI (a))), some (.int (nI (ls))), some (.int (nI (n6))), none, none, none] [] M7
  refine jj_aload_n (pc := 37) kRF_slide_d37 rfl ?_
  refine jj_getf (pc := 38) kRF_slide_d38 (kfRF_w hG) hC7.1 rfl ?_
  refine jj_iload_n (pc := 41) kRF_slide_d41 rfl ?_
  refine jj_iload (pc := 42) kRF_slide_d42 rfl ?_
  refine jn_iadd (pc := 44) (nu + n6) kRF_slide_d44 (by omega) ?_
  refine jj_putf (pc := 45) kRF_slide_d45 (kpRF_RW_top hG) hw102 (by rfl) rfl ?_
  refine jn_gen (fun M103 hM104 => ?_)
  have hf105 : RF M7 M103 w := by rw [hM104]; exact RF.top hw102
  have hS105 : RS M103 w D7 (nu + n6) v2 cm X Z rc rs := ⟨⟨dd102, by rw [hM104]; exact jj_up_at _ _ _, by rw [hM104, jj_up_ne _ _ (fun e => by have q1 := hd102; rw [e, hw102] at q1; cases q1)]; exact hd102⟩, hB102, by omega, hz102, by omega⟩
  have hC105 := hC7.rf hf105
  have hF105 := hF7.trans (FF.ofRF hC7 hf105)
  obtain ⟨hW106, hB106, hTD106, hz106, hp106⟩ := id hS105
  obtain ⟨dd106, hw106, hd106⟩ := id hW106
  have hcap106 := hB106.cap
  refine jn_iconst (pc := 48) 2 kRF_slide_d48 (by decide) ?_
  refine jn_iconst (pc := 49) 2 kRF_slide_d49 (by decide) ?_
  refine jj_aload_n (pc := 50) kRF_slide_d50 rfl ?_
  refine jj_iload (pc := 51) kRF_slide_d51 rfl ?_
  refine jj_callV (pc := 53) (b := f) (As := [.int (nI (a))]) kRF_slide_d53 (kvRF_RF_cells hG) (kG_cl hG rfl) rfl hC105.1 rfl rfl rfl (Nat.le_of_ble_eq_true rfl) (Nat.le_of_ble_eq_true rfl) (jj_bare0 rfl) ?_
  refine rf_cells (r := r) (c := c) hG hC105 (by omega) (by omega) hm2 hm3 ?_
  show jj G kRF_slide (d + 1) Q rc rs 56 [some (.ref f), some (.int (nI (nu))), some (.int (nI (he))), some (.int (nI (fr))), some (.int (nI (a))), some (.int (nI (ls))), some (.int (nI (n6))), none, none, none] [.int (nI (r * c)), .int (nI (2)), .int (nI (2))] M103
  obtain ⟨m, hrm⟩ : ∃ m, r * c = m := ⟨_, rfl⟩
  rw [hrm] at hm1 hm4 hrc K
  refine jn_top (.int (nI (m))) (by rw [hrm]) ?_
  refine jn_imul (pc := 56) (2 * m) kRF_slide_d56 (by omega) ?_
  refine jn_iadd (pc := 57) (2 * m + 2) kRF_slide_d57 (by omega) ?_
  refine jj_istore (pc := 58) kRF_slide_d58 (Nat.le_of_ble_eq_true rfl) ?_
  refine jn_iconst (pc := 60) 0 kRF_slide_d60 (by decide) ?_
  refine jj_istore (pc := 61) kRF_slide_d61 (Nat.le_of_ble_eq_true rfl) ?_
  show jj G kRF_slide (d + 1) Q rc rs 63 [some (.ref f), some (.int (nI (nu))), some (.int (nI (he))), some (.int (nI (fr))), some (.int (nI (a))), some (.int (nI (ls))), some (.int (nI (n6))), some (.int (nI (2 * m + 2))), some (.int (nI (0))), none] [] M103
  have hT7 : nu + n6 + ls = T := by omega
  have h17 : RI D7 (nu + n6) 1 1 := h1.congr (by omega) hlo
  have hcell : ∀ k, k < m → ∃ p l, V.getD (a + 2 + 2 * k) 0 = nI p ∧ V.getD (a + 3 + 2 * k) 0 = nI l ∧ p < 2 ^ 31 ∧ l < 2 ^ 31 ∧ FQ D7 (nu + n6) (slid fr ls p) (slid fr ls l) (q k) ∧ (slid fr ls p = 0 ∨ nu ≤ slid fr ls p) ∧ (slid fr ls l = 1 ∨ nu ≤ slid fr ls l) := fun k hk => by
    obtain ⟨p, l, g1, g2, g3, g4, g5⟩ := hm4 k hk
    have lp := g3.1.lt
    have l2 := g3.2.1.lt
    obtain ⟨j1, j2, j3⟩ := g3.slide g4 g5 hls hT7 hnu hz0 (by rw [hlo 0 (by omega)]; exact hz0) (by omega) hT1 h17 hmi
    exact ⟨p, l, g1, g2, by omega, by omega, j1, j2, j3⟩
  have hint : ∀ k, k < 2 * m + 2 → ∃ n, n < 2 ^ 31 ∧ V.getD (a + k) 0 = nI n := fun k hk => by
    by_cases e0 : k = 0
    · exact ⟨r, hrr, by rw [e0, Nat.add_zero]; exact hm2⟩
    · by_cases e1 : k = 1
      · exact ⟨c, hcc, by rw [e1]; exact hm3⟩
      · by_cases e2 : k % 2 = 0
        · obtain ⟨p, l, g1, g2, g3, g4, -⟩ := hcell ((k - 2) / 2) (by omega)
          exact ⟨p, g3, by rw [show a + k = a + 2 + 2 * ((k - 2) / 2) by omega]; exact g1⟩
        · obtain ⟨p, l, g1, g2, g3, g4, -⟩ := hcell ((k - 2) / 2) (by omega)
          exact ⟨l, g4, by rw [show a + k = a + 3 + 2 * ((k - 2) / 2) by omega]; exact g2⟩
  have loop : ∀ j k, 2 * m + 2 = k + j → ∀ (o9 : Option Value) (M9 : mheap) (V9 : List Int32), FC M9 f w vv pv V9 t up low P rk → RS M9 w D7 (nu + n6) v2 cm X Z rc rs → V9.length = V.length → (∀ i, i < he ∨ he + k ≤ i → V9.getD i 0 = V.getD i 0) → (∀ k', k' < k → V9.getD (he + k') 0 = (if k' < 2 then V.getD (a + k') 0 else nI (slid fr ls (V.getD (a + k') 0).toInt.toNat))) → FF M M9 f → jj G kRF_slide (d + 1) Q rc rs 63 [some (.ref f), some (.int (nI (nu))), some (.int (nI (he))), some (.int (nI (fr))), some (.int (nI (a))), some (.int (nI (ls))), some (.int (nI (n6))), some (.int (nI (2 * m + 2))), some (.int (nI (k))), (o9)] [] M9 := by
    intro j
    induction j with
    | zero =>
      intro k hk o9 M9 V9 hC9 hS9 hlen9 ho9 hv9 hF9
      have e : 2 * m + 2 = k := by omega
      subst e
      refine jj_iload (pc := 63) kRF_slide_d63 rfl ?_
      refine jj_iload (pc := 65) kRF_slide_d65 rfl ?_
      refine jn_icmp_ge (pc := 67) (tgt := 119) kRF_slide_d67 (by decide) (by omega) (by omega) (fun _ => ?_) (fun c => by exfalso; omega)
      refine jj_aload_n (pc := 119) kRF_slide_d119 rfl ?_
      refine jj_iload_n (pc := 120) kRF_slide_d120 rfl ?_
      refine jj_iload (pc := 121) kRF_slide_d121 rfl ?_
      refine jn_iadd (pc := 123) (he + 2 * m + 2) kRF_slide_d123 (by omega) ?_
      refine jj_putf (pc := 124) kRF_slide_d124 (kpRF_top hG) hC9.1 (by rfl) rfl ?_
      refine jn_gen (fun M107 hM108 => ?_)
      have hC109 : FC M107 f w vv pv V9 (he + 2 * m + 2) (up) (low) P (rk) := by rw [hM108]; exact hC9.putf
      have hF109 : FF M M107 f := by rw [hM108]; exact hF9.trans (FF.putf hC9)
      have hS109 : RS M107 w D7 (nu + n6) v2 cm X Z rc rs := by rw [hM108]; exact hS9.other hC9.2.2.2.2.1
      refine jj_iload_n (pc := 127) kRF_slide_d127 rfl ?_
      rw [show he + 2 * m + 2 = he + 2 + 2 * m by omega] at hC109
      have hval : ∀ k' n, 2 ≤ k' → k' < 2 * m + 2 → n < 2 ^ 31 → V.getD (a + k') 0 = nI n → V9.getD (he + k') 0 = nI (slid fr ls n) := fun k' n g0 g1 g2 g3 => by
        rw [hv9 k' g1, if_neg (by omega), g3, nI_toInt g2, Int.toNat_natCast]
      refine jj_iret (pc := 128) kRF_slide_d128 rfl (by rfl) (K _ D7 (nu + n6) V9 hC109 hS109 (by omega) hlo hlen9 (fun i hi => ho9 i (by omega)) hF109 ⟨by rw [hrm]; exact Nat.le_refl _, ?_, ?_, fun k' hk' => ?_⟩)
      · have := hv9 0 (by omega)
        rw [if_pos (by omega), Nat.add_zero, Nat.add_zero] at this
        rw [this]; exact hm2
      · have := hv9 1 (by omega)
        rw [if_pos (by omega)] at this
        rw [this]; exact hm3
      · rw [hrm] at hk'
        obtain ⟨p, l, g1, g2, g3, g4, g5, g6, g7⟩ := hcell k' hk'
        refine ⟨slid fr ls p, slid fr ls l, ?_, ?_, g5, g6, g7⟩
        · have := hval (2 + 2 * k') p (by omega) (by omega) g3 (by rw [← Nat.add_assoc]; exact g1)
          rw [← Nat.add_assoc] at this
          exact this
        · have := hval (3 + 2 * k') l (by omega) (by omega) g4 (by rw [← Nat.add_assoc]; exact g2)
          rw [← Nat.add_assoc] at this
          exact this
    | succ j ih =>
      intro k hk o9 M9 V9 hC9 hS9 hlen9 ho9 hv9 hF9
      obtain ⟨n, hn, hvn⟩ := hint k (by omega)
      have hV9n : V9.getD (a + k) 0 = nI n := by rw [ho9 _ (by omega)]; exact hvn
      refine jj_iload (pc := 63) kRF_slide_d63 rfl ?_
      refine jj_iload (pc := 65) kRF_slide_d65 rfl ?_
      refine jn_icmp_ge (pc := 67) (tgt := 119) kRF_slide_d67 (by decide) (by omega) (by omega) (fun c => by exfalso; omega) (fun _ => ?_)
      refine jj_aload_n (pc := 70) kRF_slide_d70 rfl ?_
      refine jj_getf (pc := 71) kRF_slide_d71 (kfRF_v hG) hC9.1 rfl ?_
      refine jj_iload (pc := 74) kRF_slide_d74 rfl ?_
      refine jj_iload (pc := 76) kRF_slide_d76 rfl ?_
      refine jn_iadd (pc := 78) (a + k) kRF_slide_d78 (by omega) ?_
      refine jn_iald (pc := 79) (v := (nI (n))) kRF_slide_d79 (kG_t hG rfl) hC9.2.1 (by omega) (by omega) (hV9n) ?_
      refine jj_istore (pc := 80) kRF_slide_d80 (Nat.le_of_ble_eq_true rfl) ?_
      refine jj_aload_n (pc := 82) kRF_slide_d82 rfl ?_
      refine jj_getf (pc := 83) kRF_slide_d83 (kfRF_v hG) hC9.1 rfl ?_
      refine jj_iload_n (pc := 86) kRF_slide_d86 rfl ?_
      refine jj_iload (pc := 87) kRF_slide_d87 rfl ?_
      refine jn_iadd (pc := 89) (he + k) kRF_slide_d89 (by omega) ?_
      refine jj_iload (pc := 90) kRF_slide_d90 rfl ?_
      refine jn_iconst (pc := 92) 1 kRF_slide_d92 (by decide) ?_
      have k112 : ∀ g, nI g = (if k < 2 then V.getD (a + k) 0 else nI (slid fr ls (V.getD (a + k) 0).toInt.toNat)) → jj G kRF_slide (d + 1) Q rc rs 112 [some (.ref f), some (.int (nI (nu))), some (.int (nI (he))), some (.int (nI (fr))), some (.int (nI (a))), some (.int (nI (ls))), some (.int (nI (n6))), some (.int (nI (2 * m + 2))), some (.int (nI (k))), some (.int (nI (n)))] [.int (nI (g)), .int (nI (he + k)), .ref vv] M9 := by
        intro g hg
        refine jn_iast (pc := 112) kRF_slide_d112 (kG_t hG rfl) hC9.2.1 (by omega) (by omega) ?_
        refine jn_gen (fun M110 hM111 => ?_)
        have hC112 : FC M110 f w vv pv ((V9).set (he + k) ((nI (g)))) (t) (up) (low) P (rk) := by rw [hM111]; exact hC9.putv
        have hF112 : FF M M110 f := by rw [hM111]; exact hF9.trans (FF.putv hC9)
        have hS112 : RS M110 w D7 (nu + n6) v2 cm X Z rc rs := by rw [hM111]; exact hS9.other hC9.2.2.2.2.2.1
        refine jn_iinc (pc := 113) (k + 1) kRF_slide_d113 rfl (nI_1 _) ?_
        refine jj_goto (pc := 116) (tgt := 63) kRF_slide_d116 (by decide) ?_
        show jj G kRF_slide (d + 1) Q rc rs 63 [some (.ref f), some (.int (nI (nu))), some (.int (nI (he))), some (.int (nI (fr))), some (.int (nI (a))), some (.int (nI (ls))), some (.int (nI (n6))), some (.int (nI (2 * m + 2))), some (.int (nI (k + 1))), some (.int (nI (n)))] [] M110
        refine ih (k + 1) (by omega) _ _ _ hC112 hS112 (by rw [List.length_set]; exact hlen9) (fun i hi => by rw [gd_set_ne (by omega)]; exact ho9 i (by omega)) (fun k' hk' => ?_) hF112
        by_cases e : k' = k
        · rw [e, gd_set_eq (by omega)]; exact hg
        · rw [gd_set_ne (by omega)]; exact hv9 k' (by omega)
      refine jn_icmp_le (pc := 93) (tgt := 110) kRF_slide_d93 (by decide) (by omega) (by omega) (fun c1 => ?_) (fun c1 => ?_)
      · skip
        refine jj_iload (pc := 110) kRF_slide_d110 rfl ?_
        exact k112 n (by rw [if_pos (by omega)]; exact hvn.symm)
      · skip
        rw [if_neg (by omega), hvn, nI_toInt hn, Int.toNat_natCast] at k112
        refine jj_iload (pc := 96) kRF_slide_d96 rfl ?_
        refine jj_iload_n (pc := 98) kRF_slide_d98 rfl ?_
        refine jn_icmp_lt (pc := 99) (tgt := 110) kRF_slide_d99 (by decide) (by omega) (by omega) (fun c2 => ?_) (fun c2 => ?_)
        · skip
          refine jj_iload (pc := 110) kRF_slide_d110 rfl ?_
          exact k112 n (by unfold slid; rw [if_neg (by omega)])
        · skip
          obtain ⟨n2, hn2⟩ : ∃ n2, n = n2 + ls := ⟨n - ls, by omega⟩
          refine jj_iload (pc := 102) kRF_slide_d102 rfl ?_
          refine jj_iload (pc := 104) kRF_slide_d104 rfl ?_
          refine jn_isub (pc := 106) (n2) kRF_slide_d106 (by omega) ?_
          refine jj_goto (pc := 107) (tgt := 112) kRF_slide_d107 (by decide) ?_
          exact k112 n2 (by unfold slid; rw [if_pos (by omega), show n - ls = n2 by omega])
  exact loop (2 * m + 2) 0 (by omega) _ _ V hC105 hS105 rfl (fun _ _ => rfl) (fun k' hk' => by omega) hF105
end RF8
