/-! ===== the reference: puts (printed by wip/gen/rm10.py) ===== -/
section RM10
variable {G : jg} {d : Nat} {Q : jq} {rc rs : Nat} {M : mheap} {F : Nat → Nat} {r o f st w vv pv ca ra : Nat} {v2 : Value} {D V P CA RA : List Int32} {t : Nat} {up low rk fi se code : Int32} {σ : rst} {pt zt : Nat → Nat}
theorem rm_puts_in {k a fs lc Rn cn lo T X Z X' Z' f0 : Nat} {qn : Nat → Rat} {A : Nat → List Int32 → Nat → List Int32 → Nat → Prop} (hG : kG G) (e0 : F 0 = f0) (e9 : F 9 = r) (e10 : F 10 = o) (e11 : F 11 = st) (ek : F (k + 1) = f) (hk : k < 8) (hP : RPX M F code (k + 1) pt zt A) (hC : FC M f w vv pv V t up low P rk) (hS : RS M w D T v2 131072 X Z rc rs) (hX : FXB 4096 V X Z X' Z') (htV : t ≤ V.length) (h1 : RI D 3 1 1) (hT3 : 3 ≤ T) (hA : ∀ D T V t, A 0 D T V t → MX D T V t a Rn cn lo qn ∧ V.length < 16777216) (hfit : FIT Rn cn qn)
    (K : ∀ M' vv' D' T' V' up' low' X1 Z1 v2' rc' rs', FC M' f w vv' pv V' (2 + 2 * (Rn * cn)) up' low' P rk → RS M' w D' T' v2' 131072 X1 Z1 rc' rs' → FXB 4096 V' X1 Z1 X' Z' → 3 ≤ T' → RI D' 3 1 1 → 2 + 2 * (Rn * cn) ≤ V'.length → FF M M' f → MX D' T' V' (2 + 2 * (Rn * cn)) 0 Rn cn 3 qn → Q (.returned (some (.int (nI 1)))) M' rc' rs') : jj G kR_puts (d + 10) Q rc rs 73 [some (.ref r), some (.int (nI (k))), some (.int (nI (a))), some (.int (nI (fs))), some (.int (nI (lc))), some (.ref f)] [] M := by
  obtain ⟨f1, f2, f3, f4⟩ := id hfit
  have hRc : Rn * cn ≤ 16 * 16 := Nat.mul_le_mul f1 f2
  obtain ⟨u0, vg0, pg0, de0, E0, TE0, v30, Vg0, tg0, upg0, lowg0, Pg0, rkg0, hg, g1, g2, g3, g4, g5, g6, g7, g8⟩ := hP.fg (show k + 1 < 9 by omega) (show 0 < 9 by decide) (by omega)
  rw [e0, ek] at hg
  obtain ⟨hmx, -⟩ := hA _ _ _ _ g8
  have hrr : ∀ M', FF M M' f → M' r = some (.inl nR, [.int code, .ref f0, .ref o, .ref st]) := fun M' hf => RPX.rr e0 e9 e10 e11 (hP.ff (by omega) (by rw [ek]; exact hf)).1
  obtain ⟨hW101, hB101, hTD101, hz101, hp101⟩ := id hS
  obtain ⟨dd101, hw101, hd101⟩ := id hW101
  have hcap101 := hB101.cap
  refine jj_aload (pc := 73) kR_puts_d73 rfl ?_
  refine jj_getf (pc := 75) kR_puts_d75 (kfR_RF_w hG) hC.1 rfl ?_
  refine jn_iconst (pc := 78) 3 kR_puts_d78 (by decide) ?_
  refine jj_putf (pc := 79) kR_puts_d79 (kpR_RW_top hG) hw101 (by rfl) rfl ?_
  refine jn_gen (fun M102 hM103 => ?_)
  have hf104 : RF M M102 w := by rw [hM103]; exact RF.top hw101
  have hS104 : RS M102 w D (3) v2 131072 X Z rc rs := ⟨⟨dd101, by rw [hM103]; exact jj_up_at _ _ _, by rw [hM103, jj_up_ne _ _ (fun e => by have q1 := hd101; rw [e, hw101] at q1; cases q1)]; exact hd101⟩, hB101, by omega, hz101, by omega⟩
  have hC104 := hC.rf hf104
  have hF104 := (FF.refl M f).trans (FF.ofRF hC hf104)
  obtain ⟨hW105, hB105, hTD105, hz105, hp105⟩ := id hS104
  obtain ⟨dd105, hw105, hd105⟩ := id hW105
  have hcap105 := hB105.cap
  refine jj_aload (pc := 82) kR_puts_d82 rfl ?_
  refine jn_iconst (pc := 84) 0 kR_puts_d84 (by decide) ?_
  refine jj_putf (pc := 85) kR_puts_d85 (kpR_RF_top hG) hC104.1 (by rfl) rfl ?_
  refine jn_gen (fun M106 hM107 => ?_)
  have hC108 : FC M106 f w vv pv V (0) (up) (low) P (rk) := by rw [hM107]; exact hC104.putf
  have hF108 : FF M M106 f := by rw [hM107]; exact hF104.trans (FF.putf hC104)
  have hS108 : RS M106 w D (3) v2 131072 X Z rc rs := by rw [hM107]; exact hS104.other hC104.2.2.2.2.1
  obtain ⟨hW109, hB109, hTD109, hz109, hp109⟩ := id hS108
  obtain ⟨dd109, hw109, hd109⟩ := id hW109
  have hcap109 := hB109.cap
  refine jj_aload (pc := 88) kR_puts_d88 rfl ?_
  refine jj_aload_n (pc := 90) kR_puts_d90 rfl ?_
  refine jj_getf (pc := 91) kR_puts_d91 (kfR_f hG) (hrr _ hF108) rfl ?_
  refine jj_iload_n (pc := 94) kR_puts_d94 rfl ?_
  obtain ⟨ls, hls⟩ : ∃ ls : Nat → Nat, (fun j => (blen (lcmf 1 (fun j => (qn j).den) (Rn * cn) / ((qn j).den : Int) * (qn j).num) + 31) / 32) = ls := ⟨_, rfl⟩
  have hlsn : nsum ls (Rn * cn) ≤ 20000 := by have h9 := f4; unfold limbC at h9; rw [hls] at h9; omega
  have hlsk : ∀ j, ls j = (blen (lcmf 1 (fun j => (qn j).den) (Rn * cn) / ((qn j).den : Int) * (qn j).num) + 31) / 32 := fun j => by rw [← hls]
  have hdg := nsum_dgt ls (Rn * cn)
  refine jj_callS (pc := 95) (As := [.ref f, .ref f0, .int (nI (a))]) kR_puts_d95 (kvR_R_move hG) rfl rfl rfl (Nat.le_of_ble_eq_true rfl) (Nat.le_of_ble_eq_true rfl) (jj_bare0 rfl) ?_
  refine rm_move (sn := fun j => dgt (ls j)) (sd := fun _ => 267) (Sf := fun j => dgt (ls j) + 269) (q := qn) hG hC108 (hg.ff hF108) hS108 hX (Nat.zero_le _) h1 (Nat.le_refl _) (by omega) g1 (by omega) g4 (g6.congr g5 (fun _ _ => rfl)) hmx (by omega) (by omega) (fun j hj => by
      obtain ⟨s1, s2, s3⟩ := fit_sizes f3 hj
      refine ⟨?_, Or.inr ⟨s2, Nat.le_refl _⟩⟩
      try dsimp only
      rw [hlsk]
      exact (ZB_dgt (Nat.le_refl _)).le_abs s3) (by omega) (by omega) (fun M1 vv D1 T1 V1 up1 low1 X1 Z1 v1 rc1 rs1 hC1 hS1 hX1 t1 u1 ho1 hv1 hl1 hF1 hm1 => ?_)
  show jj G kR_puts (d + 10) Q rc1 rs1 98 [some (.ref r), some (.int (nI (k))), some (.int (nI (a))), some (.int (nI (fs))), some (.int (nI (lc))), some (.ref f)] [.int (nI (0))] M1
  refine jj_pop (pc := 98) kR_puts_d98 rfl ?_
  refine jn_iconst (pc := 99) 1 kR_puts_d99 (by decide) ?_
  rw [Nat.zero_add] at hC1 hl1 hm1
  exact jj_iret (pc := 100) kR_puts_d100 rfl (by rfl) (K M1 vv D1 T1 V1 _ _ X1 Z1 _ rc1 rs1 hC1 hS1 hX1 t1 (h1.congr (Nat.le_refl _) ho1) hl1 (hF108.trans hF1) hm1)
theorem rm_puts {k a full Rn cn lo T s X Z X1 Z1 : Nat} {qn : Nat → Rat} (hG : kG G) (e0 : F 0 = f) (e9 : F 9 = r) (e10 : F 10 = o) (e11 : F 11 = st) (hP : RPX M F code 0 pt zt (SA σ)) (hC : FC M f w vv pv V t up low P rk) (e12 : F 12 = ca) (e13 : F 13 = ra) (hO : OC M o f w ca ra CA RA fi se) (hCA : CA.length = 64) (hRA : RA.length = 64) (hS : RS M w D T v2 2097152 X1 Z1 rc rs) (hX : FXB 8192 V X1 Z1 (oth 0 pt X) (oth 0 zt Z)) (htV : t ≤ V.length) (h1 : RI D 3 1 1) (hT3 : 3 ≤ T) (hPL : P.length = 64) (hk : k < 8) (hfu : 0 < full) (hfu2 : full < 4) (hb : MX D T V t a Rn cn lo qn) (hR : Rn < 64) (hc : cn < 64) (hq : ∀ k, k < Rn * cn → ZB s (qn k).num ∧ ZB s ((qn k).den : Int)) (hs : s ≤ 5000) (hT : T + 20000 + 20 * s + 10000 ≤ 2097152)
    (K0 : ∀ M' rc' rs', ¬ FIT Rn cn qn → RT M' F (nI full) σ X Z rc' rs' → RTF M M' F → Q (.returned (some (.int (nI 0)))) M' rc' rs')
    (K1 : ∀ M' rc' rs' w' vv' pv' V' t' up' low' P' rk', FIT Rn cn qn → RT M' F (nI 0) (rup σ k Rn cn qn) X Z rc' rs' → RTF M M' F → FC M' f w' vv' pv' V' t' up' low' P' rk' → V'.getD a 0 = nI Rn → a + 1 < V'.length → V'.length < 2 ^ 31 → Q (.returned (some (.int (nI 1)))) M' rc' rs') : jj G kR_puts (d + 10) Q rc rs 0 (jj_ent [.ref r, .int (nI k), .int (nI a), .int (nI full)] 6) [] M := by
  have hcap := hX.cap
  obtain ⟨hb1, hb2, hb3, hb4⟩ := id hb
  have hmn : Rn * cn ≤ 64 * 64 := Nat.mul_le_mul (by omega) (by omega)
  have bad : ∀ (M5 : mheap) (D5 : List Int32) (v5 : Value) (rc5 rs5 : Nat), ¬ FIT Rn cn qn → FC M5 f w vv pv V t up low P rk → RS M5 w D5 T v5 2097152 X1 Z1 rc5 rs5 → (∀ i, i < T → D5.getD i 0 = D.getD i 0) → FF M M5 f → jj G kR_puts (d + 10) Q rc5 rs5 35 [some (.ref r), some (.int (nI (k))), some (.int (nI (a))), some (.int (nI (full))), none, none] [.int (-1)] M5 := by
    intro M5 D5 v5 rc5 rs5 hnf hC5 hS5 ho5 hF5
    refine jj_istore (pc := 35) kR_puts_d35 (Nat.le_of_ble_eq_true rfl) ?_
    refine jj_aload_n (pc := 37) kR_puts_d37 rfl ?_
    refine jj_iload (pc := 38) kR_puts_d38 rfl ?_
    refine jj_iconst (pc := 40) (v := (-1)) kR_puts_d40 (by decide) ?_
    refine jj_icmp_eq (pc := 41) (tgt := 56) kR_puts_d41 (by decide) (fun _ => ?_) (fun c => absurd c (by decide))
    refine jj_iload_n (pc := 56) kR_puts_d56 rfl ?_
    have hP_7 := (hP.ffe e0 hF5)
    have hO_7 := (hO.ff hF5)
    refine jj_callV (pc := 57) (b := r) (As := [.int (nI (full))]) kR_puts_d57 (kvR_R_refuses hG) (kG_cl hG rfl) rfl (RPX.rr e0 e9 e10 e11 (hP.ffe e0 hF5)) rfl rfl rfl (Nat.le_of_ble_eq_true rfl) (Nat.le_of_ble_eq_true rfl) (jj_bare0 rfl) ?_
    refine rm_refuses hG (RPX.rr e0 e9 e10 e11 (hP.ffe e0 hF5)) (by omega) (fun hp => ?_) (fun hp => ?_)
    · skip
      obtain ⟨M7, hM7⟩ : ∃ M7, M7 = jj_up M5 r (.inl nR, [.int (nI full), .ref f, .ref o, .ref st]) := ⟨_, rfl⟩
      rw [← hM7]
      obtain ⟨hP7, hO7, hC7, hS7, hT7⟩ := RPX.refuse (code' := nI full) (M' := M7) hP_7 (by rw [e10, e0, e12, e13]; exact hO_7) (by rw [e0]; exact hC5) hS5 (by rw [hM7, e0, e9, e10, e11])
      rw [e0] at hC7
      show jj G kR_puts (d + 10) Q rc5 rs5 60 [some (.ref r), some (.int (nI (k))), some (.int (nI (a))), some (.int (nI (full))), some (.int (-1)), none] [.int (nI (1))] M7
      refine jn_if_eq (pc := 60) (tgt := 65) kR_puts_d60 (by decide) (by omega) (fun c => by exfalso; omega) (fun _ => ?_)
      refine jn_iconst (pc := 63) 0 kR_puts_d63 (by decide) ?_
      exact jj_iret (pc := 64) kR_puts_d64 rfl (by rfl) (K0 M7 _ _ hnf (RT.cls hP7 hO7 hCA hRA (by rw [e0]; exact hC7) hS7 hX hT3 (h1.congr (Nat.le_refl _) (fun i hi => ho5 i (by omega))) htV hPL) ((RPX.rte e0 hP hF5).trans hT7))
    · skip
      exact absurd hp (by omega)
  have good : ∀ (M5 : mheap) (D5 : List Int32) (v5 : Value) (rc5 rs5 lc : Nat), limbC qn (Rn * cn) = lc → lc ≤ 20000 → FIT Rn cn qn → FC M5 f w vv pv V t up low P rk → RS M5 w D5 T v5 2097152 X1 Z1 rc5 rs5 → (∀ i, i < T → D5.getD i 0 = D.getD i 0) → FF M M5 f → jj G kR_puts (d + 10) Q rc5 rs5 35 [some (.ref r), some (.int (nI (k))), some (.int (nI (a))), some (.int (nI (full))), none, none] [.int (nI (lc))] M5 := by
    intro M5 D5 v5 rc5 rs5 lc hlc hl2 hfit hC5 hS5 ho5 hF5
    refine jj_istore (pc := 35) kR_puts_d35 (Nat.le_of_ble_eq_true rfl) ?_
    refine jj_aload_n (pc := 37) kR_puts_d37 rfl ?_
    refine jj_iload (pc := 38) kR_puts_d38 rfl ?_
    refine jj_iconst (pc := 40) (v := (-1)) kR_puts_d40 (by decide) ?_
    refine jj_icmp_eq (pc := 41) (tgt := 56) kR_puts_d41 (by decide) (fun c => absurd c (nI_m1ne (by omega))) (fun _ => ?_)
    refine jj_iload (pc := 44) kR_puts_d44 rfl ?_
    refine jn_sipush (pc := 46) 20000 kR_puts_d46 (by decide) ?_
    refine jn_icmp_gt (pc := 49) (tgt := 56) kR_puts_d49 (by decide) (by omega) (by omega) (fun c => by exfalso; omega) (fun _ => ?_)
    refine jn_iconst (pc := 52) 0 kR_puts_d52 (by decide) ?_
    refine jj_goto (pc := 53) (tgt := 57) kR_puts_d53 (by decide) ?_
    have hP_7 := (hP.ffe e0 hF5)
    have hO_7 := (hO.ff hF5)
    refine jj_callV (pc := 57) (b := r) (As := [.int (nI (0))]) kR_puts_d57 (kvR_R_refuses hG) (kG_cl hG rfl) rfl (RPX.rr e0 e9 e10 e11 (hP.ffe e0 hF5)) rfl rfl rfl (Nat.le_of_ble_eq_true rfl) (Nat.le_of_ble_eq_true rfl) (jj_bare0 rfl) ?_
    refine rm_refuses hG (RPX.rr e0 e9 e10 e11 (hP.ffe e0 hF5)) (by omega) (fun hp => ?_) (fun hp => ?_)
    · skip
      exact absurd hp (by omega)
    · skip
      obtain ⟨M7, hM7⟩ : ∃ M7, M7 = jj_up M5 r (.inl nR, [.int (nI 0), .ref f, .ref o, .ref st]) := ⟨_, rfl⟩
      rw [← hM7]
      obtain ⟨hP7, hO7, hC7, hS7, hT7⟩ := RPX.refuse (code' := nI 0) (M' := M7) hP_7 (by rw [e10, e0, e12, e13]; exact hO_7) (by rw [e0]; exact hC5) hS5 (by rw [hM7, e0, e9, e10, e11])
      rw [e0] at hC7
      show jj G kR_puts (d + 10) Q rc5 rs5 60 [some (.ref r), some (.int (nI (k))), some (.int (nI (a))), some (.int (nI (full))), some (.int (nI (lc))), none] [.int (nI (0))] M7
      obtain ⟨f1, f2, f3, f4⟩ := id hfit
      have hRc : Rn * cn ≤ 16 * 16 := Nat.mul_le_mul f1 f2
      have hb5 : MX D5 T V t a Rn cn lo qn := hb.congr (Nat.le_refl _) ho5 (Nat.le_refl _) (fun _ _ => rfl) (Nat.le_refl _)
      obtain ⟨pt2, zt2, u, vg, pg, E, TE, v3, Vg, tg, upg, lowg, Pg, rkg, X2, Z2, hPs, hCs, hSs, hXs, k3, k4, k5, k6⟩ := to_store (B := fun D T V t => MX D T V t a Rn cn lo qn ∧ V.length < 16777216) hP7 (by rw [e0]; exact hC7) hS7 hX hT3 (h1.congr (Nat.le_refl _) (fun i hi => ho5 i (by omega))) htV hPL ⟨hb5, by omega⟩ hk
      obtain ⟨g, eg⟩ : ∃ g, F (k + 1) = g := ⟨_, rfl⟩
      rw [eg] at hCs
      have hf0 : M7 (F 0) = some (.inl nRF, .ref w :: [.ref vv, .int (nI t), .int up, .int low, .ref pv, .int rk]) := by rw [e0]; exact hC7.1
      have hcaps := hXs.cap
      have hcapE := hSs.2.1.cap
      refine jn_if_eq (pc := 60) (tgt := 65) kR_puts_d60 (by decide) (by omega) (fun _ => ?_) (fun c => by exfalso; omega)
      refine jj_aload_n (pc := 65) kR_puts_d65 rfl ?_
      refine jj_getf (pc := 66) kR_puts_d66 (kfR_store hG) (RPX.rr e0 e9 e10 e11 hP7) rfl ?_
      refine jj_iload_n (pc := 69) kR_puts_d69 rfl ?_
      refine jj_aald (pc := 70) kR_puts_d70 (kG_t hG rfl) (RPX.ss e11 hP7) rfl (by rw [List.length_map, List.length_range]; decide) (by rw [st_at hk, eg]) ?_
      show jj G kR_puts (d + 10) Q rc5 rs5 71 [some (.ref r), some (.int (nI (k))), some (.int (nI (a))), some (.int (nI (full))), some (.int (nI (lc))), none] [.ref g] M7
      refine jj_astore (pc := 71) kR_puts_d71 (Nat.le_of_ble_eq_true rfl) ?_
      show jj G kR_puts (d + 10) Q rc5 rs5 73 [some (.ref r), some (.int (nI (k))), some (.int (nI (a))), some (.int (nI (full))), some (.int (nI (lc))), some (.ref g)] [] M7
      clear bad
      exact rm_puts_in (A := fun j => if j = 0 then (fun D T V t => MX D T V t a Rn cn lo qn ∧ V.length < 16777216) else SA σ j) (f := g) (f0 := f) (lo := lo) (qn := qn) (fs := full) (lc := lc) (Rn := Rn) (cn := cn) hG e0 e9 e10 e11 eg hk hPs hCs hSs hXs k5 k4 k3 (fun D T V t h => h) hfit (fun M8 vg8 E8 TE8 Vg8 up8 low8 X8 Z8 v8 rc8 rs8 hC8 hS8 hX8 t8 h18 hl8 hF8 hm8 => by
          have hF8' : FF M7 M8 (F (k + 1)) := by rw [eg]; exact hF8
          obtain ⟨hP8, hT8⟩ := hPs.ff (by omega) hF8'
          obtain ⟨hO8, hz8⟩ := OC.store hk hPs hO7 hf0 hF8'
          have hR8 : RT M8 F (nI 0) (rup σ k Rn cn qn) X Z rc8 rs8 := from_store hk hP8 (fun j j1 j2 D T V t h => by
            by_cases c0 : j = 0
            · exact Or.inl c0
            · try dsimp only at h
              rw [if_neg c0] at h; exact h) (by rw [eg]; exact hC8) hS8 hX8 t8 h18 hl8 k6 hm8 hz8 hO8 hCA hRA
          have hFC : FC M8 f w vv pv V t up low P rk := by
            have hq : ∀ q, FO M7 (F 0) q → M8 q = M7 q := fun q hq => (hF8' q ((hPs.2.2.2.1 0 (by decide) (by omega)).has hq) (hPs.2.2.2.2.1 (k + 1) 0 (by omega) (by decide) (by omega) q hq)).1
            obtain ⟨dd, q1, q2⟩ := hS7.1
            have hfb : FB M7 (F 0) w vv pv dd _ _ _ V t up low P rk := ⟨by rw [e0]; exact hC7, q1, q2⟩
            have := (hfb.eq hq).1.1
            rw [e0] at this
            exact this
          exact K1 M8 rc8 rs8 w vv pv V t up low P rk hfit hR8 (((RPX.rte e0 hP hF5).trans hT7).trans hT8) hFC hb2 (by omega) (by omega))
  show jj G kR_puts (d + 10) Q rc rs 0 [some (.ref r), some (.int (nI (k))), some (.int (nI (a))), some (.int (nI (full))), none, none] [] M
  refine jj_aload_n (pc := 0) kR_puts_d0 rfl ?_
  refine jj_getf (pc := 1) kR_puts_d1 (kfR_f hG) (RPX.rr e0 e9 e10 e11 hP) rfl ?_
  refine jj_iload_n (pc := 4) kR_puts_d4 rfl ?_
  refine jj_callV (pc := 5) (b := f) (As := [.int (nI (a))]) kR_puts_d5 (kvR_RF_rows hG) (kG_cl hG rfl) rfl hC.1 rfl rfl rfl (Nat.le_of_ble_eq_true rfl) (Nat.le_of_ble_eq_true rfl) (jj_bare0 rfl) ?_
  refine rf_rows hG hC (by omega) (by omega) ?_
  show jj G kR_puts (d + 10) Q rc rs 8 [some (.ref r), some (.int (nI (k))), some (.int (nI (a))), some (.int (nI (full))), none, none] [.int (V.getD a 0)] M
  refine jn_top (.int (nI (Rn))) (by rw [hb2]) ?_
  refine jn_bipush (pc := 8) 16 kR_puts_d8 (by decide) ?_
  refine jn_icmp_gt (pc := 10) (tgt := 34) kR_puts_d10 (by decide) (by omega) (by omega) (fun c1 => ?_) (fun c1 => ?_)
  · skip
    refine jj_iconst (pc := 34) (v := (-1)) kR_puts_d34 (by decide) ?_
    show jj G kR_puts (d + 10) Q rc rs 35 [some (.ref r), some (.int (nI (k))), some (.int (nI (a))), some (.int (nI (full))), none, none] [.int (-1)] M
    exact bad M D v2 rc rs (fun h => by have := h.1; have := h.2.1; omega) hC hS (fun _ _ => rfl) (FF.refl M f)
  · skip
    refine jj_aload_n (pc := 13) kR_puts_d13 rfl ?_
    refine jj_getf (pc := 14) kR_puts_d14 (kfR_f hG) (RPX.rr e0 e9 e10 e11 hP) rfl ?_
    refine jj_iload_n (pc := 17) kR_puts_d17 rfl ?_
    refine jj_callV (pc := 18) (b := f) (As := [.int (nI (a))]) kR_puts_d18 (kvR_RF_columns hG) (kG_cl hG rfl) rfl hC.1 rfl rfl rfl (Nat.le_of_ble_eq_true rfl) (Nat.le_of_ble_eq_true rfl) (jj_bare0 rfl) ?_
    refine rf_columns hG hC (by omega) (by omega) ?_
    show jj G kR_puts (d + 10) Q rc rs 21 [some (.ref r), some (.int (nI (k))), some (.int (nI (a))), some (.int (nI (full))), none, none] [.int (V.getD (a + 1) 0)] M
    refine jn_top (.int (nI (cn))) (by rw [hb3]) ?_
    refine jn_bipush (pc := 21) 16 kR_puts_d21 (by decide) ?_
    refine jn_icmp_gt (pc := 23) (tgt := 34) kR_puts_d23 (by decide) (by omega) (by omega) (fun c2 => ?_) (fun c2 => ?_)
    · skip
      refine jj_iconst (pc := 34) (v := (-1)) kR_puts_d34 (by decide) ?_
      show jj G kR_puts (d + 10) Q rc rs 35 [some (.ref r), some (.int (nI (k))), some (.int (nI (a))), some (.int (nI (full))), none, none] [.int (-1)] M
      exact bad M D v2 rc rs (fun h => by have := h.1; have := h.2.1; omega) hC hS (fun _ _ => rfl) (FF.refl M f)
    · skip
      refine jj_aload_n (pc := 26) kR_puts_d26 rfl ?_
      refine jj_iload_n (pc := 27) kR_puts_d27 rfl ?_
      refine jj_callV (pc := 28) (b := r) (As := [.int (nI (a))]) kR_puts_d28 (kvR_R_limbsOf hG) (kG_cl hG rfl) rfl (RPX.rr e0 e9 e10 e11 hP) rfl rfl rfl (Nat.le_of_ble_eq_true rfl) (Nat.le_of_ble_eq_true rfl) (jj_bare0 rfl) ?_
      refine rm_limbsOf (s := s) (d := d) (q := qn) hG ⟨RPX.rr e0 e9 e10 e11 hP, by rw [← e0, ← e9]; exact hP.2.2.2.2.2 0 9 (by decide) (by decide) (by decide)⟩ hC hS (by omega) htV hT3 (h1.congr hT3 (fun _ _ => rfl)) hb hR hc hq hs hT (fun M5 D5 v5 rc5 rs5 hnf hC5 hS5 ho5 hF5 => ?_) (fun M5 D5 v5 rc5 rs5 hfc hC5 hS5 ho5 hF5 => ?_)
      · skip
        show jj G kR_puts (d + 10) Q rc5 rs5 31 [some (.ref r), some (.int (nI (k))), some (.int (nI (a))), some (.int (nI (full))), none, none] [.int (-1)] M5
        refine jj_goto (pc := 31) (tgt := 35) kR_puts_d31 (by decide) ?_
        show jj G kR_puts (d + 10) Q rc5 rs5 35 [some (.ref r), some (.int (nI (k))), some (.int (nI (a))), some (.int (nI (full))), none, none] [.int (-1)] M5
        exact bad M5 D5 v5 rc5 rs5 (fun h => hnf h.2.2.1) hC5 hS5 ho5 hF5
      · skip
        have hlm := limbC_le hfc
        obtain ⟨lc, hlc⟩ : ∃ lc, limbC qn (Rn * cn) = lc := ⟨_, rfl⟩
        show jj G kR_puts (d + 10) Q rc5 rs5 31 [some (.ref r), some (.int (nI (k))), some (.int (nI (a))), some (.int (nI (full))), none, none] [.int (nI (limbC qn (Rn * cn)))] M5
        refine jn_top (.int (nI (lc))) (by rw [hlc]) ?_
        refine jj_goto (pc := 31) (tgt := 35) kR_puts_d31 (by decide) ?_
        show jj G kR_puts (d + 10) Q rc5 rs5 35 [some (.ref r), some (.int (nI (k))), some (.int (nI (a))), some (.int (nI (full))), none, none] [.int (nI (lc))] M5
        rw [hlc] at hlm
        rcases Nat.lt_or_ge 20000 lc with cl | cl
        · skip
          refine jj_istore (pc := 35) kR_puts_d35 (Nat.le_of_ble_eq_true rfl) ?_
          refine jj_aload_n (pc := 37) kR_puts_d37 rfl ?_
          refine jj_iload (pc := 38) kR_puts_d38 rfl ?_
          refine jj_iconst (pc := 40) (v := (-1)) kR_puts_d40 (by decide) ?_
          refine jj_icmp_eq (pc := 41) (tgt := 56) kR_puts_d41 (by decide) (fun c => absurd c (nI_m1ne (by omega))) (fun _ => ?_)
          refine jj_iload (pc := 44) kR_puts_d44 rfl ?_
          refine jn_sipush (pc := 46) 20000 kR_puts_d46 (by decide) ?_
          refine jn_icmp_gt (pc := 49) (tgt := 56) kR_puts_d49 (by decide) (by omega) (by omega) (fun _ => ?_) (fun c => by exfalso; omega)
          refine jj_iload_n (pc := 56) kR_puts_d56 rfl ?_
          have hP_6 := (hP.ffe e0 hF5)
          have hO_6 := (hO.ff hF5)
          refine jj_callV (pc := 57) (b := r) (As := [.int (nI (full))]) kR_puts_d57 (kvR_R_refuses hG) (kG_cl hG rfl) rfl (RPX.rr e0 e9 e10 e11 (hP.ffe e0 hF5)) rfl rfl rfl (Nat.le_of_ble_eq_true rfl) (Nat.le_of_ble_eq_true rfl) (jj_bare0 rfl) ?_
          refine rm_refuses hG (RPX.rr e0 e9 e10 e11 (hP.ffe e0 hF5)) (by omega) (fun hp => ?_) (fun hp => ?_)
          · skip
            obtain ⟨M6, hM6⟩ : ∃ M6, M6 = jj_up M5 r (.inl nR, [.int (nI full), .ref f, .ref o, .ref st]) := ⟨_, rfl⟩
            rw [← hM6]
            obtain ⟨hP6, hO6, hC6, hS6, hT6⟩ := RPX.refuse (code' := nI full) (M' := M6) hP_6 (by rw [e10, e0, e12, e13]; exact hO_6) (by rw [e0]; exact hC5) hS5 (by rw [hM6, e0, e9, e10, e11])
            rw [e0] at hC6
            show jj G kR_puts (d + 10) Q rc5 rs5 60 [some (.ref r), some (.int (nI (k))), some (.int (nI (a))), some (.int (nI (full))), some (.int (nI (lc))), none] [.int (nI (1))] M6
            refine jn_if_eq (pc := 60) (tgt := 65) kR_puts_d60 (by decide) (by omega) (fun c => by exfalso; omega) (fun _ => ?_)
            refine jn_iconst (pc := 63) 0 kR_puts_d63 (by decide) ?_
            exact jj_iret (pc := 64) kR_puts_d64 rfl (by rfl) (K0 M6 _ _ (fun h => by have := h.2.2.2; omega) (RT.cls hP6 hO6 hCA hRA (by rw [e0]; exact hC6) hS6 hX hT3 (h1.congr (Nat.le_refl _) (fun i hi => ho5 i (by omega))) htV hPL) ((RPX.rte e0 hP hF5).trans hT6))
          · skip
            exact absurd hp (by omega)
        · skip
          exact good M5 D5 v5 rc5 rs5 lc hlc cl ⟨by omega, by omega, hfc, by omega⟩ hC5 hS5 ho5 hF5
end RM10
