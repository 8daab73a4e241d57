/-! ===== the reference: determinant (printed by wip/gen/rm21.py) ===== -/
theorem pow_big {n : Nat} (hn : n ≤ 16) : (2 ^ 4000) ^ n < 32768 ^ 4267 := by
  rw [← Nat.pow_mul, show (32768 : Nat) = 2 ^ 15 from rfl, ← Nat.pow_mul]
  exact Nat.pow_lt_pow_right (by decide) (by omega)
theorem pow_mid : (2 : Nat) ^ 2000 < 32768 ^ 4267 := by
  rw [show (32768 : Nat) = 2 ^ 15 from rfl, ← Nat.pow_mul]
  exact Nat.pow_lt_pow_right (by decide) (by decide)
section RM21
variable {G : jg} {d : Nat} {Q : jq} {rc rs : Nat} {M : mheap} {F : Nat → Nat} {r : Nat} {code : Int32} {σ : rst} {X Z : Nat}
theorem rp_determinant {x y : Int32} (hG : kG G) (e9 : F 9 = r) (hT : RT M F code σ X Z rc rs) (hL : LG σ)
    (K : ∀ M' cd σ' rc' rs', semDet σ x y cd σ' → LG σ' → RT M' F (nI cd) σ' X Z rc' rs' → RTF M M' F → Q (.returned none) M' rc' rs') : jj G kR_determinant (d + 12) Q rc rs 0 (jj_ent [.ref r, .int x, .int y] 5) [] M := by
  obtain ⟨pt, zt, w, vv, pv, D, T, v2, V, t, up, low, P, rk, CA, RA, fi, se, X1, Z1, hP, hO, hCA, hRA, hC, hS, hX, hT3, h1, htV, hPL⟩ := hT.opn
  obtain ⟨f, e0⟩ : ∃ f, F 0 = f := ⟨_, rfl⟩
  obtain ⟨o, e10⟩ : ∃ o, F 10 = o := ⟨_, rfl⟩
  obtain ⟨st, e11⟩ : ∃ st, F 11 = st := ⟨_, rfl⟩
  obtain ⟨ca, e12⟩ : ∃ ca, F 12 = ca := ⟨_, rfl⟩
  obtain ⟨ra, e13⟩ : ∃ ra, F 13 = ra := ⟨_, rfl⟩
  rw [e10, e0, e12, e13] at hO
  rw [e0] at hC
  have hcap := hX.cap
  show jj G kR_determinant (d + 12) Q rc rs 0 [some (.ref r), some (.int (x)), some (.int (y)), none, none] [] M
  refine jj_aload_n (pc := 0) kR_determinant_d0 rfl ?_
  refine jj_iload_n (pc := 1) kR_determinant_d1 rfl ?_
  refine jj_callS (pc := 2) (As := [.int (x)]) kR_determinant_d2 (kvR_R_isRegister hG) rfl rfl rfl (Nat.le_of_ble_eq_true rfl) (Nat.le_of_ble_eq_true rfl) (jj_bare0 rfl) ?_
  refine rm_isRegister (fun k hk ek => ?_) (fun hn => ?_)
  · skip
    subst ek
    show jj G kR_determinant (d + 12) Q rc rs 5 [some (.ref r), some (.int (nI (k))), some (.int (y)), none, none] [.int (nI (1)), .ref r] M
    refine jn_if_eq (pc := 5) (tgt := 19) kR_determinant_d5 (by decide) (by omega) (fun c => by exfalso; omega) (fun _ => ?_)
    refine jj_iload_n (pc := 8) kR_determinant_d8 rfl ?_
    refine jj_callS (pc := 9) (As := [.int (y)]) kR_determinant_d9 (kvR_R_isRegister hG) rfl rfl rfl (Nat.le_of_ble_eq_true rfl) (Nat.le_of_ble_eq_true rfl) (jj_bare0 rfl) ?_
    refine rm_isRegister (fun i hi ei => ?_) (fun hn => ?_)
    · skip
      subst ei
      show jj G kR_determinant (d + 12) Q rc rs 12 [some (.ref r), some (.int (nI (k))), some (.int (nI (i))), none, none] [.int (nI (1)), .ref r] M
      refine jn_if_eq (pc := 12) (tgt := 19) kR_determinant_d12 (by decide) (by omega) (fun c => by exfalso; omega) (fun _ => ?_)
      refine jn_iconst (pc := 15) 0 kR_determinant_d15 (by decide) ?_
      refine jj_goto (pc := 16) (tgt := 20) kR_determinant_d16 (by decide) ?_
      have hP_q101 := hP
      have hO_q101 := hO
      refine jj_callV (pc := 20) (b := r) (As := [.int (nI (0))]) kR_determinant_d20 (kvR_R_refuses hG) (kG_cl hG rfl) rfl (RPX.rr e0 e9 e10 e11 hP) rfl rfl rfl (Nat.le_of_ble_eq_true rfl) (Nat.le_of_ble_eq_true rfl) (jj_bare0 rfl) ?_
      refine rm_refuses (c := 0) hG (RPX.rr e0 e9 e10 e11 hP) (by omega) (fun hp => ?_) (fun hp => ?_)
      · skip
        exact absurd hp (by omega)
      · skip
        obtain ⟨Mq101, hMq101⟩ : ∃ Mq101, Mq101 = jj_up M r (.inl nR, [.int (nI (0)), .ref f, .ref o, .ref st]) := ⟨_, rfl⟩
        rw [← hMq101]
        obtain ⟨hPq101, hOq101, hCq101, hSq101, hTq101⟩ := RPX.refuse (code' := nI (0)) (M' := Mq101) hP_q101 (by rw [e10, e0, e12, e13]; exact hO_q101) (by rw [e0]; exact hC) hS (by rw [hMq101, e0, e9, e10, e11])
        rw [e0] at hCq101
        rw [e10, e0, e12, e13] at hOq101
        have hFq101 := (RTF.refl M F).trans hTq101
        show jj G kR_determinant (d + 12) Q rc rs 23 [some (.ref r), some (.int (nI (k))), some (.int (nI (i))), none, none] [.int (nI (0))] Mq101
        refine jn_if_eq (pc := 23) (tgt := 27) kR_determinant_d23 (by decide) (by omega) (fun _ => ?_) (fun c => by exfalso; omega)
        refine jj_aload_n (pc := 27) kR_determinant_d27 rfl ?_
        refine jj_callV (pc := 28) (b := r) (As := []) kR_determinant_d28 (kvR_R_begin hG) (kG_cl hG rfl) rfl (RPX.rr e0 e9 e10 e11 hPq101) rfl rfl rfl (Nat.le_of_ble_eq_true rfl) (Nat.le_of_ble_eq_true rfl) (jj_bare0 rfl) ?_
        refine rm_begin hG e0 e9 e10 e11 hPq101 hCq101 hSq101 hT3 (fun Mb102 hCb102 hSb102 hFb102 => ?_)
        show jj G kR_determinant (d + 12) Q rc rs 31 [some (.ref r), some (.int (nI (k))), some (.int (nI (i))), none, none] [] Mb102
        have hGb102 := (FF.refl Mq101 f).trans hFb102
        refine jj_aload_n (pc := 31) kR_determinant_d31 rfl ?_
        refine jj_iload_n (pc := 32) kR_determinant_d32 rfl ?_
        refine jj_callV (pc := 33) (b := r) (As := [.int (nI (i))]) kR_determinant_d33 (kvR_R_load hG) (kG_cl hG rfl) rfl (RPX.rr e0 e9 e10 e11 (hPq101.ffe e0 hGb102)) rfl rfl rfl (Nat.le_of_ble_eq_true rfl) (Nat.le_of_ble_eq_true rfl) (jj_bare0 rfl) ?_
        refine rm_load hG e0 e9 e10 e11 (hPq101.ffe e0 hGb102) hCb102 hSb102 hX (Nat.zero_le _) h1 (Nat.le_refl 3) hL hi (by omega) (by omega) (fun Ml103 vv Dl103 Tl103 Vl103 upl103 lowl103 Xl103 Zl103 vl103 rcl103 rsl103 hCl103 hSl103 hXl103 tl103 ul103 hol103 hvl103 hll103 hFl103 hml103 => ?_)
        show jj G kR_determinant (d + 12) Q rcl103 rsl103 36 [some (.ref r), some (.int (nI (k))), some (.int (nI (i))), none, none] [.int (nI (0))] Ml103
        obtain ⟨l1l103, l2l103, l3l103, l4l103, l5l103, l6l103⟩ := hL i hi
        obtain ⟨nl103, hnl103⟩ : ∃ nl103, σ.1 i * σ.2.1 i = nl103 := ⟨_, rfl⟩
        have hbl103 : nl103 ≤ 16 * 16 := by rw [← hnl103]; exact Nat.mul_le_mul l3l103 l4l103
        obtain ⟨ttl103, httl103⟩ : ∃ ttl103, 0 + 2 + 2 * nl103 = ttl103 := ⟨_, rfl⟩
        rw [hnl103, httl103] at hCl103 hll103 hml103
        obtain ⟨ldl103, hldl103⟩ : ∃ ldl103, ldS (σ.2.2 i) (σ.1 i * σ.2.1 i) = ldl103 := ⟨_, rfl⟩
        have hlbl103 : ldl103 ≤ 137216 := by rw [← hldl103]; exact ldS_fit l5l103 (by omega)
        rw [hldl103] at ul103
        have hGl103 := hGb102.trans hFl103
        have hcapl103 := hXl103.cap
        have hsl103 : ∀ k', k' < σ.1 i * σ.2.1 i → ZB 267 (σ.2.2 i k').num ∧ ZB 267 ((σ.2.2 i k').den : Int) := fun k' h => ⟨(fit_sizes l5l103 h).1, (fit_sizes l5l103 h).2.1⟩
        have h1l103 : RI Dl103 3 1 1 := h1.congr (Nat.le_refl _) (fun i hi => hol103 i (by omega))
        have hT3l103 : 3 ≤ Tl103 := by omega
        have hA := hml103
        obtain ⟨a1, a2, a3, -⟩ := id hA
        refine jj_istore_n (pc := 36) kR_determinant_d36 (Nat.le_of_ble_eq_true rfl) ?_
        refine jj_aload_n (pc := 37) kR_determinant_d37 rfl ?_
        refine jj_aload_n (pc := 38) kR_determinant_d38 rfl ?_
        refine jj_getf (pc := 39) kR_determinant_d39 (kfR_f hG) (RPX.rr e0 e9 e10 e11 (hPq101.ffe e0 hGl103)) rfl ?_
        refine jj_iload_n (pc := 42) kR_determinant_d42 rfl ?_
        refine jj_callV (pc := 43) (b := f) (As := [.int (nI (0))]) kR_determinant_d43 (kvR_RF_rows hG) (kG_cl hG rfl) rfl hCl103.1 rfl rfl rfl (Nat.le_of_ble_eq_true rfl) (Nat.le_of_ble_eq_true rfl) (jj_bare0 rfl) ?_
        refine rf_rows hG hCl103 (by omega) (by omega) ?_
        show jj G kR_determinant (d + 12) Q rcl103 rsl103 46 [some (.ref r), some (.int (nI (k))), some (.int (nI (i))), some (.int (nI (0))), none] [.int (Vl103.getD 0 0), .ref r] Ml103
        refine jn_top (.int (nI (σ.1 i))) (by rw [a2]) ?_
        refine jj_aload_n (pc := 46) kR_determinant_d46 rfl ?_
        refine jj_getf (pc := 47) kR_determinant_d47 (kfR_f hG) (RPX.rr e0 e9 e10 e11 (hPq101.ffe e0 hGl103)) rfl ?_
        refine jj_iload_n (pc := 50) kR_determinant_d50 rfl ?_
        refine jj_callV (pc := 51) (b := f) (As := [.int (nI (0))]) kR_determinant_d51 (kvR_RF_columns hG) (kG_cl hG rfl) rfl hCl103.1 rfl rfl rfl (Nat.le_of_ble_eq_true rfl) (Nat.le_of_ble_eq_true rfl) (jj_bare0 rfl) ?_
        refine rf_columns hG hCl103 (by omega) (by omega) ?_
        show jj G kR_determinant (d + 12) Q rcl103 rsl103 54 [some (.ref r), some (.int (nI (k))), some (.int (nI (i))), some (.int (nI (0))), none] [.int (Vl103.getD (0 + 1) 0), .int (nI (σ.1 i)), .ref r] Ml103
        refine jn_top (.int (nI (σ.2.1 i))) (by rw [a3]) ?_
        refine jn_icmp_eq (pc := 54) (tgt := 61) kR_determinant_d54 (by decide) (by omega) (by omega) (fun c1 => ?_) (fun c1 => ?_)
        · skip
          refine jj_aload_n (pc := 61) kR_determinant_d61 rfl ?_
          refine jj_iload_n (pc := 62) kR_determinant_d62 rfl ?_
          refine jj_iconst (pc := 63) (v := (-1)) kR_determinant_d63 (by decide) ?_
          have hlch104 : ∀ row, row < σ.1 i → ∀ k, k ≤ σ.2.1 i → ZB 267 (lcmf 1 (fun j => (σ.2.2 i (row * σ.2.1 i + j)).den) k) := fun row h1 k h2 => rowlcm_ZB l5l103 h1 h2
          refine jj_callV (pc := 64) (b := r) (As := [.int (nI (0)), .int (-1)]) kR_determinant_d64 (kvR_R_isHeavy hG) (kG_cl hG rfl) rfl (RPX.rr e0 e9 e10 e11 (hPq101.ffe e0 hGl103)) rfl rfl rfl (Nat.le_of_ble_eq_true rfl) (Nat.le_of_ble_eq_true rfl) (jj_bare0 rfl) ?_
          refine rm_isHeavy1 (s := 267) (e := 267) (q := σ.2.2 i) (lo := 3) hG ⟨(RPX.rr e0 e9 e10 e11 (hPq101.ffe e0 hGl103)), by rw [← e0, ← e9]; exact (hPq101.ffe e0 hGl103).2.2.2.2.2 0 9 (by decide) (by decide) (by decide)⟩ hCl103 hSl103 (by omega) hll103 hT3l103 (h1l103.congr hT3l103 (fun _ _ => rfl)) hml103 (by omega) (by omega) (by omega) (by omega) hsl103 hlch104 (by omega) (by omega) (fun Mh104 Dh104 vh104 rch104 rsh104 hvh104 hCh104 hSh104 hoh104 hFh104 => ?_) (fun Mh104 Dh104 vh104 rch104 rsh104 hvh104 hCh104 hSh104 hoh104 hFh104 => ?_)
          · skip
            show jj G kR_determinant (d + 12) Q rch104 rsh104 67 [some (.ref r), some (.int (nI (k))), some (.int (nI (i))), some (.int (nI (0))), none] [.int (nI (1)), .ref r] Mh104
            have hGh104 := hGl103.trans hFh104
            have hmxh104 := hml103.congr (lo' := 3) (Nat.le_refl _) hoh104 (Nat.le_refl _) (fun _ _ => rfl) (Nat.le_refl _)
            have h1h104 : RI Dh104 3 1 1 := h1l103.congr (Nat.le_refl _) (fun i hi => hoh104 i (by omega))
            refine jn_if_eq (pc := 67) (tgt := 74) kR_determinant_d67 (by decide) (by omega) (fun c => by exfalso; omega) (fun _ => ?_)
            refine jn_iconst (pc := 70) 3 kR_determinant_d70 (by decide) ?_
            refine jj_goto (pc := 71) (tgt := 75) kR_determinant_d71 (by decide) ?_
            have hP_q105 := (hPq101.ffe e0 hGh104)
            have hO_q105 := (hOq101.ff hGh104)
            refine jj_callV (pc := 75) (b := r) (As := [.int (nI (3))]) kR_determinant_d75 (kvR_R_refuses hG) (kG_cl hG rfl) rfl (RPX.rr e0 e9 e10 e11 (hPq101.ffe e0 hGh104)) rfl rfl rfl (Nat.le_of_ble_eq_true rfl) (Nat.le_of_ble_eq_true rfl) (jj_bare0 rfl) ?_
            refine rm_refuses (c := 3) hG (RPX.rr e0 e9 e10 e11 (hPq101.ffe e0 hGh104)) (by omega) (fun hp => ?_) (fun hp => ?_)
            · skip
              obtain ⟨Mq105, hMq105⟩ : ∃ Mq105, Mq105 = jj_up Mh104 r (.inl nR, [.int (nI (3)), .ref f, .ref o, .ref st]) := ⟨_, rfl⟩
              rw [← hMq105]
              obtain ⟨hPq105, hOq105, hCq105, hSq105, hTq105⟩ := RPX.refuse (code' := nI (3)) (M' := Mq105) hP_q105 (by rw [e10, e0, e12, e13]; exact hO_q105) (by rw [e0]; exact hCh104) hSh104 (by rw [hMq105, e0, e9, e10, e11])
              rw [e0] at hCq105
              rw [e10, e0, e12, e13] at hOq105
              have hFq105 := (hFq101.trans (RPX.rte e0 hPq101 hGh104)).trans hTq105
              show jj G kR_determinant (d + 12) Q rch104 rsh104 78 [some (.ref r), some (.int (nI (k))), some (.int (nI (i))), some (.int (nI (0))), none] [.int (nI (1))] Mq105
              refine jn_if_eq (pc := 78) (tgt := 82) kR_determinant_d78 (by decide) (by omega) (fun c => by exfalso; omega) (fun _ => ?_)
              exact jj_vret (pc := 81) kR_determinant_d81 rfl (K Mq105 3 σ rch104 rsh104 (Or.inr ⟨k, i, hk, rfl, hi, rfl, Or.inr ⟨c1, Or.inl ⟨hvh104, rfl, rfl⟩⟩⟩) hL (RT.cls hPq105 (by rw [e10, e0, e12, e13]; exact hOq105) hCA hRA (by rw [e0]; exact hCq105) hSq105 hXl103 hT3l103 h1h104 hll103 hPL) hFq105)
            · skip
              exact absurd hp (by omega)
          · skip
            show jj G kR_determinant (d + 12) Q rch104 rsh104 67 [some (.ref r), some (.int (nI (k))), some (.int (nI (i))), some (.int (nI (0))), none] [.int (nI (0)), .ref r] Mh104
            have hGh104 := hGl103.trans hFh104
            have hmxh104 := hml103.congr (lo' := 3) (Nat.le_refl _) hoh104 (Nat.le_refl _) (fun _ _ => rfl) (Nat.le_refl _)
            have h1h104 : RI Dh104 3 1 1 := h1l103.congr (Nat.le_refl _) (fun i hi => hoh104 i (by omega))
            refine jn_if_eq (pc := 67) (tgt := 74) kR_determinant_d67 (by decide) (by omega) (fun _ => ?_) (fun c => by exfalso; omega)
            refine jn_iconst (pc := 74) 0 kR_determinant_d74 (by decide) ?_
            have hP_q106 := (hPq101.ffe e0 hGh104)
            have hO_q106 := (hOq101.ff hGh104)
            refine jj_callV (pc := 75) (b := r) (As := [.int (nI (0))]) kR_determinant_d75 (kvR_R_refuses hG) (kG_cl hG rfl) rfl (RPX.rr e0 e9 e10 e11 (hPq101.ffe e0 hGh104)) rfl rfl rfl (Nat.le_of_ble_eq_true rfl) (Nat.le_of_ble_eq_true rfl) (jj_bare0 rfl) ?_
            refine rm_refuses (c := 0) hG (RPX.rr e0 e9 e10 e11 (hPq101.ffe e0 hGh104)) (by omega) (fun hp => ?_) (fun hp => ?_)
            · skip
              exact absurd hp (by omega)
            · skip
              obtain ⟨Mq106, hMq106⟩ : ∃ Mq106, Mq106 = jj_up Mh104 r (.inl nR, [.int (nI (0)), .ref f, .ref o, .ref st]) := ⟨_, rfl⟩
              rw [← hMq106]
              obtain ⟨hPq106, hOq106, hCq106, hSq106, hTq106⟩ := RPX.refuse (code' := nI (0)) (M' := Mq106) hP_q106 (by rw [e10, e0, e12, e13]; exact hO_q106) (by rw [e0]; exact hCh104) hSh104 (by rw [hMq106, e0, e9, e10, e11])
              rw [e0] at hCq106
              rw [e10, e0, e12, e13] at hOq106
              have hFq106 := (hFq101.trans (RPX.rte e0 hPq101 hGh104)).trans hTq106
              show jj G kR_determinant (d + 12) Q rch104 rsh104 78 [some (.ref r), some (.int (nI (k))), some (.int (nI (i))), some (.int (nI (0))), none] [.int (nI (0))] Mq106
              refine jn_if_eq (pc := 78) (tgt := 82) kR_determinant_d78 (by decide) (by omega) (fun _ => ?_) (fun c => by exfalso; omega)
              refine jj_aload_n (pc := 82) kR_determinant_d82 rfl ?_
              refine jj_getf (pc := 83) kR_determinant_d83 (kfR_f hG) (RPX.rr e0 e9 e10 e11 hPq106) rfl ?_
              refine jj_iload_n (pc := 86) kR_determinant_d86 rfl ?_
              have hv0 := hvh104
              rw [← c1] at hmxh104 hsl103 hnl103 l5l103 hvh104
              obtain ⟨b0, w1, w2, w3, w4⟩ := wgt_one l5l103 l1l103 l1l103 hvh104
              have hesz := wgt_ESZ l5l103 l1l103 l1l103 hvh104
              rw [Nat.min_self] at w4
              obtain ⟨S4, hS4⟩ : ∃ S4, S4 = 1608 := ⟨_, rfl⟩
              obtain ⟨nS, hnS⟩ : ∃ nS, nl103 * S4 = nS := ⟨_, rfl⟩
              have hmS : nS ≤ 16 * 16 * 1608 := by rw [← hnS, hS4]; exact Nat.mul_le_mul_right _ hbl103
              have hdz : ∀ B E c x g u ω z, DI (qA (σ.2.2 i) (σ.1 i)) (fun a b => (rowD (σ.2.2 i) (σ.1 i) a 1 : Rat) * qA (σ.2.2 i) (σ.1 i) a b) (fun a => (rowD (σ.2.2 i) (σ.1 i) a 1 : Rat)) (2 ^ 4000) B E (σ.1 i) c x g u ω z → c ≤ σ.1 i → ZB 4267 u.num ∧ ZB 4267 (u.den : Int) := fun B E c x g u ω z hd hc => by
                obtain ⟨r1, r2⟩ := hd.size hc w2 w1 (Nat.pow_pos (by decide)) l1l103
                exact ⟨ZB.of_le (Nat.le_trans r1 w4) pow_mid, ZB.of_le (show ((u.den : Nat) : Int).natAbs ≤ _ from r2) (pow_big l3l103)⟩
              refine jj_callV (pc := 87) (b := f) (As := [.int (nI (0))]) kR_determinant_d87 (kvR_RF_determinant hG) (kG_cl hG rfl) rfl hCq106.1 rfl rfl rfl (Nat.le_of_ble_eq_true rfl) (Nat.le_of_ble_eq_true rfl) (jj_bare0 rfl) ?_
              refine rf_determinant (s := 401) (e := 4267) (S := S4) (wb := 2 ^ 4000) (EE := Tl103 + nS + 2 * 4267 + 10) (A := qA (σ.2.2 i) (σ.1 i)) (W := fun a b => (rowD (σ.2.2 i) (σ.1 i) a 1 : Rat) * qA (σ.2.2 i) (σ.1 i) a b) (wt := fun a => (rowD (σ.2.2 i) (σ.1 i) a 1 : Rat)) (lob := 3) hG hCq106 hSq106 hXl103 hll103 (h1h104.congr hT3l103 (fun _ _ => rfl)) hT3l103 hmxh104 (fun _ _ _ _ => rfl) (by omega) (by omega) (fun _ _ _ _ => rfl) w3 (by omega) hesz hdz (by omega) (by omega) (by omega) (by omega) (by rw [hnl103, hnS]) (by rw [hnl103]; omega) (by rw [hnl103, hnS]; omega) (fun Me vv De Te Ve pe le Xe Ze ve rce rse hCe hSe hXe te ue hoe hve hle hFe hqe hpe hle2 => ?_)
              show jj G kR_determinant (d + 12) Q rce rse 90 [some (.ref r), some (.int (nI (k))), some (.int (nI (i))), some (.int (nI (0))), none] [] Me
              have hGe := (FF.refl Mq106 f).trans hFe
              have hcape := hXe.cap
              have h1e : RI De 3 1 1 := h1h104.congr (Nat.le_refl _) (fun i hi => hoe i (by omega))
              have hT3e : 3 ≤ Te := by omega
              have hlp := hqe.1.lt
              have hll := hqe.2.1.lt
              refine jj_aload_n (pc := 90) kR_determinant_d90 rfl ?_
              refine jj_getf (pc := 91) kR_determinant_d91 (kfR_f hG) (RPX.rr e0 e9 e10 e11 (hPq106.ffe e0 hGe)) rfl ?_
              refine jn_iconst (pc := 94) 1 kR_determinant_d94 (by decide) ?_
              refine jn_iconst (pc := 95) 1 kR_determinant_d95 (by decide) ?_
              refine jj_callV (pc := 96) (b := f) (As := [.int (nI (1)), .int (nI (1))]) kR_determinant_d96 (kvR_RF_make hG) (kG_cl hG rfl) rfl hCe.1 rfl rfl rfl (Nat.le_of_ble_eq_true rfl) (Nat.le_of_ble_eq_true rfl) (jj_bare0 rfl) ?_
              refine rf_make (r := 1) (c := 1) hG hCe hSe hXe hle (by decide) (by decide) (by omega) (fun Mk vv Vk Xk Zk rck rsk hCk hSk hXk hlk hrk hck hok hFk => ?_)
              show jj G kR_determinant (d + 12) Q rck rsk 99 [some (.ref r), some (.int (nI (k))), some (.int (nI (i))), some (.int (nI (0))), none] [.int (nI (ttl103))] Mk
              rw [show 1 * 1 = 1 from rfl, show 2 * 1 = 2 from rfl] at hCk hlk
              have hGk := hGe.trans hFk
              have hcapk := hXk.cap
              refine jj_istore (pc := 99) kR_determinant_d99 (Nat.le_of_ble_eq_true rfl) ?_
              refine jj_aload_n (pc := 101) kR_determinant_d101 rfl ?_
              refine jj_getf (pc := 102) kR_determinant_d102 (kfR_f hG) (RPX.rr e0 e9 e10 e11 (hPq106.ffe e0 hGk)) rfl ?_
              refine jj_iload (pc := 105) kR_determinant_d105 rfl ?_
              refine jn_iconst (pc := 107) 0 kR_determinant_d107 (by decide) ?_
              refine jj_callV (pc := 108) (b := f) (As := [.int (nI (ttl103)), .int (nI (0))]) kR_determinant_d108 (kvR_RF_put hG) (kG_cl hG rfl) rfl hCk.1 rfl rfl rfl (Nat.le_of_ble_eq_true rfl) (Nat.le_of_ble_eq_true rfl) (jj_bare0 rfl) ?_
              refine rf_put (a := ttl103) (i := 0) hG hCk hSk (by omega) (by omega) (fun Mp hCp hSp hFp => ?_)
              show jj G kR_determinant (d + 12) Q rck rsk 111 [some (.ref r), some (.int (nI (k))), some (.int (nI (i))), some (.int (nI (0))), some (.int (nI (ttl103)))] [] Mp
              obtain ⟨Vp, hVp⟩ : ∃ Vp, (Vk.set (ttl103 + 2 + 2 * 0) (nI pe)).set (ttl103 + 3 + 2 * 0) (nI le) = Vp := ⟨_, rfl⟩
              rw [hVp] at hCp
              have hlVp : Vp.length = Vk.length := by rw [← hVp, List.length_set, List.length_set]
              have hGp := hGk.trans hFp
              have hXp := hXk.same hlVp
              have hlp2 : ttl103 + 2 + 2 ≤ Vp.length := by omega
              have hmp : MX De Te Vp (ttl103 + 2 + 2) ttl103 1 1 0 (fun _ => det (σ.1 i) (qA (σ.2.2 i) (σ.1 i))) := by
                refine ⟨Nat.le_refl _, by rw [← hVp, gd_set_ne (by omega), gd_set_ne (by omega)]; exact hrk, by rw [← hVp, gd_set_ne (by omega), gd_set_ne (by omega)]; exact hck, fun k' hk' => ?_⟩
                have e9 : k' = 0 := by omega
                subst e9
                exact ⟨pe, le, by rw [← hVp, gd_set_ne (by omega)]; exact gd_set_eq (by omega), by rw [← hVp]; exact gd_set_eq (by rw [List.length_set]; omega), hqe, Or.inr (Nat.zero_le _), Or.inr (Nat.zero_le _)⟩
              obtain ⟨tp, htp⟩ : ∃ tp, ttl103 + 2 + 2 = tp := ⟨_, rfl⟩
              rw [htp] at hmp hCp hlp2
              have hsz : ∀ k', k' < 1 * 1 → ZB 4267 ((fun _ : Nat => det (σ.1 i) (qA (σ.2.2 i) (σ.1 i))) k').num ∧ ZB 4267 (((fun _ : Nat => det (σ.1 i) (qA (σ.2.2 i) (σ.1 i))) k').den : Int) := fun _ _ => by
                have hzd := zle_det (K := σ.1 i) (b := b0) (n := σ.1 i) (M := fun a b => (rowD (σ.2.2 i) (σ.1 i) a 1 : Rat) * qA (σ.2.2 i) (σ.1 i) a b) (Nat.le_refl _) w2
                rw [det_scale] at hzd
                have hzw : ∀ n, n ≤ σ.1 i → zle ((2 ^ 4000) ^ n) (qprod (fun a => (rowD (σ.2.2 i) (σ.1 i) a 1 : Rat)) n) ∧ qprod (fun a => (rowD (σ.2.2 i) (σ.1 i) a 1 : Rat)) n ≠ 0 := by
                  intro n
                  induction n with
                  | zero => intro _; exact ⟨⟨1, rfl, by rw [Nat.pow_zero]; decide⟩, by show (1 : Rat) ≠ 0; decide⟩
                  | succ n ih =>
                    intro hn'
                    obtain ⟨i1, i2⟩ := ih (by omega)
                    obtain ⟨j1, j2⟩ := w3 n (by omega)
                    refine ⟨by rw [Nat.pow_succ]; exact zle_mul i1 j1, fun e => ?_⟩
                    rcases Rat.mul_eq_zero.mp e with g | g
                    · exact i2 g
                    · exact j2 g
                obtain ⟨u1, u2⟩ := hzw _ (Nat.le_refl _)
                obtain ⟨r1, r2⟩ := qle_ratio hzd u1 u2 (Rat.mul_comm ..)
                exact ⟨ZB.of_le (Nat.le_trans r1 w4) pow_mid, ZB.of_le (show (((det (σ.1 i) (qA (σ.2.2 i) (σ.1 i))).den : Nat) : Int).natAbs ≤ _ from r2) (pow_big l3l103)⟩
              refine jj_aload_n (pc := 111) kR_determinant_d111 rfl ?_
              refine jj_iload_n (pc := 112) kR_determinant_d112 rfl ?_
              refine jj_iload (pc := 113) kR_determinant_d113 rfl ?_
              refine jn_iconst (pc := 115) 3 kR_determinant_d115 (by decide) ?_
              refine jj_callV (pc := 116) (b := r) (As := [.int (nI (k)), .int (nI (ttl103)), .int (nI (3))]) kR_determinant_d116 (kvR_R_puts hG) (kG_cl hG rfl) rfl (RPX.rr e0 e9 e10 e11 (hPq106.ffe e0 hGp)) rfl rfl rfl (Nat.le_of_ble_eq_true rfl) (Nat.le_of_ble_eq_true rfl) (jj_bare0 rfl) ?_
              refine rm_puts (s := 4267) (lo := 0) (qn := fun _ => det (σ.1 i) (qA (σ.2.2 i) (σ.1 i))) (Rn := 1) (cn := 1) hG e0 e9 e10 e11 (hPq106.ffe e0 hGp) hCp e12 e13 (hOq106.ff hGp) hCA hRA hSp hXp hlp2 h1e hT3e hPL hk (by omega) (by omega) hmp (by omega) (by omega) hsz (by omega) (by omega) (fun M8 rc8 rs8 hnf hR8 hT8 => ?_) (fun M8 rc8 rs8 w8 vv8 pv8 V8 t8 up8 low8 P8 rk8 hfit hR8 hT8 hC8 hg8 hl8 hb8 => ?_)
              · skip
                show jj G kR_determinant (d + 12) Q rc8 rs8 119 [some (.ref r), some (.int (nI (k))), some (.int (nI (i))), some (.int (nI (0))), some (.int (nI (ttl103)))] [.int (nI (0))] M8
                refine jj_pop (pc := 119) kR_determinant_d119 rfl ?_
                exact jj_vret (pc := 120) kR_determinant_d120 rfl (K M8 3 σ rc8 rs8 (Or.inr ⟨k, i, hk, rfl, hi, rfl, Or.inr ⟨c1, Or.inr ⟨hv0, by rw [← c1]; exact Or.inr ⟨hnf, rfl, rfl⟩⟩⟩⟩) hL hR8 ((hFq106.trans (RPX.rte e0 hPq106 hGp)).trans hT8))
              · skip
                show jj G kR_determinant (d + 12) Q rc8 rs8 119 [some (.ref r), some (.int (nI (k))), some (.int (nI (i))), some (.int (nI (0))), some (.int (nI (ttl103)))] [.int (nI (1))] M8
                refine jj_pop (pc := 119) kR_determinant_d119 rfl ?_
                exact jj_vret (pc := 120) kR_determinant_d120 rfl (K M8 0 _ rc8 rs8 (Or.inr ⟨k, i, hk, rfl, hi, rfl, Or.inr ⟨c1, Or.inr ⟨hv0, by rw [← c1]; exact Or.inl ⟨hfit, rfl, rfl⟩⟩⟩⟩) (hL.rup (by omega) (by omega) hfit) hR8 ((hFq106.trans (RPX.rte e0 hPq106 hGp)).trans hT8))
        · skip
          refine jn_iconst (pc := 57) 2 kR_determinant_d57 (by decide) ?_
          refine jj_goto (pc := 58) (tgt := 75) kR_determinant_d58 (by decide) ?_
          have hP_q107 := (hPq101.ffe e0 hGl103)
          have hO_q107 := (hOq101.ff hGl103)
          refine jj_callV (pc := 75) (b := r) (As := [.int (nI (2))]) kR_determinant_d75 (kvR_R_refuses hG) (kG_cl hG rfl) rfl (RPX.rr e0 e9 e10 e11 (hPq101.ffe e0 hGl103)) rfl rfl rfl (Nat.le_of_ble_eq_true rfl) (Nat.le_of_ble_eq_true rfl) (jj_bare0 rfl) ?_
          refine rm_refuses (c := 2) hG (RPX.rr e0 e9 e10 e11 (hPq101.ffe e0 hGl103)) (by omega) (fun hp => ?_) (fun hp => ?_)
          · skip
            obtain ⟨Mq107, hMq107⟩ : ∃ Mq107, Mq107 = jj_up Ml103 r (.inl nR, [.int (nI (2)), .ref f, .ref o, .ref st]) := ⟨_, rfl⟩
            rw [← hMq107]
            obtain ⟨hPq107, hOq107, hCq107, hSq107, hTq107⟩ := RPX.refuse (code' := nI (2)) (M' := Mq107) hP_q107 (by rw [e10, e0, e12, e13]; exact hO_q107) (by rw [e0]; exact hCl103) hSl103 (by rw [hMq107, e0, e9, e10, e11])
            rw [e0] at hCq107
            rw [e10, e0, e12, e13] at hOq107
            have hFq107 := (hFq101.trans (RPX.rte e0 hPq101 hGl103)).trans hTq107
            show jj G kR_determinant (d + 12) Q rcl103 rsl103 78 [some (.ref r), some (.int (nI (k))), some (.int (nI (i))), some (.int (nI (0))), none] [.int (nI (1))] Mq107
            refine jn_if_eq (pc := 78) (tgt := 82) kR_determinant_d78 (by decide) (by omega) (fun c => by exfalso; omega) (fun _ => ?_)
            exact jj_vret (pc := 81) kR_determinant_d81 rfl (K Mq107 2 σ rcl103 rsl103 (Or.inr ⟨k, i, hk, rfl, hi, rfl, Or.inl ⟨c1, rfl, rfl⟩⟩) hL (RT.cls hPq107 (by rw [e10, e0, e12, e13]; exact hOq107) hCA hRA (by rw [e0]; exact hCq107) hSq107 hXl103 hT3l103 h1l103 hll103 hPL) hFq107)
          · skip
            exact absurd hp (by omega)
    · skip
      show jj G kR_determinant (d + 12) Q rc rs 12 [some (.ref r), some (.int (nI (k))), some (.int (y)), none, none] [.int (nI (0)), .ref r] M
      refine jn_if_eq (pc := 12) (tgt := 19) kR_determinant_d12 (by decide) (by omega) (fun _ => ?_) (fun c => by exfalso; omega)
      refine jn_iconst (pc := 19) 1 kR_determinant_d19 (by decide) ?_
      have hP_q108 := hP
      have hO_q108 := hO
      refine jj_callV (pc := 20) (b := r) (As := [.int (nI (1))]) kR_determinant_d20 (kvR_R_refuses hG) (kG_cl hG rfl) rfl (RPX.rr e0 e9 e10 e11 hP) rfl rfl rfl (Nat.le_of_ble_eq_true rfl) (Nat.le_of_ble_eq_true rfl) (jj_bare0 rfl) ?_
      refine rm_refuses (c := 1) hG (RPX.rr e0 e9 e10 e11 hP) (by omega) (fun hp => ?_) (fun hp => ?_)
      · skip
        obtain ⟨Mq108, hMq108⟩ : ∃ Mq108, Mq108 = jj_up M r (.inl nR, [.int (nI (1)), .ref f, .ref o, .ref st]) := ⟨_, rfl⟩
        rw [← hMq108]
        obtain ⟨hPq108, hOq108, hCq108, hSq108, hTq108⟩ := RPX.refuse (code' := nI (1)) (M' := Mq108) hP_q108 (by rw [e10, e0, e12, e13]; exact hO_q108) (by rw [e0]; exact hC) hS (by rw [hMq108, e0, e9, e10, e11])
        rw [e0] at hCq108
        rw [e10, e0, e12, e13] at hOq108
        have hFq108 := (RTF.refl M F).trans hTq108
        show jj G kR_determinant (d + 12) Q rc rs 23 [some (.ref r), some (.int (nI (k))), some (.int (y)), none, none] [.int (nI (1))] Mq108
        refine jn_if_eq (pc := 23) (tgt := 27) kR_determinant_d23 (by decide) (by omega) (fun c => by exfalso; omega) (fun _ => ?_)
        exact jj_vret (pc := 26) kR_determinant_d26 rfl (K Mq108 1 σ rc rs (Or.inl ⟨fun h => hn h.2, rfl, rfl⟩) hL (RT.cls hPq108 (by rw [e10, e0, e12, e13]; exact hOq108) hCA hRA (by rw [e0]; exact hCq108) hSq108 hX hT3 h1 htV hPL) hFq108)
      · skip
        exact absurd hp (by omega)
  · skip
    show jj G kR_determinant (d + 12) Q rc rs 5 [some (.ref r), some (.int (x)), some (.int (y)), none, none] [.int (nI (0)), .ref r] M
    refine jn_if_eq (pc := 5) (tgt := 19) kR_determinant_d5 (by decide) (by omega) (fun _ => ?_) (fun c => by exfalso; omega)
    refine jn_iconst (pc := 19) 1 kR_determinant_d19 (by decide) ?_
    have hP_q109 := hP
    have hO_q109 := hO
    refine jj_callV (pc := 20) (b := r) (As := [.int (nI (1))]) kR_determinant_d20 (kvR_R_refuses hG) (kG_cl hG rfl) rfl (RPX.rr e0 e9 e10 e11 hP) rfl rfl rfl (Nat.le_of_ble_eq_true rfl) (Nat.le_of_ble_eq_true rfl) (jj_bare0 rfl) ?_
    refine rm_refuses (c := 1) hG (RPX.rr e0 e9 e10 e11 hP) (by omega) (fun hp => ?_) (fun hp => ?_)
    · skip
      obtain ⟨Mq109, hMq109⟩ : ∃ Mq109, Mq109 = jj_up M r (.inl nR, [.int (nI (1)), .ref f, .ref o, .ref st]) := ⟨_, rfl⟩
      rw [← hMq109]
      obtain ⟨hPq109, hOq109, hCq109, hSq109, hTq109⟩ := RPX.refuse (code' := nI (1)) (M' := Mq109) hP_q109 (by rw [e10, e0, e12, e13]; exact hO_q109) (by rw [e0]; exact hC) hS (by rw [hMq109, e0, e9, e10, e11])
      rw [e0] at hCq109
      rw [e10, e0, e12, e13] at hOq109
      have hFq109 := (RTF.refl M F).trans hTq109
      show jj G kR_determinant (d + 12) Q rc rs 23 [some (.ref r), some (.int (x)), some (.int (y)), none, none] [.int (nI (1))] Mq109
      refine jn_if_eq (pc := 23) (tgt := 27) kR_determinant_d23 (by decide) (by omega) (fun c => by exfalso; omega) (fun _ => ?_)
      exact jj_vret (pc := 26) kR_determinant_d26 rfl (K Mq109 1 σ rc rs (Or.inl ⟨fun h => hn h.1, rfl, rfl⟩) hL (RT.cls hPq109 (by rw [e10, e0, e12, e13]; exact hOq109) hCA hRA (by rw [e0]; exact hCq109) hSq109 hX hT3 h1 htV hPL) hFq109)
    · skip
      exact absurd hp (by omega)
end RM21
