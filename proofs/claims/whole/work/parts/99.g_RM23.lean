/-! ===== the reference: formed, smith (printed by wip/gen/rR4.py) ===== -/
theorem ns_16b : ∀ r, r ≤ 16 → nsum (thG r 142) r ≤ 1178960 := by decide
section RM23
variable {G : jg} {d : Nat} {Q : jq} {rc rs : Nat} {M : mheap} {F : Nat → Nat} {r : Nat} {code : Int32} {σ : rst} {X Z : Nat}
theorem rp_formedS {x y : Int32} (hG : kG G) (e9 : F 9 = r) (hT : RT M F code σ X Z rc rs) (hL : LG σ)
    (K : ∀ M' cd (v : Nat) σ' rc' rs', semSmith σ x y cd v σ' → LG σ' → RT M' F (nI cd) σ' X Z rc' rs' → RTF M M' F → Q (.returned (some (.int (nI v)))) M' rc' rs') : jj G kR_formed (d + 15) Q rc rs 0 (jj_ent [.ref r, .int x, .int y, .int (nI 1)] 7) [] M := by
  obtain ⟨pt, zt, w, vv, pv, D, T, v2, V, t, up, low, P, rk, CA, RA, fi, se, X1, Z1, hP, hO, hCA, hRA, hC, hS, hX, hT3, h1, htV, hPL⟩ := hT.opn
  obtain ⟨f, e0⟩ : ∃ f, F 0 = f := ⟨_, rfl⟩
  obtain ⟨o, e10⟩ : ∃ o, F 10 = o := ⟨_, rfl⟩
  obtain ⟨st, e11⟩ : ∃ st, F 11 = st := ⟨_, rfl⟩
  obtain ⟨ca, e12⟩ : ∃ ca, F 12 = ca := ⟨_, rfl⟩
  obtain ⟨ra, e13⟩ : ∃ ra, F 13 = ra := ⟨_, rfl⟩
  rw [e10, e0, e12, e13] at hO
  rw [e0] at hC
  have hcap := hX.cap
  show jj G kR_formed (d + 15) Q rc rs 0 [some (.ref r), some (.int (x)), some (.int (y)), some (.int (nI (1))), none, none, none] [] M
  refine jj_aload_n (pc := 0) kR_formed_d0 rfl ?_
  refine jj_iload_n (pc := 1) kR_formed_d1 rfl ?_
  refine jj_callS (pc := 2) (As := [.int (x)]) kR_formed_d2 (kvR_R_isRegister hG) rfl rfl rfl (Nat.le_of_ble_eq_true rfl) (Nat.le_of_ble_eq_true rfl) (jj_bare0 rfl) ?_
  refine rm_isRegister (fun k hk ek => ?_) (fun hn => ?_)
  · skip
    subst ek
    show jj G kR_formed (d + 15) Q rc rs 5 [some (.ref r), some (.int (nI (k))), some (.int (y)), some (.int (nI (1))), none, none, none] [.int (nI (1)), .ref r] M
    refine jn_if_eq (pc := 5) (tgt := 19) kR_formed_d5 (by decide) (by omega) (fun c => by exfalso; omega) (fun _ => ?_)
    refine jj_iload_n (pc := 8) kR_formed_d8 rfl ?_
    refine jj_callS (pc := 9) (As := [.int (y)]) kR_formed_d9 (kvR_R_isRegister hG) rfl rfl rfl (Nat.le_of_ble_eq_true rfl) (Nat.le_of_ble_eq_true rfl) (jj_bare0 rfl) ?_
    refine rm_isRegister (fun i hi ei => ?_) (fun hn => ?_)
    · skip
      subst ei
      show jj G kR_formed (d + 15) Q rc rs 12 [some (.ref r), some (.int (nI (k))), some (.int (nI (i))), some (.int (nI (1))), none, none, none] [.int (nI (1)), .ref r] M
      refine jn_if_eq (pc := 12) (tgt := 19) kR_formed_d12 (by decide) (by omega) (fun c => by exfalso; omega) (fun _ => ?_)
      refine jn_iconst (pc := 15) 0 kR_formed_d15 (by decide) ?_
      refine jj_goto (pc := 16) (tgt := 20) kR_formed_d16 (by decide) ?_
      have hP_q101 := hP
      have hO_q101 := hO
      refine jj_callV (pc := 20) (b := r) (As := [.int (nI (0))]) kR_formed_d20 (kvR_R_refuses hG) (kG_cl hG rfl) rfl (RPX.rr e0 e9 e10 e11 hP) rfl rfl rfl (Nat.le_of_ble_eq_true rfl) (Nat.le_of_ble_eq_true rfl) (jj_bare0 rfl) ?_
      refine rm_refuses (c := 0) hG (RPX.rr e0 e9 e10 e11 hP) (by omega) (fun hp => ?_) (fun hp => ?_)
      · skip
        exact absurd hp (by omega)
      · skip
        obtain ⟨Mq101, hMq101⟩ : ∃ Mq101, Mq101 = jj_up M r (.inl nR, [.int (nI (0)), .ref f, .ref o, .ref st]) := ⟨_, rfl⟩
        rw [← hMq101]
        obtain ⟨hPq101, hOq101, hCq101, hSq101, hTq101⟩ := RPX.refuse (code' := nI (0)) (M' := Mq101) hP_q101 (by rw [e10, e0, e12, e13]; exact hO_q101) (by rw [e0]; exact hC) hS (by rw [hMq101, e0, e9, e10, e11])
        rw [e0] at hCq101
        rw [e10, e0, e12, e13] at hOq101
        have hFq101 := (RTF.refl M F).trans hTq101
        show jj G kR_formed (d + 15) Q rc rs 23 [some (.ref r), some (.int (nI (k))), some (.int (nI (i))), some (.int (nI (1))), none, none, none] [.int (nI (0))] Mq101
        refine jn_if_eq (pc := 23) (tgt := 28) kR_formed_d23 (by decide) (by omega) (fun _ => ?_) (fun c => by exfalso; omega)
        refine jj_aload_n (pc := 28) kR_formed_d28 rfl ?_
        refine jj_callV (pc := 29) (b := r) (As := []) kR_formed_d29 (kvR_R_begin hG) (kG_cl hG rfl) rfl (RPX.rr e0 e9 e10 e11 hPq101) rfl rfl rfl (Nat.le_of_ble_eq_true rfl) (Nat.le_of_ble_eq_true rfl) (jj_bare0 rfl) ?_
        refine rm_begin hG e0 e9 e10 e11 hPq101 hCq101 hSq101 hT3 (fun Mb102 hCb102 hSb102 hFb102 => ?_)
        show jj G kR_formed (d + 15) Q rc rs 32 [some (.ref r), some (.int (nI (k))), some (.int (nI (i))), some (.int (nI (1))), none, none, none] [] Mb102
        have hGb102 := (FF.refl Mq101 f).trans hFb102
        refine jj_aload_n (pc := 32) kR_formed_d32 rfl ?_
        refine jj_iload_n (pc := 33) kR_formed_d33 rfl ?_
        refine jj_callV (pc := 34) (b := r) (As := [.int (nI (i))]) kR_formed_d34 (kvR_R_load hG) (kG_cl hG rfl) rfl (RPX.rr e0 e9 e10 e11 (hPq101.ffe e0 hGb102)) rfl rfl rfl (Nat.le_of_ble_eq_true rfl) (Nat.le_of_ble_eq_true rfl) (jj_bare0 rfl) ?_
        refine rm_load hG e0 e9 e10 e11 (hPq101.ffe e0 hGb102) hCb102 hSb102 hX (Nat.zero_le _) h1 (Nat.le_refl 3) hL hi (by omega) (by omega) (fun Ml103 vv Dl103 Tl103 Vl103 upl103 lowl103 Xl103 Zl103 vl103 rcl103 rsl103 hCl103 hSl103 hXl103 tl103 ul103 hol103 hvl103 hll103 hFl103 hml103 => ?_)
        show jj G kR_formed (d + 15) Q rcl103 rsl103 37 [some (.ref r), some (.int (nI (k))), some (.int (nI (i))), some (.int (nI (1))), none, none, none] [.int (nI (0))] Ml103
        obtain ⟨l1l103, l2l103, l3l103, l4l103, l5l103, l6l103⟩ := hL i hi
        obtain ⟨nl103, hnl103⟩ : ∃ nl103, σ.1 i * σ.2.1 i = nl103 := ⟨_, rfl⟩
        have hbl103 : nl103 ≤ 16 * 16 := by rw [← hnl103]; exact Nat.mul_le_mul l3l103 l4l103
        obtain ⟨ttl103, httl103⟩ : ∃ ttl103, 0 + 2 + 2 * nl103 = ttl103 := ⟨_, rfl⟩
        rw [hnl103, httl103] at hCl103 hll103 hml103
        obtain ⟨ldl103, hldl103⟩ : ∃ ldl103, ldS (σ.2.2 i) (σ.1 i * σ.2.1 i) = ldl103 := ⟨_, rfl⟩
        have hlbl103 : ldl103 ≤ 137216 := by rw [← hldl103]; exact ldS_fit l5l103 (by omega)
        rw [hldl103] at ul103
        have hGl103 := hGb102.trans hFl103
        have hcapl103 := hXl103.cap
        have hsl103 : ∀ k', k' < σ.1 i * σ.2.1 i → ZB 267 (σ.2.2 i k').num ∧ ZB 267 ((σ.2.2 i k').den : Int) := fun k' h => ⟨(fit_sizes l5l103 h).1, (fit_sizes l5l103 h).2.1⟩
        have h1l103 : RI Dl103 3 1 1 := h1.congr (Nat.le_refl _) (fun i hi => hol103 i (by omega))
        have hT3l103 : 3 ≤ Tl103 := by omega
        have hA := hml103
        refine jj_istore (pc := 37) kR_formed_d37 (Nat.le_of_ble_eq_true rfl) ?_
        refine jj_aload_n (pc := 39) kR_formed_d39 rfl ?_
        refine jj_aload_n (pc := 40) kR_formed_d40 rfl ?_
        refine jj_getf (pc := 41) kR_formed_d41 (kfR_f hG) (RPX.rr e0 e9 e10 e11 (hPq101.ffe e0 hGl103)) rfl ?_
        refine jj_iload (pc := 44) kR_formed_d44 rfl ?_
        refine jj_callV (pc := 46) (b := f) (As := [.int (nI (0))]) kR_formed_d46 (kvR_RF_isWhole hG) (kG_cl hG rfl) rfl hCl103.1 rfl rfl rfl (Nat.le_of_ble_eq_true rfl) (Nat.le_of_ble_eq_true rfl) (jj_bare0 rfl) ?_
        refine rf_isWhole hG hCl103 hSl103 (h1l103.congr hT3l103 (fun _ _ => rfl)) (by omega) hll103 hA (by rw [hnl103]; omega) (fun hw => ?_) (fun hw => ?_)
        · skip
          show jj G kR_formed (d + 15) Q rcl103 rsl103 49 [some (.ref r), some (.int (nI (k))), some (.int (nI (i))), some (.int (nI (1))), some (.int (nI (0))), none, none] [.int (nI (1)), .ref r] Ml103
          refine jn_if_ne (pc := 49) (tgt := 56) kR_formed_d49 (by decide) (by omega) (fun _ => ?_) (fun c => by exfalso; omega)
          refine jj_aload_n (pc := 56) kR_formed_d56 rfl ?_
          refine jj_iload (pc := 57) kR_formed_d57 rfl ?_
          refine jj_iconst (pc := 59) (v := (-1)) kR_formed_d59 (by decide) ?_
          have hlch104 : ∀ row, row < σ.1 i → ∀ k, k ≤ σ.2.1 i → ZB 267 (lcmf 1 (fun j => (σ.2.2 i (row * σ.2.1 i + j)).den) k) := fun row h1 k h2 => rowlcm_ZB l5l103 h1 h2
          refine jj_callV (pc := 60) (b := r) (As := [.int (nI (0)), .int (-1)]) kR_formed_d60 (kvR_R_isHeavy hG) (kG_cl hG rfl) rfl (RPX.rr e0 e9 e10 e11 (hPq101.ffe e0 hGl103)) rfl rfl rfl (Nat.le_of_ble_eq_true rfl) (Nat.le_of_ble_eq_true rfl) (jj_bare0 rfl) ?_
          refine rm_isHeavy1 (s := 267) (e := 267) (q := σ.2.2 i) (lo := 3) hG ⟨(RPX.rr e0 e9 e10 e11 (hPq101.ffe e0 hGl103)), by rw [← e0, ← e9]; exact (hPq101.ffe e0 hGl103).2.2.2.2.2 0 9 (by decide) (by decide) (by decide)⟩ hCl103 hSl103 (by omega) hll103 hT3l103 (h1l103.congr hT3l103 (fun _ _ => rfl)) hml103 (by omega) (by omega) (by omega) (by omega) hsl103 hlch104 (by omega) (by omega) (fun Mh104 Dh104 vh104 rch104 rsh104 hvh104 hCh104 hSh104 hoh104 hFh104 => ?_) (fun Mh104 Dh104 vh104 rch104 rsh104 hvh104 hCh104 hSh104 hoh104 hFh104 => ?_)
          · skip
            show jj G kR_formed (d + 15) Q rch104 rsh104 63 [some (.ref r), some (.int (nI (k))), some (.int (nI (i))), some (.int (nI (1))), some (.int (nI (0))), none, none] [.int (nI (1)), .ref r] Mh104
            have hGh104 := hGl103.trans hFh104
            have hmxh104 := hml103.congr (lo' := 3) (Nat.le_refl _) hoh104 (Nat.le_refl _) (fun _ _ => rfl) (Nat.le_refl _)
            have h1h104 : RI Dh104 3 1 1 := h1l103.congr (Nat.le_refl _) (fun i hi => hoh104 i (by omega))
            refine jn_if_eq (pc := 63) (tgt := 70) kR_formed_d63 (by decide) (by omega) (fun c => by exfalso; omega) (fun _ => ?_)
            refine jn_iconst (pc := 66) 3 kR_formed_d66 (by decide) ?_
            refine jj_goto (pc := 67) (tgt := 71) kR_formed_d67 (by decide) ?_
            have hP_q105 := (hPq101.ffe e0 hGh104)
            have hO_q105 := (hOq101.ff hGh104)
            refine jj_callV (pc := 71) (b := r) (As := [.int (nI (3))]) kR_formed_d71 (kvR_R_refuses hG) (kG_cl hG rfl) rfl (RPX.rr e0 e9 e10 e11 (hPq101.ffe e0 hGh104)) rfl rfl rfl (Nat.le_of_ble_eq_true rfl) (Nat.le_of_ble_eq_true rfl) (jj_bare0 rfl) ?_
            refine rm_refuses (c := 3) hG (RPX.rr e0 e9 e10 e11 (hPq101.ffe e0 hGh104)) (by omega) (fun hp => ?_) (fun hp => ?_)
            · skip
              obtain ⟨Mq105, hMq105⟩ : ∃ Mq105, Mq105 = jj_up Mh104 r (.inl nR, [.int (nI (3)), .ref f, .ref o, .ref st]) := ⟨_, rfl⟩
              rw [← hMq105]
              obtain ⟨hPq105, hOq105, hCq105, hSq105, hTq105⟩ := RPX.refuse (code' := nI (3)) (M' := Mq105) hP_q105 (by rw [e10, e0, e12, e13]; exact hO_q105) (by rw [e0]; exact hCh104) hSh104 (by rw [hMq105, e0, e9, e10, e11])
              rw [e0] at hCq105
              rw [e10, e0, e12, e13] at hOq105
              have hFq105 := (hFq101.trans (RPX.rte e0 hPq101 hGh104)).trans hTq105
              show jj G kR_formed (d + 15) Q rch104 rsh104 74 [some (.ref r), some (.int (nI (k))), some (.int (nI (i))), some (.int (nI (1))), some (.int (nI (0))), none, none] [.int (nI (1))] Mq105
              refine jn_if_eq (pc := 74) (tgt := 79) kR_formed_d74 (by decide) (by omega) (fun c => by exfalso; omega) (fun _ => ?_)
              refine jn_iconst (pc := 77) 0 kR_formed_d77 (by decide) ?_
              exact jj_iret (pc := 78) kR_formed_d78 rfl (by rfl) (K Mq105 3 0 σ rch104 rsh104 (Or.inr ⟨k, i, hk, rfl, hi, rfl, Or.inr ⟨hw, Or.inl ⟨hvh104, rfl, rfl, rfl⟩⟩⟩) hL (RT.cls hPq105 (by rw [e10, e0, e12, e13]; exact hOq105) hCA hRA (by rw [e0]; exact hCq105) hSq105 hXl103 hT3l103 h1h104 hll103 hPL) hFq105)
            · skip
              exact absurd hp (by omega)
          · skip
            show jj G kR_formed (d + 15) Q rch104 rsh104 63 [some (.ref r), some (.int (nI (k))), some (.int (nI (i))), some (.int (nI (1))), some (.int (nI (0))), none, none] [.int (nI (0)), .ref r] Mh104
            have hGh104 := hGl103.trans hFh104
            have hmxh104 := hml103.congr (lo' := 3) (Nat.le_refl _) hoh104 (Nat.le_refl _) (fun _ _ => rfl) (Nat.le_refl _)
            have h1h104 : RI Dh104 3 1 1 := h1l103.congr (Nat.le_refl _) (fun i hi => hoh104 i (by omega))
            refine jn_if_eq (pc := 63) (tgt := 70) kR_formed_d63 (by decide) (by omega) (fun _ => ?_) (fun c => by exfalso; omega)
            refine jn_iconst (pc := 70) 0 kR_formed_d70 (by decide) ?_
            have hP_q106 := (hPq101.ffe e0 hGh104)
            have hO_q106 := (hOq101.ff hGh104)
            refine jj_callV (pc := 71) (b := r) (As := [.int (nI (0))]) kR_formed_d71 (kvR_R_refuses hG) (kG_cl hG rfl) rfl (RPX.rr e0 e9 e10 e11 (hPq101.ffe e0 hGh104)) rfl rfl rfl (Nat.le_of_ble_eq_true rfl) (Nat.le_of_ble_eq_true rfl) (jj_bare0 rfl) ?_
            refine rm_refuses (c := 0) hG (RPX.rr e0 e9 e10 e11 (hPq101.ffe e0 hGh104)) (by omega) (fun hp => ?_) (fun hp => ?_)
            · skip
              exact absurd hp (by omega)
            · skip
              obtain ⟨Mq106, hMq106⟩ : ∃ Mq106, Mq106 = jj_up Mh104 r (.inl nR, [.int (nI (0)), .ref f, .ref o, .ref st]) := ⟨_, rfl⟩
              rw [← hMq106]
              obtain ⟨hPq106, hOq106, hCq106, hSq106, hTq106⟩ := RPX.refuse (code' := nI (0)) (M' := Mq106) hP_q106 (by rw [e10, e0, e12, e13]; exact hO_q106) (by rw [e0]; exact hCh104) hSh104 (by rw [hMq106, e0, e9, e10, e11])
              rw [e0] at hCq106
              rw [e10, e0, e12, e13] at hOq106
              have hFq106 := (hFq101.trans (RPX.rte e0 hPq101 hGh104)).trans hTq106
              show jj G kR_formed (d + 15) Q rch104 rsh104 74 [some (.ref r), some (.int (nI (k))), some (.int (nI (i))), some (.int (nI (1))), some (.int (nI (0))), none, none] [.int (nI (0))] Mq106
              refine jn_if_eq (pc := 74) (tgt := 79) kR_formed_d74 (by decide) (by omega) (fun _ => ?_) (fun c => by exfalso; omega)
              refine jj_aload_n (pc := 79) kR_formed_d79 rfl ?_
              refine jj_getf (pc := 80) kR_formed_d80 (kfR_forms hG) (RPX.rr e0 e9 e10 e11 hPq106) rfl ?_
              refine jj_iload (pc := 83) kR_formed_d83 rfl ?_
              obtain ⟨b0, w1, w2, w4⟩ := wgt_whole l5l103 l1l103 l2l103 hw hvh104
              have hesz := wgt_ESZ l5l103 l1l103 l2l103 hvh104
              have hEJ := EJ.ofESZ hesz (fun i' hi' => by
                have := rowD_pos (q := σ.2.2 i) (n := σ.2.1 i) (i := i') (z := 1) (by decide)
                exact fun e => by have := Rat.intCast_inj.mp (e.trans (show (0 : Rat) = ((0 : Int) : Rat) from rfl)); omega)
              obtain ⟨Bz, hBz⟩ : ∃ Bz : imat, (fun a b => (σ.2.2 i (a * σ.2.1 i + b)).num) = Bz := ⟨_, rfl⟩
              have hB1 : ∀ a b, a < σ.1 i → b < σ.2.1 i → σ.2.2 i (a * σ.2.1 i + b) = ((Bz a b : Int) : Rat) := fun a b ha hb => by rw [← hBz]; exact (w2 a ha b hb).1
              have hB2 : ∀ a, a < σ.1 i → ∀ b, b < σ.2.1 i → (Bz a b).natAbs ≤ b0 := fun a ha b hb => by rw [← hBz]; exact (w2 a ha b hb).2
              have hpw : (min (σ.1 i) (σ.2.1 i) * b0) ^ min (σ.1 i) (σ.2.1 i) < 32768 ^ 134 := by
                have := pow_s (w := 1) (a := 0) (s := 134) w4 (Nat.le_refl _) (by decide)
                rw [Nat.mul_one] at this
                exact this
              have hb0 : b0 < 32768 ^ 134 := by
                have h9 : b0 ^ 1 ≤ (min (σ.1 i) (σ.2.1 i) * b0) ^ min (σ.1 i) (σ.2.1 i) := Nat.le_trans (Nat.pow_le_pow_left (Nat.le_mul_of_pos_left _ (by omega)) 1) (Nat.pow_le_pow_right (Nat.mul_pos (by omega) w1) (by omega))
                rw [Nat.pow_one] at h9
                omega
              have hldw : ldl103 ≤ 256 * 135 := by
                have h9 : ldS (σ.2.2 i) (σ.1 i * σ.2.1 i) ≤ σ.1 i * σ.2.1 i * (134 + 1) := ldS_whole (fun j hj => by
                  obtain ⟨k1, k2, k3⟩ := at_back hj
                  have h8 := (w2 _ k1 _ k2).2
                  rw [k3] at h8
                  exact ⟨hw j hj, ZB.of_le h8 hb0⟩)
                rw [hldl103, hnl103] at h9
                omega
              obtain ⟨S4, hS4⟩ : ∃ S4, S4 = 1608 := ⟨_, rfl⟩
              obtain ⟨nS, hnS⟩ : ∃ nS, nl103 * S4 = nS := ⟨_, rfl⟩
              have hmS : nS ≤ 16 * 16 * 1608 := by rw [← hnS, hS4]; exact Nat.mul_le_mul_right _ hbl103
              refine jj_callV (pc := 85) (b := o) (As := [.int (nI (0))]) kR_formed_d85 (kvR_RO_rankOf hG) (kG_cl hG rfl) rfl hOq106.1 rfl rfl rfl (Nat.le_of_ble_eq_true rfl) (Nat.le_of_ble_eq_true rfl) (jj_bare0 rfl) ?_
              refine ro_rankOf (s := 401) (S := S4) (E := Tl103 + nS) (A := qA (σ.2.2 i) (σ.2.1 i)) (loa := 3) hG hOq106 hCq106 hSq106 hXl103 hll103 (h1h104.congr hT3l103 (fun _ _ => rfl)) hT3l103 hmxh104 (fun _ _ _ _ => rfl) (by omega) (by omega) hPL hEJ ⟨_, GI_start (fun _ _ _ _ => rfl)⟩ (by omega) (by omega) (by rw [hnl103, hnS]) (by rw [hnl103]; omega) (by rw [hnl103, hnS]; omega) (fun Mr vv Dr Vr Pr upr lowr rkr gr Ar Xr Zr vr rcr rsr hCr hSr hXr hor hvr hlr hFr hgr hrr hsr hPr => ?_)
              show jj G kR_formed (d + 15) Q rcr rsr 88 [some (.ref r), some (.int (nI (k))), some (.int (nI (i))), some (.int (nI (1))), some (.int (nI (0))), none, none] [.int (nI (rkr))] Mr
              have hGr := (FF.refl Mq106 f).trans hFr
              have hcapr := hXr.cap
              have hPL := hPr.trans hPL
              have h1r : RI Dr 3 1 1 := h1h104.congr (Nat.le_refl _) (fun i hi => hor i (by omega))
              have hmr := hmxh104.congr (lo' := 3) (Nat.le_refl _) hor (Nat.le_refl _) hvr (Nat.le_refl _)
              have hrkr := hgr.1
              refine jj_istore (pc := 88) kR_formed_d88 (Nat.le_of_ble_eq_true rfl) ?_
              refine jj_iload_n (pc := 90) kR_formed_d90 rfl ?_
              refine jn_if_eq (pc := 91) (tgt := 106) kR_formed_d91 (by decide) (by omega) (fun c => by exfalso; omega) (fun _ => ?_)
              refine jj_aload_n (pc := 94) kR_formed_d94 rfl ?_
              refine jj_getf (pc := 95) kR_formed_d95 (kfR_forms hG) (RPX.rr e0 e9 e10 e11 (hPq106.ffe e0 hGr)) rfl ?_
              refine jj_iload (pc := 98) kR_formed_d98 rfl ?_
              obtain ⟨S5, hS5⟩ : ∃ S5, S5 = 572 := ⟨_, rfl⟩
              obtain ⟨C2, hC2⟩ : ∃ C2, C2 = 2 * 142 + 2 := ⟨_, rfl⟩
              obtain ⟨C3, hC3⟩ : ∃ C3, C3 = 2 * 143 + 2 := ⟨_, rfl⟩
              obtain ⟨m1, hm1⟩ : ∃ m1, nl103 * S5 = m1 := ⟨_, rfl⟩
              have hm1b : m1 ≤ 16 * 16 * 572 := by rw [← hm1, hS5]; exact Nat.mul_le_mul_right _ hbl103
              obtain ⟨m2, hm2⟩ : ∃ m2, nl103 * C2 = m2 := ⟨_, rfl⟩
              have hm2b : m2 ≤ 16 * 16 * 286 := by rw [← hm2, hC2]; exact Nat.mul_le_mul_right _ hbl103
              obtain ⟨m3, hm3⟩ : ∃ m3, nl103 * C3 = m3 := ⟨_, rfl⟩
              have hm3b : m3 ≤ 16 * 16 * 288 := by rw [← hm3, hC3]; exact Nat.mul_le_mul_right _ hbl103
              obtain ⟨m4, hm4⟩ : ∃ m4, 2 * nl103 * C2 = m4 := ⟨_, rfl⟩
              have hm4b : m4 ≤ 146432 := by rw [← hm4, hC2]; exact Nat.mul_le_mul_right 286 (show 2 * nl103 ≤ 512 by omega)
              have hMB : MBD (zq Bz) (σ.1 i) (σ.2.1 i) (2 ^ 2000) := fun k' f' c' hk' hf' hc' => by
                have h9 := zle_det (K := min (σ.1 i) (σ.2.1 i)) (b := b0) (n := k') (M := fun a b => zq Bz (f' a) (c' b)) hk' (fun a ha b hb => ⟨Bz (f' a) (c' b), rfl, hB2 _ (hf' a ha) _ (hc' b hb)⟩)
                exact zle_mono h9 (Nat.le_trans (Nat.pow_le_pow_right (Nat.mul_pos (by omega) w1) hk') w4)
              have hrkc := gjinv_le hgr
              have hRR : ∀ H r' g', hermF H (σ.2.1 i) r' g' → rowsZ H r' Bz (σ.1 i) (σ.2.1 i) → rowsZ Bz (σ.1 i) H r' (σ.2.1 i) → r' = rkr := fun H r' g' q1 q2 q3 => (herm_rank q1 q2 q3 hgr hrr hsr (fun a ha b hb => by rw [show qA (σ.2.2 i) (σ.2.1 i) a b = σ.2.2 i (a * σ.2.1 i + b) from rfl, hB1 a b ha hb]; rfl)).symm
              have hF120 : 2 ^ 120 * 2 ^ 2000 < 32768 ^ 142 := by rw [show (32768 : Nat) = 2 ^ 15 from rfl, ← Nat.pow_mul, ← Nat.pow_add]; exact Nat.pow_lt_pow_right (by decide) (by decide)
              have hF0 : 2 ^ 2000 < 32768 ^ 142 := by rw [show (32768 : Nat) = 2 ^ 15 from rfl, ← Nat.pow_mul]; exact Nat.pow_lt_pow_right (by decide) (by decide)
              obtain ⟨FF0, eFF⟩ : ∃ z, z = 2 ^ 2000 := ⟨_, rfl⟩
              rw [← eFF] at hMB hF120 hF0
              have hSMJ : SMJ2 (SST Bz (σ.1 i) (σ.2.1 i) rkr FF0) (SSG rkr) 142 142 := sst_smj (by omega) hF120 hRR
              have hDGJ : DGJ (SDJ Bz (σ.1 i) (σ.2.1 i) rkr FF0) (σ.1 i) (σ.2.1 i) 142 := sdj_dgj hF0
              have hST := sst_start (R0 := rkr) hMB (by omega)
              refine jj_callV (pc := 100) (b := o) (As := [.int (nI (0))]) kR_formed_d100 (kvR_RO_smith hG) (kG_cl hG rfl) rfl (hOq106.ff hGr).1 rfl rfl rfl (Nat.le_of_ble_eq_true rfl) (Nat.le_of_ble_eq_true rfl) (jj_bare0 rfl) ?_
              refine ro_smith2 (s := 142) (sd := 142) (e := 143) (S := S5) (LIM := 146432) (NS := 1178960) (Bz := Bz) (lob := 3) (SJ := SST Bz (σ.1 i) (σ.2.1 i) rkr FF0) (SG := SSG rkr) (DJ := SDJ Bz (σ.1 i) (σ.2.1 i) rkr FF0) hG (hOq106.ff hGr) hCr hSr hXr hlr (h1r.congr hT3l103 (fun _ _ => rfl)) hT3l103 hmr (fun a ha b hb => hB1 a b ha hb) (by omega) (by omega) (by omega) (by omega) hPL hCA hRA hSMJ hST (Nat.le_refl _) (by omega) (by omega) (by omega) (by omega) (by omega) (by rw [hnl103, ← hC2, hm4]; exact hm4b) (fun r' h1' h2' => ns_16b r' (by omega)) (by rw [hnl103]; omega) (by rw [hnl103, ← hC2, ← hC3, hm1, hm2, hm3, hm4]; omega) (by rw [hnl103, ← hC2, ← hC3, hm1, hm2, hm3]; omega) hDGJ (fun N B q1 q2 q3 => sst_link q1 q2 q3) (by rw [hnl103, ← hC3, hm3]; omega) (fun ih jh Bh Mh vv Dh Th Vh Ph uph lowh rkh CAh RAh fih seh Xh Zh vh rch rsh hih hJh hPh_ hCAh hRAh hOh hCh hSh hXh th uh hoh hvh hlh hGh hmh => ?_)
              show jj G kR_formed (d + 15) Q rch rsh 103 [some (.ref r), some (.int (nI (k))), some (.int (nI (i))), some (.int (nI (1))), some (.int (nI (0))), some (.int (nI (rkr))), none] [.int (nI (ttl103))] Mh
              have hPL := hPh_
              have hCA := hCAh
              have hRA := hRAh
              have hszB := hDGJ.2.2 _ _ _ hJh
              obtain ⟨⟨j1, j2, j3, j4, j5⟩, j6, j7⟩ := hJh
              obtain ⟨tth, htth⟩ : ∃ tth, ttl103 + 2 + 2 * nl103 = tth := ⟨_, rfl⟩
              rw [hnl103, htth] at hCh hlh hmh
              rw [hnl103, ← hC3, hm3] at uh
              have hcaph := hXh.cap
              have h1h : RI Dh 3 1 1 := h1r.congr (Nat.le_refl _) (fun i hi => hoh i (by omega))
              have hT3h : 3 ≤ Th := by omega
              obtain ⟨sv, hsv⟩ : ∃ sv : Nat → Int, (fun a => if a < min (σ.1 i) (σ.2.1 i) then Bh a a else 0) = sv := ⟨_, rfl⟩
              have sv1 : ∀ a, a < min (σ.1 i) (σ.2.1 i) → sv a = Bh a a := fun a ha => by rw [← hsv]; exact if_pos ha
              have sv0 : ∀ a, ¬ a < min (σ.1 i) (σ.2.1 i) → sv a = 0 := fun a ha => by rw [← hsv]; exact if_neg ha
              have q1 : ∀ a b, a ≤ b → sv a ∣ sv b := fun a b hab => by
                by_cases c1 : b < min (σ.1 i) (σ.2.1 i)
                · by_cases c2 : a = b
                  · rw [c2]; exact Int.dvd_refl _
                  · rw [sv1 a (by omega), sv1 b c1]; exact j6 a (by omega) b (by omega) c1
                · rw [sv0 b c1]; exact Int.dvd_zero _
              have q2 : ∀ a, 0 ≤ sv a := fun a => by
                by_cases c1 : a < min (σ.1 i) (σ.2.1 i)
                · rw [sv1 a c1]; exact (j3 a c1).1
                · rw [sv0 a c1]; exact Int.le_refl _
              have q0 : ∀ a, a < σ.1 i → ∀ b, b < σ.2.1 i → (if a = b then sv a else 0) = Bh a b := fun a ha b hb => by
                by_cases c1 : a = b
                · subst c1
                  rw [if_pos rfl, sv1 a (by omega)]
                · rw [if_neg c1, j1 a ha b hb c1]
              have q3 : eqvZ (fun a b => if a = b then sv a else 0) Bz (σ.1 i) (σ.2.1 i) := ⟨madeZ_congr j4.1 q0 (fun _ _ _ _ => rfl), madeZ_congr j4.2 (fun _ _ _ _ => rfl) (fun a ha b hb => (q0 a ha b hb).symm)⟩
              have q4 : ∀ j, j < min (σ.1 i) (σ.2.1 i) → (sv j = 0 ↔ rkr ≤ j) := fun j hj => by rw [sv1 j hj]; exact (j3 j hj).2
              obtain ⟨qz, hqz⟩ : ∃ qz : Nat → Rat, (fun t => if t / σ.2.1 i = t % σ.2.1 i ∧ t / σ.2.1 i < σ.1 i then ((sv (t / σ.2.1 i) : Int) : Rat) else 0) = qz := ⟨_, rfl⟩
              have hqB : ∀ t, t < σ.1 i * σ.2.1 i → ((Bh (t / σ.2.1 i) (t % σ.2.1 i) : Int) : Rat) = qz t := fun t ht => by
                obtain ⟨k1, k2, k3⟩ := at_back ht
                rw [← hqz, ← q0 _ k1 _ k2]
                by_cases c1 : t / σ.2.1 i = t % σ.2.1 i
                · show _ = if t / σ.2.1 i = t % σ.2.1 i ∧ t / σ.2.1 i < σ.1 i then ((sv (t / σ.2.1 i) : Int) : Rat) else 0
                  rw [if_pos c1, if_pos ⟨c1, k1⟩]
                · show _ = if t / σ.2.1 i = t % σ.2.1 i ∧ t / σ.2.1 i < σ.1 i then ((sv (t / σ.2.1 i) : Int) : Rat) else 0
                  rw [if_neg c1, if_neg (fun g => c1 g.1)]
                  rfl
              have hmh' := (hmh.toMX (h1h.congr hT3h (fun _ _ => rfl))).eqv hqB
              have hsz : ∀ k', k' < σ.1 i * σ.2.1 i → ZB 142 (qz k').num ∧ ZB 142 ((qz k').den : Int) := fun k' hk' => by
                obtain ⟨k1, k2, k3⟩ := at_back hk'
                rw [← hqB k' hk']
                exact ⟨hszB.1 _ _ k1 k2, show 1 < 32768 ^ 142 from Nat.one_lt_pow (by omega) (by decide)⟩
              obtain ⟨hPh, hTh⟩ := RPX.of (hPq106.ffe e0 hGr) (by rw [e10, e0, e12, e13]; exact (hOq106.ff hGr)) (by rw [e10, e0, e12, e13]; exact hOh) (by rw [e10]; exact hGh)
              have hTFh := (hFq106.trans (RPX.rte e0 hPq106 hGr)).trans hTh
              refine jj_goto (pc := 103) (tgt := 115) kR_formed_d103 (by decide) ?_
              refine jj_istore (pc := 115) kR_formed_d115 (Nat.le_of_ble_eq_true rfl) ?_
              refine jj_aload_n (pc := 117) kR_formed_d117 rfl ?_
              refine jj_iload_n (pc := 118) kR_formed_d118 rfl ?_
              refine jj_iload (pc := 119) kR_formed_d119 rfl ?_
              refine jn_iconst (pc := 121) 3 kR_formed_d121 (by decide) ?_
              refine jj_callV (pc := 122) (b := r) (As := [.int (nI (k)), .int (nI (ttl103)), .int (nI (3))]) kR_formed_d122 (kvR_R_puts hG) (kG_cl hG rfl) rfl (RPX.rr e0 e9 e10 e11 hPh) rfl rfl rfl (Nat.le_of_ble_eq_true rfl) (Nat.le_of_ble_eq_true rfl) (jj_bare0 rfl) ?_
              refine rm_puts (s := 142) (lo := 0) (qn := qz) (Rn := σ.1 i) (cn := σ.2.1 i) hG e0 e9 e10 e11 hPh hCh e12 e13 hOh hCA hRA hSh hXh hlh h1h hT3h hPL hk (by omega) (by omega) hmh' (by omega) (by omega) hsz (by omega) (by omega) (fun M8 rc8 rs8 hnf hR8 hT8 => ?_) (fun M8 rc8 rs8 w8 vv8 pv8 V8 t8 up8 low8 P8 rk8 hfit hR8 hT8 hC8 hg8 hl8 hb8 => ?_)
              · skip
                subst hqz
                show jj G kR_formed (d + 15) Q rc8 rs8 125 [some (.ref r), some (.int (nI (k))), some (.int (nI (i))), some (.int (nI (1))), some (.int (nI (0))), some (.int (nI (rkr))), some (.int (nI (ttl103)))] [.int (nI (0))] M8
                refine jn_if_eq (pc := 125) (tgt := 133) kR_formed_d125 (by decide) (by omega) (fun _ => ?_) (fun c => by exfalso; omega)
                refine jn_iconst (pc := 133) 0 kR_formed_d133 (by decide) ?_
                exact jj_iret (pc := 134) kR_formed_d134 rfl (by rfl) (K M8 3 0 σ rc8 rs8 (Or.inr ⟨k, i, hk, rfl, hi, rfl, Or.inr ⟨hw, Or.inr ⟨hvh104, Bz, sv, rkr, hB1, q1, q2, q3, q4, j2, Or.inr ⟨hnf, rfl, rfl, rfl⟩⟩⟩⟩) hL hR8 (hTFh.trans hT8))
              · skip
                subst hqz
                show jj G kR_formed (d + 15) Q rc8 rs8 125 [some (.ref r), some (.int (nI (k))), some (.int (nI (i))), some (.int (nI (1))), some (.int (nI (0))), some (.int (nI (rkr))), some (.int (nI (ttl103)))] [.int (nI (1))] M8
                refine jn_if_eq (pc := 125) (tgt := 133) kR_formed_d125 (by decide) (by omega) (fun c => by exfalso; omega) (fun _ => ?_)
                refine jj_iload (pc := 128) kR_formed_d128 rfl ?_
                refine jj_goto (pc := 130) (tgt := 134) kR_formed_d130 (by decide) ?_
                exact jj_iret (pc := 134) kR_formed_d134 rfl (by rfl) (K M8 0 rkr _ rc8 rs8 (Or.inr ⟨k, i, hk, rfl, hi, rfl, Or.inr ⟨hw, Or.inr ⟨hvh104, Bz, sv, rkr, hB1, q1, q2, q3, q4, j2, Or.inl ⟨hfit, rfl, rfl, rfl⟩⟩⟩⟩) (hL.rup (by omega) (by omega) hfit) hR8 (hTFh.trans hT8))
        · skip
          show jj G kR_formed (d + 15) Q rcl103 rsl103 49 [some (.ref r), some (.int (nI (k))), some (.int (nI (i))), some (.int (nI (1))), some (.int (nI (0))), none, none] [.int (nI (0)), .ref r] Ml103
          refine jn_if_ne (pc := 49) (tgt := 56) kR_formed_d49 (by decide) (by omega) (fun c => by exfalso; omega) (fun _ => ?_)
          refine jn_iconst (pc := 52) 2 kR_formed_d52 (by decide) ?_
          refine jj_goto (pc := 53) (tgt := 71) kR_formed_d53 (by decide) ?_
          have hP_q107 := (hPq101.ffe e0 hGl103)
          have hO_q107 := (hOq101.ff hGl103)
          refine jj_callV (pc := 71) (b := r) (As := [.int (nI (2))]) kR_formed_d71 (kvR_R_refuses hG) (kG_cl hG rfl) rfl (RPX.rr e0 e9 e10 e11 (hPq101.ffe e0 hGl103)) rfl rfl rfl (Nat.le_of_ble_eq_true rfl) (Nat.le_of_ble_eq_true rfl) (jj_bare0 rfl) ?_
          refine rm_refuses (c := 2) hG (RPX.rr e0 e9 e10 e11 (hPq101.ffe e0 hGl103)) (by omega) (fun hp => ?_) (fun hp => ?_)
          · skip
            obtain ⟨Mq107, hMq107⟩ : ∃ Mq107, Mq107 = jj_up Ml103 r (.inl nR, [.int (nI (2)), .ref f, .ref o, .ref st]) := ⟨_, rfl⟩
            rw [← hMq107]
            obtain ⟨hPq107, hOq107, hCq107, hSq107, hTq107⟩ := RPX.refuse (code' := nI (2)) (M' := Mq107) hP_q107 (by rw [e10, e0, e12, e13]; exact hO_q107) (by rw [e0]; exact hCl103) hSl103 (by rw [hMq107, e0, e9, e10, e11])
            rw [e0] at hCq107
            rw [e10, e0, e12, e13] at hOq107
            have hFq107 := (hFq101.trans (RPX.rte e0 hPq101 hGl103)).trans hTq107
            show jj G kR_formed (d + 15) Q rcl103 rsl103 74 [some (.ref r), some (.int (nI (k))), some (.int (nI (i))), some (.int (nI (1))), some (.int (nI (0))), none, none] [.int (nI (1))] Mq107
            refine jn_if_eq (pc := 74) (tgt := 79) kR_formed_d74 (by decide) (by omega) (fun c => by exfalso; omega) (fun _ => ?_)
            refine jn_iconst (pc := 77) 0 kR_formed_d77 (by decide) ?_
            exact jj_iret (pc := 78) kR_formed_d78 rfl (by rfl) (K Mq107 2 0 σ rcl103 rsl103 (Or.inr ⟨k, i, hk, rfl, hi, rfl, Or.inl ⟨hw, rfl, rfl, rfl⟩⟩) hL (RT.cls hPq107 (by rw [e10, e0, e12, e13]; exact hOq107) hCA hRA (by rw [e0]; exact hCq107) hSq107 hXl103 hT3l103 h1l103 hll103 hPL) hFq107)
          · skip
            exact absurd hp (by omega)
    · skip
      show jj G kR_formed (d + 15) Q rc rs 12 [some (.ref r), some (.int (nI (k))), some (.int (y)), some (.int (nI (1))), none, none, none] [.int (nI (0)), .ref r] M
      refine jn_if_eq (pc := 12) (tgt := 19) kR_formed_d12 (by decide) (by omega) (fun _ => ?_) (fun c => by exfalso; omega)
      refine jn_iconst (pc := 19) 1 kR_formed_d19 (by decide) ?_
      have hP_q108 := hP
      have hO_q108 := hO
      refine jj_callV (pc := 20) (b := r) (As := [.int (nI (1))]) kR_formed_d20 (kvR_R_refuses hG) (kG_cl hG rfl) rfl (RPX.rr e0 e9 e10 e11 hP) rfl rfl rfl (Nat.le_of_ble_eq_true rfl) (Nat.le_of_ble_eq_true rfl) (jj_bare0 rfl) ?_
      refine rm_refuses (c := 1) hG (RPX.rr e0 e9 e10 e11 hP) (by omega) (fun hp => ?_) (fun hp => ?_)
      · skip
        obtain ⟨Mq108, hMq108⟩ : ∃ Mq108, Mq108 = jj_up M r (.inl nR, [.int (nI (1)), .ref f, .ref o, .ref st]) := ⟨_, rfl⟩
        rw [← hMq108]
        obtain ⟨hPq108, hOq108, hCq108, hSq108, hTq108⟩ := RPX.refuse (code' := nI (1)) (M' := Mq108) hP_q108 (by rw [e10, e0, e12, e13]; exact hO_q108) (by rw [e0]; exact hC) hS (by rw [hMq108, e0, e9, e10, e11])
        rw [e0] at hCq108
        rw [e10, e0, e12, e13] at hOq108
        have hFq108 := (RTF.refl M F).trans hTq108
        show jj G kR_formed (d + 15) Q rc rs 23 [some (.ref r), some (.int (nI (k))), some (.int (y)), some (.int (nI (1))), none, none, none] [.int (nI (1))] Mq108
        refine jn_if_eq (pc := 23) (tgt := 28) kR_formed_d23 (by decide) (by omega) (fun c => by exfalso; omega) (fun _ => ?_)
        refine jn_iconst (pc := 26) 0 kR_formed_d26 (by decide) ?_
        exact jj_iret (pc := 27) kR_formed_d27 rfl (by rfl) (K Mq108 1 0 σ rc rs (Or.inl ⟨fun h => hn h.2, rfl, rfl, rfl⟩) hL (RT.cls hPq108 (by rw [e10, e0, e12, e13]; exact hOq108) hCA hRA (by rw [e0]; exact hCq108) hSq108 hX hT3 h1 htV hPL) hFq108)
      · skip
        exact absurd hp (by omega)
  · skip
    show jj G kR_formed (d + 15) Q rc rs 5 [some (.ref r), some (.int (x)), some (.int (y)), some (.int (nI (1))), none, none, none] [.int (nI (0)), .ref r] M
    refine jn_if_eq (pc := 5) (tgt := 19) kR_formed_d5 (by decide) (by omega) (fun _ => ?_) (fun c => by exfalso; omega)
    refine jn_iconst (pc := 19) 1 kR_formed_d19 (by decide) ?_
    have hP_q109 := hP
    have hO_q109 := hO
    refine jj_callV (pc := 20) (b := r) (As := [.int (nI (1))]) kR_formed_d20 (kvR_R_refuses hG) (kG_cl hG rfl) rfl (RPX.rr e0 e9 e10 e11 hP) rfl rfl rfl (Nat.le_of_ble_eq_true rfl) (Nat.le_of_ble_eq_true rfl) (jj_bare0 rfl) ?_
    refine rm_refuses (c := 1) hG (RPX.rr e0 e9 e10 e11 hP) (by omega) (fun hp => ?_) (fun hp => ?_)
    · skip
      obtain ⟨Mq109, hMq109⟩ : ∃ Mq109, Mq109 = jj_up M r (.inl nR, [.int (nI (1)), .ref f, .ref o, .ref st]) := ⟨_, rfl⟩
      rw [← hMq109]
      obtain ⟨hPq109, hOq109, hCq109, hSq109, hTq109⟩ := RPX.refuse (code' := nI (1)) (M' := Mq109) hP_q109 (by rw [e10, e0, e12, e13]; exact hO_q109) (by rw [e0]; exact hC) hS (by rw [hMq109, e0, e9, e10, e11])
      rw [e0] at hCq109
      rw [e10, e0, e12, e13] at hOq109
      have hFq109 := (RTF.refl M F).trans hTq109
      show jj G kR_formed (d + 15) Q rc rs 23 [some (.ref r), some (.int (x)), some (.int (y)), some (.int (nI (1))), none, none, none] [.int (nI (1))] Mq109
      refine jn_if_eq (pc := 23) (tgt := 28) kR_formed_d23 (by decide) (by omega) (fun c => by exfalso; omega) (fun _ => ?_)
      refine jn_iconst (pc := 26) 0 kR_formed_d26 (by decide) ?_
      exact jj_iret (pc := 27) kR_formed_d27 rfl (by rfl) (K Mq109 1 0 σ rc rs (Or.inl ⟨fun h => hn h.1, rfl, rfl, rfl⟩) hL (RT.cls hPq109 (by rw [e10, e0, e12, e13]; exact hOq109) hCA hRA (by rw [e0]; exact hCq109) hSq109 hX hT3 h1 htV hPL) hFq109)
    · skip
      exact absurd hp (by omega)
theorem rp_smith {x y : Int32} (hG : kG G) (e9 : F 9 = r) (hT : RT M F code σ X Z rc rs) (hL : LG σ)
    (K : ∀ M' cd (v : Nat) σ' rc' rs', semSmith σ x y cd v σ' → LG σ' → RT M' F (nI cd) σ' X Z rc' rs' → RTF M M' F → Q (.returned (some (.int (nI v)))) M' rc' rs') : jj G kR_smith (d + 16) Q rc rs 0 (jj_ent [.ref r, .int x, .int y] 3) [] M := by
  obtain ⟨pt, zt, w, vv, pv, D, T, v2, V, t, up, low, P, rk, CA, RA, fi, se, X1, Z1, hP, hO, hCA, hRA, hC, hS, hX, hT3, h1, htV, hPL⟩ := hT.opn
  obtain ⟨f, e0⟩ : ∃ f, F 0 = f := ⟨_, rfl⟩
  obtain ⟨o, e10⟩ : ∃ o, F 10 = o := ⟨_, rfl⟩
  obtain ⟨st, e11⟩ : ∃ st, F 11 = st := ⟨_, rfl⟩
  obtain ⟨ca, e12⟩ : ∃ ca, F 12 = ca := ⟨_, rfl⟩
  obtain ⟨ra, e13⟩ : ∃ ra, F 13 = ra := ⟨_, rfl⟩
  rw [e10, e0, e12, e13] at hO
  rw [e0] at hC
  have hcap := hX.cap
  show jj G kR_smith (d + 16) Q rc rs 0 [some (.ref r), some (.int (x)), some (.int (y))] [] M
  refine jj_aload_n (pc := 0) kR_smith_d0 rfl ?_
  refine jj_iload_n (pc := 1) kR_smith_d1 rfl ?_
  refine jj_iload_n (pc := 2) kR_smith_d2 rfl ?_
  refine jn_iconst (pc := 3) 1 kR_smith_d3 (by decide) ?_
  refine jj_callV (pc := 4) (b := r) (As := [.int (x), .int (y), .int (nI (1))]) kR_smith_d4 (kvR_R_formed hG) (kG_cl hG rfl) rfl (RPX.rr e0 e9 e10 e11 hP) rfl rfl rfl (Nat.le_of_ble_eq_true rfl) (Nat.le_of_ble_eq_true rfl) (jj_bare0 rfl) ?_
  refine rp_formedS hG e9 hT hL (fun M8 cd v σ8 rc8 rs8 h1_ h2_ h3_ h4_ => ?_)
  show jj G kR_smith (d + 16) Q rc8 rs8 7 [some (.ref r), some (.int (x)), some (.int (y))] [.int (nI (v))] M8
  exact jj_iret (pc := 7) kR_smith_d7 rfl (by rfl) (K M8 cd v σ8 rc8 rs8 h1_ h2_ h3_ h4_)
end RM23
