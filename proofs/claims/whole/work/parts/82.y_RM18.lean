/-! ===== the reference: kernel, determinant (printed by wip/gen/rm18.py) ===== -/
section RM18
variable {G : jg} {d : Nat} {Q : jq} {rc rs : Nat} {M : mheap} {F : Nat → Nat} {r : Nat} {code : Int32} {σ : rst} {X Z : Nat}
theorem rp_kernel {x y : Int32} (hG : kG G) (e9 : F 9 = r) (hT : RT M F code σ X Z rc rs) (hL : LG σ)
(K : ∀ M' cd (v : Nat) σ' rc' rs', semKer σ x y cd v σ' → LG σ' → RT M' F (nI cd) σ' X Z rc' rs' → RTF M M' F → Q (.returned (some (.int (nI v)))) M' rc' rs') : jj G kR_kernel (d + 14) Q rc rs 0 (jj_ent [.ref r, .int x, .int y] 5) [] M := by
  obtain ⟨pt, zt, w, vv, pv, D, T, v2, V, t, up, low, P, rk, CA, RA, fi, se, X1, Z1, hP, hO, hCA, hRA, hC, hS, hX, hT3, h1, htV, hPL⟩ := hT.opn
  obtain ⟨f, e0⟩ : ∃ f, F 0 = f := ⟨_, rfl⟩
  obtain ⟨o, e10⟩ : ∃ o, F 10 = o := ⟨_, rfl⟩
  obtain ⟨st, e11⟩ : ∃ st, F 11 = st := ⟨_, rfl⟩
  obtain ⟨ca, e12⟩ : ∃ ca, F 12 = ca := ⟨_, rfl⟩
  obtain ⟨ra, e13⟩ : ∃ ra, F 13 = ra := ⟨_, rfl⟩
  rw [e10, e0, e12, e13] at hO
  rw [e0] at hC
  have hcap := hX.cap
  show jj G kR_kernel (d + 14) Q rc rs 0 [some (.ref r), some (.int (x)), some (.int (y)), none, none] [] M
  refine jj_aload_n (pc := 0) kR_kernel_d0 rfl ?_
  refine jj_iload_n (pc := 1) kR_kernel_d1 rfl ?_
  refine jj_callS (pc := 2) (As := [.int (x)]) kR_kernel_d2 (kvR_R_isRegister hG) rfl rfl rfl (Nat.le_of_ble_eq_true rfl) (Nat.le_of_ble_eq_true rfl) (jj_bare0 rfl) ?_
  refine rm_isRegister (fun k hk ek => ?_) (fun hn => ?_)
  · skip
    subst ek
    show jj G kR_kernel (d + 14) Q rc rs 5 [some (.ref r), some (.int (nI (k))), some (.int (y)), none, none] [.int (nI (1)), .ref r] M
    refine jn_if_eq (pc := 5) (tgt := 19) kR_kernel_d5 (by decide) (by omega) (fun c => by exfalso; omega) (fun _ => ?_)
    refine jj_iload_n (pc := 8) kR_kernel_d8 rfl ?_
    refine jj_callS (pc := 9) (As := [.int (y)]) kR_kernel_d9 (kvR_R_isRegister hG) rfl rfl rfl (Nat.le_of_ble_eq_true rfl) (Nat.le_of_ble_eq_true rfl) (jj_bare0 rfl) ?_
    refine rm_isRegister (fun i hi ei => ?_) (fun hn => ?_)
    · skip
      subst ei
      show jj G kR_kernel (d + 14) Q rc rs 12 [some (.ref r), some (.int (nI (k))), some (.int (nI (i))), none, none] [.int (nI (1)), .ref r] M
      refine jn_if_eq (pc := 12) (tgt := 19) kR_kernel_d12 (by decide) (by omega) (fun c => by exfalso; omega) (fun _ => ?_)
      refine jn_iconst (pc := 15) 0 kR_kernel_d15 (by decide) ?_
      refine jj_goto (pc := 16) (tgt := 20) kR_kernel_d16 (by decide) ?_
      have hP_q101 := hP
      have hO_q101 := hO
      refine jj_callV (pc := 20) (b := r) (As := [.int (nI (0))]) kR_kernel_d20 (kvR_R_refuses hG) (kG_cl hG rfl) rfl (RPX.rr e0 e9 e10 e11 hP) rfl rfl rfl (Nat.le_of_ble_eq_true rfl) (Nat.le_of_ble_eq_true rfl) (jj_bare0 rfl) ?_
      refine rm_refuses (c := 0) hG (RPX.rr e0 e9 e10 e11 hP) (by omega) (fun hp => ?_) (fun hp => ?_)
      · skip
        exact absurd hp (by omega)
      · skip
        obtain ⟨Mq101, hMq101⟩ : ∃ Mq101, Mq101 = jj_up M r (.inl nR, [.int (nI (0)), .ref f, .ref o, .ref st]) := ⟨_, rfl⟩
        rw [← hMq101]
        obtain ⟨hPq101, hOq101, hCq101, hSq101, hTq101⟩ := RPX.refuse (code' := nI (0)) (M' := Mq101) hP_q101 (by rw [e10, e0, e12, e13]; exact hO_q101) (by rw [e0]; exact hC) hS (by rw [hMq101, e0, e9, e10, e11])
        rw [e0] at hCq101
        rw [e10, e0, e12, e13] at hOq101
        have hFq101 := (RTF.refl M F).trans hTq101
        show jj G kR_kernel (d + 14) Q rc rs 23 [some (.ref r), some (.int (nI (k))), some (.int (nI (i))), none, none] [.int (nI (0))] Mq101
        refine jn_if_eq (pc := 23) (tgt := 28) kR_kernel_d23 (by decide) (by omega) (fun _ => ?_) (fun c => by exfalso; omega)
        refine jj_aload_n (pc := 28) kR_kernel_d28 rfl ?_
        refine jj_callV (pc := 29) (b := r) (As := []) kR_kernel_d29 (kvR_R_begin hG) (kG_cl hG rfl) rfl (RPX.rr e0 e9 e10 e11 hPq101) rfl rfl rfl (Nat.le_of_ble_eq_true rfl) (Nat.le_of_ble_eq_true rfl) (jj_bare0 rfl) ?_
        refine rm_begin hG e0 e9 e10 e11 hPq101 hCq101 hSq101 hT3 (fun Mb102 hCb102 hSb102 hFb102 => ?_)
        show jj G kR_kernel (d + 14) Q rc rs 32 [some (.ref r), some (.int (nI (k))), some (.int (nI (i))), none, none] [] Mb102
        have hGb102 := (FF.refl Mq101 f).trans hFb102
        refine jj_aload_n (pc := 32) kR_kernel_d32 rfl ?_
        refine jj_iload_n (pc := 33) kR_kernel_d33 rfl ?_
        refine jj_callV (pc := 34) (b := r) (As := [.int (nI (i))]) kR_kernel_d34 (kvR_R_load hG) (kG_cl hG rfl) rfl (RPX.rr e0 e9 e10 e11 (hPq101.ffe e0 hGb102)) rfl rfl rfl (Nat.le_of_ble_eq_true rfl) (Nat.le_of_ble_eq_true rfl) (jj_bare0 rfl) ?_
        refine rm_load hG e0 e9 e10 e11 (hPq101.ffe e0 hGb102) hCb102 hSb102 hX (Nat.zero_le _) h1 (Nat.le_refl 3) hL hi (by omega) (by omega) (fun Ml103 vv Dl103 Tl103 Vl103 upl103 lowl103 Xl103 Zl103 vl103 rcl103 rsl103 hCl103 hSl103 hXl103 tl103 ul103 hol103 hvl103 hll103 hFl103 hml103 => ?_)
        show jj G kR_kernel (d + 14) Q rcl103 rsl103 37 [some (.ref r), some (.int (nI (k))), some (.int (nI (i))), none, none] [.int (nI (0))] Ml103
        obtain ⟨l1l103, l2l103, l3l103, l4l103, l5l103, l6l103⟩ := hL i hi
        obtain ⟨nl103, hnl103⟩ : ∃ nl103, σ.1 i * σ.2.1 i = nl103 := ⟨_, rfl⟩
        have hbl103 : nl103 ≤ 16 * 16 := by rw [← hnl103]; exact Nat.mul_le_mul l3l103 l4l103
        obtain ⟨ttl103, httl103⟩ : ∃ ttl103, 0 + 2 + 2 * nl103 = ttl103 := ⟨_, rfl⟩
        rw [hnl103, httl103] at hCl103 hll103 hml103
        obtain ⟨ldl103, hldl103⟩ : ∃ ldl103, ldS (σ.2.2 i) (σ.1 i * σ.2.1 i) = ldl103 := ⟨_, rfl⟩
        have hlbl103 : ldl103 ≤ 137216 := by rw [← hldl103]; exact ldS_fit l5l103 (by omega)
        rw [hldl103] at ul103
        have hGl103 := hGb102.trans hFl103
        have hcapl103 := hXl103.cap
        have hsl103 : ∀ k', k' < σ.1 i * σ.2.1 i → ZB 267 (σ.2.2 i k').num ∧ ZB 267 ((σ.2.2 i k').den : Int) := fun k' h => ⟨(fit_sizes l5l103 h).1, (fit_sizes l5l103 h).2.1⟩
        have h1l103 : RI Dl103 3 1 1 := h1.congr (Nat.le_refl _) (fun i hi => hol103 i (by omega))
        have hT3l103 : 3 ≤ Tl103 := by omega
        refine jj_istore_n (pc := 37) kR_kernel_d37 (Nat.le_of_ble_eq_true rfl) ?_
        refine jj_aload_n (pc := 38) kR_kernel_d38 rfl ?_
        refine jj_aload_n (pc := 39) kR_kernel_d39 rfl ?_
        refine jj_iload_n (pc := 40) kR_kernel_d40 rfl ?_
        refine jj_iconst (pc := 41) (v := (-1)) kR_kernel_d41 (by decide) ?_
        have hlch104 : ∀ row, row < σ.1 i → ∀ k, k ≤ σ.2.1 i → ZB 267 (lcmf 1 (fun j => (σ.2.2 i (row * σ.2.1 i + j)).den) k) := fun row h1 k h2 => rowlcm_ZB l5l103 h1 h2
        refine jj_callV (pc := 42) (b := r) (As := [.int (nI (0)), .int (-1)]) kR_kernel_d42 (kvR_R_isHeavy hG) (kG_cl hG rfl) rfl (RPX.rr e0 e9 e10 e11 (hPq101.ffe e0 hGl103)) rfl rfl rfl (Nat.le_of_ble_eq_true rfl) (Nat.le_of_ble_eq_true rfl) (jj_bare0 rfl) ?_
        refine rm_isHeavy1 (s := 267) (e := 267) (q := σ.2.2 i) (lo := 3) hG ⟨(RPX.rr e0 e9 e10 e11 (hPq101.ffe e0 hGl103)), by rw [← e0, ← e9]; exact (hPq101.ffe e0 hGl103).2.2.2.2.2 0 9 (by decide) (by decide) (by decide)⟩ hCl103 hSl103 (by omega) hll103 hT3l103 (h1l103.congr hT3l103 (fun _ _ => rfl)) hml103 (by omega) (by omega) (by omega) (by omega) hsl103 hlch104 (by omega) (by omega) (fun Mh104 Dh104 vh104 rch104 rsh104 hvh104 hCh104 hSh104 hoh104 hFh104 => ?_) (fun Mh104 Dh104 vh104 rch104 rsh104 hvh104 hCh104 hSh104 hoh104 hFh104 => ?_)
        · skip
          show jj G kR_kernel (d + 14) Q rch104 rsh104 45 [some (.ref r), some (.int (nI (k))), some (.int (nI (i))), some (.int (nI (0))), none] [.int (nI (1)), .ref r] Mh104
          have hGh104 := hGl103.trans hFh104
          have hmxh104 := hml103.congr (lo' := 3) (Nat.le_refl _) hoh104 (Nat.le_refl _) (fun _ _ => rfl) (Nat.le_refl _)
          have h1h104 : RI Dh104 3 1 1 := h1l103.congr (Nat.le_refl _) (fun i hi => hoh104 i (by omega))
          refine jn_if_eq (pc := 45) (tgt := 52) kR_kernel_d45 (by decide) (by omega) (fun c => by exfalso; omega) (fun _ => ?_)
          refine jn_iconst (pc := 48) 2 kR_kernel_d48 (by decide) ?_
          refine jj_goto (pc := 49) (tgt := 53) kR_kernel_d49 (by decide) ?_
          have hP_q105 := (hPq101.ffe e0 hGh104)
          have hO_q105 := (hOq101.ff hGh104)
          refine jj_callV (pc := 53) (b := r) (As := [.int (nI (2))]) kR_kernel_d53 (kvR_R_refuses hG) (kG_cl hG rfl) rfl (RPX.rr e0 e9 e10 e11 (hPq101.ffe e0 hGh104)) rfl rfl rfl (Nat.le_of_ble_eq_true rfl) (Nat.le_of_ble_eq_true rfl) (jj_bare0 rfl) ?_
          refine rm_refuses (c := 2) hG (RPX.rr e0 e9 e10 e11 (hPq101.ffe e0 hGh104)) (by omega) (fun hp => ?_) (fun hp => ?_)
          · skip
            obtain ⟨Mq105, hMq105⟩ : ∃ Mq105, Mq105 = jj_up Mh104 r (.inl nR, [.int (nI (2)), .ref f, .ref o, .ref st]) := ⟨_, rfl⟩
            rw [← hMq105]
            obtain ⟨hPq105, hOq105, hCq105, hSq105, hTq105⟩ := RPX.refuse (code' := nI (2)) (M' := Mq105) hP_q105 (by rw [e10, e0, e12, e13]; exact hO_q105) (by rw [e0]; exact hCh104) hSh104 (by rw [hMq105, e0, e9, e10, e11])
            rw [e0] at hCq105
            rw [e10, e0, e12, e13] at hOq105
            have hFq105 := (hFq101.trans (RPX.rte e0 hPq101 hGh104)).trans hTq105
            show jj G kR_kernel (d + 14) Q rch104 rsh104 56 [some (.ref r), some (.int (nI (k))), some (.int (nI (i))), some (.int (nI (0))), none] [.int (nI (1))] Mq105
            refine jn_if_eq (pc := 56) (tgt := 61) kR_kernel_d56 (by decide) (by omega) (fun c => by exfalso; omega) (fun _ => ?_)
            refine jn_iconst (pc := 59) 0 kR_kernel_d59 (by decide) ?_
            exact jj_iret (pc := 60) kR_kernel_d60 rfl (by rfl) (K Mq105 2 0 σ rch104 rsh104 (Or.inr ⟨k, i, hk, rfl, hi, rfl, Or.inl ⟨hvh104, rfl, rfl, rfl⟩⟩) hL (RT.cls hPq105 (by rw [e10, e0, e12, e13]; exact hOq105) hCA hRA (by rw [e0]; exact hCq105) hSq105 hXl103 hT3l103 h1h104 hll103 hPL) hFq105)
          · skip
            exact absurd hp (by omega)
        · skip
          show jj G kR_kernel (d + 14) Q rch104 rsh104 45 [some (.ref r), some (.int (nI (k))), some (.int (nI (i))), some (.int (nI (0))), none] [.int (nI (0)), .ref r] Mh104
          have hGh104 := hGl103.trans hFh104
          have hmxh104 := hml103.congr (lo' := 3) (Nat.le_refl _) hoh104 (Nat.le_refl _) (fun _ _ => rfl) (Nat.le_refl _)
          have h1h104 : RI Dh104 3 1 1 := h1l103.congr (Nat.le_refl _) (fun i hi => hoh104 i (by omega))
          refine jn_if_eq (pc := 45) (tgt := 52) kR_kernel_d45 (by decide) (by omega) (fun _ => ?_) (fun c => by exfalso; omega)
          refine jn_iconst (pc := 52) 0 kR_kernel_d52 (by decide) ?_
          have hP_q106 := (hPq101.ffe e0 hGh104)
          have hO_q106 := (hOq101.ff hGh104)
          refine jj_callV (pc := 53) (b := r) (As := [.int (nI (0))]) kR_kernel_d53 (kvR_R_refuses hG) (kG_cl hG rfl) rfl (RPX.rr e0 e9 e10 e11 (hPq101.ffe e0 hGh104)) rfl rfl rfl (Nat.le_of_ble_eq_true rfl) (Nat.le_of_ble_eq_true rfl) (jj_bare0 rfl) ?_
          refine rm_refuses (c := 0) hG (RPX.rr e0 e9 e10 e11 (hPq101.ffe e0 hGh104)) (by omega) (fun hp => ?_) (fun hp => ?_)
          · skip
            exact absurd hp (by omega)
          · skip
            obtain ⟨Mq106, hMq106⟩ : ∃ Mq106, Mq106 = jj_up Mh104 r (.inl nR, [.int (nI (0)), .ref f, .ref o, .ref st]) := ⟨_, rfl⟩
            rw [← hMq106]
            obtain ⟨hPq106, hOq106, hCq106, hSq106, hTq106⟩ := RPX.refuse (code' := nI (0)) (M' := Mq106) hP_q106 (by rw [e10, e0, e12, e13]; exact hO_q106) (by rw [e0]; exact hCh104) hSh104 (by rw [hMq106, e0, e9, e10, e11])
            rw [e0] at hCq106
            rw [e10, e0, e12, e13] at hOq106
            have hFq106 := (hFq101.trans (RPX.rte e0 hPq101 hGh104)).trans hTq106
            show jj G kR_kernel (d + 14) Q rch104 rsh104 56 [some (.ref r), some (.int (nI (k))), some (.int (nI (i))), some (.int (nI (0))), none] [.int (nI (0))] Mq106
            refine jn_if_eq (pc := 56) (tgt := 61) kR_kernel_d56 (by decide) (by omega) (fun _ => ?_) (fun c => by exfalso; omega)
            refine jj_aload_n (pc := 61) kR_kernel_d61 rfl ?_
            refine jj_getf (pc := 62) kR_kernel_d62 (kfR_forms hG) (RPX.rr e0 e9 e10 e11 hPq106) rfl ?_
            refine jj_iload_n (pc := 65) kR_kernel_d65 rfl ?_
            obtain ⟨b0, w1, w2, w3, w4⟩ := wgt_one l5l103 l1l103 l2l103 hvh104
            have hss : (min (σ.1 i) (σ.2.1 i) * b0) ^ min (σ.1 i) (σ.2.1 i) * 2 ^ 4000 < 32768 ^ 401 := pow_s w4 (Nat.le_refl _) (by decide)
            obtain ⟨S4, hS4⟩ : ∃ S4, S4 = 1612 := ⟨_, rfl⟩
            obtain ⟨nS, hnS⟩ : ∃ nS, nl103 * S4 = nS := ⟨_, rfl⟩
            obtain ⟨n2, hn2⟩ : ∃ n2, σ.2.1 i * σ.2.1 i = n2 := ⟨_, rfl⟩
            have hn2b : n2 ≤ 16 * 16 := by rw [← hn2]; exact Nat.mul_le_mul l4l103 l4l103
            obtain ⟨nT, hnT⟩ : ∃ nT, n2 * S4 = nT := ⟨_, rfl⟩
            have hmS : nS ≤ 16 * 16 * 1612 := by rw [← hnS, hS4]; exact Nat.mul_le_mul_right _ hbl103
            have hmT : nT ≤ 16 * 16 * 1612 := by rw [← hnT, hS4]; exact Nat.mul_le_mul_right _ hn2b
            refine jj_callV (pc := 66) (b := o) (As := [.int (nI (0))]) kR_kernel_d66 (kvR_RO_kernel hG) (kG_cl hG rfl) rfl hOq106.1 rfl rfl rfl (Nat.le_of_ble_eq_true rfl) (Nat.le_of_ble_eq_true rfl) (jj_bare0 rfl) ?_
            refine ro_kernel (s := 401) (S := S4) (E := Tl103 + nS + nT) (b0 := b0) (wb := 2 ^ 4000) (Km := min (σ.1 i) (σ.2.1 i)) (A := qA (σ.2.2 i) (σ.2.1 i)) (W := fun a b => (rowD (σ.2.2 i) (σ.2.1 i) a 1 : Rat) * qA (σ.2.2 i) (σ.2.1 i) a b) (wt := fun a => (rowD (σ.2.2 i) (σ.2.1 i) a 1 : Rat)) (loa := 3) hG hOq106 hCq106 hSq106 hXl103 hll103 (h1h104.congr hT3l103 (fun _ _ => rfl)) hT3l103 hmxh104 (fun _ _ _ _ => rfl) (by omega) (by omega) (by omega) (by omega) hPL (fun _ _ _ _ => rfl) w2 w3 w1 (Nat.pow_pos (by decide)) rfl hss (by omega) (by omega) (by omega) (by rw [hnl103, hn2, hnS, hnT]) (by rw [hnl103, hn2]; omega) (by rw [hnl103, hn2, hnS, hnT]; omega) (fun Mz vv Dz Vz Pz upz lowz rkz Xz Zz vz rcz rsz Ez pz qz hCz hSz hXz hoz hvz hlz hFz hPz hkz => ?_) (fun Ef re fe pe qe We hke hf0 hEJ Pk hPk => fun Me vv De Te Ve Pe upe lowe rke ge Ae qe Xe Ze ve rce rse hCe hSe hXe te ue hoe hve hle hFe hme hAe hge hIe hre hse hPe hpe => ?_)
            · skip
              show jj G kR_kernel (d + 14) Q rcz rsz 69 [some (.ref r), some (.int (nI (k))), some (.int (nI (i))), some (.int (nI (0))), none] [.int (-1)] Mz
              have hGz := (FF.refl Mq106 f).trans hFz
              have hPL := hPz.trans hPL
              have h1z : RI Dz 3 1 1 := h1h104.congr (Nat.le_refl _) (fun i hi => hoz i (by omega))
              have hT3z := hT3l103
              refine jj_istore (pc := 69) kR_kernel_d69 (Nat.le_of_ble_eq_true rfl) ?_
              refine jj_iload (pc := 71) kR_kernel_d71 rfl ?_
              refine jj_iconst (pc := 73) (v := (-1)) kR_kernel_d73 (by decide) ?_
              refine jj_icmp_eq (pc := 74) (tgt := 100) kR_kernel_d74 (by decide) (fun _ => ?_) (fun c => absurd c (by decide))
              refine jn_iconst (pc := 100) 0 kR_kernel_d100 (by decide) ?_
              exact jj_iret (pc := 101) kR_kernel_d101 rfl (by rfl) (K Mz 0 0 σ rcz rsz (Or.inr ⟨k, i, hk, rfl, hi, rfl, Or.inr ⟨hvh104, Or.inl ⟨kec_zero hkz, rfl, rfl, rfl⟩⟩⟩) hL (RT.cls (hPq106.ffe e0 hGz) (by rw [e10, e0, e12, e13]; exact (hOq106.ff hGz)) hCA hRA (by rw [e0]; exact hCz) hSz hXz hT3l103 h1z hlz hPL) (hFq106.trans (RPX.rte e0 hPq106 hGz)))
            · skip
              show jj G kR_kernel (d + 14) Q rce rse 69 [some (.ref r), some (.int (nI (k))), some (.int (nI (i))), some (.int (nI (0))), none] [.int (nI (ttl103))] Me
              have hfn : fe ≤ σ.2.1 i := by have := hke.2.2.2.2; omega
              obtain ⟨nf, hnf_⟩ : ∃ nf, fe * σ.2.1 i = nf := ⟨_, rfl⟩
              have hnfb : nf ≤ 16 * 16 := by rw [← hnf_]; exact Nat.mul_le_mul (by omega) l4l103
              obtain ⟨tte, htte⟩ : ∃ tte, ttl103 + 2 + 2 * nf = tte := ⟨_, rfl⟩
              rw [hnf_, htte] at hCe hle hme
              have hGe := (FF.refl Mq106 f).trans hFe
              have hcape := hXe.cap
              have hPL := hPe.trans (hPk.trans hPL)
              have h1e : RI De 3 1 1 := h1h104.congr (Nat.le_refl _) (fun i hi => hoe i (by omega))
              have hT3e : 3 ≤ Te := by omega
              obtain ⟨hrkf, hkE⟩ := kec_some hke hge hre hse
              have hcut : ∀ t, t < fe * σ.2.1 i → qe t = mcut Ae fe (σ.2.1 i) t := fun t ht => by
                obtain ⟨k1, k2, k3⟩ := at_back ht
                have h9 := hAe _ k1 _ k2
                rw [k3] at h9
                unfold mcut
                rw [if_pos k1, h9]
              have hme' := hme.eqv hcut
              have hsz : ∀ k', k' < fe * σ.2.1 i → ZB 401 (mcut Ae fe (σ.2.1 i) k').num ∧ ZB 401 ((mcut Ae fe (σ.2.1 i) k').den : Int) := fun k' hk' => by
                obtain ⟨k1, k2, k3⟩ := at_back hk'
                rw [← hcut k' hk']
                have h9 := hAe _ k1 _ k2
                rw [k3] at h9
                rw [← h9]
                exact (hEJ.2 _ _ _ _ hIe hge (Nat.le_refl _)).1 _ _ k1 k2
              refine jj_istore (pc := 69) kR_kernel_d69 (Nat.le_of_ble_eq_true rfl) ?_
              refine jj_iload (pc := 71) kR_kernel_d71 rfl ?_
              refine jj_iconst (pc := 73) (v := (-1)) kR_kernel_d73 (by decide) ?_
              refine jj_icmp_eq (pc := 74) (tgt := 100) kR_kernel_d74 (by decide) (fun c => absurd c (nI_m1ne (by omega))) (fun _ => ?_)
              refine jj_aload_n (pc := 77) kR_kernel_d77 rfl ?_
              refine jj_iload_n (pc := 78) kR_kernel_d78 rfl ?_
              refine jj_iload (pc := 79) kR_kernel_d79 rfl ?_
              refine jn_iconst (pc := 81) 2 kR_kernel_d81 (by decide) ?_
              refine jj_callV (pc := 82) (b := r) (As := [.int (nI (k)), .int (nI (ttl103)), .int (nI (2))]) kR_kernel_d82 (kvR_R_puts hG) (kG_cl hG rfl) rfl (RPX.rr e0 e9 e10 e11 (hPq106.ffe e0 hGe)) rfl rfl rfl (Nat.le_of_ble_eq_true rfl) (Nat.le_of_ble_eq_true rfl) (jj_bare0 rfl) ?_
              refine rm_puts (s := 401) (lo := 0) (qn := mcut Ae fe (σ.2.1 i)) (Rn := fe) (cn := σ.2.1 i) hG e0 e9 e10 e11 (hPq106.ffe e0 hGe) hCe e12 e13 (hOq106.ff hGe) hCA hRA hSe hXe hle h1e hT3e hPL hk (by omega) (by omega) hme' (by omega) (by omega) hsz (by omega) (by omega) (fun M8 rc8 rs8 hnf hR8 hT8 => ?_) (fun M8 rc8 rs8 w8 vv8 pv8 V8 t8 up8 low8 P8 rk8 hfit hR8 hT8 hC8 hg8 hl8 hb8 => ?_)
              · skip
                show jj G kR_kernel (d + 14) Q rc8 rs8 85 [some (.ref r), some (.int (nI (k))), some (.int (nI (i))), some (.int (nI (0))), some (.int (nI (ttl103)))] [.int (nI (0))] M8
                refine jn_if_eq (pc := 85) (tgt := 100) kR_kernel_d85 (by decide) (by omega) (fun _ => ?_) (fun c => by exfalso; omega)
                refine jn_iconst (pc := 100) 0 kR_kernel_d100 (by decide) ?_
                exact jj_iret (pc := 101) kR_kernel_d101 rfl (by rfl) (K M8 2 0 σ rc8 rs8 (Or.inr ⟨k, i, hk, rfl, hi, rfl, Or.inr ⟨hvh104, Or.inr ⟨Ae, fe, ge, hf0, hfn, hkE, Or.inr ⟨hnf, rfl, rfl, rfl⟩⟩⟩⟩) hL hR8 ((hFq106.trans (RPX.rte e0 hPq106 hGe)).trans hT8))
              · skip
                show jj G kR_kernel (d + 14) Q rc8 rs8 85 [some (.ref r), some (.int (nI (k))), some (.int (nI (i))), some (.int (nI (0))), some (.int (nI (ttl103)))] [.int (nI (1))] M8
                obtain ⟨pt8, zt8, w9, l9, CA9, RA9, fi9, se9, hP9, -⟩ := id hR8
                have hr8 := RPX.rr e0 e9 e10 e11 hP9
                refine jn_if_eq (pc := 85) (tgt := 100) kR_kernel_d85 (by decide) (by omega) (fun c => by exfalso; omega) (fun _ => ?_)
                refine jj_aload_n (pc := 88) kR_kernel_d88 rfl ?_
                refine jj_getf (pc := 89) kR_kernel_d89 (kfR_f hG) hr8 rfl ?_
                refine jj_iload (pc := 92) kR_kernel_d92 rfl ?_
                refine jj_callV (pc := 94) (b := f) (As := [.int (nI (ttl103))]) kR_kernel_d94 (kvR_RF_rows hG) (kG_cl hG rfl) rfl hC8.1 rfl rfl rfl (Nat.le_of_ble_eq_true rfl) (Nat.le_of_ble_eq_true rfl) (jj_bare0 rfl) ?_
                refine rf_rows hG hC8 hb8 (by omega) ?_
                show jj G kR_kernel (d + 14) Q rc8 rs8 97 [some (.ref r), some (.int (nI (k))), some (.int (nI (i))), some (.int (nI (0))), some (.int (nI (ttl103)))] [.int (V8.getD ttl103 0)] M8
                refine jn_top (.int (nI (fe))) (by rw [hg8]) ?_
                refine jj_goto (pc := 97) (tgt := 101) kR_kernel_d97 (by decide) ?_
                exact jj_iret (pc := 101) kR_kernel_d101 rfl (by rfl) (K M8 0 fe _ rc8 rs8 (Or.inr ⟨k, i, hk, rfl, hi, rfl, Or.inr ⟨hvh104, Or.inr ⟨Ae, fe, ge, hf0, hfn, hkE, Or.inl ⟨hfit, rfl, rfl, rfl⟩⟩⟩⟩) (hL.rup (by omega) (by omega) hfit) hR8 ((hFq106.trans (RPX.rte e0 hPq106 hGe)).trans hT8))
    · skip
      show jj G kR_kernel (d + 14) Q rc rs 12 [some (.ref r), some (.int (nI (k))), some (.int (y)), none, none] [.int (nI (0)), .ref r] M
      refine jn_if_eq (pc := 12) (tgt := 19) kR_kernel_d12 (by decide) (by omega) (fun _ => ?_) (fun c => by exfalso; omega)
      refine jn_iconst (pc := 19) 1 kR_kernel_d19 (by decide) ?_
      have hP_q107 := hP
      have hO_q107 := hO
      refine jj_callV (pc := 20) (b := r) (As := [.int (nI (1))]) kR_kernel_d20 (kvR_R_refuses hG) (kG_cl hG rfl) rfl (RPX.rr e0 e9 e10 e11 hP) rfl rfl rfl (Nat.le_of_ble_eq_true rfl) (Nat.le_of_ble_eq_true rfl) (jj_bare0 rfl) ?_
      refine rm_refuses (c := 1) hG (RPX.rr e0 e9 e10 e11 hP) (by omega) (fun hp => ?_) (fun hp => ?_)
      · skip
        obtain ⟨Mq107, hMq107⟩ : ∃ Mq107, Mq107 = jj_up M r (.inl nR, [.int (nI (1)), .ref f, .ref o, .ref st]) := ⟨_, rfl⟩
        rw [← hMq107]
        obtain ⟨hPq107, hOq107, hCq107, hSq107, hTq107⟩ := RPX.refuse (code' := nI (1)) (M' := Mq107) hP_q107 (by rw [e10, e0, e12, e13]; exact hO_q107) (by rw [e0]; exact hC) hS (by rw [hMq107, e0, e9, e10, e11])
        rw [e0] at hCq107
        rw [e10, e0, e12, e13] at hOq107
        have hFq107 := (RTF.refl M F).trans hTq107
        show jj G kR_kernel (d + 14) Q rc rs 23 [some (.ref r), some (.int (nI (k))), some (.int (y)), none, none] [.int (nI (1))] Mq107
        refine jn_if_eq (pc := 23) (tgt := 28) kR_kernel_d23 (by decide) (by omega) (fun c => by exfalso; omega) (fun _ => ?_)
        refine jn_iconst (pc := 26) 0 kR_kernel_d26 (by decide) ?_
        exact jj_iret (pc := 27) kR_kernel_d27 rfl (by rfl) (K Mq107 1 0 σ rc rs (Or.inl ⟨fun h => hn h.2, rfl, rfl, rfl⟩) hL (RT.cls hPq107 (by rw [e10, e0, e12, e13]; exact hOq107) hCA hRA (by rw [e0]; exact hCq107) hSq107 hX hT3 h1 htV hPL) hFq107)
      · skip
        exact absurd hp (by omega)
  · skip
    show jj G kR_kernel (d + 14) Q rc rs 5 [some (.ref r), some (.int (x)), some (.int (y)), none, none] [.int (nI (0)), .ref r] M
    refine jn_if_eq (pc := 5) (tgt := 19) kR_kernel_d5 (by decide) (by omega) (fun _ => ?_) (fun c => by exfalso; omega)
    refine jn_iconst (pc := 19) 1 kR_kernel_d19 (by decide) ?_
    have hP_q108 := hP
    have hO_q108 := hO
    refine jj_callV (pc := 20) (b := r) (As := [.int (nI (1))]) kR_kernel_d20 (kvR_R_refuses hG) (kG_cl hG rfl) rfl (RPX.rr e0 e9 e10 e11 hP) rfl rfl rfl (Nat.le_of_ble_eq_true rfl) (Nat.le_of_ble_eq_true rfl) (jj_bare0 rfl) ?_
    refine rm_refuses (c := 1) hG (RPX.rr e0 e9 e10 e11 hP) (by omega) (fun hp => ?_) (fun hp => ?_)
    · skip
      obtain ⟨Mq108, hMq108⟩ : ∃ Mq108, Mq108 = jj_up M r (.inl nR, [.int (nI (1)), .ref f, .ref o, .ref st]) := ⟨_, rfl⟩
      rw [← hMq108]
      obtain ⟨hPq108, hOq108, hCq108, hSq108, hTq108⟩ := RPX.refuse (code' := nI (1)) (M' := Mq108) hP_q108 (by rw [e10, e0, e12, e13]; exact hO_q108) (by rw [e0]; exact hC) hS (by rw [hMq108, e0, e9, e10, e11])
      rw [e0] at hCq108
      rw [e10, e0, e12, e13] at hOq108
      have hFq108 := (RTF.refl M F).trans hTq108
      show jj G kR_kernel (d + 14) Q rc rs 23 [some (.ref r), some (.int (x)), some (.int (y)), none, none] [.int (nI (1))] Mq108
      refine jn_if_eq (pc := 23) (tgt := 28) kR_kernel_d23 (by decide) (by omega) (fun c => by exfalso; omega) (fun _ => ?_)
      refine jn_iconst (pc := 26) 0 kR_kernel_d26 (by decide) ?_
      exact jj_iret (pc := 27) kR_kernel_d27 rfl (by rfl) (K Mq108 1 0 σ rc rs (Or.inl ⟨fun h => hn h.1, rfl, rfl, rfl⟩) hL (RT.cls hPq108 (by rw [e10, e0, e12, e13]; exact hOq108) hCA hRA (by rw [e0]; exact hCq108) hSq108 hX hT3 h1 htV hPL) hFq108)
    · skip
      exact absurd hp (by omega)
end RM18
