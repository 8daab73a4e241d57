/-! ===== the reference: invert, determinant (printed by wip/gen/rm20.py) ===== -/
theorem qunitm_at {n a b : Nat} (hb : b < n) : qunitm n (a * n + b) = if a = b then (1 : Rat) else 0 := by
  unfold qunitm
  obtain ⟨e1, e2⟩ := at_div (i := a) hb
  rw [e1, e2]
theorem qunitm_ZB (n k s : Nat) (hs : 0 < s) : ZB s (qunitm n k).num ∧ ZB s ((qunitm n k).den : Int) := by
  have h : 1 < 32768 ^ s := Nat.one_lt_pow (by omega) (by decide)
  unfold qunitm
  split
  · exact ⟨h, h⟩
  · exact ⟨Nat.pow_pos (by decide), h⟩
section RM20
variable {G : jg} {d : Nat} {Q : jq} {rc rs : Nat} {M : mheap} {F : Nat → Nat} {r : Nat} {code : Int32} {σ : rst} {X Z : Nat}
theorem rp_invert {x y : Int32} (hG : kG G) (e9 : F 9 = r) (hT : RT M F code σ X Z rc rs) (hL : LG σ)
(K : ∀ M' cd (v : Nat) σ' rc' rs', semInv σ x y cd v σ' → LG σ' → RT M' F (nI cd) σ' X Z rc' rs' → RTF M M' F → Q (.returned (some (.int (nI v)))) M' rc' rs') : jj G kR_invert (d + 14) Q rc rs 0 (jj_ent [.ref r, .int x, .int y] 5) [] M := by
  obtain ⟨pt, zt, w, vv, pv, D, T, v2, V, t, up, low, P, rk, CA, RA, fi, se, X1, Z1, hP, hO, hCA, hRA, hC, hS, hX, hT3, h1, htV, hPL⟩ := hT.opn
  obtain ⟨f, e0⟩ : ∃ f, F 0 = f := ⟨_, rfl⟩
  obtain ⟨o, e10⟩ : ∃ o, F 10 = o := ⟨_, rfl⟩
  obtain ⟨st, e11⟩ : ∃ st, F 11 = st := ⟨_, rfl⟩
  obtain ⟨ca, e12⟩ : ∃ ca, F 12 = ca := ⟨_, rfl⟩
  obtain ⟨ra, e13⟩ : ∃ ra, F 13 = ra := ⟨_, rfl⟩
  rw [e10, e0, e12, e13] at hO
  rw [e0] at hC
  have hcap := hX.cap
  show jj G kR_invert (d + 14) Q rc rs 0 [some (.ref r), some (.int (x)), some (.int (y)), none, none] [] M
  refine jj_aload_n (pc := 0) kR_invert_d0 rfl ?_
  refine jj_iload_n (pc := 1) kR_invert_d1 rfl ?_
  refine jj_callS (pc := 2) (As := [.int (x)]) kR_invert_d2 (kvR_R_isRegister hG) rfl rfl rfl (Nat.le_of_ble_eq_true rfl) (Nat.le_of_ble_eq_true rfl) (jj_bare0 rfl) ?_
  refine rm_isRegister (fun k hk ek => ?_) (fun hn => ?_)
  · skip
    subst ek
    show jj G kR_invert (d + 14) Q rc rs 5 [some (.ref r), some (.int (nI (k))), some (.int (y)), none, none] [.int (nI (1)), .ref r] M
    refine jn_if_eq (pc := 5) (tgt := 19) kR_invert_d5 (by decide) (by omega) (fun c => by exfalso; omega) (fun _ => ?_)
    refine jj_iload_n (pc := 8) kR_invert_d8 rfl ?_
    refine jj_callS (pc := 9) (As := [.int (y)]) kR_invert_d9 (kvR_R_isRegister hG) rfl rfl rfl (Nat.le_of_ble_eq_true rfl) (Nat.le_of_ble_eq_true rfl) (jj_bare0 rfl) ?_
    refine rm_isRegister (fun i hi ei => ?_) (fun hn => ?_)
    · skip
      subst ei
      show jj G kR_invert (d + 14) Q rc rs 12 [some (.ref r), some (.int (nI (k))), some (.int (nI (i))), none, none] [.int (nI (1)), .ref r] M
      refine jn_if_eq (pc := 12) (tgt := 19) kR_invert_d12 (by decide) (by omega) (fun c => by exfalso; omega) (fun _ => ?_)
      refine jn_iconst (pc := 15) 0 kR_invert_d15 (by decide) ?_
      refine jj_goto (pc := 16) (tgt := 20) kR_invert_d16 (by decide) ?_
      have hP_q101 := hP
      have hO_q101 := hO
      refine jj_callV (pc := 20) (b := r) (As := [.int (nI (0))]) kR_invert_d20 (kvR_R_refuses hG) (kG_cl hG rfl) rfl (RPX.rr e0 e9 e10 e11 hP) rfl rfl rfl (Nat.le_of_ble_eq_true rfl) (Nat.le_of_ble_eq_true rfl) (jj_bare0 rfl) ?_
      refine rm_refuses (c := 0) hG (RPX.rr e0 e9 e10 e11 hP) (by omega) (fun hp => ?_) (fun hp => ?_)
      · skip
        exact absurd hp (by omega)
      · skip
        obtain ⟨Mq101, hMq101⟩ : ∃ Mq101, Mq101 = jj_up M r (.inl nR, [.int (nI (0)), .ref f, .ref o, .ref st]) := ⟨_, rfl⟩
        rw [← hMq101]
        obtain ⟨hPq101, hOq101, hCq101, hSq101, hTq101⟩ := RPX.refuse (code' := nI (0)) (M' := Mq101) hP_q101 (by rw [e10, e0, e12, e13]; exact hO_q101) (by rw [e0]; exact hC) hS (by rw [hMq101, e0, e9, e10, e11])
        rw [e0] at hCq101
        rw [e10, e0, e12, e13] at hOq101
        have hFq101 := (RTF.refl M F).trans hTq101
        show jj G kR_invert (d + 14) Q rc rs 23 [some (.ref r), some (.int (nI (k))), some (.int (nI (i))), none, none] [.int (nI (0))] Mq101
        refine jn_if_eq (pc := 23) (tgt := 28) kR_invert_d23 (by decide) (by omega) (fun _ => ?_) (fun c => by exfalso; omega)
        refine jj_aload_n (pc := 28) kR_invert_d28 rfl ?_
        refine jj_callV (pc := 29) (b := r) (As := []) kR_invert_d29 (kvR_R_begin hG) (kG_cl hG rfl) rfl (RPX.rr e0 e9 e10 e11 hPq101) rfl rfl rfl (Nat.le_of_ble_eq_true rfl) (Nat.le_of_ble_eq_true rfl) (jj_bare0 rfl) ?_
        refine rm_begin hG e0 e9 e10 e11 hPq101 hCq101 hSq101 hT3 (fun Mb102 hCb102 hSb102 hFb102 => ?_)
        show jj G kR_invert (d + 14) Q rc rs 32 [some (.ref r), some (.int (nI (k))), some (.int (nI (i))), none, none] [] Mb102
        have hGb102 := (FF.refl Mq101 f).trans hFb102
        refine jj_aload_n (pc := 32) kR_invert_d32 rfl ?_
        refine jj_iload_n (pc := 33) kR_invert_d33 rfl ?_
        refine jj_callV (pc := 34) (b := r) (As := [.int (nI (i))]) kR_invert_d34 (kvR_R_load hG) (kG_cl hG rfl) rfl (RPX.rr e0 e9 e10 e11 (hPq101.ffe e0 hGb102)) rfl rfl rfl (Nat.le_of_ble_eq_true rfl) (Nat.le_of_ble_eq_true rfl) (jj_bare0 rfl) ?_
        refine rm_load hG e0 e9 e10 e11 (hPq101.ffe e0 hGb102) hCb102 hSb102 hX (Nat.zero_le _) h1 (Nat.le_refl 3) hL hi (by omega) (by omega) (fun Ml103 vv Dl103 Tl103 Vl103 upl103 lowl103 Xl103 Zl103 vl103 rcl103 rsl103 hCl103 hSl103 hXl103 tl103 ul103 hol103 hvl103 hll103 hFl103 hml103 => ?_)
        show jj G kR_invert (d + 14) Q rcl103 rsl103 37 [some (.ref r), some (.int (nI (k))), some (.int (nI (i))), none, none] [.int (nI (0))] Ml103
        obtain ⟨l1l103, l2l103, l3l103, l4l103, l5l103, l6l103⟩ := hL i hi
        obtain ⟨nl103, hnl103⟩ : ∃ nl103, σ.1 i * σ.2.1 i = nl103 := ⟨_, rfl⟩
        have hbl103 : nl103 ≤ 16 * 16 := by rw [← hnl103]; exact Nat.mul_le_mul l3l103 l4l103
        obtain ⟨ttl103, httl103⟩ : ∃ ttl103, 0 + 2 + 2 * nl103 = ttl103 := ⟨_, rfl⟩
        rw [hnl103, httl103] at hCl103 hll103 hml103
        obtain ⟨ldl103, hldl103⟩ : ∃ ldl103, ldS (σ.2.2 i) (σ.1 i * σ.2.1 i) = ldl103 := ⟨_, rfl⟩
        have hlbl103 : ldl103 ≤ 137216 := by rw [← hldl103]; exact ldS_fit l5l103 (by omega)
        rw [hldl103] at ul103
        have hGl103 := hGb102.trans hFl103
        have hcapl103 := hXl103.cap
        have hsl103 : ∀ k', k' < σ.1 i * σ.2.1 i → ZB 267 (σ.2.2 i k').num ∧ ZB 267 ((σ.2.2 i k').den : Int) := fun k' h => ⟨(fit_sizes l5l103 h).1, (fit_sizes l5l103 h).2.1⟩
        have h1l103 : RI Dl103 3 1 1 := h1.congr (Nat.le_refl _) (fun i hi => hol103 i (by omega))
        have hT3l103 : 3 ≤ Tl103 := by omega
        have hA := hml103
        obtain ⟨a1, a2, a3, -⟩ := id hA
        refine jj_istore_n (pc := 37) kR_invert_d37 (Nat.le_of_ble_eq_true rfl) ?_
        refine jj_aload_n (pc := 38) kR_invert_d38 rfl ?_
        refine jj_aload_n (pc := 39) kR_invert_d39 rfl ?_
        refine jj_getf (pc := 40) kR_invert_d40 (kfR_f hG) (RPX.rr e0 e9 e10 e11 (hPq101.ffe e0 hGl103)) rfl ?_
        refine jj_iload_n (pc := 43) kR_invert_d43 rfl ?_
        refine jj_callV (pc := 44) (b := f) (As := [.int (nI (0))]) kR_invert_d44 (kvR_RF_rows hG) (kG_cl hG rfl) rfl hCl103.1 rfl rfl rfl (Nat.le_of_ble_eq_true rfl) (Nat.le_of_ble_eq_true rfl) (jj_bare0 rfl) ?_
        refine rf_rows hG hCl103 (by omega) (by omega) ?_
        show jj G kR_invert (d + 14) Q rcl103 rsl103 47 [some (.ref r), some (.int (nI (k))), some (.int (nI (i))), some (.int (nI (0))), none] [.int (Vl103.getD 0 0), .ref r] Ml103
        refine jn_top (.int (nI (σ.1 i))) (by rw [a2]) ?_
        refine jj_aload_n (pc := 47) kR_invert_d47 rfl ?_
        refine jj_getf (pc := 48) kR_invert_d48 (kfR_f hG) (RPX.rr e0 e9 e10 e11 (hPq101.ffe e0 hGl103)) rfl ?_
        refine jj_iload_n (pc := 51) kR_invert_d51 rfl ?_
        refine jj_callV (pc := 52) (b := f) (As := [.int (nI (0))]) kR_invert_d52 (kvR_RF_columns hG) (kG_cl hG rfl) rfl hCl103.1 rfl rfl rfl (Nat.le_of_ble_eq_true rfl) (Nat.le_of_ble_eq_true rfl) (jj_bare0 rfl) ?_
        refine rf_columns hG hCl103 (by omega) (by omega) ?_
        show jj G kR_invert (d + 14) Q rcl103 rsl103 55 [some (.ref r), some (.int (nI (k))), some (.int (nI (i))), some (.int (nI (0))), none] [.int (Vl103.getD (0 + 1) 0), .int (nI (σ.1 i)), .ref r] Ml103
        refine jn_top (.int (nI (σ.2.1 i))) (by rw [a3]) ?_
        refine jn_icmp_eq (pc := 55) (tgt := 62) kR_invert_d55 (by decide) (by omega) (by omega) (fun c1 => ?_) (fun c1 => ?_)
        · skip
          refine jn_iconst (pc := 62) 0 kR_invert_d62 (by decide) ?_
          have hP_q104 := (hPq101.ffe e0 hGl103)
          have hO_q104 := (hOq101.ff hGl103)
          refine jj_callV (pc := 63) (b := r) (As := [.int (nI (0))]) kR_invert_d63 (kvR_R_refuses hG) (kG_cl hG rfl) rfl (RPX.rr e0 e9 e10 e11 (hPq101.ffe e0 hGl103)) rfl rfl rfl (Nat.le_of_ble_eq_true rfl) (Nat.le_of_ble_eq_true rfl) (jj_bare0 rfl) ?_
          refine rm_refuses (c := 0) hG (RPX.rr e0 e9 e10 e11 (hPq101.ffe e0 hGl103)) (by omega) (fun hp => ?_) (fun hp => ?_)
          · skip
            exact absurd hp (by omega)
          · skip
            obtain ⟨Mq104, hMq104⟩ : ∃ Mq104, Mq104 = jj_up Ml103 r (.inl nR, [.int (nI (0)), .ref f, .ref o, .ref st]) := ⟨_, rfl⟩
            rw [← hMq104]
            obtain ⟨hPq104, hOq104, hCq104, hSq104, hTq104⟩ := RPX.refuse (code' := nI (0)) (M' := Mq104) hP_q104 (by rw [e10, e0, e12, e13]; exact hO_q104) (by rw [e0]; exact hCl103) hSl103 (by rw [hMq104, e0, e9, e10, e11])
            rw [e0] at hCq104
            rw [e10, e0, e12, e13] at hOq104
            have hFq104 := (hFq101.trans (RPX.rte e0 hPq101 hGl103)).trans hTq104
            show jj G kR_invert (d + 14) Q rcl103 rsl103 66 [some (.ref r), some (.int (nI (k))), some (.int (nI (i))), some (.int (nI (0))), none] [.int (nI (0))] Mq104
            refine jn_if_eq (pc := 66) (tgt := 71) kR_invert_d66 (by decide) (by omega) (fun _ => ?_) (fun c => by exfalso; omega)
            rw [← c1] at hA hsl103 hnl103 l5l103 l6l103 a3
            refine jj_aload_n (pc := 71) kR_invert_d71 rfl ?_
            refine jj_aload_n (pc := 72) kR_invert_d72 rfl ?_
            refine jj_iload_n (pc := 73) kR_invert_d73 rfl ?_
            refine jj_aload_n (pc := 74) kR_invert_d74 rfl ?_
            refine jj_getf (pc := 75) kR_invert_d75 (kfR_f hG) (RPX.rr e0 e9 e10 e11 hPq104) rfl ?_
            refine jj_aload_n (pc := 78) kR_invert_d78 rfl ?_
            refine jj_getf (pc := 79) kR_invert_d79 (kfR_f hG) (RPX.rr e0 e9 e10 e11 hPq104) rfl ?_
            refine jj_iload_n (pc := 82) kR_invert_d82 rfl ?_
            refine jj_callV (pc := 83) (b := f) (As := [.int (nI (0))]) kR_invert_d83 (kvR_RF_rows hG) (kG_cl hG rfl) rfl hCq104.1 rfl rfl rfl (Nat.le_of_ble_eq_true rfl) (Nat.le_of_ble_eq_true rfl) (jj_bare0 rfl) ?_
            refine rf_rows hG hCq104 (by omega) (by omega) ?_
            show jj G kR_invert (d + 14) Q rcl103 rsl103 86 [some (.ref r), some (.int (nI (k))), some (.int (nI (i))), some (.int (nI (0))), none] [.int (Vl103.getD 0 0), .ref f, .int (nI (0)), .ref r, .ref r] Mq104
            refine jn_top (.int (nI (σ.1 i))) (by rw [a2]) ?_
            obtain ⟨nu, hnu⟩ : ∃ nu, σ.1 i * σ.1 i = nu := ⟨_, rfl⟩
            have hnub : nu ≤ 16 * 16 := by rw [← hnu]; exact Nat.mul_le_mul l3l103 l3l103
            obtain ⟨n7, hn7⟩ : ∃ n7, nu * 7 = n7 := ⟨_, rfl⟩
            refine jj_callV (pc := 86) (b := f) (As := [.int (nI (σ.1 i))]) kR_invert_d86 (kvR_RF_unit hG) (kG_cl hG rfl) rfl hCq104.1 rfl rfl rfl (Nat.le_of_ble_eq_true rfl) (Nat.le_of_ble_eq_true rfl) (jj_bare0 rfl) ?_
            refine rf_unit (n := σ.1 i) hG hCq104 hSq104 hXl103 hll103 (h1l103.congr hT3l103 (fun _ _ => rfl)) hT3l103 (by omega) (by rw [hnu]; omega) (by rw [hnu, hn7]; omega) (fun Mu vv Du Tu Vu upu lowu Xu Zu vu rcu rsu hCu hSu hXu tu uu hou hvu hlu hFu hmu => ?_)
            show jj G kR_invert (d + 14) Q rcu rsu 89 [some (.ref r), some (.int (nI (k))), some (.int (nI (i))), some (.int (nI (0))), none] [.int (nI (ttl103)), .int (nI (0)), .ref r, .ref r] Mu
            rw [hnu, hn7] at uu
            rw [hnu] at hCu hlu hmu
            obtain ⟨ttu, httu⟩ : ∃ ttu, ttl103 + 2 + 2 * (nu) = ttu := ⟨_, rfl⟩
            rw [httu] at hCu hlu hmu
            have hGu := (FF.refl Mq104 f).trans hFu
            have hcapu := hXu.cap
            have h1u : RI Du 3 1 1 := h1l103.congr (Nat.le_refl _) (fun i hi => hou i (by omega))
            have hT3u : 3 ≤ Tu := by omega
            have hA2 := hA.congr (lo' := 3) tu hou (show ttl103 ≤ ttu by omega) hvu (Nat.le_refl _)
            have hB2 : MX Du Tu Vu ttu ttl103 (σ.1 i) (σ.1 i) Tl103 (qunitm (σ.1 i)) := hmu.eqv (fun _ _ => rfl)
            have hsu : ∀ k', k' < σ.1 i * σ.1 i → ZB 267 (qunitm (σ.1 i) k').num ∧ ZB 267 ((qunitm (σ.1 i) k').den : Int) := fun k' _ => qunitm_ZB _ _ _ (by decide)
            have hfu := qunitm_fit (n := σ.1 i)
            have hlch105 : ∀ row, row < σ.1 i → ∀ k, k ≤ σ.1 i → ZB 534 (lcmf 1 (fun j => (σ.2.2 i (row * σ.1 i + j)).den) k) := fun row h1 k h2 => (rowlcm_ZB l5l103 h1 h2).up (by decide)
            have hlbh105 : ∀ row, row < σ.1 i → ∀ k, k ≤ σ.1 i → ZB 534 (lcmf (rowD (σ.2.2 i) (σ.1 i) row 1) (fun j => (qunitm (σ.1 i) (row * σ.1 i + j)).den) k) := fun row h1 k h2 => rowlcm2_ZB l5l103 hfu h1 h2
            refine jj_callV (pc := 89) (b := r) (As := [.int (nI (0)), .int (nI (ttl103))]) kR_invert_d89 (kvR_R_isHeavy hG) (kG_cl hG rfl) rfl (RPX.rr e0 e9 e10 e11 (hPq104.ffe e0 hGu)) rfl rfl rfl (Nat.le_of_ble_eq_true rfl) (Nat.le_of_ble_eq_true rfl) (jj_bare0 rfl) ?_
            refine rm_isHeavy2 (s := 267) (e := 534) (q := σ.2.2 i) (qb := qunitm (σ.1 i)) (lo := 3) (lob := Tl103) hG ⟨(RPX.rr e0 e9 e10 e11 (hPq104.ffe e0 hGu)), by rw [← e0, ← e9]; exact (hPq104.ffe e0 hGu).2.2.2.2.2 0 9 (by decide) (by decide) (by decide)⟩ hCu hSu (by omega) hlu hT3u (h1u.congr hT3u (fun _ _ => rfl)) hA2 (by omega) (by omega) (by omega) (by omega) hsl103 hlch105 hB2 (by omega) (by omega) hsu hlbh105 (by omega) (by omega) (fun Mh105 Dh105 vh105 rch105 rsh105 hvh105 hCh105 hSh105 hoh105 hFh105 => ?_) (fun Mh105 Dh105 vh105 rch105 rsh105 hvh105 hCh105 hSh105 hoh105 hFh105 => ?_)
            · skip
              show jj G kR_invert (d + 14) Q rch105 rsh105 92 [some (.ref r), some (.int (nI (k))), some (.int (nI (i))), some (.int (nI (0))), none] [.int (nI (1)), .ref r] Mh105
              have hGh105 := hGu.trans hFh105
              have hAh105 := hA2.congr (lo' := 3) (Nat.le_refl _) hoh105 (Nat.le_refl _) (fun _ _ => rfl) (Nat.le_refl _)
              have h1h105 : RI Dh105 3 1 1 := h1u.congr (Nat.le_refl _) (fun i hi => hoh105 i (by omega))
              refine jn_if_eq (pc := 92) (tgt := 99) kR_invert_d92 (by decide) (by omega) (fun c => by exfalso; omega) (fun _ => ?_)
              refine jn_iconst (pc := 95) 3 kR_invert_d95 (by decide) ?_
              refine jj_goto (pc := 96) (tgt := 100) kR_invert_d96 (by decide) ?_
              have hP_q106 := (hPq104.ffe e0 hGh105)
              have hO_q106 := (hOq104.ff hGh105)
              refine jj_callV (pc := 100) (b := r) (As := [.int (nI (3))]) kR_invert_d100 (kvR_R_refuses hG) (kG_cl hG rfl) rfl (RPX.rr e0 e9 e10 e11 (hPq104.ffe e0 hGh105)) rfl rfl rfl (Nat.le_of_ble_eq_true rfl) (Nat.le_of_ble_eq_true rfl) (jj_bare0 rfl) ?_
              refine rm_refuses (c := 3) hG (RPX.rr e0 e9 e10 e11 (hPq104.ffe e0 hGh105)) (by omega) (fun hp => ?_) (fun hp => ?_)
              · skip
                obtain ⟨Mq106, hMq106⟩ : ∃ Mq106, Mq106 = jj_up Mh105 r (.inl nR, [.int (nI (3)), .ref f, .ref o, .ref st]) := ⟨_, rfl⟩
                rw [← hMq106]
                obtain ⟨hPq106, hOq106, hCq106, hSq106, hTq106⟩ := RPX.refuse (code' := nI (3)) (M' := Mq106) hP_q106 (by rw [e10, e0, e12, e13]; exact hO_q106) (by rw [e0]; exact hCh105) hSh105 (by rw [hMq106, e0, e9, e10, e11])
                rw [e0] at hCq106
                rw [e10, e0, e12, e13] at hOq106
                have hFq106 := (hFq104.trans (RPX.rte e0 hPq104 hGh105)).trans hTq106
                show jj G kR_invert (d + 14) Q rch105 rsh105 103 [some (.ref r), some (.int (nI (k))), some (.int (nI (i))), some (.int (nI (0))), none] [.int (nI (1))] Mq106
                refine jn_if_eq (pc := 103) (tgt := 108) kR_invert_d103 (by decide) (by omega) (fun c => by exfalso; omega) (fun _ => ?_)
                refine jn_iconst (pc := 106) 0 kR_invert_d106 (by decide) ?_
                exact jj_iret (pc := 107) kR_invert_d107 rfl (by rfl) (K Mq106 3 0 σ rch105 rsh105 (Or.inr ⟨k, i, hk, rfl, hi, rfl, Or.inr ⟨c1, Or.inl ⟨hvh105, rfl, rfl, rfl⟩⟩⟩) hL (RT.cls hPq106 (by rw [e10, e0, e12, e13]; exact hOq106) hCA hRA (by rw [e0]; exact hCq106) hSq106 hXu hT3u h1h105 hlu hPL) hFq106)
              · skip
                exact absurd hp (by omega)
            · skip
              show jj G kR_invert (d + 14) Q rch105 rsh105 92 [some (.ref r), some (.int (nI (k))), some (.int (nI (i))), some (.int (nI (0))), none] [.int (nI (0)), .ref r] Mh105
              have hGh105 := hGu.trans hFh105
              have hAh105 := hA2.congr (lo' := 3) (Nat.le_refl _) hoh105 (Nat.le_refl _) (fun _ _ => rfl) (Nat.le_refl _)
              have h1h105 : RI Dh105 3 1 1 := h1u.congr (Nat.le_refl _) (fun i hi => hoh105 i (by omega))
              refine jn_if_eq (pc := 92) (tgt := 99) kR_invert_d92 (by decide) (by omega) (fun _ => ?_) (fun c => by exfalso; omega)
              refine jn_iconst (pc := 99) 0 kR_invert_d99 (by decide) ?_
              have hP_q107 := (hPq104.ffe e0 hGh105)
              have hO_q107 := (hOq104.ff hGh105)
              refine jj_callV (pc := 100) (b := r) (As := [.int (nI (0))]) kR_invert_d100 (kvR_R_refuses hG) (kG_cl hG rfl) rfl (RPX.rr e0 e9 e10 e11 (hPq104.ffe e0 hGh105)) rfl rfl rfl (Nat.le_of_ble_eq_true rfl) (Nat.le_of_ble_eq_true rfl) (jj_bare0 rfl) ?_
              refine rm_refuses (c := 0) hG (RPX.rr e0 e9 e10 e11 (hPq104.ffe e0 hGh105)) (by omega) (fun hp => ?_) (fun hp => ?_)
              · skip
                exact absurd hp (by omega)
              · skip
                obtain ⟨Mq107, hMq107⟩ : ∃ Mq107, Mq107 = jj_up Mh105 r (.inl nR, [.int (nI (0)), .ref f, .ref o, .ref st]) := ⟨_, rfl⟩
                rw [← hMq107]
                obtain ⟨hPq107, hOq107, hCq107, hSq107, hTq107⟩ := RPX.refuse (code' := nI (0)) (M' := Mq107) hP_q107 (by rw [e10, e0, e12, e13]; exact hO_q107) (by rw [e0]; exact hCh105) hSh105 (by rw [hMq107, e0, e9, e10, e11])
                rw [e0] at hCq107
                rw [e10, e0, e12, e13] at hOq107
                have hFq107 := (hFq104.trans (RPX.rte e0 hPq104 hGh105)).trans hTq107
                show jj G kR_invert (d + 14) Q rch105 rsh105 103 [some (.ref r), some (.int (nI (k))), some (.int (nI (i))), some (.int (nI (0))), none] [.int (nI (0))] Mq107
                refine jn_if_eq (pc := 103) (tgt := 108) kR_invert_d103 (by decide) (by omega) (fun _ => ?_) (fun c => by exfalso; omega)
                refine jj_aload_n (pc := 108) kR_invert_d108 rfl ?_
                refine jj_getf (pc := 109) kR_invert_d109 (kfR_forms hG) (RPX.rr e0 e9 e10 e11 hPq107) rfl ?_
                refine jj_iload_n (pc := 112) kR_invert_d112 rfl ?_
                have hesz := wgt2_ESZ l5l103 hfu l1l103 l1l103 hvh105
                have hEJ := EJ.ofESZ hesz (fun i' hi' => by
                  have := rowD_pos (q := qunitm (σ.1 i)) (n := σ.1 i) (i := i') (rowD_pos (q := σ.2.2 i) (n := σ.1 i) (i := i') (z := 1) (by decide))
                  exact fun e => by have := Rat.intCast_inj.mp (e.trans (show (0 : Rat) = ((0 : Int) : Rat) from rfl)); omega)
                obtain ⟨NN, hNN⟩ : ∃ NN, σ.1 i + σ.1 i = NN := ⟨_, rfl⟩
                rw [hNN] at hesz hEJ
                obtain ⟨S2, hS2⟩ : ∃ S2, S2 = 1070 := ⟨_, rfl⟩
                obtain ⟨mN, hmN⟩ : ∃ mN, σ.1 i * NN = mN := ⟨_, rfl⟩
                have hmNb : mN ≤ 16 * 32 := by rw [← hmN]; exact Nat.mul_le_mul l3l103 (by omega)
                obtain ⟨Sz, hSz⟩ : ∃ Sz, Sz = (mN + σ.1 i) * S2 := ⟨_, rfl⟩
                have hSzb : Sz ≤ 528 * 1070 := by rw [hSz, hS2]; exact Nat.mul_le_mul_right _ (by omega)
                have hqa : ∀ k', k' < σ.1 i * σ.1 i → ZB 534 (σ.2.2 i k').num ∧ ZB 534 ((σ.2.2 i k').den : Int) := fun k' h => ⟨(hsl103 k' h).1.up (by decide), (hsl103 k' h).2.up (by decide)⟩
                have hAe : ∀ a, a < σ.1 i → ∀ b, b < σ.1 i → qAB (σ.2.2 i) (qunitm (σ.1 i)) (σ.1 i) (σ.1 i) a b = qA (σ.2.2 i) (σ.1 i) a b := fun a _ b hb => if_pos hb
                have hBe : ∀ a, a < σ.1 i → ∀ b, b < σ.1 i → qAB (σ.2.2 i) (qunitm (σ.1 i)) (σ.1 i) (σ.1 i) a (σ.1 i + b) = if a = b then (1 : Rat) else 0 := fun a _ b hb => by
                  show (if σ.1 i + b < σ.1 i then _ else _) = _
                  rw [if_neg (by omega), show σ.1 i + b - σ.1 i = b by omega, qunitm_at hb]
                have hABe : ∀ a, a < σ.1 i → ∀ b, b < NN → qAB (σ.2.2 i) (qunitm (σ.1 i)) (σ.1 i) (σ.1 i) a b = if b < σ.1 i then σ.2.2 i (a * σ.1 i + b) else if a = b - σ.1 i then 1 else 0 := fun a _ b hb => by
                  unfold qAB
                  by_cases c : b < σ.1 i
                  · rw [if_pos c, if_pos c]
                  · rw [if_neg c, if_neg c, qunitm_at (by omega)]
                refine jj_callV (pc := 113) (b := o) (As := [.int (nI (0))]) kR_invert_d113 (kvR_RO_inverse hG) (kG_cl hG rfl) rfl hOq107.1 rfl rfl rfl (Nat.le_of_ble_eq_true rfl) (Nat.le_of_ble_eq_true rfl) (jj_bare0 rfl) ?_
                refine ro_inverse (s := 534) (Sz := Sz) (E := Tu + n7 + Sz) (AB := qAB (σ.2.2 i) (qunitm (σ.1 i)) (σ.1 i) (σ.1 i)) (loa := 3) hG hOq107 hCq107 hSq107 hXu hlu (h1h105.congr hT3u (fun _ _ => rfl)) hT3u hAh105 hNN hABe hqa (by omega) hPL hEJ ⟨_, GI_start (fun _ _ _ _ => rfl)⟩ (by omega) (by rw [hSz, hmN, hS2]) (by omega) (by omega) (by rw [hnu, hn7]) (by rw [hmN, hnu]; omega) (by rw [hnu]; omega) (fun Mz vv Dz Vz Pz upz lowz rkz Xz Zz vz rcz rsz Ez pz hCz hSz_ hXz hoz hvz hlz hFz hPz hsec hnal => ?_) (fun Pk Ee pe hPk hsec zA => fun Me vv De Te Ve upe lowe Xe Ze ve rce rse hCe hSe hXe te ue hoe hve hle hFe hme => ?_)
                · skip
                  show jj G kR_invert (d + 14) Q rcz rsz 116 [some (.ref r), some (.int (nI (k))), some (.int (nI (i))), some (.int (nI (0))), none] [.int (-1)] Mz
                  have hGz := (FF.refl Mq107 f).trans hFz
                  have hPL := hPz.trans hPL
                  have h1z : RI Dz 3 1 1 := h1h105.congr (Nat.le_refl _) (fun i hi => hoz i (by omega))
                  have hno : ∀ X, ¬ solves (qA (σ.2.2 i) (σ.1 i)) (fun a b => if a = b then (1 : Rat) else 0) X (σ.1 i) (σ.1 i) (σ.1 i) := fun X => by
                    rcases hnal with h | h
                    · exact sec_full hsec hNN hAe hBe h X
                    · exact sec_none hsec hNN hAe hBe h X
                  refine jj_istore (pc := 116) kR_invert_d116 (Nat.le_of_ble_eq_true rfl) ?_
                  refine jj_iload (pc := 118) kR_invert_d118 rfl ?_
                  refine jj_iconst (pc := 120) (v := (-1)) kR_invert_d120 (by decide) ?_
                  refine jj_icmp_eq (pc := 121) (tgt := 139) kR_invert_d121 (by decide) (fun _ => ?_) (fun c => absurd c (by decide))
                  refine jn_iconst (pc := 139) 0 kR_invert_d139 (by decide) ?_
                  exact jj_iret (pc := 140) kR_invert_d140 rfl (by rfl) (K Mz 0 0 σ rcz rsz (Or.inr ⟨k, i, hk, rfl, hi, rfl, Or.inr ⟨c1, Or.inr ⟨hvh105, Or.inl ⟨hno, rfl, rfl, rfl⟩⟩⟩⟩) hL (RT.cls (hPq107.ffe e0 hGz) (by rw [e10, e0, e12, e13]; exact (hOq107.ff hGz)) hCA hRA (by rw [e0]; exact hCz) hSz_ hXz hT3u h1z hlz hPL) (hFq107.trans (RPX.rte e0 hPq107 hGz)))
                · skip
                  show jj G kR_invert (d + 14) Q rce rse 116 [some (.ref r), some (.int (nI (k))), some (.int (nI (i))), some (.int (nI (0))), none] [.int (nI (ttu))] Me
                  obtain ⟨tte, htte⟩ : ∃ tte, ttu + 2 + 2 * nu = tte := ⟨_, rfl⟩
                  rw [hnu, htte] at hCe hle hme
                  rw [hnu] at ue
                  have hGe := (FF.refl Mq107 f).trans hFe
                  have hcape := hXe.cap
                  have hPL := hPk.trans hPL
                  have h1e : RI De 3 1 1 := h1h105.congr (Nat.le_refl _) (fun i hi => hoe i (by omega))
                  have hT3e : 3 ≤ Te := by omega
                  obtain ⟨x1, x2⟩ := sec_sol (nb := σ.1 i) hsec hNN hAe hBe (fun r' k' h1 h2 => by omega)
                  obtain ⟨y1, y2, y3, y4⟩ := sec_rref hsec (by omega) hAe
                  have hcut : ∀ t, t < σ.1 i * σ.1 i → (fun k => solF Ee (σ.1 i) pe (σ.1 i) (k / σ.1 i) (k % σ.1 i)) t = mcut (solF Ee (σ.1 i) pe (σ.1 i)) (σ.1 i) (σ.1 i) t := fun t ht => by
                    obtain ⟨k1, k2, k3⟩ := at_back ht
                    unfold mcut
                    rw [if_pos k1]
                  have hme' := hme.eqv hcut
                  have hsz : ∀ k', k' < σ.1 i * σ.1 i → ZB 534 (mcut (solF Ee (σ.1 i) pe (σ.1 i)) (σ.1 i) (σ.1 i) k').num ∧ ZB 534 ((mcut (solF Ee (σ.1 i) pe (σ.1 i)) (σ.1 i) (σ.1 i) k').den : Int) := fun k' hk' => by
                    obtain ⟨k1, k2, k3⟩ := at_back hk'
                    rw [← hcut k' hk']
                    exact solF_ZB y4 y1.2.1 zA (by decide) (by omega)
                  refine jj_istore (pc := 116) kR_invert_d116 (Nat.le_of_ble_eq_true rfl) ?_
                  refine jj_iload (pc := 118) kR_invert_d118 rfl ?_
                  refine jj_iconst (pc := 120) (v := (-1)) kR_invert_d120 (by decide) ?_
                  refine jj_icmp_eq (pc := 121) (tgt := 139) kR_invert_d121 (by decide) (fun c => absurd c (nI_m1ne (by omega))) (fun _ => ?_)
                  refine jj_aload_n (pc := 124) kR_invert_d124 rfl ?_
                  refine jj_iload_n (pc := 125) kR_invert_d125 rfl ?_
                  refine jj_iload (pc := 126) kR_invert_d126 rfl ?_
                  refine jn_iconst (pc := 128) 3 kR_invert_d128 (by decide) ?_
                  refine jj_callV (pc := 129) (b := r) (As := [.int (nI (k)), .int (nI (ttu)), .int (nI (3))]) kR_invert_d129 (kvR_R_puts hG) (kG_cl hG rfl) rfl (RPX.rr e0 e9 e10 e11 (hPq107.ffe e0 hGe)) rfl rfl rfl (Nat.le_of_ble_eq_true rfl) (Nat.le_of_ble_eq_true rfl) (jj_bare0 rfl) ?_
                  refine rm_puts (s := 534) (lo := Tu) (qn := mcut (solF Ee (σ.1 i) pe (σ.1 i)) (σ.1 i) (σ.1 i)) (Rn := σ.1 i) (cn := σ.1 i) hG e0 e9 e10 e11 (hPq107.ffe e0 hGe) hCe e12 e13 (hOq107.ff hGe) hCA hRA hSe hXe hle h1e hT3e hPL hk (by omega) (by omega) hme' (by omega) (by omega) hsz (by omega) (by omega) (fun M8 rc8 rs8 hnf hR8 hT8 => ?_) (fun M8 rc8 rs8 w8 vv8 pv8 V8 t8 up8 low8 P8 rk8 hfit hR8 hT8 hC8 hg8 hl8 hb8 => ?_)
                  · skip
                    show jj G kR_invert (d + 14) Q rc8 rs8 132 [some (.ref r), some (.int (nI (k))), some (.int (nI (i))), some (.int (nI (0))), some (.int (nI (ttu)))] [.int (nI (0))] M8
                    refine jn_if_eq (pc := 132) (tgt := 139) kR_invert_d132 (by decide) (by omega) (fun _ => ?_) (fun c => by exfalso; omega)
                    refine jn_iconst (pc := 139) 0 kR_invert_d139 (by decide) ?_
                    exact jj_iret (pc := 140) kR_invert_d140 rfl (by rfl) (K M8 3 0 σ rc8 rs8 (Or.inr ⟨k, i, hk, rfl, hi, rfl, Or.inr ⟨c1, Or.inr ⟨hvh105, Or.inr ⟨_, x1, Or.inr ⟨hnf, rfl, rfl, rfl⟩⟩⟩⟩⟩) hL hR8 ((hFq107.trans (RPX.rte e0 hPq107 hGe)).trans hT8))
                  · skip
                    show jj G kR_invert (d + 14) Q rc8 rs8 132 [some (.ref r), some (.int (nI (k))), some (.int (nI (i))), some (.int (nI (0))), some (.int (nI (ttu)))] [.int (nI (1))] M8
                    refine jn_if_eq (pc := 132) (tgt := 139) kR_invert_d132 (by decide) (by omega) (fun c => by exfalso; omega) (fun _ => ?_)
                    refine jn_iconst (pc := 135) 1 kR_invert_d135 (by decide) ?_
                    refine jj_goto (pc := 136) (tgt := 140) kR_invert_d136 (by decide) ?_
                    exact jj_iret (pc := 140) kR_invert_d140 rfl (by rfl) (K M8 0 1 _ rc8 rs8 (Or.inr ⟨k, i, hk, rfl, hi, rfl, Or.inr ⟨c1, Or.inr ⟨hvh105, Or.inr ⟨_, x1, Or.inl ⟨hfit, rfl, rfl, rfl⟩⟩⟩⟩⟩) (hL.rup (by omega) (by omega) hfit) hR8 ((hFq107.trans (RPX.rte e0 hPq107 hGe)).trans hT8))
        · skip
          refine jn_iconst (pc := 58) 2 kR_invert_d58 (by decide) ?_
          refine jj_goto (pc := 59) (tgt := 63) kR_invert_d59 (by decide) ?_
          have hP_q108 := (hPq101.ffe e0 hGl103)
          have hO_q108 := (hOq101.ff hGl103)
          refine jj_callV (pc := 63) (b := r) (As := [.int (nI (2))]) kR_invert_d63 (kvR_R_refuses hG) (kG_cl hG rfl) rfl (RPX.rr e0 e9 e10 e11 (hPq101.ffe e0 hGl103)) rfl rfl rfl (Nat.le_of_ble_eq_true rfl) (Nat.le_of_ble_eq_true rfl) (jj_bare0 rfl) ?_
          refine rm_refuses (c := 2) hG (RPX.rr e0 e9 e10 e11 (hPq101.ffe e0 hGl103)) (by omega) (fun hp => ?_) (fun hp => ?_)
          · skip
            obtain ⟨Mq108, hMq108⟩ : ∃ Mq108, Mq108 = jj_up Ml103 r (.inl nR, [.int (nI (2)), .ref f, .ref o, .ref st]) := ⟨_, rfl⟩
            rw [← hMq108]
            obtain ⟨hPq108, hOq108, hCq108, hSq108, hTq108⟩ := RPX.refuse (code' := nI (2)) (M' := Mq108) hP_q108 (by rw [e10, e0, e12, e13]; exact hO_q108) (by rw [e0]; exact hCl103) hSl103 (by rw [hMq108, e0, e9, e10, e11])
            rw [e0] at hCq108
            rw [e10, e0, e12, e13] at hOq108
            have hFq108 := (hFq101.trans (RPX.rte e0 hPq101 hGl103)).trans hTq108
            show jj G kR_invert (d + 14) Q rcl103 rsl103 66 [some (.ref r), some (.int (nI (k))), some (.int (nI (i))), some (.int (nI (0))), none] [.int (nI (1))] Mq108
            refine jn_if_eq (pc := 66) (tgt := 71) kR_invert_d66 (by decide) (by omega) (fun c => by exfalso; omega) (fun _ => ?_)
            refine jn_iconst (pc := 69) 0 kR_invert_d69 (by decide) ?_
            exact jj_iret (pc := 70) kR_invert_d70 rfl (by rfl) (K Mq108 2 0 σ rcl103 rsl103 (Or.inr ⟨k, i, hk, rfl, hi, rfl, Or.inl ⟨c1, rfl, rfl, rfl⟩⟩) hL (RT.cls hPq108 (by rw [e10, e0, e12, e13]; exact hOq108) hCA hRA (by rw [e0]; exact hCq108) hSq108 hXl103 hT3l103 h1l103 hll103 hPL) hFq108)
          · skip
            exact absurd hp (by omega)
    · skip
      show jj G kR_invert (d + 14) Q rc rs 12 [some (.ref r), some (.int (nI (k))), some (.int (y)), none, none] [.int (nI (0)), .ref r] M
      refine jn_if_eq (pc := 12) (tgt := 19) kR_invert_d12 (by decide) (by omega) (fun _ => ?_) (fun c => by exfalso; omega)
      refine jn_iconst (pc := 19) 1 kR_invert_d19 (by decide) ?_
      have hP_q109 := hP
      have hO_q109 := hO
      refine jj_callV (pc := 20) (b := r) (As := [.int (nI (1))]) kR_invert_d20 (kvR_R_refuses hG) (kG_cl hG rfl) rfl (RPX.rr e0 e9 e10 e11 hP) rfl rfl rfl (Nat.le_of_ble_eq_true rfl) (Nat.le_of_ble_eq_true rfl) (jj_bare0 rfl) ?_
      refine rm_refuses (c := 1) hG (RPX.rr e0 e9 e10 e11 hP) (by omega) (fun hp => ?_) (fun hp => ?_)
      · skip
        obtain ⟨Mq109, hMq109⟩ : ∃ Mq109, Mq109 = jj_up M r (.inl nR, [.int (nI (1)), .ref f, .ref o, .ref st]) := ⟨_, rfl⟩
        rw [← hMq109]
        obtain ⟨hPq109, hOq109, hCq109, hSq109, hTq109⟩ := RPX.refuse (code' := nI (1)) (M' := Mq109) hP_q109 (by rw [e10, e0, e12, e13]; exact hO_q109) (by rw [e0]; exact hC) hS (by rw [hMq109, e0, e9, e10, e11])
        rw [e0] at hCq109
        rw [e10, e0, e12, e13] at hOq109
        have hFq109 := (RTF.refl M F).trans hTq109
        show jj G kR_invert (d + 14) Q rc rs 23 [some (.ref r), some (.int (nI (k))), some (.int (y)), none, none] [.int (nI (1))] Mq109
        refine jn_if_eq (pc := 23) (tgt := 28) kR_invert_d23 (by decide) (by omega) (fun c => by exfalso; omega) (fun _ => ?_)
        refine jn_iconst (pc := 26) 0 kR_invert_d26 (by decide) ?_
        exact jj_iret (pc := 27) kR_invert_d27 rfl (by rfl) (K Mq109 1 0 σ rc rs (Or.inl ⟨fun h => hn h.2, rfl, rfl, rfl⟩) hL (RT.cls hPq109 (by rw [e10, e0, e12, e13]; exact hOq109) hCA hRA (by rw [e0]; exact hCq109) hSq109 hX hT3 h1 htV hPL) hFq109)
      · skip
        exact absurd hp (by omega)
  · skip
    show jj G kR_invert (d + 14) Q rc rs 5 [some (.ref r), some (.int (x)), some (.int (y)), none, none] [.int (nI (0)), .ref r] M
    refine jn_if_eq (pc := 5) (tgt := 19) kR_invert_d5 (by decide) (by omega) (fun _ => ?_) (fun c => by exfalso; omega)
    refine jn_iconst (pc := 19) 1 kR_invert_d19 (by decide) ?_
    have hP_q110 := hP
    have hO_q110 := hO
    refine jj_callV (pc := 20) (b := r) (As := [.int (nI (1))]) kR_invert_d20 (kvR_R_refuses hG) (kG_cl hG rfl) rfl (RPX.rr e0 e9 e10 e11 hP) rfl rfl rfl (Nat.le_of_ble_eq_true rfl) (Nat.le_of_ble_eq_true rfl) (jj_bare0 rfl) ?_
    refine rm_refuses (c := 1) hG (RPX.rr e0 e9 e10 e11 hP) (by omega) (fun hp => ?_) (fun hp => ?_)
    · skip
      obtain ⟨Mq110, hMq110⟩ : ∃ Mq110, Mq110 = jj_up M r (.inl nR, [.int (nI (1)), .ref f, .ref o, .ref st]) := ⟨_, rfl⟩
      rw [← hMq110]
      obtain ⟨hPq110, hOq110, hCq110, hSq110, hTq110⟩ := RPX.refuse (code' := nI (1)) (M' := Mq110) hP_q110 (by rw [e10, e0, e12, e13]; exact hO_q110) (by rw [e0]; exact hC) hS (by rw [hMq110, e0, e9, e10, e11])
      rw [e0] at hCq110
      rw [e10, e0, e12, e13] at hOq110
      have hFq110 := (RTF.refl M F).trans hTq110
      show jj G kR_invert (d + 14) Q rc rs 23 [some (.ref r), some (.int (x)), some (.int (y)), none, none] [.int (nI (1))] Mq110
      refine jn_if_eq (pc := 23) (tgt := 28) kR_invert_d23 (by decide) (by omega) (fun c => by exfalso; omega) (fun _ => ?_)
      refine jn_iconst (pc := 26) 0 kR_invert_d26 (by decide) ?_
      exact jj_iret (pc := 27) kR_invert_d27 rfl (by rfl) (K Mq110 1 0 σ rc rs (Or.inl ⟨fun h => hn h.1, rfl, rfl, rfl⟩) hL (RT.cls hPq110 (by rw [e10, e0, e12, e13]; exact hOq110) hCA hRA (by rw [e0]; exact hCq110) hSq110 hX hT3 h1 htV hPL) hFq110)
    · skip
      exact absurd hp (by omega)
end RM20
