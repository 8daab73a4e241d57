/-! ===== the reference: solve, invert (printed by wip/gen/rm19.py) ===== -/
theorem rowlcm2_ZB {q qb : Nat → Rat} {m n nb i k : Nat} (h : fitC q (m * n)) (hb : fitC qb (m * nb)) (hi : i < m) (hk : k ≤ nb) : ZB 534 (lcmf (rowD q n i 1) (fun j => (qb (i * nb + j)).den) k) := by
  have hC : 0 < lcmf 1 (fun j => (q j).den) (m * n) := lcmf_pos (by decide) (fun i _ => (q i).den_pos)
  have hCb : 0 < lcmf 1 (fun j => (qb j).den) (m * nb) := lcmf_pos (by decide) (fun i _ => (qb i).den_pos)
  have h0 : rowD q n i 1 ∣ lcmf 1 (fun j => (q j).den) (m * n) := lcmf_least (Int.one_dvd _) (fun j hj => lcmf_dvd' (f := fun j => (q j).den) (cell_lt hi hj))
  have h1 : lcmf (rowD q n i 1) (fun j => (qb (i * nb + j)).den) k ∣ lcmf 1 (fun j => (q j).den) (m * n) * lcmf 1 (fun j => (qb j).den) (m * nb) := lcmf_least (Int.dvd_trans h0 (Int.dvd_mul_right ..)) (fun j hj => Int.dvd_trans (lcmf_dvd' (f := fun j => (qb j).den) (cell_lt hi (by omega))) (Int.dvd_mul_left ..))
  have h3 := Nat.le_of_dvd (by have := Int.mul_pos hC hCb; omega) (Int.natAbs_dvd_natAbs.mpr h1)
  have h4 := (blen_ZB (h.1 _ (Nat.le_refl _))).mul (blen_ZB (hb.1 _ (Nat.le_refl _)))
  unfold ZB at h4 ⊢
  rw [show 267 + 267 = 534 from rfl] at h4
  omega
/-- both side by side -/
def qAB (q qb : Nat → Rat) (n nb : Nat) : qmat := fun a b => if b < n then q (a * n + b) else qb (a * nb + (b - n))
theorem wgt2_ESZ {q qb : Nat → Rat} {m n nb : Nat} (hf : fitC q (m * n)) (hfb : fitC qb (m * nb)) (hm : 1 ≤ m) (hn : 1 ≤ n) (hh : ¬ heavy2 q qb m n nb) : ESZ (fun i j => (rowD qb nb i (rowD q n i 1) : Rat) * qAB q qb n nb i j) (fun i => (rowD qb nb i (rowD q n i 1) : Rat)) m (n + nb) 534 := by
  obtain ⟨b0, w1, w2, w3, w4⟩ := wgt_two hf hfb hm hn hh
  refine ESZ.of (b := b0) (wb := 2 ^ 6000) (K := min m (n + nb)) (fun i hi j hj => ?_) w3 rfl w1 (Nat.pow_pos (by decide)) (pow_s w4 (Nat.le_refl _) (by decide))
  unfold qAB
  by_cases c : j < n
  · rw [if_pos c]; exact (w2 i hi).1 j c
  · rw [if_neg c]; exact (w2 i hi).2 (j - n) (by omega)
theorem ZB_zero (s : Nat) : ZB s (0 : Rat).num ∧ ZB s (((0 : Rat).den : Nat) : Int) ∨ s = 0 := by
  rcases Nat.eq_zero_or_pos s with h | h
  · exact Or.inr h
  · refine Or.inl ⟨Nat.pow_pos (by decide), ?_⟩
    show 1 < 32768 ^ s
    exact Nat.one_lt_pow (by omega) (by decide)
theorem solF_ZB {E : qmat} {m n N rk s : Nat} {p : Nat → Nat} (hr : rk ≤ m) (hp : ∀ i k, i < k → k < rk → p i < p k) (hz : ∀ a b, a < m → b < N → ZB s (E a b).num ∧ ZB s ((E a b).den : Int)) (hs : 0 < s) {i j : Nat} (hj : n + j < N) : ZB s (solF E rk p n i j).num ∧ ZB s ((solF E rk p n i j).den : Int) := by
  by_cases c : ∃ k, k < rk ∧ p k = i
  · obtain ⟨k, hk, e⟩ := c
    rw [← e, solF_pivot hp hk]
    exact hz _ _ (by omega) hj
  · rw [solF_none (fun k hk e => c ⟨k, hk, e⟩)]
    rcases ZB_zero s with h | h
    · exact h
    · omega
theorem qunitm_fit {n : Nat} : fitC (qunitm n) (n * n) := by
  have hd : ∀ j, (qunitm n j).den = 1 := fun j => by unfold qunitm; split <;> rfl
  have e : ∀ k, lcmf 1 (fun j => (qunitm n j).den) k = 1 := fun k => by
    rw [show (fun j => (qunitm n j).den) = (fun _ => 1) from funext hd]; exact lcmf_one k
  refine ⟨fun k _ => by rw [e]; decide, fun j _ => ?_⟩
  rw [e, hd]
  unfold qunitm
  split <;> decide
section RM19
variable {G : jg} {d : Nat} {Q : jq} {rc rs : Nat} {M : mheap} {F : Nat → Nat} {r : Nat} {code : Int32} {σ : rst} {X Z : Nat}
theorem rp_solve {x y z : Int32} (hG : kG G) (e9 : F 9 = r) (hT : RT M F code σ X Z rc rs) (hL : LG σ)
(K : ∀ M' cd (v : Nat) σ' rc' rs', semSolve σ x y z cd v σ' → LG σ' → RT M' F (nI cd) σ' X Z rc' rs' → RTF M M' F → Q (.returned (some (.int (nI v)))) M' rc' rs') : jj G kR_solve (d + 13) Q rc rs 0 (jj_ent [.ref r, .int x, .int y, .int z] 7) [] M := by
  obtain ⟨pt, zt, w, vv, pv, D, T, v2, V, t, up, low, P, rk, CA, RA, fi, se, X1, Z1, hP, hO, hCA, hRA, hC, hS, hX, hT3, h1, htV, hPL⟩ := hT.opn
  obtain ⟨f, e0⟩ : ∃ f, F 0 = f := ⟨_, rfl⟩
  obtain ⟨o, e10⟩ : ∃ o, F 10 = o := ⟨_, rfl⟩
  obtain ⟨st, e11⟩ : ∃ st, F 11 = st := ⟨_, rfl⟩
  obtain ⟨ca, e12⟩ : ∃ ca, F 12 = ca := ⟨_, rfl⟩
  obtain ⟨ra, e13⟩ : ∃ ra, F 13 = ra := ⟨_, rfl⟩
  rw [e10, e0, e12, e13] at hO
  rw [e0] at hC
  have hcap := hX.cap
  show jj G kR_solve (d + 13) Q rc rs 0 [some (.ref r), some (.int (x)), some (.int (y)), some (.int (z)), none, none, none] [] M
  refine jj_aload_n (pc := 0) kR_solve_d0 rfl ?_
  refine jj_iload_n (pc := 1) kR_solve_d1 rfl ?_
  refine jj_callS (pc := 2) (As := [.int (x)]) kR_solve_d2 (kvR_R_isRegister hG) rfl rfl rfl (Nat.le_of_ble_eq_true rfl) (Nat.le_of_ble_eq_true rfl) (jj_bare0 rfl) ?_
  refine rm_isRegister (fun k hk ek => ?_) (fun hn => ?_)
  · skip
    subst ek
    show jj G kR_solve (d + 13) Q rc rs 5 [some (.ref r), some (.int (nI (k))), some (.int (y)), some (.int (z)), none, none, none] [.int (nI (1)), .ref r] M
    refine jn_if_eq (pc := 5) (tgt := 26) kR_solve_d5 (by decide) (by omega) (fun c => by exfalso; omega) (fun _ => ?_)
    refine jj_iload_n (pc := 8) kR_solve_d8 rfl ?_
    refine jj_callS (pc := 9) (As := [.int (y)]) kR_solve_d9 (kvR_R_isRegister hG) rfl rfl rfl (Nat.le_of_ble_eq_true rfl) (Nat.le_of_ble_eq_true rfl) (jj_bare0 rfl) ?_
    refine rm_isRegister (fun i hi ei => ?_) (fun hn => ?_)
    · skip
      subst ei
      show jj G kR_solve (d + 13) Q rc rs 12 [some (.ref r), some (.int (nI (k))), some (.int (nI (i))), some (.int (z)), none, none, none] [.int (nI (1)), .ref r] M
      refine jn_if_eq (pc := 12) (tgt := 26) kR_solve_d12 (by decide) (by omega) (fun c => by exfalso; omega) (fun _ => ?_)
      refine jj_iload_n (pc := 15) kR_solve_d15 rfl ?_
      refine jj_callS (pc := 16) (As := [.int (z)]) kR_solve_d16 (kvR_R_isRegister hG) rfl rfl rfl (Nat.le_of_ble_eq_true rfl) (Nat.le_of_ble_eq_true rfl) (jj_bare0 rfl) ?_
      refine rm_isRegister (fun j hj ej => ?_) (fun hn => ?_)
      · skip
        subst ej
        show jj G kR_solve (d + 13) Q rc rs 19 [some (.ref r), some (.int (nI (k))), some (.int (nI (i))), some (.int (nI (j))), none, none, none] [.int (nI (1)), .ref r] M
        refine jn_if_eq (pc := 19) (tgt := 26) kR_solve_d19 (by decide) (by omega) (fun c => by exfalso; omega) (fun _ => ?_)
        refine jn_iconst (pc := 22) 0 kR_solve_d22 (by decide) ?_
        refine jj_goto (pc := 23) (tgt := 27) kR_solve_d23 (by decide) ?_
        have hP_q101 := hP
        have hO_q101 := hO
        refine jj_callV (pc := 27) (b := r) (As := [.int (nI (0))]) kR_solve_d27 (kvR_R_refuses hG) (kG_cl hG rfl) rfl (RPX.rr e0 e9 e10 e11 hP) rfl rfl rfl (Nat.le_of_ble_eq_true rfl) (Nat.le_of_ble_eq_true rfl) (jj_bare0 rfl) ?_
        refine rm_refuses (c := 0) hG (RPX.rr e0 e9 e10 e11 hP) (by omega) (fun hp => ?_) (fun hp => ?_)
        · skip
          exact absurd hp (by omega)
        · skip
          obtain ⟨Mq101, hMq101⟩ : ∃ Mq101, Mq101 = jj_up M r (.inl nR, [.int (nI (0)), .ref f, .ref o, .ref st]) := ⟨_, rfl⟩
          rw [← hMq101]
          obtain ⟨hPq101, hOq101, hCq101, hSq101, hTq101⟩ := RPX.refuse (code' := nI (0)) (M' := Mq101) hP_q101 (by rw [e10, e0, e12, e13]; exact hO_q101) (by rw [e0]; exact hC) hS (by rw [hMq101, e0, e9, e10, e11])
          rw [e0] at hCq101
          rw [e10, e0, e12, e13] at hOq101
          have hFq101 := (RTF.refl M F).trans hTq101
          show jj G kR_solve (d + 13) Q rc rs 30 [some (.ref r), some (.int (nI (k))), some (.int (nI (i))), some (.int (nI (j))), none, none, none] [.int (nI (0))] Mq101
          refine jn_if_eq (pc := 30) (tgt := 35) kR_solve_d30 (by decide) (by omega) (fun _ => ?_) (fun c => by exfalso; omega)
          refine jj_aload_n (pc := 35) kR_solve_d35 rfl ?_
          refine jj_callV (pc := 36) (b := r) (As := []) kR_solve_d36 (kvR_R_begin hG) (kG_cl hG rfl) rfl (RPX.rr e0 e9 e10 e11 hPq101) rfl rfl rfl (Nat.le_of_ble_eq_true rfl) (Nat.le_of_ble_eq_true rfl) (jj_bare0 rfl) ?_
          refine rm_begin hG e0 e9 e10 e11 hPq101 hCq101 hSq101 hT3 (fun Mb102 hCb102 hSb102 hFb102 => ?_)
          show jj G kR_solve (d + 13) Q rc rs 39 [some (.ref r), some (.int (nI (k))), some (.int (nI (i))), some (.int (nI (j))), none, none, none] [] Mb102
          have hGb102 := (FF.refl Mq101 f).trans hFb102
          refine jj_aload_n (pc := 39) kR_solve_d39 rfl ?_
          refine jj_iload_n (pc := 40) kR_solve_d40 rfl ?_
          refine jj_callV (pc := 41) (b := r) (As := [.int (nI (i))]) kR_solve_d41 (kvR_R_load hG) (kG_cl hG rfl) rfl (RPX.rr e0 e9 e10 e11 (hPq101.ffe e0 hGb102)) rfl rfl rfl (Nat.le_of_ble_eq_true rfl) (Nat.le_of_ble_eq_true rfl) (jj_bare0 rfl) ?_
          refine rm_load hG e0 e9 e10 e11 (hPq101.ffe e0 hGb102) hCb102 hSb102 hX (Nat.zero_le _) h1 (Nat.le_refl 3) hL hi (by omega) (by omega) (fun Ml103 vv Dl103 Tl103 Vl103 upl103 lowl103 Xl103 Zl103 vl103 rcl103 rsl103 hCl103 hSl103 hXl103 tl103 ul103 hol103 hvl103 hll103 hFl103 hml103 => ?_)
          show jj G kR_solve (d + 13) Q rcl103 rsl103 44 [some (.ref r), some (.int (nI (k))), some (.int (nI (i))), some (.int (nI (j))), none, none, none] [.int (nI (0))] Ml103
          obtain ⟨l1l103, l2l103, l3l103, l4l103, l5l103, l6l103⟩ := hL i hi
          obtain ⟨nl103, hnl103⟩ : ∃ nl103, σ.1 i * σ.2.1 i = nl103 := ⟨_, rfl⟩
          have hbl103 : nl103 ≤ 16 * 16 := by rw [← hnl103]; exact Nat.mul_le_mul l3l103 l4l103
          obtain ⟨ttl103, httl103⟩ : ∃ ttl103, 0 + 2 + 2 * nl103 = ttl103 := ⟨_, rfl⟩
          rw [hnl103, httl103] at hCl103 hll103 hml103
          obtain ⟨ldl103, hldl103⟩ : ∃ ldl103, ldS (σ.2.2 i) (σ.1 i * σ.2.1 i) = ldl103 := ⟨_, rfl⟩
          have hlbl103 : ldl103 ≤ 137216 := by rw [← hldl103]; exact ldS_fit l5l103 (by omega)
          rw [hldl103] at ul103
          have hGl103 := hGb102.trans hFl103
          have hcapl103 := hXl103.cap
          have hsl103 : ∀ k', k' < σ.1 i * σ.2.1 i → ZB 267 (σ.2.2 i k').num ∧ ZB 267 ((σ.2.2 i k').den : Int) := fun k' h => ⟨(fit_sizes l5l103 h).1, (fit_sizes l5l103 h).2.1⟩
          have h1l103 : RI Dl103 3 1 1 := h1.congr (Nat.le_refl _) (fun i hi => hol103 i (by omega))
          have hT3l103 : 3 ≤ Tl103 := by omega
          refine jj_istore (pc := 44) kR_solve_d44 (Nat.le_of_ble_eq_true rfl) ?_
          refine jj_aload_n (pc := 46) kR_solve_d46 rfl ?_
          refine jj_iload_n (pc := 47) kR_solve_d47 rfl ?_
          refine jj_callV (pc := 48) (b := r) (As := [.int (nI (j))]) kR_solve_d48 (kvR_R_load hG) (kG_cl hG rfl) rfl (RPX.rr e0 e9 e10 e11 (hPq101.ffe e0 hGl103)) rfl rfl rfl (Nat.le_of_ble_eq_true rfl) (Nat.le_of_ble_eq_true rfl) (jj_bare0 rfl) ?_
          refine rm_load hG e0 e9 e10 e11 (hPq101.ffe e0 hGl103) hCl103 hSl103 hXl103 hll103 h1l103 hT3l103 hL hj (by omega) (by omega) (fun Ml104 vv Dl104 Tl104 Vl104 upl104 lowl104 Xl104 Zl104 vl104 rcl104 rsl104 hCl104 hSl104 hXl104 tl104 ul104 hol104 hvl104 hll104 hFl104 hml104 => ?_)
          show jj G kR_solve (d + 13) Q rcl104 rsl104 51 [some (.ref r), some (.int (nI (k))), some (.int (nI (i))), some (.int (nI (j))), some (.int (nI (0))), none, none] [.int (nI (ttl103))] Ml104
          obtain ⟨l1l104, l2l104, l3l104, l4l104, l5l104, l6l104⟩ := hL j hj
          obtain ⟨nl104, hnl104⟩ : ∃ nl104, σ.1 j * σ.2.1 j = nl104 := ⟨_, rfl⟩
          have hbl104 : nl104 ≤ 16 * 16 := by rw [← hnl104]; exact Nat.mul_le_mul l3l104 l4l104
          obtain ⟨ttl104, httl104⟩ : ∃ ttl104, ttl103 + 2 + 2 * nl104 = ttl104 := ⟨_, rfl⟩
          rw [hnl104, httl104] at hCl104 hll104 hml104
          obtain ⟨ldl104, hldl104⟩ : ∃ ldl104, ldS (σ.2.2 j) (σ.1 j * σ.2.1 j) = ldl104 := ⟨_, rfl⟩
          have hlbl104 : ldl104 ≤ 137216 := by rw [← hldl104]; exact ldS_fit l5l104 (by omega)
          rw [hldl104] at ul104
          have hGl104 := hGl103.trans hFl104
          have hcapl104 := hXl104.cap
          have hsl104 : ∀ k', k' < σ.1 j * σ.2.1 j → ZB 267 (σ.2.2 j k').num ∧ ZB 267 ((σ.2.2 j k').den : Int) := fun k' h => ⟨(fit_sizes l5l104 h).1, (fit_sizes l5l104 h).2.1⟩
          have h1l104 : RI Dl104 3 1 1 := h1l103.congr (Nat.le_refl _) (fun i hi => hol104 i (by omega))
          have hT3l104 : 3 ≤ Tl104 := by omega
          have hA := hml103.congr (lo' := 3) tl104 hol104 (show ttl103 ≤ ttl104 by omega) hvl104 (Nat.le_refl _)
          have hB := hml104
          obtain ⟨a1, a2, a3, -⟩ := id hA
          obtain ⟨b1, b2, b3, -⟩ := id hB
          refine jj_istore (pc := 51) kR_solve_d51 (Nat.le_of_ble_eq_true rfl) ?_
          refine jj_aload_n (pc := 53) kR_solve_d53 rfl ?_
          refine jj_aload_n (pc := 54) kR_solve_d54 rfl ?_
          refine jj_getf (pc := 55) kR_solve_d55 (kfR_f hG) (RPX.rr e0 e9 e10 e11 (hPq101.ffe e0 hGl104)) rfl ?_
          refine jj_iload (pc := 58) kR_solve_d58 rfl ?_
          refine jj_callV (pc := 60) (b := f) (As := [.int (nI (0))]) kR_solve_d60 (kvR_RF_rows hG) (kG_cl hG rfl) rfl hCl104.1 rfl rfl rfl (Nat.le_of_ble_eq_true rfl) (Nat.le_of_ble_eq_true rfl) (jj_bare0 rfl) ?_
          refine rf_rows hG hCl104 (by omega) (by omega) ?_
          show jj G kR_solve (d + 13) Q rcl104 rsl104 63 [some (.ref r), some (.int (nI (k))), some (.int (nI (i))), some (.int (nI (j))), some (.int (nI (0))), some (.int (nI (ttl103))), none] [.int (Vl104.getD 0 0), .ref r] Ml104
          refine jn_top (.int (nI (σ.1 i))) (by rw [a2]) ?_
          refine jj_aload_n (pc := 63) kR_solve_d63 rfl ?_
          refine jj_getf (pc := 64) kR_solve_d64 (kfR_f hG) (RPX.rr e0 e9 e10 e11 (hPq101.ffe e0 hGl104)) rfl ?_
          refine jj_iload (pc := 67) kR_solve_d67 rfl ?_
          refine jj_callV (pc := 69) (b := f) (As := [.int (nI (ttl103))]) kR_solve_d69 (kvR_RF_rows hG) (kG_cl hG rfl) rfl hCl104.1 rfl rfl rfl (Nat.le_of_ble_eq_true rfl) (Nat.le_of_ble_eq_true rfl) (jj_bare0 rfl) ?_
          refine rf_rows hG hCl104 (by omega) (by omega) ?_
          show jj G kR_solve (d + 13) Q rcl104 rsl104 72 [some (.ref r), some (.int (nI (k))), some (.int (nI (i))), some (.int (nI (j))), some (.int (nI (0))), some (.int (nI (ttl103))), none] [.int (Vl104.getD ttl103 0), .int (nI (σ.1 i)), .ref r] Ml104
          refine jn_top (.int (nI (σ.1 j))) (by rw [b2]) ?_
          refine jn_icmp_eq (pc := 72) (tgt := 79) kR_solve_d72 (by decide) (by omega) (by omega) (fun c1 => ?_) (fun c1 => ?_)
          · skip
            rw [← c1] at hB hsl104 l5l104
            refine jj_aload_n (pc := 79) kR_solve_d79 rfl ?_
            refine jj_iload (pc := 80) kR_solve_d80 rfl ?_
            refine jj_iload (pc := 82) kR_solve_d82 rfl ?_
            have hlch105 : ∀ row, row < σ.1 i → ∀ k, k ≤ σ.2.1 i → ZB 534 (lcmf 1 (fun j => (σ.2.2 i (row * σ.2.1 i + j)).den) k) := fun row h1 k h2 => (rowlcm_ZB l5l103 h1 h2).up (by decide)
            have hlbh105 : ∀ row, row < σ.1 i → ∀ k, k ≤ σ.2.1 j → ZB 534 (lcmf (rowD (σ.2.2 i) (σ.2.1 i) row 1) (fun jj9 => ((σ.2.2 j) (row * σ.2.1 j + jj9)).den) k) := fun row h1 k h2 => rowlcm2_ZB l5l103 l5l104 h1 h2
            refine jj_callV (pc := 84) (b := r) (As := [.int (nI (0)), .int (nI (ttl103))]) kR_solve_d84 (kvR_R_isHeavy hG) (kG_cl hG rfl) rfl (RPX.rr e0 e9 e10 e11 (hPq101.ffe e0 hGl104)) rfl rfl rfl (Nat.le_of_ble_eq_true rfl) (Nat.le_of_ble_eq_true rfl) (jj_bare0 rfl) ?_
            refine rm_isHeavy2 (s := 267) (e := 534) (q := σ.2.2 i) (qb := (σ.2.2 j)) (lo := 3) (lob := Tl103) hG ⟨(RPX.rr e0 e9 e10 e11 (hPq101.ffe e0 hGl104)), by rw [← e0, ← e9]; exact (hPq101.ffe e0 hGl104).2.2.2.2.2 0 9 (by decide) (by decide) (by decide)⟩ hCl104 hSl104 (by omega) hll104 hT3l104 (h1l104.congr hT3l104 (fun _ _ => rfl)) hA (by omega) (by omega) (by omega) (by omega) hsl103 hlch105 hB (by omega) (by omega) hsl104 hlbh105 (by omega) (by omega) (fun Mh105 Dh105 vh105 rch105 rsh105 hvh105 hCh105 hSh105 hoh105 hFh105 => ?_) (fun Mh105 Dh105 vh105 rch105 rsh105 hvh105 hCh105 hSh105 hoh105 hFh105 => ?_)
            · skip
              show jj G kR_solve (d + 13) Q rch105 rsh105 87 [some (.ref r), some (.int (nI (k))), some (.int (nI (i))), some (.int (nI (j))), some (.int (nI (0))), some (.int (nI (ttl103))), none] [.int (nI (1)), .ref r] Mh105
              have hGh105 := hGl104.trans hFh105
              have hAh105 := hA.congr (lo' := 3) (Nat.le_refl _) hoh105 (Nat.le_refl _) (fun _ _ => rfl) (Nat.le_refl _)
              have hBh105 := hB.congr (lo' := Tl103) (Nat.le_refl _) hoh105 (Nat.le_refl _) (fun _ _ => rfl) (Nat.le_refl _)
              have h1h105 : RI Dh105 3 1 1 := h1l104.congr (Nat.le_refl _) (fun i hi => hoh105 i (by omega))
              refine jn_if_eq (pc := 87) (tgt := 94) kR_solve_d87 (by decide) (by omega) (fun c => by exfalso; omega) (fun _ => ?_)
              refine jn_iconst (pc := 90) 3 kR_solve_d90 (by decide) ?_
              refine jj_goto (pc := 91) (tgt := 95) kR_solve_d91 (by decide) ?_
              have hP_q106 := (hPq101.ffe e0 hGh105)
              have hO_q106 := (hOq101.ff hGh105)
              refine jj_callV (pc := 95) (b := r) (As := [.int (nI (3))]) kR_solve_d95 (kvR_R_refuses hG) (kG_cl hG rfl) rfl (RPX.rr e0 e9 e10 e11 (hPq101.ffe e0 hGh105)) rfl rfl rfl (Nat.le_of_ble_eq_true rfl) (Nat.le_of_ble_eq_true rfl) (jj_bare0 rfl) ?_
              refine rm_refuses (c := 3) hG (RPX.rr e0 e9 e10 e11 (hPq101.ffe e0 hGh105)) (by omega) (fun hp => ?_) (fun hp => ?_)
              · skip
                obtain ⟨Mq106, hMq106⟩ : ∃ Mq106, Mq106 = jj_up Mh105 r (.inl nR, [.int (nI (3)), .ref f, .ref o, .ref st]) := ⟨_, rfl⟩
                rw [← hMq106]
                obtain ⟨hPq106, hOq106, hCq106, hSq106, hTq106⟩ := RPX.refuse (code' := nI (3)) (M' := Mq106) hP_q106 (by rw [e10, e0, e12, e13]; exact hO_q106) (by rw [e0]; exact hCh105) hSh105 (by rw [hMq106, e0, e9, e10, e11])
                rw [e0] at hCq106
                rw [e10, e0, e12, e13] at hOq106
                have hFq106 := (hFq101.trans (RPX.rte e0 hPq101 hGh105)).trans hTq106
                show jj G kR_solve (d + 13) Q rch105 rsh105 98 [some (.ref r), some (.int (nI (k))), some (.int (nI (i))), some (.int (nI (j))), some (.int (nI (0))), some (.int (nI (ttl103))), none] [.int (nI (1))] Mq106
                refine jn_if_eq (pc := 98) (tgt := 103) kR_solve_d98 (by decide) (by omega) (fun c => by exfalso; omega) (fun _ => ?_)
                refine jn_iconst (pc := 101) 0 kR_solve_d101 (by decide) ?_
                exact jj_iret (pc := 102) kR_solve_d102 rfl (by rfl) (K Mq106 3 0 σ rch105 rsh105 (Or.inr ⟨k, i, j, hk, rfl, hi, rfl, hj, rfl, Or.inr ⟨c1, Or.inl ⟨hvh105, rfl, rfl, rfl⟩⟩⟩) hL (RT.cls hPq106 (by rw [e10, e0, e12, e13]; exact hOq106) hCA hRA (by rw [e0]; exact hCq106) hSq106 hXl104 hT3l104 h1h105 hll104 hPL) hFq106)
              · skip
                exact absurd hp (by omega)
            · skip
              show jj G kR_solve (d + 13) Q rch105 rsh105 87 [some (.ref r), some (.int (nI (k))), some (.int (nI (i))), some (.int (nI (j))), some (.int (nI (0))), some (.int (nI (ttl103))), none] [.int (nI (0)), .ref r] Mh105
              have hGh105 := hGl104.trans hFh105
              have hAh105 := hA.congr (lo' := 3) (Nat.le_refl _) hoh105 (Nat.le_refl _) (fun _ _ => rfl) (Nat.le_refl _)
              have hBh105 := hB.congr (lo' := Tl103) (Nat.le_refl _) hoh105 (Nat.le_refl _) (fun _ _ => rfl) (Nat.le_refl _)
              have h1h105 : RI Dh105 3 1 1 := h1l104.congr (Nat.le_refl _) (fun i hi => hoh105 i (by omega))
              refine jn_if_eq (pc := 87) (tgt := 94) kR_solve_d87 (by decide) (by omega) (fun _ => ?_) (fun c => by exfalso; omega)
              refine jn_iconst (pc := 94) 0 kR_solve_d94 (by decide) ?_
              have hP_q107 := (hPq101.ffe e0 hGh105)
              have hO_q107 := (hOq101.ff hGh105)
              refine jj_callV (pc := 95) (b := r) (As := [.int (nI (0))]) kR_solve_d95 (kvR_R_refuses hG) (kG_cl hG rfl) rfl (RPX.rr e0 e9 e10 e11 (hPq101.ffe e0 hGh105)) rfl rfl rfl (Nat.le_of_ble_eq_true rfl) (Nat.le_of_ble_eq_true rfl) (jj_bare0 rfl) ?_
              refine rm_refuses (c := 0) hG (RPX.rr e0 e9 e10 e11 (hPq101.ffe e0 hGh105)) (by omega) (fun hp => ?_) (fun hp => ?_)
              · skip
                exact absurd hp (by omega)
              · skip
                obtain ⟨Mq107, hMq107⟩ : ∃ Mq107, Mq107 = jj_up Mh105 r (.inl nR, [.int (nI (0)), .ref f, .ref o, .ref st]) := ⟨_, rfl⟩
                rw [← hMq107]
                obtain ⟨hPq107, hOq107, hCq107, hSq107, hTq107⟩ := RPX.refuse (code' := nI (0)) (M' := Mq107) hP_q107 (by rw [e10, e0, e12, e13]; exact hO_q107) (by rw [e0]; exact hCh105) hSh105 (by rw [hMq107, e0, e9, e10, e11])
                rw [e0] at hCq107
                rw [e10, e0, e12, e13] at hOq107
                have hFq107 := (hFq101.trans (RPX.rte e0 hPq101 hGh105)).trans hTq107
                show jj G kR_solve (d + 13) Q rch105 rsh105 98 [some (.ref r), some (.int (nI (k))), some (.int (nI (i))), some (.int (nI (j))), some (.int (nI (0))), some (.int (nI (ttl103))), none] [.int (nI (0))] Mq107
                refine jn_if_eq (pc := 98) (tgt := 103) kR_solve_d98 (by decide) (by omega) (fun _ => ?_) (fun c => by exfalso; omega)
                refine jj_aload_n (pc := 103) kR_solve_d103 rfl ?_
                refine jj_getf (pc := 104) kR_solve_d104 (kfR_forms hG) (RPX.rr e0 e9 e10 e11 hPq107) rfl ?_
                refine jj_iload (pc := 107) kR_solve_d107 rfl ?_
                refine jj_iload (pc := 109) kR_solve_d109 rfl ?_
                have hesz := wgt2_ESZ l5l103 l5l104 l1l103 l2l103 hvh105
                have hEJ := EJ.ofESZ hesz (fun i' hi' => by
                  have := rowD_pos (q := σ.2.2 j) (n := σ.2.1 j) (i := i') (rowD_pos (q := σ.2.2 i) (n := σ.2.1 i) (i := i') (z := 1) (by decide))
                  exact fun e => by have := Rat.intCast_inj.mp (e.trans (show (0 : Rat) = ((0 : Int) : Rat) from rfl)); omega)
                obtain ⟨NN, hNN⟩ : ∃ NN, σ.2.1 i + σ.2.1 j = NN := ⟨_, rfl⟩
                rw [hNN] at hesz hEJ
                obtain ⟨S2, hS2⟩ : ∃ S2, S2 = 1070 := ⟨_, rfl⟩
                obtain ⟨mN, hmN⟩ : ∃ mN, σ.1 i * NN = mN := ⟨_, rfl⟩
                have hmNb : mN ≤ 16 * 32 := by rw [← hmN]; exact Nat.mul_le_mul l3l103 (by omega)
                obtain ⟨Sz, hSz⟩ : ∃ Sz, Sz = (mN + σ.1 i) * S2 := ⟨_, rfl⟩
                have hSzb : Sz ≤ 528 * 1070 := by rw [hSz, hS2]; exact Nat.mul_le_mul_right _ (by omega)
                obtain ⟨nn, hnn⟩ : ∃ nn, σ.2.1 i * σ.2.1 j = nn := ⟨_, rfl⟩
                have hnnb : nn ≤ 16 * 16 := by rw [← hnn]; exact Nat.mul_le_mul l4l103 l4l104
                have hqa : ∀ k', k' < σ.1 i * σ.2.1 i → ZB 534 (σ.2.2 i k').num ∧ ZB 534 ((σ.2.2 i k').den : Int) := fun k' h => ⟨(hsl103 k' h).1.up (by decide), (hsl103 k' h).2.up (by decide)⟩
                have hqb : ∀ k', k' < σ.1 i * σ.2.1 j → ZB 534 (σ.2.2 j k').num ∧ ZB 534 ((σ.2.2 j k').den : Int) := fun k' h => ⟨(hsl104 k' h).1.up (by decide), (hsl104 k' h).2.up (by decide)⟩
                have hAe : ∀ a, a < σ.1 i → ∀ b, b < σ.2.1 i → qAB (σ.2.2 i) (σ.2.2 j) (σ.2.1 i) (σ.2.1 j) a b = qA (σ.2.2 i) (σ.2.1 i) a b := fun a _ b hb => if_pos hb
                have hBe : ∀ a, a < σ.1 i → ∀ b, b < σ.2.1 j → qAB (σ.2.2 i) (σ.2.2 j) (σ.2.1 i) (σ.2.1 j) a (σ.2.1 i + b) = qA (σ.2.2 j) (σ.2.1 j) a b := fun a _ b _ => by
                  show (if σ.2.1 i + b < σ.2.1 i then _ else _) = _
                  rw [if_neg (by omega), show σ.2.1 i + b - σ.2.1 i = b by omega]
                  rfl
                refine jj_callV (pc := 111) (b := o) (As := [.int (nI (0)), .int (nI (ttl103))]) kR_solve_d111 (kvR_RO_solve hG) (kG_cl hG rfl) rfl hOq107.1 rfl rfl rfl (Nat.le_of_ble_eq_true rfl) (Nat.le_of_ble_eq_true rfl) (jj_bare0 rfl) ?_
                refine ro_solve (s := 534) (Sz := Sz) (E := Tl104 + Sz) (AB := qAB (σ.2.2 i) (σ.2.2 j) (σ.2.1 i) (σ.2.1 j)) (loa := 3) (lob := Tl103) hG hOq107 hCq107 hSq107 hXl104 hll104 (h1h105.congr hT3l104 (fun _ _ => rfl)) hT3l104 hAh105 hBh105 hNN (fun _ _ _ _ => rfl) hqa hqb (by omega) (by omega) (by omega) hPL hEJ ⟨_, GI_start (fun _ _ _ _ => rfl)⟩ (by omega) (by rw [hSz, hmN, hS2]) (by omega) (by omega) rfl (by rw [hmN, hnn]; omega) (by rw [hnn]; omega) (fun Mz vv Dz Vz Pz upz lowz rkz Xz Zz vz rcz rsz Ez pz hCz hSz_ hXz hoz hvz hlz hFz hPz hsec hnal => ?_) (fun Pk rke Ee pe hPk hsec hal zA => fun Me vv De Te Ve upe lowe Xe Ze ve rce rse hCe hSe hXe te ue hoe hve hle hFe hme => ?_)
                · skip
                  show jj G kR_solve (d + 13) Q rcz rsz 114 [some (.ref r), some (.int (nI (k))), some (.int (nI (i))), some (.int (nI (j))), some (.int (nI (0))), some (.int (nI (ttl103))), none] [.int (-1)] Mz
                  have hGz := (FF.refl Mq107 f).trans hFz
                  have hPL := hPz.trans hPL
                  have h1z : RI Dz 3 1 1 := h1h105.congr (Nat.le_refl _) (fun i hi => hoz i (by omega))
                  refine jj_istore (pc := 114) kR_solve_d114 (Nat.le_of_ble_eq_true rfl) ?_
                  refine jj_iload (pc := 116) kR_solve_d116 rfl ?_
                  refine jj_iconst (pc := 118) (v := (-1)) kR_solve_d118 (by decide) ?_
                  refine jj_icmp_eq (pc := 119) (tgt := 137) kR_solve_d119 (by decide) (fun _ => ?_) (fun c => absurd c (by decide))
                  refine jn_iconst (pc := 137) 0 kR_solve_d137 (by decide) ?_
                  exact jj_iret (pc := 138) kR_solve_d138 rfl (by rfl) (K Mz 0 0 σ rcz rsz (Or.inr ⟨k, i, j, hk, rfl, hi, rfl, hj, rfl, Or.inr ⟨c1, Or.inr ⟨hvh105, Or.inl ⟨sec_none hsec hNN hAe hBe hnal, rfl, rfl, rfl⟩⟩⟩⟩) hL (RT.cls (hPq107.ffe e0 hGz) (by rw [e10, e0, e12, e13]; exact (hOq107.ff hGz)) hCA hRA (by rw [e0]; exact hCz) hSz_ hXz hT3l104 h1z hlz hPL) (hFq107.trans (RPX.rte e0 hPq107 hGz)))
                · skip
                  show jj G kR_solve (d + 13) Q rce rse 114 [some (.ref r), some (.int (nI (k))), some (.int (nI (i))), some (.int (nI (j))), some (.int (nI (0))), some (.int (nI (ttl103))), none] [.int (nI (ttl104))] Me
                  obtain ⟨tte, htte⟩ : ∃ tte, ttl104 + 2 + 2 * nn = tte := ⟨_, rfl⟩
                  rw [hnn, htte] at hCe hle hme
                  rw [hnn] at ue
                  have hGe := (FF.refl Mq107 f).trans hFe
                  have hcape := hXe.cap
                  have hPL := hPk.trans hPL
                  have h1e : RI De 3 1 1 := h1h105.congr (Nat.le_refl _) (fun i hi => hoe i (by omega))
                  have hT3e : 3 ≤ Te := by omega
                  obtain ⟨x1, x2⟩ := sec_sol hsec hNN hAe hBe hal
                  obtain ⟨y1, y2, y3, y4⟩ := sec_rref hsec (by omega) hAe
                  have hcut : ∀ t, t < σ.2.1 i * σ.2.1 j → (fun k => solF Ee rke pe (σ.2.1 i) (k / σ.2.1 j) (k % σ.2.1 j)) t = mcut (solF Ee rke pe (σ.2.1 i)) (σ.2.1 i) (σ.2.1 j) t := fun t ht => by
                    obtain ⟨k1, k2, k3⟩ := at_back ht
                    unfold mcut
                    rw [if_pos k1]
                  have hme' := hme.eqv hcut
                  have hsz : ∀ k', k' < σ.2.1 i * σ.2.1 j → ZB 534 (mcut (solF Ee rke pe (σ.2.1 i)) (σ.2.1 i) (σ.2.1 j) k').num ∧ ZB 534 ((mcut (solF Ee rke pe (σ.2.1 i)) (σ.2.1 i) (σ.2.1 j) k').den : Int) := fun k' hk' => by
                    obtain ⟨k1, k2, k3⟩ := at_back hk'
                    rw [← hcut k' hk']
                    exact solF_ZB y4 y1.2.1 zA (by decide) (by omega)
                  refine jj_istore (pc := 114) kR_solve_d114 (Nat.le_of_ble_eq_true rfl) ?_
                  refine jj_iload (pc := 116) kR_solve_d116 rfl ?_
                  refine jj_iconst (pc := 118) (v := (-1)) kR_solve_d118 (by decide) ?_
                  refine jj_icmp_eq (pc := 119) (tgt := 137) kR_solve_d119 (by decide) (fun c => absurd c (nI_m1ne (by omega))) (fun _ => ?_)
                  refine jj_aload_n (pc := 122) kR_solve_d122 rfl ?_
                  refine jj_iload_n (pc := 123) kR_solve_d123 rfl ?_
                  refine jj_iload (pc := 124) kR_solve_d124 rfl ?_
                  refine jn_iconst (pc := 126) 3 kR_solve_d126 (by decide) ?_
                  refine jj_callV (pc := 127) (b := r) (As := [.int (nI (k)), .int (nI (ttl104)), .int (nI (3))]) kR_solve_d127 (kvR_R_puts hG) (kG_cl hG rfl) rfl (RPX.rr e0 e9 e10 e11 (hPq107.ffe e0 hGe)) rfl rfl rfl (Nat.le_of_ble_eq_true rfl) (Nat.le_of_ble_eq_true rfl) (jj_bare0 rfl) ?_
                  refine rm_puts (s := 534) (lo := Tl104) (qn := mcut (solF Ee rke pe (σ.2.1 i)) (σ.2.1 i) (σ.2.1 j)) (Rn := σ.2.1 i) (cn := σ.2.1 j) hG e0 e9 e10 e11 (hPq107.ffe e0 hGe) hCe e12 e13 (hOq107.ff hGe) hCA hRA hSe hXe hle h1e hT3e hPL hk (by omega) (by omega) hme' (by omega) (by omega) hsz (by omega) (by omega) (fun M8 rc8 rs8 hnf hR8 hT8 => ?_) (fun M8 rc8 rs8 w8 vv8 pv8 V8 t8 up8 low8 P8 rk8 hfit hR8 hT8 hC8 hg8 hl8 hb8 => ?_)
                  · skip
                    show jj G kR_solve (d + 13) Q rc8 rs8 130 [some (.ref r), some (.int (nI (k))), some (.int (nI (i))), some (.int (nI (j))), some (.int (nI (0))), some (.int (nI (ttl103))), some (.int (nI (ttl104)))] [.int (nI (0))] M8
                    refine jn_if_eq (pc := 130) (tgt := 137) kR_solve_d130 (by decide) (by omega) (fun _ => ?_) (fun c => by exfalso; omega)
                    refine jn_iconst (pc := 137) 0 kR_solve_d137 (by decide) ?_
                    exact jj_iret (pc := 138) kR_solve_d138 rfl (by rfl) (K M8 3 0 σ rc8 rs8 (Or.inr ⟨k, i, j, hk, rfl, hi, rfl, hj, rfl, Or.inr ⟨c1, Or.inr ⟨hvh105, Or.inr ⟨Ee, rke, pe, _, y1, y2, y3, x1, x2, Or.inr ⟨hnf, rfl, rfl, rfl⟩⟩⟩⟩⟩) hL hR8 ((hFq107.trans (RPX.rte e0 hPq107 hGe)).trans hT8))
                  · skip
                    show jj G kR_solve (d + 13) Q rc8 rs8 130 [some (.ref r), some (.int (nI (k))), some (.int (nI (i))), some (.int (nI (j))), some (.int (nI (0))), some (.int (nI (ttl103))), some (.int (nI (ttl104)))] [.int (nI (1))] M8
                    refine jn_if_eq (pc := 130) (tgt := 137) kR_solve_d130 (by decide) (by omega) (fun c => by exfalso; omega) (fun _ => ?_)
                    refine jn_iconst (pc := 133) 1 kR_solve_d133 (by decide) ?_
                    refine jj_goto (pc := 134) (tgt := 138) kR_solve_d134 (by decide) ?_
                    exact jj_iret (pc := 138) kR_solve_d138 rfl (by rfl) (K M8 0 1 _ rc8 rs8 (Or.inr ⟨k, i, j, hk, rfl, hi, rfl, hj, rfl, Or.inr ⟨c1, Or.inr ⟨hvh105, Or.inr ⟨Ee, rke, pe, _, y1, y2, y3, x1, x2, Or.inl ⟨hfit, rfl, rfl, rfl⟩⟩⟩⟩⟩) (hL.rup (by omega) (by omega) hfit) hR8 ((hFq107.trans (RPX.rte e0 hPq107 hGe)).trans hT8))
          · skip
            refine jn_iconst (pc := 75) 2 kR_solve_d75 (by decide) ?_
            refine jj_goto (pc := 76) (tgt := 95) kR_solve_d76 (by decide) ?_
            have hP_q108 := (hPq101.ffe e0 hGl104)
            have hO_q108 := (hOq101.ff hGl104)
            refine jj_callV (pc := 95) (b := r) (As := [.int (nI (2))]) kR_solve_d95 (kvR_R_refuses hG) (kG_cl hG rfl) rfl (RPX.rr e0 e9 e10 e11 (hPq101.ffe e0 hGl104)) rfl rfl rfl (Nat.le_of_ble_eq_true rfl) (Nat.le_of_ble_eq_true rfl) (jj_bare0 rfl) ?_
            refine rm_refuses (c := 2) hG (RPX.rr e0 e9 e10 e11 (hPq101.ffe e0 hGl104)) (by omega) (fun hp => ?_) (fun hp => ?_)
            · skip
              obtain ⟨Mq108, hMq108⟩ : ∃ Mq108, Mq108 = jj_up Ml104 r (.inl nR, [.int (nI (2)), .ref f, .ref o, .ref st]) := ⟨_, rfl⟩
              rw [← hMq108]
              obtain ⟨hPq108, hOq108, hCq108, hSq108, hTq108⟩ := RPX.refuse (code' := nI (2)) (M' := Mq108) hP_q108 (by rw [e10, e0, e12, e13]; exact hO_q108) (by rw [e0]; exact hCl104) hSl104 (by rw [hMq108, e0, e9, e10, e11])
              rw [e0] at hCq108
              rw [e10, e0, e12, e13] at hOq108
              have hFq108 := (hFq101.trans (RPX.rte e0 hPq101 hGl104)).trans hTq108
              show jj G kR_solve (d + 13) Q rcl104 rsl104 98 [some (.ref r), some (.int (nI (k))), some (.int (nI (i))), some (.int (nI (j))), some (.int (nI (0))), some (.int (nI (ttl103))), none] [.int (nI (1))] Mq108
              refine jn_if_eq (pc := 98) (tgt := 103) kR_solve_d98 (by decide) (by omega) (fun c => by exfalso; omega) (fun _ => ?_)
              refine jn_iconst (pc := 101) 0 kR_solve_d101 (by decide) ?_
              exact jj_iret (pc := 102) kR_solve_d102 rfl (by rfl) (K Mq108 2 0 σ rcl104 rsl104 (Or.inr ⟨k, i, j, hk, rfl, hi, rfl, hj, rfl, Or.inl ⟨c1, rfl, rfl, rfl⟩⟩) hL (RT.cls hPq108 (by rw [e10, e0, e12, e13]; exact hOq108) hCA hRA (by rw [e0]; exact hCq108) hSq108 hXl104 hT3l104 h1l104 hll104 hPL) hFq108)
            · skip
              exact absurd hp (by omega)
      · skip
        show jj G kR_solve (d + 13) Q rc rs 19 [some (.ref r), some (.int (nI (k))), some (.int (nI (i))), some (.int (z)), none, none, none] [.int (nI (0)), .ref r] M
        refine jn_if_eq (pc := 19) (tgt := 26) kR_solve_d19 (by decide) (by omega) (fun _ => ?_) (fun c => by exfalso; omega)
        refine jn_iconst (pc := 26) 1 kR_solve_d26 (by decide) ?_
        have hP_q109 := hP
        have hO_q109 := hO
        refine jj_callV (pc := 27) (b := r) (As := [.int (nI (1))]) kR_solve_d27 (kvR_R_refuses hG) (kG_cl hG rfl) rfl (RPX.rr e0 e9 e10 e11 hP) rfl rfl rfl (Nat.le_of_ble_eq_true rfl) (Nat.le_of_ble_eq_true rfl) (jj_bare0 rfl) ?_
        refine rm_refuses (c := 1) hG (RPX.rr e0 e9 e10 e11 hP) (by omega) (fun hp => ?_) (fun hp => ?_)
        · skip
          obtain ⟨Mq109, hMq109⟩ : ∃ Mq109, Mq109 = jj_up M r (.inl nR, [.int (nI (1)), .ref f, .ref o, .ref st]) := ⟨_, rfl⟩
          rw [← hMq109]
          obtain ⟨hPq109, hOq109, hCq109, hSq109, hTq109⟩ := RPX.refuse (code' := nI (1)) (M' := Mq109) hP_q109 (by rw [e10, e0, e12, e13]; exact hO_q109) (by rw [e0]; exact hC) hS (by rw [hMq109, e0, e9, e10, e11])
          rw [e0] at hCq109
          rw [e10, e0, e12, e13] at hOq109
          have hFq109 := (RTF.refl M F).trans hTq109
          show jj G kR_solve (d + 13) Q rc rs 30 [some (.ref r), some (.int (nI (k))), some (.int (nI (i))), some (.int (z)), none, none, none] [.int (nI (1))] Mq109
          refine jn_if_eq (pc := 30) (tgt := 35) kR_solve_d30 (by decide) (by omega) (fun c => by exfalso; omega) (fun _ => ?_)
          refine jn_iconst (pc := 33) 0 kR_solve_d33 (by decide) ?_
          exact jj_iret (pc := 34) kR_solve_d34 rfl (by rfl) (K Mq109 1 0 σ rc rs (Or.inl ⟨fun h => hn h.2.2, rfl, rfl, rfl⟩) hL (RT.cls hPq109 (by rw [e10, e0, e12, e13]; exact hOq109) hCA hRA (by rw [e0]; exact hCq109) hSq109 hX hT3 h1 htV hPL) hFq109)
        · skip
          exact absurd hp (by omega)
    · skip
      show jj G kR_solve (d + 13) Q rc rs 12 [some (.ref r), some (.int (nI (k))), some (.int (y)), some (.int (z)), none, none, none] [.int (nI (0)), .ref r] M
      refine jn_if_eq (pc := 12) (tgt := 26) kR_solve_d12 (by decide) (by omega) (fun _ => ?_) (fun c => by exfalso; omega)
      refine jn_iconst (pc := 26) 1 kR_solve_d26 (by decide) ?_
      have hP_q110 := hP
      have hO_q110 := hO
      refine jj_callV (pc := 27) (b := r) (As := [.int (nI (1))]) kR_solve_d27 (kvR_R_refuses hG) (kG_cl hG rfl) rfl (RPX.rr e0 e9 e10 e11 hP) rfl rfl rfl (Nat.le_of_ble_eq_true rfl) (Nat.le_of_ble_eq_true rfl) (jj_bare0 rfl) ?_
      refine rm_refuses (c := 1) hG (RPX.rr e0 e9 e10 e11 hP) (by omega) (fun hp => ?_) (fun hp => ?_)
      · skip
        obtain ⟨Mq110, hMq110⟩ : ∃ Mq110, Mq110 = jj_up M r (.inl nR, [.int (nI (1)), .ref f, .ref o, .ref st]) := ⟨_, rfl⟩
        rw [← hMq110]
        obtain ⟨hPq110, hOq110, hCq110, hSq110, hTq110⟩ := RPX.refuse (code' := nI (1)) (M' := Mq110) hP_q110 (by rw [e10, e0, e12, e13]; exact hO_q110) (by rw [e0]; exact hC) hS (by rw [hMq110, e0, e9, e10, e11])
        rw [e0] at hCq110
        rw [e10, e0, e12, e13] at hOq110
        have hFq110 := (RTF.refl M F).trans hTq110
        show jj G kR_solve (d + 13) Q rc rs 30 [some (.ref r), some (.int (nI (k))), some (.int (y)), some (.int (z)), none, none, none] [.int (nI (1))] Mq110
        refine jn_if_eq (pc := 30) (tgt := 35) kR_solve_d30 (by decide) (by omega) (fun c => by exfalso; omega) (fun _ => ?_)
        refine jn_iconst (pc := 33) 0 kR_solve_d33 (by decide) ?_
        exact jj_iret (pc := 34) kR_solve_d34 rfl (by rfl) (K Mq110 1 0 σ rc rs (Or.inl ⟨fun h => hn h.2.1, rfl, rfl, rfl⟩) hL (RT.cls hPq110 (by rw [e10, e0, e12, e13]; exact hOq110) hCA hRA (by rw [e0]; exact hCq110) hSq110 hX hT3 h1 htV hPL) hFq110)
      · skip
        exact absurd hp (by omega)
  · skip
    show jj G kR_solve (d + 13) Q rc rs 5 [some (.ref r), some (.int (x)), some (.int (y)), some (.int (z)), none, none, none] [.int (nI (0)), .ref r] M
    refine jn_if_eq (pc := 5) (tgt := 26) kR_solve_d5 (by decide) (by omega) (fun _ => ?_) (fun c => by exfalso; omega)
    refine jn_iconst (pc := 26) 1 kR_solve_d26 (by decide) ?_
    have hP_q111 := hP
    have hO_q111 := hO
    refine jj_callV (pc := 27) (b := r) (As := [.int (nI (1))]) kR_solve_d27 (kvR_R_refuses hG) (kG_cl hG rfl) rfl (RPX.rr e0 e9 e10 e11 hP) rfl rfl rfl (Nat.le_of_ble_eq_true rfl) (Nat.le_of_ble_eq_true rfl) (jj_bare0 rfl) ?_
    refine rm_refuses (c := 1) hG (RPX.rr e0 e9 e10 e11 hP) (by omega) (fun hp => ?_) (fun hp => ?_)
    · skip
      obtain ⟨Mq111, hMq111⟩ : ∃ Mq111, Mq111 = jj_up M r (.inl nR, [.int (nI (1)), .ref f, .ref o, .ref st]) := ⟨_, rfl⟩
      rw [← hMq111]
      obtain ⟨hPq111, hOq111, hCq111, hSq111, hTq111⟩ := RPX.refuse (code' := nI (1)) (M' := Mq111) hP_q111 (by rw [e10, e0, e12, e13]; exact hO_q111) (by rw [e0]; exact hC) hS (by rw [hMq111, e0, e9, e10, e11])
      rw [e0] at hCq111
      rw [e10, e0, e12, e13] at hOq111
      have hFq111 := (RTF.refl M F).trans hTq111
      show jj G kR_solve (d + 13) Q rc rs 30 [some (.ref r), some (.int (x)), some (.int (y)), some (.int (z)), none, none, none] [.int (nI (1))] Mq111
      refine jn_if_eq (pc := 30) (tgt := 35) kR_solve_d30 (by decide) (by omega) (fun c => by exfalso; omega) (fun _ => ?_)
      refine jn_iconst (pc := 33) 0 kR_solve_d33 (by decide) ?_
      exact jj_iret (pc := 34) kR_solve_d34 rfl (by rfl) (K Mq111 1 0 σ rc rs (Or.inl ⟨fun h => hn h.1, rfl, rfl, rfl⟩) hL (RT.cls hPq111 (by rw [e10, e0, e12, e13]; exact hOq111) hCA hRA (by rw [e0]; exact hCq111) hSq111 hX hT3 h1 htV hPL) hFq111)
    · skip
      exact absurd hp (by omega)
end RM19
