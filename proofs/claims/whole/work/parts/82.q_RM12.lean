/-! ===== the reference: turn, add, multiply, beside, part (printed by wip/gen/rm12.py) ===== -/
theorem ZB_sum {p q : Rat} (h1 : ZB 267 p.num) (h2 : ZB 267 (p.den : Int)) (h3 : ZB 267 q.num) (h4 : ZB 267 (q.den : Int)) : ZB 535 (p + q).num ∧ ZB 535 ((p + q).den : Int) := by
  have e : p + q = ((p.num * (q.den : Int) + q.num * (p.den : Int) : Int) : Rat) / (((p.den : Int) * (q.den : Int) : Int) : Rat) := by
    have hp := (Rat.num_divInt_den p).symm
    have hq := (Rat.num_divInt_den q).symm
    rw [Rat.divInt_eq_div] at hp hq
    have d1 : ((p.den : Int) : Rat) ≠ 0 := fun e => by have := Rat.intCast_inj.mp (e.trans (show (0 : Rat) = ((0 : Int) : Rat) from rfl)); have := p.den_nz; omega
    have d2 : ((q.den : Int) : Rat) ≠ 0 := fun e => by have := Rat.intCast_inj.mp (e.trans (show (0 : Rat) = ((0 : Int) : Rat) from rfl)); have := q.den_nz; omega
    rw [Rat.intCast_add, Rat.intCast_mul, Rat.intCast_mul, Rat.intCast_mul]
    generalize ((p.den : Int) : Rat) = a at hp d1 ⊢
    generalize ((q.den : Int) : Rat) = b at hq d2 ⊢
    generalize (p.num : Rat) = x at hp ⊢
    generalize (q.num : Rat) = y at hq ⊢
    rw [hp, hq]
    grind
  have z1 : zle (32768 ^ 535 - 1) ((p.num * (q.den : Int) + q.num * (p.den : Int) : Int) : Rat) := by
    refine ⟨_, rfl, ?_⟩
    have a1 := h1.mul h4
    have a2 := h3.mul h2
    unfold ZB at a1 a2
    rw [show 267 + 267 = 534 from rfl] at a1 a2
    have := Int.natAbs_add_le (p.num * (q.den : Int)) (q.num * (p.den : Int))
    have e9 : (32768 : Nat) ^ 535 = 32768 ^ 534 * 32768 := Nat.pow_succ ..
    rw [e9]
    generalize (32768 : Nat) ^ 534 = W at *
    omega
  have z2 : zle (32768 ^ 535 - 1) ((((p.den : Int) * (q.den : Int) : Int)) : Rat) := by
    refine ⟨_, rfl, ?_⟩
    have a1 := h2.mul h4
    unfold ZB at a1
    rw [show 267 + 267 = 534 from rfl] at a1
    have e9 : (32768 : Nat) ^ 535 = 32768 ^ 534 * 32768 := Nat.pow_succ ..
    rw [e9]
    generalize (32768 : Nat) ^ 534 = W at *
    omega
  have hd : ((((p.den : Int) * (q.den : Int) : Int)) : Rat) ≠ 0 := fun e => by
    have h9 := Rat.intCast_inj.mp (e.trans (show (0 : Rat) = ((0 : Int) : Rat) from rfl))
    have := p.den_nz
    have := q.den_nz
    rcases Int.mul_eq_zero.mp h9 with h | h <;> omega
  obtain ⟨r1, r2⟩ := qle_ratio (q := p + q) z1 z2 hd (by rw [e]; generalize ((((p.den : Int) * (q.den : Int) : Int)) : Rat) = b at hd ⊢; grind)
  unfold ZB
  have hp : 0 < (32768 : Nat) ^ 535 := Nat.pow_pos (by decide)
  generalize (32768 : Nat) ^ 535 = W at *
  omega
theorem ZB_dif {p q : Rat} (h1 : ZB 267 p.num) (h2 : ZB 267 (p.den : Int)) (h3 : ZB 267 q.num) (h4 : ZB 267 (q.den : Int)) : ZB 535 (p - q).num ∧ ZB 535 ((p - q).den : Int) := by
  rw [Rat.sub_eq_add_neg]
  refine ZB_sum h1 h2 ?_ ?_
  · rw [Rat.neg_num]; unfold ZB at *; rw [Int.natAbs_neg]; exact h3
  · rw [Rat.neg_den]; exact h4
theorem ZB.up {a b : Nat} {z : Int} (h : ZB a z) (hab : a ≤ b) : ZB b z := Nat.lt_of_lt_of_le h (Nat.pow_le_pow_right (by decide) hab)
section RM12
variable {G : jg} {d : Nat} {Q : jq} {rc rs : Nat} {M : mheap} {F : Nat → Nat} {r : Nat} {code : Int32} {σ : rst} {X Z : Nat}
theorem rp_turn {x y : Int32} (hG : kG G) (e9 : F 9 = r) (hT : RT M F code σ X Z rc rs) (hL : LG σ)
    (K : ∀ M' cd σ' rc' rs', semTurn σ x y cd σ' → LG σ' → RT M' F (nI cd) σ' X Z rc' rs' → RTF M M' F → Q (.returned none) M' rc' rs') : jj G kR_turn (d + 11) Q rc rs 0 (jj_ent [.ref r, .int x, .int y] 3) [] M := by
  obtain ⟨pt, zt, w, vv, pv, D, T, v2, V, t, up, low, P, rk, CA, RA, fi, se, X1, Z1, hP, hO, hCA, hRA, hC, hS, hX, hT3, h1, htV, hPL⟩ := hT.opn
  obtain ⟨f, e0⟩ : ∃ f, F 0 = f := ⟨_, rfl⟩
  obtain ⟨o, e10⟩ : ∃ o, F 10 = o := ⟨_, rfl⟩
  obtain ⟨st, e11⟩ : ∃ st, F 11 = st := ⟨_, rfl⟩
  obtain ⟨ca, e12⟩ : ∃ ca, F 12 = ca := ⟨_, rfl⟩
  obtain ⟨ra, e13⟩ : ∃ ra, F 13 = ra := ⟨_, rfl⟩
  rw [e10, e0, e12, e13] at hO
  rw [e0] at hC
  have hcap := hX.cap
  show jj G kR_turn (d + 11) Q rc rs 0 [some (.ref r), some (.int (x)), some (.int (y))] [] M
  refine jj_aload_n (pc := 0) kR_turn_d0 rfl ?_
  refine jj_iload_n (pc := 1) kR_turn_d1 rfl ?_
  refine jj_callS (pc := 2) (As := [.int (x)]) kR_turn_d2 (kvR_R_isRegister hG) rfl rfl rfl (Nat.le_of_ble_eq_true rfl) (Nat.le_of_ble_eq_true rfl) (jj_bare0 rfl) ?_
  refine rm_isRegister (fun k hk ek => ?_) (fun hn => ?_)
  · skip
    subst ek
    show jj G kR_turn (d + 11) Q rc rs 5 [some (.ref r), some (.int (nI (k))), some (.int (y))] [.int (nI (1)), .ref r] M
    refine jn_if_eq (pc := 5) (tgt := 19) kR_turn_d5 (by decide) (by omega) (fun c => by exfalso; omega) (fun _ => ?_)
    refine jj_iload_n (pc := 8) kR_turn_d8 rfl ?_
    refine jj_callS (pc := 9) (As := [.int (y)]) kR_turn_d9 (kvR_R_isRegister hG) rfl rfl rfl (Nat.le_of_ble_eq_true rfl) (Nat.le_of_ble_eq_true rfl) (jj_bare0 rfl) ?_
    refine rm_isRegister (fun i hi ei => ?_) (fun hn => ?_)
    · skip
      subst ei
      show jj G kR_turn (d + 11) Q rc rs 12 [some (.ref r), some (.int (nI (k))), some (.int (nI (i)))] [.int (nI (1)), .ref r] M
      refine jn_if_eq (pc := 12) (tgt := 19) kR_turn_d12 (by decide) (by omega) (fun c => by exfalso; omega) (fun _ => ?_)
      refine jn_iconst (pc := 15) 0 kR_turn_d15 (by decide) ?_
      refine jj_goto (pc := 16) (tgt := 20) kR_turn_d16 (by decide) ?_
      have hP_q101 := hP
      have hO_q101 := hO
      refine jj_callV (pc := 20) (b := r) (As := [.int (nI (0))]) kR_turn_d20 (kvR_R_refuses hG) (kG_cl hG rfl) rfl (RPX.rr e0 e9 e10 e11 hP) rfl rfl rfl (Nat.le_of_ble_eq_true rfl) (Nat.le_of_ble_eq_true rfl) (jj_bare0 rfl) ?_
      refine rm_refuses (c := 0) hG (RPX.rr e0 e9 e10 e11 hP) (by omega) (fun hp => ?_) (fun hp => ?_)
      · skip
        exact absurd hp (by omega)
      · skip
        obtain ⟨Mq101, hMq101⟩ : ∃ Mq101, Mq101 = jj_up M r (.inl nR, [.int (nI (0)), .ref f, .ref o, .ref st]) := ⟨_, rfl⟩
        rw [← hMq101]
        obtain ⟨hPq101, hOq101, hCq101, hSq101, hTq101⟩ := RPX.refuse (code' := nI (0)) (M' := Mq101) hP_q101 (by rw [e10, e0, e12, e13]; exact hO_q101) (by rw [e0]; exact hC) hS (by rw [hMq101, e0, e9, e10, e11])
        rw [e0] at hCq101
        rw [e10, e0, e12, e13] at hOq101
        have hFq101 := (RTF.refl M F).trans hTq101
        show jj G kR_turn (d + 11) Q rc rs 23 [some (.ref r), some (.int (nI (k))), some (.int (nI (i)))] [.int (nI (0))] Mq101
        refine jn_if_eq (pc := 23) (tgt := 27) kR_turn_d23 (by decide) (by omega) (fun _ => ?_) (fun c => by exfalso; omega)
        refine jj_aload_n (pc := 27) kR_turn_d27 rfl ?_
        refine jj_callV (pc := 28) (b := r) (As := []) kR_turn_d28 (kvR_R_begin hG) (kG_cl hG rfl) rfl (RPX.rr e0 e9 e10 e11 hPq101) rfl rfl rfl (Nat.le_of_ble_eq_true rfl) (Nat.le_of_ble_eq_true rfl) (jj_bare0 rfl) ?_
        refine rm_begin hG e0 e9 e10 e11 hPq101 hCq101 hSq101 hT3 (fun Mb102 hCb102 hSb102 hFb102 => ?_)
        show jj G kR_turn (d + 11) Q rc rs 31 [some (.ref r), some (.int (nI (k))), some (.int (nI (i)))] [] Mb102
        have hGb102 := (FF.refl Mq101 f).trans hFb102
        refine jj_aload_n (pc := 31) kR_turn_d31 rfl ?_
        refine jj_iload_n (pc := 32) kR_turn_d32 rfl ?_
        refine jj_aload_n (pc := 33) kR_turn_d33 rfl ?_
        refine jj_getf (pc := 34) kR_turn_d34 (kfR_f hG) (RPX.rr e0 e9 e10 e11 (hPq101.ffe e0 hGb102)) rfl ?_
        refine jj_aload_n (pc := 37) kR_turn_d37 rfl ?_
        refine jj_iload_n (pc := 38) kR_turn_d38 rfl ?_
        refine jj_callV (pc := 39) (b := r) (As := [.int (nI (i))]) kR_turn_d39 (kvR_R_load hG) (kG_cl hG rfl) rfl (RPX.rr e0 e9 e10 e11 (hPq101.ffe e0 hGb102)) rfl rfl rfl (Nat.le_of_ble_eq_true rfl) (Nat.le_of_ble_eq_true rfl) (jj_bare0 rfl) ?_
        refine rm_load hG e0 e9 e10 e11 (hPq101.ffe e0 hGb102) hCb102 hSb102 hX (Nat.zero_le _) h1 (Nat.le_refl 3) hL hi (by omega) (by omega) (fun Ml103 vv Dl103 Tl103 Vl103 upl103 lowl103 Xl103 Zl103 vl103 rcl103 rsl103 hCl103 hSl103 hXl103 tl103 ul103 hol103 hvl103 hll103 hFl103 hml103 => ?_)
        show jj G kR_turn (d + 11) Q rcl103 rsl103 42 [some (.ref r), some (.int (nI (k))), some (.int (nI (i)))] [.int (nI (0)), .ref f, .int (nI (k)), .ref r] Ml103
        obtain ⟨l1l103, l2l103, l3l103, l4l103, l5l103, l6l103⟩ := hL i hi
        obtain ⟨nl103, hnl103⟩ : ∃ nl103, σ.1 i * σ.2.1 i = nl103 := ⟨_, rfl⟩
        have hbl103 : nl103 ≤ 16 * 16 := by rw [← hnl103]; exact Nat.mul_le_mul l3l103 l4l103
        obtain ⟨ttl103, httl103⟩ : ∃ ttl103, 0 + 2 + 2 * nl103 = ttl103 := ⟨_, rfl⟩
        rw [hnl103, httl103] at hCl103 hll103 hml103
        obtain ⟨ldl103, hldl103⟩ : ∃ ldl103, ldS (σ.2.2 i) (σ.1 i * σ.2.1 i) = ldl103 := ⟨_, rfl⟩
        have hlbl103 : ldl103 ≤ 137216 := by rw [← hldl103]; exact ldS_fit l5l103 (by omega)
        rw [hldl103] at ul103
        have hGl103 := hGb102.trans hFl103
        have hcapl103 := hXl103.cap
        have hsl103 : ∀ k', k' < σ.1 i * σ.2.1 i → ZB 267 (σ.2.2 i k').num ∧ ZB 267 ((σ.2.2 i k').den : Int) := fun k' h => ⟨(fit_sizes l5l103 h).1, (fit_sizes l5l103 h).2.1⟩
        have h1l103 : RI Dl103 3 1 1 := h1.congr (Nat.le_refl _) (fun i hi => hol103 i (by omega))
        have hT3l103 : 3 ≤ Tl103 := by omega
        refine jj_callV (pc := 42) (b := f) (As := [.int (nI (0))]) kR_turn_d42 (kvR_RF_turned hG) (kG_cl hG rfl) rfl hCl103.1 rfl rfl rfl (Nat.le_of_ble_eq_true rfl) (Nat.le_of_ble_eq_true rfl) (jj_bare0 rfl) ?_
        refine rf_turned (lo := 3) (s := 267) (S := 536) hG hCl103 hSl103 hXl103 hll103 (h1l103.congr hT3l103 (fun _ _ => rfl)) hT3l103 hml103 (by omega) (by omega) rfl hsl103 (by omega) (by omega) (fun Mu vv Du Tu Vu upu lowu Xu Zu vu rcu rsu hCu hSu hXu tu uu hou hvu hlu hFu hmu => ?_)
        show jj G kR_turn (d + 11) Q rcu rsu 45 [some (.ref r), some (.int (nI (k))), some (.int (nI (i)))] [.int (nI (ttl103)), .int (nI (k)), .ref r] Mu
        have hcm_ : σ.2.1 i * σ.1 i = nl103 := by rw [Nat.mul_comm]; exact hnl103
        rw [hcm_] at hCu hlu hmu
        have hsz : ∀ k', k' < σ.2.1 i * σ.1 i → ZB 267 ((fun t => σ.2.2 i (t % σ.1 i * σ.2.1 i + t / σ.1 i)) k').num ∧ ZB 267 (((fun t => σ.2.2 i (t % σ.1 i * σ.2.1 i + t / σ.1 i)) k').den : Int) := fun k' hk' => by
          obtain ⟨k1, k2, k3⟩ := at_back hk'
          exact hsl103 _ (cell_lt k2 k1)
        obtain ⟨ttu, httu⟩ : ∃ ttu, ttl103 + 2 + 2 * (nl103) = ttu := ⟨_, rfl⟩
        rw [httu] at hCu hlu hmu
        have hGu := hGl103.trans hFu
        have hcapu := hXu.cap
        have h1u : RI Du 3 1 1 := h1l103.congr (Nat.le_refl _) (fun i hi => hou i (by omega))
        have hT3u : 3 ≤ Tu := by omega
        refine jn_iconst (pc := 45) 2 kR_turn_d45 (by decide) ?_
        refine jj_callV (pc := 46) (b := r) (As := [.int (nI (k)), .int (nI (ttl103)), .int (nI (2))]) kR_turn_d46 (kvR_R_puts hG) (kG_cl hG rfl) rfl (RPX.rr e0 e9 e10 e11 (hPq101.ffe e0 hGu)) rfl rfl rfl (Nat.le_of_ble_eq_true rfl) (Nat.le_of_ble_eq_true rfl) (jj_bare0 rfl) ?_
        refine rm_puts (s := 267) (lo := Tl103) (qn := fun t => σ.2.2 i (t % σ.1 i * σ.2.1 i + t / σ.1 i)) (Rn := σ.2.1 i) (cn := σ.1 i) hG e0 e9 e10 e11 (hPq101.ffe e0 hGu) hCu e12 e13 (hOq101.ff hGu) hCA hRA hSu hXu hlu h1u hT3u hPL hk (by omega) (by omega) hmu (by omega) (by omega) hsz (by omega) (by omega) (fun M8 rc8 rs8 hnf hR8 hT8 => ?_) (fun M8 rc8 rs8 w8 vv8 pv8 V8 t8 up8 low8 P8 rk8 hfit hR8 hT8 hC8 hg8 hl8 hb8 => ?_)
        · skip
          show jj G kR_turn (d + 11) Q rc8 rs8 49 [some (.ref r), some (.int (nI (k))), some (.int (nI (i)))] [.int (nI (0))] M8
          refine jj_pop (pc := 49) kR_turn_d49 rfl ?_
          exact jj_vret (pc := 50) kR_turn_d50 rfl (K M8 2 σ rc8 rs8 (Or.inr ⟨k, i, hk, rfl, hi, rfl, Or.inr ⟨hnf, rfl, rfl⟩⟩) hL hR8 ((hFq101.trans (RPX.rte e0 hPq101 hGu)).trans hT8))
        · skip
          show jj G kR_turn (d + 11) Q rc8 rs8 49 [some (.ref r), some (.int (nI (k))), some (.int (nI (i)))] [.int (nI (1))] M8
          refine jj_pop (pc := 49) kR_turn_d49 rfl ?_
          exact jj_vret (pc := 50) kR_turn_d50 rfl (K M8 0 _ rc8 rs8 (Or.inr ⟨k, i, hk, rfl, hi, rfl, Or.inl ⟨hfit, rfl, rfl⟩⟩) (hL.rup (by omega) (by omega) hfit) hR8 ((hFq101.trans (RPX.rte e0 hPq101 hGu)).trans hT8))
    · skip
      show jj G kR_turn (d + 11) Q rc rs 12 [some (.ref r), some (.int (nI (k))), some (.int (y))] [.int (nI (0)), .ref r] M
      refine jn_if_eq (pc := 12) (tgt := 19) kR_turn_d12 (by decide) (by omega) (fun _ => ?_) (fun c => by exfalso; omega)
      refine jn_iconst (pc := 19) 1 kR_turn_d19 (by decide) ?_
      have hP_q104 := hP
      have hO_q104 := hO
      refine jj_callV (pc := 20) (b := r) (As := [.int (nI (1))]) kR_turn_d20 (kvR_R_refuses hG) (kG_cl hG rfl) rfl (RPX.rr e0 e9 e10 e11 hP) rfl rfl rfl (Nat.le_of_ble_eq_true rfl) (Nat.le_of_ble_eq_true rfl) (jj_bare0 rfl) ?_
      refine rm_refuses (c := 1) hG (RPX.rr e0 e9 e10 e11 hP) (by omega) (fun hp => ?_) (fun hp => ?_)
      · skip
        obtain ⟨Mq104, hMq104⟩ : ∃ Mq104, Mq104 = jj_up M r (.inl nR, [.int (nI (1)), .ref f, .ref o, .ref st]) := ⟨_, rfl⟩
        rw [← hMq104]
        obtain ⟨hPq104, hOq104, hCq104, hSq104, hTq104⟩ := RPX.refuse (code' := nI (1)) (M' := Mq104) hP_q104 (by rw [e10, e0, e12, e13]; exact hO_q104) (by rw [e0]; exact hC) hS (by rw [hMq104, e0, e9, e10, e11])
        rw [e0] at hCq104
        rw [e10, e0, e12, e13] at hOq104
        have hFq104 := (RTF.refl M F).trans hTq104
        show jj G kR_turn (d + 11) Q rc rs 23 [some (.ref r), some (.int (nI (k))), some (.int (y))] [.int (nI (1))] Mq104
        refine jn_if_eq (pc := 23) (tgt := 27) kR_turn_d23 (by decide) (by omega) (fun c => by exfalso; omega) (fun _ => ?_)
        exact jj_vret (pc := 26) kR_turn_d26 rfl (K Mq104 1 σ rc rs (Or.inl ⟨fun h => hn h.2, rfl, rfl⟩) hL (RT.cls hPq104 (by rw [e10, e0, e12, e13]; exact hOq104) hCA hRA (by rw [e0]; exact hCq104) hSq104 hX hT3 h1 htV hPL) hFq104)
      · skip
        exact absurd hp (by omega)
  · skip
    show jj G kR_turn (d + 11) Q rc rs 5 [some (.ref r), some (.int (x)), some (.int (y))] [.int (nI (0)), .ref r] M
    refine jn_if_eq (pc := 5) (tgt := 19) kR_turn_d5 (by decide) (by omega) (fun _ => ?_) (fun c => by exfalso; omega)
    refine jn_iconst (pc := 19) 1 kR_turn_d19 (by decide) ?_
    have hP_q105 := hP
    have hO_q105 := hO
    refine jj_callV (pc := 20) (b := r) (As := [.int (nI (1))]) kR_turn_d20 (kvR_R_refuses hG) (kG_cl hG rfl) rfl (RPX.rr e0 e9 e10 e11 hP) rfl rfl rfl (Nat.le_of_ble_eq_true rfl) (Nat.le_of_ble_eq_true rfl) (jj_bare0 rfl) ?_
    refine rm_refuses (c := 1) hG (RPX.rr e0 e9 e10 e11 hP) (by omega) (fun hp => ?_) (fun hp => ?_)
    · skip
      obtain ⟨Mq105, hMq105⟩ : ∃ Mq105, Mq105 = jj_up M r (.inl nR, [.int (nI (1)), .ref f, .ref o, .ref st]) := ⟨_, rfl⟩
      rw [← hMq105]
      obtain ⟨hPq105, hOq105, hCq105, hSq105, hTq105⟩ := RPX.refuse (code' := nI (1)) (M' := Mq105) hP_q105 (by rw [e10, e0, e12, e13]; exact hO_q105) (by rw [e0]; exact hC) hS (by rw [hMq105, e0, e9, e10, e11])
      rw [e0] at hCq105
      rw [e10, e0, e12, e13] at hOq105
      have hFq105 := (RTF.refl M F).trans hTq105
      show jj G kR_turn (d + 11) Q rc rs 23 [some (.ref r), some (.int (x)), some (.int (y))] [.int (nI (1))] Mq105
      refine jn_if_eq (pc := 23) (tgt := 27) kR_turn_d23 (by decide) (by omega) (fun c => by exfalso; omega) (fun _ => ?_)
      exact jj_vret (pc := 26) kR_turn_d26 rfl (K Mq105 1 σ rc rs (Or.inl ⟨fun h => hn h.1, rfl, rfl⟩) hL (RT.cls hPq105 (by rw [e10, e0, e12, e13]; exact hOq105) hCA hRA (by rw [e0]; exact hCq105) hSq105 hX hT3 h1 htV hPL) hFq105)
    · skip
      exact absurd hp (by omega)
theorem rp_add {x y z b : Int32} (hG : kG G) (e9 : F 9 = r) (hT : RT M F code σ X Z rc rs) (hL : LG σ)
    (K : ∀ M' cd σ' rc' rs', semAdd σ x y z b cd σ' → LG σ' → RT M' F (nI cd) σ' X Z rc' rs' → RTF M M' F → Q (.returned none) M' rc' rs') : jj G kR_add (d + 11) Q rc rs 0 (jj_ent [.ref r, .int x, .int y, .int z, .int b] 7) [] M := by
  obtain ⟨pt, zt, w, vv, pv, D, T, v2, V, t, up, low, P, rk, CA, RA, fi, se, X1, Z1, hP, hO, hCA, hRA, hC, hS, hX, hT3, h1, htV, hPL⟩ := hT.opn
  obtain ⟨f, e0⟩ : ∃ f, F 0 = f := ⟨_, rfl⟩
  obtain ⟨o, e10⟩ : ∃ o, F 10 = o := ⟨_, rfl⟩
  obtain ⟨st, e11⟩ : ∃ st, F 11 = st := ⟨_, rfl⟩
  obtain ⟨ca, e12⟩ : ∃ ca, F 12 = ca := ⟨_, rfl⟩
  obtain ⟨ra, e13⟩ : ∃ ra, F 13 = ra := ⟨_, rfl⟩
  rw [e10, e0, e12, e13] at hO
  rw [e0] at hC
  have hcap := hX.cap
  show jj G kR_add (d + 11) Q rc rs 0 [some (.ref r), some (.int (x)), some (.int (y)), some (.int (z)), some (.int (b)), none, none] [] M
  refine jj_aload_n (pc := 0) kR_add_d0 rfl ?_
  refine jj_iload_n (pc := 1) kR_add_d1 rfl ?_
  refine jj_callS (pc := 2) (As := [.int (x)]) kR_add_d2 (kvR_R_isRegister hG) rfl rfl rfl (Nat.le_of_ble_eq_true rfl) (Nat.le_of_ble_eq_true rfl) (jj_bare0 rfl) ?_
  refine rm_isRegister (fun k hk ek => ?_) (fun hn => ?_)
  · skip
    subst ek
    show jj G kR_add (d + 11) Q rc rs 5 [some (.ref r), some (.int (nI (k))), some (.int (y)), some (.int (z)), some (.int (b)), none, none] [.int (nI (1)), .ref r] M
    refine jn_if_eq (pc := 5) (tgt := 26) kR_add_d5 (by decide) (by omega) (fun c => by exfalso; omega) (fun _ => ?_)
    refine jj_iload_n (pc := 8) kR_add_d8 rfl ?_
    refine jj_callS (pc := 9) (As := [.int (y)]) kR_add_d9 (kvR_R_isRegister hG) rfl rfl rfl (Nat.le_of_ble_eq_true rfl) (Nat.le_of_ble_eq_true rfl) (jj_bare0 rfl) ?_
    refine rm_isRegister (fun i hi ei => ?_) (fun hn => ?_)
    · skip
      subst ei
      show jj G kR_add (d + 11) Q rc rs 12 [some (.ref r), some (.int (nI (k))), some (.int (nI (i))), some (.int (z)), some (.int (b)), none, none] [.int (nI (1)), .ref r] M
      refine jn_if_eq (pc := 12) (tgt := 26) kR_add_d12 (by decide) (by omega) (fun c => by exfalso; omega) (fun _ => ?_)
      refine jj_iload_n (pc := 15) kR_add_d15 rfl ?_
      refine jj_callS (pc := 16) (As := [.int (z)]) kR_add_d16 (kvR_R_isRegister hG) rfl rfl rfl (Nat.le_of_ble_eq_true rfl) (Nat.le_of_ble_eq_true rfl) (jj_bare0 rfl) ?_
      refine rm_isRegister (fun j hj ej => ?_) (fun hn => ?_)
      · skip
        subst ej
        show jj G kR_add (d + 11) Q rc rs 19 [some (.ref r), some (.int (nI (k))), some (.int (nI (i))), some (.int (nI (j))), some (.int (b)), none, none] [.int (nI (1)), .ref r] M
        refine jn_if_eq (pc := 19) (tgt := 26) kR_add_d19 (by decide) (by omega) (fun c => by exfalso; omega) (fun _ => ?_)
        refine jn_iconst (pc := 22) 0 kR_add_d22 (by decide) ?_
        refine jj_goto (pc := 23) (tgt := 27) kR_add_d23 (by decide) ?_
        have hP_q106 := hP
        have hO_q106 := hO
        refine jj_callV (pc := 27) (b := r) (As := [.int (nI (0))]) kR_add_d27 (kvR_R_refuses hG) (kG_cl hG rfl) rfl (RPX.rr e0 e9 e10 e11 hP) rfl rfl rfl (Nat.le_of_ble_eq_true rfl) (Nat.le_of_ble_eq_true rfl) (jj_bare0 rfl) ?_
        refine rm_refuses (c := 0) hG (RPX.rr e0 e9 e10 e11 hP) (by omega) (fun hp => ?_) (fun hp => ?_)
        · skip
          exact absurd hp (by omega)
        · skip
          obtain ⟨Mq106, hMq106⟩ : ∃ Mq106, Mq106 = jj_up M r (.inl nR, [.int (nI (0)), .ref f, .ref o, .ref st]) := ⟨_, rfl⟩
          rw [← hMq106]
          obtain ⟨hPq106, hOq106, hCq106, hSq106, hTq106⟩ := RPX.refuse (code' := nI (0)) (M' := Mq106) hP_q106 (by rw [e10, e0, e12, e13]; exact hO_q106) (by rw [e0]; exact hC) hS (by rw [hMq106, e0, e9, e10, e11])
          rw [e0] at hCq106
          rw [e10, e0, e12, e13] at hOq106
          have hFq106 := (RTF.refl M F).trans hTq106
          show jj G kR_add (d + 11) Q rc rs 30 [some (.ref r), some (.int (nI (k))), some (.int (nI (i))), some (.int (nI (j))), some (.int (b)), none, none] [.int (nI (0))] Mq106
          refine jn_if_eq (pc := 30) (tgt := 34) kR_add_d30 (by decide) (by omega) (fun _ => ?_) (fun c => by exfalso; omega)
          refine jj_aload_n (pc := 34) kR_add_d34 rfl ?_
          refine jj_callV (pc := 35) (b := r) (As := []) kR_add_d35 (kvR_R_begin hG) (kG_cl hG rfl) rfl (RPX.rr e0 e9 e10 e11 hPq106) rfl rfl rfl (Nat.le_of_ble_eq_true rfl) (Nat.le_of_ble_eq_true rfl) (jj_bare0 rfl) ?_
          refine rm_begin hG e0 e9 e10 e11 hPq106 hCq106 hSq106 hT3 (fun Mb107 hCb107 hSb107 hFb107 => ?_)
          show jj G kR_add (d + 11) Q rc rs 38 [some (.ref r), some (.int (nI (k))), some (.int (nI (i))), some (.int (nI (j))), some (.int (b)), none, none] [] Mb107
          have hGb107 := (FF.refl Mq106 f).trans hFb107
          refine jj_aload_n (pc := 38) kR_add_d38 rfl ?_
          refine jj_iload_n (pc := 39) kR_add_d39 rfl ?_
          refine jj_callV (pc := 40) (b := r) (As := [.int (nI (i))]) kR_add_d40 (kvR_R_load hG) (kG_cl hG rfl) rfl (RPX.rr e0 e9 e10 e11 (hPq106.ffe e0 hGb107)) rfl rfl rfl (Nat.le_of_ble_eq_true rfl) (Nat.le_of_ble_eq_true rfl) (jj_bare0 rfl) ?_
          refine rm_load hG e0 e9 e10 e11 (hPq106.ffe e0 hGb107) hCb107 hSb107 hX (Nat.zero_le _) h1 (Nat.le_refl 3) hL hi (by omega) (by omega) (fun Ml108 vv Dl108 Tl108 Vl108 upl108 lowl108 Xl108 Zl108 vl108 rcl108 rsl108 hCl108 hSl108 hXl108 tl108 ul108 hol108 hvl108 hll108 hFl108 hml108 => ?_)
          show jj G kR_add (d + 11) Q rcl108 rsl108 43 [some (.ref r), some (.int (nI (k))), some (.int (nI (i))), some (.int (nI (j))), some (.int (b)), none, none] [.int (nI (0))] Ml108
          obtain ⟨l1l108, l2l108, l3l108, l4l108, l5l108, l6l108⟩ := hL i hi
          obtain ⟨nl108, hnl108⟩ : ∃ nl108, σ.1 i * σ.2.1 i = nl108 := ⟨_, rfl⟩
          have hbl108 : nl108 ≤ 16 * 16 := by rw [← hnl108]; exact Nat.mul_le_mul l3l108 l4l108
          obtain ⟨ttl108, httl108⟩ : ∃ ttl108, 0 + 2 + 2 * nl108 = ttl108 := ⟨_, rfl⟩
          rw [hnl108, httl108] at hCl108 hll108 hml108
          obtain ⟨ldl108, hldl108⟩ : ∃ ldl108, ldS (σ.2.2 i) (σ.1 i * σ.2.1 i) = ldl108 := ⟨_, rfl⟩
          have hlbl108 : ldl108 ≤ 137216 := by rw [← hldl108]; exact ldS_fit l5l108 (by omega)
          rw [hldl108] at ul108
          have hGl108 := hGb107.trans hFl108
          have hcapl108 := hXl108.cap
          have hsl108 : ∀ k', k' < σ.1 i * σ.2.1 i → ZB 267 (σ.2.2 i k').num ∧ ZB 267 ((σ.2.2 i k').den : Int) := fun k' h => ⟨(fit_sizes l5l108 h).1, (fit_sizes l5l108 h).2.1⟩
          have h1l108 : RI Dl108 3 1 1 := h1.congr (Nat.le_refl _) (fun i hi => hol108 i (by omega))
          have hT3l108 : 3 ≤ Tl108 := by omega
          refine jj_istore (pc := 43) kR_add_d43 (Nat.le_of_ble_eq_true rfl) ?_
          refine jj_aload_n (pc := 45) kR_add_d45 rfl ?_
          refine jj_iload_n (pc := 46) kR_add_d46 rfl ?_
          refine jj_callV (pc := 47) (b := r) (As := [.int (nI (j))]) kR_add_d47 (kvR_R_load hG) (kG_cl hG rfl) rfl (RPX.rr e0 e9 e10 e11 (hPq106.ffe e0 hGl108)) rfl rfl rfl (Nat.le_of_ble_eq_true rfl) (Nat.le_of_ble_eq_true rfl) (jj_bare0 rfl) ?_
          refine rm_load hG e0 e9 e10 e11 (hPq106.ffe e0 hGl108) hCl108 hSl108 hXl108 hll108 h1l108 hT3l108 hL hj (by omega) (by omega) (fun Ml109 vv Dl109 Tl109 Vl109 upl109 lowl109 Xl109 Zl109 vl109 rcl109 rsl109 hCl109 hSl109 hXl109 tl109 ul109 hol109 hvl109 hll109 hFl109 hml109 => ?_)
          show jj G kR_add (d + 11) Q rcl109 rsl109 50 [some (.ref r), some (.int (nI (k))), some (.int (nI (i))), some (.int (nI (j))), some (.int (b)), some (.int (nI (0))), none] [.int (nI (ttl108))] Ml109
          obtain ⟨l1l109, l2l109, l3l109, l4l109, l5l109, l6l109⟩ := hL j hj
          obtain ⟨nl109, hnl109⟩ : ∃ nl109, σ.1 j * σ.2.1 j = nl109 := ⟨_, rfl⟩
          have hbl109 : nl109 ≤ 16 * 16 := by rw [← hnl109]; exact Nat.mul_le_mul l3l109 l4l109
          obtain ⟨ttl109, httl109⟩ : ∃ ttl109, ttl108 + 2 + 2 * nl109 = ttl109 := ⟨_, rfl⟩
          rw [hnl109, httl109] at hCl109 hll109 hml109
          obtain ⟨ldl109, hldl109⟩ : ∃ ldl109, ldS (σ.2.2 j) (σ.1 j * σ.2.1 j) = ldl109 := ⟨_, rfl⟩
          have hlbl109 : ldl109 ≤ 137216 := by rw [← hldl109]; exact ldS_fit l5l109 (by omega)
          rw [hldl109] at ul109
          have hGl109 := hGl108.trans hFl109
          have hcapl109 := hXl109.cap
          have hsl109 : ∀ k', k' < σ.1 j * σ.2.1 j → ZB 267 (σ.2.2 j k').num ∧ ZB 267 ((σ.2.2 j k').den : Int) := fun k' h => ⟨(fit_sizes l5l109 h).1, (fit_sizes l5l109 h).2.1⟩
          have h1l109 : RI Dl109 3 1 1 := h1l108.congr (Nat.le_refl _) (fun i hi => hol109 i (by omega))
          have hT3l109 : 3 ≤ Tl109 := by omega
          have hA := hml108.congr (lo' := 3) tl109 hol109 (show ttl108 ≤ ttl109 by omega) hvl109 (Nat.le_refl _)
          have hB := hml109
          obtain ⟨a1, a2, a3, -⟩ := id hA
          obtain ⟨b1, b2, b3, -⟩ := id hB
          refine jj_istore (pc := 50) kR_add_d50 (Nat.le_of_ble_eq_true rfl) ?_
          refine jj_aload_n (pc := 52) kR_add_d52 rfl ?_
          refine jj_aload_n (pc := 53) kR_add_d53 rfl ?_
          refine jj_getf (pc := 54) kR_add_d54 (kfR_f hG) (RPX.rr e0 e9 e10 e11 (hPq106.ffe e0 hGl109)) rfl ?_
          refine jj_iload (pc := 57) kR_add_d57 rfl ?_
          refine jj_callV (pc := 59) (b := f) (As := [.int (nI (0))]) kR_add_d59 (kvR_RF_rows hG) (kG_cl hG rfl) rfl hCl109.1 rfl rfl rfl (Nat.le_of_ble_eq_true rfl) (Nat.le_of_ble_eq_true rfl) (jj_bare0 rfl) ?_
          refine rf_rows hG hCl109 (by omega) (by omega) ?_
          show jj G kR_add (d + 11) Q rcl109 rsl109 62 [some (.ref r), some (.int (nI (k))), some (.int (nI (i))), some (.int (nI (j))), some (.int (b)), some (.int (nI (0))), some (.int (nI (ttl108)))] [.int (Vl109.getD 0 0), .ref r] Ml109
          refine jn_top (.int (nI (σ.1 i))) (by rw [a2]) ?_
          refine jj_aload_n (pc := 62) kR_add_d62 rfl ?_
          refine jj_getf (pc := 63) kR_add_d63 (kfR_f hG) (RPX.rr e0 e9 e10 e11 (hPq106.ffe e0 hGl109)) rfl ?_
          refine jj_iload (pc := 66) kR_add_d66 rfl ?_
          refine jj_callV (pc := 68) (b := f) (As := [.int (nI (ttl108))]) kR_add_d68 (kvR_RF_rows hG) (kG_cl hG rfl) rfl hCl109.1 rfl rfl rfl (Nat.le_of_ble_eq_true rfl) (Nat.le_of_ble_eq_true rfl) (jj_bare0 rfl) ?_
          refine rf_rows hG hCl109 (by omega) (by omega) ?_
          show jj G kR_add (d + 11) Q rcl109 rsl109 71 [some (.ref r), some (.int (nI (k))), some (.int (nI (i))), some (.int (nI (j))), some (.int (b)), some (.int (nI (0))), some (.int (nI (ttl108)))] [.int (Vl109.getD ttl108 0), .int (nI (σ.1 i)), .ref r] Ml109
          refine jn_top (.int (nI (σ.1 j))) (by rw [b2]) ?_
          refine jn_icmp_ne (pc := 71) (tgt := 99) kR_add_d71 (by decide) (by omega) (by omega) (fun c1 => ?_) (fun c1 => ?_)
          · skip
            refine jn_iconst (pc := 99) 2 kR_add_d99 (by decide) ?_
            have hP_q110 := (hPq106.ffe e0 hGl109)
            have hO_q110 := (hOq106.ff hGl109)
            refine jj_callV (pc := 100) (b := r) (As := [.int (nI (2))]) kR_add_d100 (kvR_R_refuses hG) (kG_cl hG rfl) rfl (RPX.rr e0 e9 e10 e11 (hPq106.ffe e0 hGl109)) rfl rfl rfl (Nat.le_of_ble_eq_true rfl) (Nat.le_of_ble_eq_true rfl) (jj_bare0 rfl) ?_
            refine rm_refuses (c := 2) hG (RPX.rr e0 e9 e10 e11 (hPq106.ffe e0 hGl109)) (by omega) (fun hp => ?_) (fun hp => ?_)
            · skip
              obtain ⟨Mq110, hMq110⟩ : ∃ Mq110, Mq110 = jj_up Ml109 r (.inl nR, [.int (nI (2)), .ref f, .ref o, .ref st]) := ⟨_, rfl⟩
              rw [← hMq110]
              obtain ⟨hPq110, hOq110, hCq110, hSq110, hTq110⟩ := RPX.refuse (code' := nI (2)) (M' := Mq110) hP_q110 (by rw [e10, e0, e12, e13]; exact hO_q110) (by rw [e0]; exact hCl109) hSl109 (by rw [hMq110, e0, e9, e10, e11])
              rw [e0] at hCq110
              rw [e10, e0, e12, e13] at hOq110
              have hFq110 := (hFq106.trans (RPX.rte e0 hPq106 hGl109)).trans hTq110
              show jj G kR_add (d + 11) Q rcl109 rsl109 103 [some (.ref r), some (.int (nI (k))), some (.int (nI (i))), some (.int (nI (j))), some (.int (b)), some (.int (nI (0))), some (.int (nI (ttl108)))] [.int (nI (1))] Mq110
              refine jn_if_eq (pc := 103) (tgt := 107) kR_add_d103 (by decide) (by omega) (fun c => by exfalso; omega) (fun _ => ?_)
              exact jj_vret (pc := 106) kR_add_d106 rfl (K Mq110 2 σ rcl109 rsl109 (Or.inr ⟨k, i, j, hk, rfl, hi, rfl, hj, rfl, Or.inl ⟨fun h => c1 h.1, rfl, rfl⟩⟩) hL (RT.cls hPq110 (by rw [e10, e0, e12, e13]; exact hOq110) hCA hRA (by rw [e0]; exact hCq110) hSq110 hXl109 hT3l109 h1l109 hll109 hPL) hFq110)
            · skip
              exact absurd hp (by omega)
          · skip
            refine jj_aload_n (pc := 74) kR_add_d74 rfl ?_
            refine jj_getf (pc := 75) kR_add_d75 (kfR_f hG) (RPX.rr e0 e9 e10 e11 (hPq106.ffe e0 hGl109)) rfl ?_
            refine jj_iload (pc := 78) kR_add_d78 rfl ?_
            refine jj_callV (pc := 80) (b := f) (As := [.int (nI (0))]) kR_add_d80 (kvR_RF_columns hG) (kG_cl hG rfl) rfl hCl109.1 rfl rfl rfl (Nat.le_of_ble_eq_true rfl) (Nat.le_of_ble_eq_true rfl) (jj_bare0 rfl) ?_
            refine rf_columns hG hCl109 (by omega) (by omega) ?_
            show jj G kR_add (d + 11) Q rcl109 rsl109 83 [some (.ref r), some (.int (nI (k))), some (.int (nI (i))), some (.int (nI (j))), some (.int (b)), some (.int (nI (0))), some (.int (nI (ttl108)))] [.int (Vl109.getD (0 + 1) 0), .ref r] Ml109
            refine jn_top (.int (nI (σ.2.1 i))) (by rw [a3]) ?_
            refine jj_aload_n (pc := 83) kR_add_d83 rfl ?_
            refine jj_getf (pc := 84) kR_add_d84 (kfR_f hG) (RPX.rr e0 e9 e10 e11 (hPq106.ffe e0 hGl109)) rfl ?_
            refine jj_iload (pc := 87) kR_add_d87 rfl ?_
            refine jj_callV (pc := 89) (b := f) (As := [.int (nI (ttl108))]) kR_add_d89 (kvR_RF_columns hG) (kG_cl hG rfl) rfl hCl109.1 rfl rfl rfl (Nat.le_of_ble_eq_true rfl) (Nat.le_of_ble_eq_true rfl) (jj_bare0 rfl) ?_
            refine rf_columns hG hCl109 (by omega) (by omega) ?_
            show jj G kR_add (d + 11) Q rcl109 rsl109 92 [some (.ref r), some (.int (nI (k))), some (.int (nI (i))), some (.int (nI (j))), some (.int (b)), some (.int (nI (0))), some (.int (nI (ttl108)))] [.int (Vl109.getD (ttl108 + 1) 0), .int (nI (σ.2.1 i)), .ref r] Ml109
            refine jn_top (.int (nI (σ.2.1 j))) (by rw [b3]) ?_
            refine jn_icmp_ne (pc := 92) (tgt := 99) kR_add_d92 (by decide) (by omega) (by omega) (fun c2 => ?_) (fun c2 => ?_)
            · skip
              refine jn_iconst (pc := 99) 2 kR_add_d99 (by decide) ?_
              have hP_q111 := (hPq106.ffe e0 hGl109)
              have hO_q111 := (hOq106.ff hGl109)
              refine jj_callV (pc := 100) (b := r) (As := [.int (nI (2))]) kR_add_d100 (kvR_R_refuses hG) (kG_cl hG rfl) rfl (RPX.rr e0 e9 e10 e11 (hPq106.ffe e0 hGl109)) rfl rfl rfl (Nat.le_of_ble_eq_true rfl) (Nat.le_of_ble_eq_true rfl) (jj_bare0 rfl) ?_
              refine rm_refuses (c := 2) hG (RPX.rr e0 e9 e10 e11 (hPq106.ffe e0 hGl109)) (by omega) (fun hp => ?_) (fun hp => ?_)
              · skip
                obtain ⟨Mq111, hMq111⟩ : ∃ Mq111, Mq111 = jj_up Ml109 r (.inl nR, [.int (nI (2)), .ref f, .ref o, .ref st]) := ⟨_, rfl⟩
                rw [← hMq111]
                obtain ⟨hPq111, hOq111, hCq111, hSq111, hTq111⟩ := RPX.refuse (code' := nI (2)) (M' := Mq111) hP_q111 (by rw [e10, e0, e12, e13]; exact hO_q111) (by rw [e0]; exact hCl109) hSl109 (by rw [hMq111, e0, e9, e10, e11])
                rw [e0] at hCq111
                rw [e10, e0, e12, e13] at hOq111
                have hFq111 := (hFq106.trans (RPX.rte e0 hPq106 hGl109)).trans hTq111
                show jj G kR_add (d + 11) Q rcl109 rsl109 103 [some (.ref r), some (.int (nI (k))), some (.int (nI (i))), some (.int (nI (j))), some (.int (b)), some (.int (nI (0))), some (.int (nI (ttl108)))] [.int (nI (1))] Mq111
                refine jn_if_eq (pc := 103) (tgt := 107) kR_add_d103 (by decide) (by omega) (fun c => by exfalso; omega) (fun _ => ?_)
                exact jj_vret (pc := 106) kR_add_d106 rfl (K Mq111 2 σ rcl109 rsl109 (Or.inr ⟨k, i, j, hk, rfl, hi, rfl, hj, rfl, Or.inl ⟨fun h => c2 h.2, rfl, rfl⟩⟩) hL (RT.cls hPq111 (by rw [e10, e0, e12, e13]; exact hOq111) hCA hRA (by rw [e0]; exact hCq111) hSq111 hXl109 hT3l109 h1l109 hll109 hPL) hFq111)
              · skip
                exact absurd hp (by omega)
            · skip
              refine jn_iconst (pc := 95) 0 kR_add_d95 (by decide) ?_
              refine jj_goto (pc := 96) (tgt := 100) kR_add_d96 (by decide) ?_
              have hP_q112 := (hPq106.ffe e0 hGl109)
              have hO_q112 := (hOq106.ff hGl109)
              refine jj_callV (pc := 100) (b := r) (As := [.int (nI (0))]) kR_add_d100 (kvR_R_refuses hG) (kG_cl hG rfl) rfl (RPX.rr e0 e9 e10 e11 (hPq106.ffe e0 hGl109)) rfl rfl rfl (Nat.le_of_ble_eq_true rfl) (Nat.le_of_ble_eq_true rfl) (jj_bare0 rfl) ?_
              refine rm_refuses (c := 0) hG (RPX.rr e0 e9 e10 e11 (hPq106.ffe e0 hGl109)) (by omega) (fun hp => ?_) (fun hp => ?_)
              · skip
                exact absurd hp (by omega)
              · skip
                obtain ⟨Mq112, hMq112⟩ : ∃ Mq112, Mq112 = jj_up Ml109 r (.inl nR, [.int (nI (0)), .ref f, .ref o, .ref st]) := ⟨_, rfl⟩
                rw [← hMq112]
                obtain ⟨hPq112, hOq112, hCq112, hSq112, hTq112⟩ := RPX.refuse (code' := nI (0)) (M' := Mq112) hP_q112 (by rw [e10, e0, e12, e13]; exact hO_q112) (by rw [e0]; exact hCl109) hSl109 (by rw [hMq112, e0, e9, e10, e11])
                rw [e0] at hCq112
                rw [e10, e0, e12, e13] at hOq112
                have hFq112 := (hFq106.trans (RPX.rte e0 hPq106 hGl109)).trans hTq112
                show jj G kR_add (d + 11) Q rcl109 rsl109 103 [some (.ref r), some (.int (nI (k))), some (.int (nI (i))), some (.int (nI (j))), some (.int (b)), some (.int (nI (0))), some (.int (nI (ttl108)))] [.int (nI (0))] Mq112
                refine jn_if_eq (pc := 103) (tgt := 107) kR_add_d103 (by decide) (by omega) (fun _ => ?_) (fun c => by exfalso; omega)
                refine jj_aload_n (pc := 107) kR_add_d107 rfl ?_
                refine jj_iload_n (pc := 108) kR_add_d108 rfl ?_
                refine jj_aload_n (pc := 109) kR_add_d109 rfl ?_
                refine jj_getf (pc := 110) kR_add_d110 (kfR_f hG) (RPX.rr e0 e9 e10 e11 hPq112) rfl ?_
                refine jj_iload (pc := 113) kR_add_d113 rfl ?_
                refine jj_iload (pc := 115) kR_add_d115 rfl ?_
                refine jj_iload (pc := 117) kR_add_d117 rfl ?_
                have hsz : ∀ k', k' < σ.1 i * σ.2.1 i → ZB 535 ((fun t => if b = 0 then σ.2.2 i t + σ.2.2 j t else σ.2.2 i t - σ.2.2 j t) k').num ∧ ZB 535 (((fun t => if b = 0 then σ.2.2 i t + σ.2.2 j t else σ.2.2 i t - σ.2.2 j t) k').den : Int) := fun k' hk' => by
                  obtain ⟨p1, p2⟩ := hsl108 k' hk'
                  obtain ⟨p3, p4⟩ := hsl109 k' (by rw [← c1, ← c2]; exact hk')
                  dsimp only
                  split
                  · exact ⟨(ZB_sum p1 p2 p3 p4).1, (ZB_sum p1 p2 p3 p4).2⟩
                  · exact ⟨(ZB_dif p1 p2 p3 p4).1, (ZB_dif p1 p2 p3 p4).2⟩
                rw [← c1, ← c2] at hB hsl109
                refine jj_callV (pc := 119) (b := f) (As := [.int (nI (0)), .int (nI (ttl108)), .int (b)]) kR_add_d119 (kvR_RF_sum hG) (kG_cl hG rfl) rfl hCq112.1 rfl rfl rfl (Nat.le_of_ble_eq_true rfl) (Nat.le_of_ble_eq_true rfl) (jj_bare0 rfl) ?_
                refine rf_sum (qb := σ.2.2 i) (qc := σ.2.2 j) (lob := 3) (loc := Tl108) (s := 267) (s2 := 535) (S := 2 * 535 + 267 + 4) hG hCq112 hSq112 hXl109 hll109 (h1l109.congr hT3l109 (fun _ _ => rfl)) hT3l109 hA (by omega) (by omega) hsl108 hB (by omega) (by omega) hsl109 rfl (by omega) hsz (by omega) (by omega) (fun Mu vv Du Tu Vu upu lowu Xu Zu vu rcu rsu hCu hSu hXu tu uu hou hvu hlu hFu hmu => ?_)
                show jj G kR_add (d + 11) Q rcu rsu 122 [some (.ref r), some (.int (nI (k))), some (.int (nI (i))), some (.int (nI (j))), some (.int (b)), some (.int (nI (0))), some (.int (nI (ttl108)))] [.int (nI (ttl109)), .int (nI (k)), .ref r] Mu
                rw [hnl108] at hCu hlu hmu
                obtain ⟨ttu, httu⟩ : ∃ ttu, ttl109 + 2 + 2 * (nl108) = ttu := ⟨_, rfl⟩
                rw [httu] at hCu hlu hmu
                have hGu := (FF.refl Mq112 f).trans hFu
                have hcapu := hXu.cap
                have h1u : RI Du 3 1 1 := h1l109.congr (Nat.le_refl _) (fun i hi => hou i (by omega))
                have hT3u : 3 ≤ Tu := by omega
                refine jn_iconst (pc := 122) 3 kR_add_d122 (by decide) ?_
                refine jj_callV (pc := 123) (b := r) (As := [.int (nI (k)), .int (nI (ttl109)), .int (nI (3))]) kR_add_d123 (kvR_R_puts hG) (kG_cl hG rfl) rfl (RPX.rr e0 e9 e10 e11 (hPq112.ffe e0 hGu)) rfl rfl rfl (Nat.le_of_ble_eq_true rfl) (Nat.le_of_ble_eq_true rfl) (jj_bare0 rfl) ?_
                refine rm_puts (s := 535) (lo := Tl109) (qn := fun t => if b = 0 then σ.2.2 i t + σ.2.2 j t else σ.2.2 i t - σ.2.2 j t) (Rn := σ.1 i) (cn := σ.2.1 i) hG e0 e9 e10 e11 (hPq112.ffe e0 hGu) hCu e12 e13 (hOq112.ff hGu) hCA hRA hSu hXu hlu h1u hT3u hPL hk (by omega) (by omega) hmu (by omega) (by omega) hsz (by omega) (by omega) (fun M8 rc8 rs8 hnf hR8 hT8 => ?_) (fun M8 rc8 rs8 w8 vv8 pv8 V8 t8 up8 low8 P8 rk8 hfit hR8 hT8 hC8 hg8 hl8 hb8 => ?_)
                · skip
                  show jj G kR_add (d + 11) Q rc8 rs8 126 [some (.ref r), some (.int (nI (k))), some (.int (nI (i))), some (.int (nI (j))), some (.int (b)), some (.int (nI (0))), some (.int (nI (ttl108)))] [.int (nI (0))] M8
                  refine jj_pop (pc := 126) kR_add_d126 rfl ?_
                  exact jj_vret (pc := 127) kR_add_d127 rfl (K M8 3 σ rc8 rs8 (Or.inr ⟨k, i, j, hk, rfl, hi, rfl, hj, rfl, Or.inr ⟨c1, c2, Or.inr ⟨hnf, rfl, rfl⟩⟩⟩) hL hR8 ((hFq112.trans (RPX.rte e0 hPq112 hGu)).trans hT8))
                · skip
                  show jj G kR_add (d + 11) Q rc8 rs8 126 [some (.ref r), some (.int (nI (k))), some (.int (nI (i))), some (.int (nI (j))), some (.int (b)), some (.int (nI (0))), some (.int (nI (ttl108)))] [.int (nI (1))] M8
                  refine jj_pop (pc := 126) kR_add_d126 rfl ?_
                  exact jj_vret (pc := 127) kR_add_d127 rfl (K M8 0 _ rc8 rs8 (Or.inr ⟨k, i, j, hk, rfl, hi, rfl, hj, rfl, Or.inr ⟨c1, c2, Or.inl ⟨hfit, rfl, rfl⟩⟩⟩) (hL.rup (by omega) (by omega) hfit) hR8 ((hFq112.trans (RPX.rte e0 hPq112 hGu)).trans hT8))
      · skip
        show jj G kR_add (d + 11) Q rc rs 19 [some (.ref r), some (.int (nI (k))), some (.int (nI (i))), some (.int (z)), some (.int (b)), none, none] [.int (nI (0)), .ref r] M
        refine jn_if_eq (pc := 19) (tgt := 26) kR_add_d19 (by decide) (by omega) (fun _ => ?_) (fun c => by exfalso; omega)
        refine jn_iconst (pc := 26) 1 kR_add_d26 (by decide) ?_
        have hP_q113 := hP
        have hO_q113 := hO
        refine jj_callV (pc := 27) (b := r) (As := [.int (nI (1))]) kR_add_d27 (kvR_R_refuses hG) (kG_cl hG rfl) rfl (RPX.rr e0 e9 e10 e11 hP) rfl rfl rfl (Nat.le_of_ble_eq_true rfl) (Nat.le_of_ble_eq_true rfl) (jj_bare0 rfl) ?_
        refine rm_refuses (c := 1) hG (RPX.rr e0 e9 e10 e11 hP) (by omega) (fun hp => ?_) (fun hp => ?_)
        · skip
          obtain ⟨Mq113, hMq113⟩ : ∃ Mq113, Mq113 = jj_up M r (.inl nR, [.int (nI (1)), .ref f, .ref o, .ref st]) := ⟨_, rfl⟩
          rw [← hMq113]
          obtain ⟨hPq113, hOq113, hCq113, hSq113, hTq113⟩ := RPX.refuse (code' := nI (1)) (M' := Mq113) hP_q113 (by rw [e10, e0, e12, e13]; exact hO_q113) (by rw [e0]; exact hC) hS (by rw [hMq113, e0, e9, e10, e11])
          rw [e0] at hCq113
          rw [e10, e0, e12, e13] at hOq113
          have hFq113 := (RTF.refl M F).trans hTq113
          show jj G kR_add (d + 11) Q rc rs 30 [some (.ref r), some (.int (nI (k))), some (.int (nI (i))), some (.int (z)), some (.int (b)), none, none] [.int (nI (1))] Mq113
          refine jn_if_eq (pc := 30) (tgt := 34) kR_add_d30 (by decide) (by omega) (fun c => by exfalso; omega) (fun _ => ?_)
          exact jj_vret (pc := 33) kR_add_d33 rfl (K Mq113 1 σ rc rs (Or.inl ⟨fun h => hn h.2.2, rfl, rfl⟩) hL (RT.cls hPq113 (by rw [e10, e0, e12, e13]; exact hOq113) hCA hRA (by rw [e0]; exact hCq113) hSq113 hX hT3 h1 htV hPL) hFq113)
        · skip
          exact absurd hp (by omega)
    · skip
      show jj G kR_add (d + 11) Q rc rs 12 [some (.ref r), some (.int (nI (k))), some (.int (y)), some (.int (z)), some (.int (b)), none, none] [.int (nI (0)), .ref r] M
      refine jn_if_eq (pc := 12) (tgt := 26) kR_add_d12 (by decide) (by omega) (fun _ => ?_) (fun c => by exfalso; omega)
      refine jn_iconst (pc := 26) 1 kR_add_d26 (by decide) ?_
      have hP_q114 := hP
      have hO_q114 := hO
      refine jj_callV (pc := 27) (b := r) (As := [.int (nI (1))]) kR_add_d27 (kvR_R_refuses hG) (kG_cl hG rfl) rfl (RPX.rr e0 e9 e10 e11 hP) rfl rfl rfl (Nat.le_of_ble_eq_true rfl) (Nat.le_of_ble_eq_true rfl) (jj_bare0 rfl) ?_
      refine rm_refuses (c := 1) hG (RPX.rr e0 e9 e10 e11 hP) (by omega) (fun hp => ?_) (fun hp => ?_)
      · skip
        obtain ⟨Mq114, hMq114⟩ : ∃ Mq114, Mq114 = jj_up M r (.inl nR, [.int (nI (1)), .ref f, .ref o, .ref st]) := ⟨_, rfl⟩
        rw [← hMq114]
        obtain ⟨hPq114, hOq114, hCq114, hSq114, hTq114⟩ := RPX.refuse (code' := nI (1)) (M' := Mq114) hP_q114 (by rw [e10, e0, e12, e13]; exact hO_q114) (by rw [e0]; exact hC) hS (by rw [hMq114, e0, e9, e10, e11])
        rw [e0] at hCq114
        rw [e10, e0, e12, e13] at hOq114
        have hFq114 := (RTF.refl M F).trans hTq114
        show jj G kR_add (d + 11) Q rc rs 30 [some (.ref r), some (.int (nI (k))), some (.int (y)), some (.int (z)), some (.int (b)), none, none] [.int (nI (1))] Mq114
        refine jn_if_eq (pc := 30) (tgt := 34) kR_add_d30 (by decide) (by omega) (fun c => by exfalso; omega) (fun _ => ?_)
        exact jj_vret (pc := 33) kR_add_d33 rfl (K Mq114 1 σ rc rs (Or.inl ⟨fun h => hn h.2.1, rfl, rfl⟩) hL (RT.cls hPq114 (by rw [e10, e0, e12, e13]; exact hOq114) hCA hRA (by rw [e0]; exact hCq114) hSq114 hX hT3 h1 htV hPL) hFq114)
      · skip
        exact absurd hp (by omega)
  · skip
    show jj G kR_add (d + 11) Q rc rs 5 [some (.ref r), some (.int (x)), some (.int (y)), some (.int (z)), some (.int (b)), none, none] [.int (nI (0)), .ref r] M
    refine jn_if_eq (pc := 5) (tgt := 26) kR_add_d5 (by decide) (by omega) (fun _ => ?_) (fun c => by exfalso; omega)
    refine jn_iconst (pc := 26) 1 kR_add_d26 (by decide) ?_
    have hP_q115 := hP
    have hO_q115 := hO
    refine jj_callV (pc := 27) (b := r) (As := [.int (nI (1))]) kR_add_d27 (kvR_R_refuses hG) (kG_cl hG rfl) rfl (RPX.rr e0 e9 e10 e11 hP) rfl rfl rfl (Nat.le_of_ble_eq_true rfl) (Nat.le_of_ble_eq_true rfl) (jj_bare0 rfl) ?_
    refine rm_refuses (c := 1) hG (RPX.rr e0 e9 e10 e11 hP) (by omega) (fun hp => ?_) (fun hp => ?_)
    · skip
      obtain ⟨Mq115, hMq115⟩ : ∃ Mq115, Mq115 = jj_up M r (.inl nR, [.int (nI (1)), .ref f, .ref o, .ref st]) := ⟨_, rfl⟩
      rw [← hMq115]
      obtain ⟨hPq115, hOq115, hCq115, hSq115, hTq115⟩ := RPX.refuse (code' := nI (1)) (M' := Mq115) hP_q115 (by rw [e10, e0, e12, e13]; exact hO_q115) (by rw [e0]; exact hC) hS (by rw [hMq115, e0, e9, e10, e11])
      rw [e0] at hCq115
      rw [e10, e0, e12, e13] at hOq115
      have hFq115 := (RTF.refl M F).trans hTq115
      show jj G kR_add (d + 11) Q rc rs 30 [some (.ref r), some (.int (x)), some (.int (y)), some (.int (z)), some (.int (b)), none, none] [.int (nI (1))] Mq115
      refine jn_if_eq (pc := 30) (tgt := 34) kR_add_d30 (by decide) (by omega) (fun c => by exfalso; omega) (fun _ => ?_)
      exact jj_vret (pc := 33) kR_add_d33 rfl (K Mq115 1 σ rc rs (Or.inl ⟨fun h => hn h.1, rfl, rfl⟩) hL (RT.cls hPq115 (by rw [e10, e0, e12, e13]; exact hOq115) hCA hRA (by rw [e0]; exact hCq115) hSq115 hX hT3 h1 htV hPL) hFq115)
    · skip
      exact absurd hp (by omega)
theorem rp_beside {x y z : Int32} (hG : kG G) (e9 : F 9 = r) (hT : RT M F code σ X Z rc rs) (hL : LG σ)
    (K : ∀ M' cd σ' rc' rs', semBeside σ x y z cd σ' → LG σ' → RT M' F (nI cd) σ' X Z rc' rs' → RTF M M' F → Q (.returned none) M' rc' rs') : jj G kR_beside (d + 11) Q rc rs 0 (jj_ent [.ref r, .int x, .int y, .int z] 6) [] M := by
  obtain ⟨pt, zt, w, vv, pv, D, T, v2, V, t, up, low, P, rk, CA, RA, fi, se, X1, Z1, hP, hO, hCA, hRA, hC, hS, hX, hT3, h1, htV, hPL⟩ := hT.opn
  obtain ⟨f, e0⟩ : ∃ f, F 0 = f := ⟨_, rfl⟩
  obtain ⟨o, e10⟩ : ∃ o, F 10 = o := ⟨_, rfl⟩
  obtain ⟨st, e11⟩ : ∃ st, F 11 = st := ⟨_, rfl⟩
  obtain ⟨ca, e12⟩ : ∃ ca, F 12 = ca := ⟨_, rfl⟩
  obtain ⟨ra, e13⟩ : ∃ ra, F 13 = ra := ⟨_, rfl⟩
  rw [e10, e0, e12, e13] at hO
  rw [e0] at hC
  have hcap := hX.cap
  show jj G kR_beside (d + 11) Q rc rs 0 [some (.ref r), some (.int (x)), some (.int (y)), some (.int (z)), none, none] [] M
  refine jj_aload_n (pc := 0) kR_beside_d0 rfl ?_
  refine jj_iload_n (pc := 1) kR_beside_d1 rfl ?_
  refine jj_callS (pc := 2) (As := [.int (x)]) kR_beside_d2 (kvR_R_isRegister hG) rfl rfl rfl (Nat.le_of_ble_eq_true rfl) (Nat.le_of_ble_eq_true rfl) (jj_bare0 rfl) ?_
  refine rm_isRegister (fun k hk ek => ?_) (fun hn => ?_)
  · skip
    subst ek
    show jj G kR_beside (d + 11) Q rc rs 5 [some (.ref r), some (.int (nI (k))), some (.int (y)), some (.int (z)), none, none] [.int (nI (1)), .ref r] M
    refine jn_if_eq (pc := 5) (tgt := 26) kR_beside_d5 (by decide) (by omega) (fun c => by exfalso; omega) (fun _ => ?_)
    refine jj_iload_n (pc := 8) kR_beside_d8 rfl ?_
    refine jj_callS (pc := 9) (As := [.int (y)]) kR_beside_d9 (kvR_R_isRegister hG) rfl rfl rfl (Nat.le_of_ble_eq_true rfl) (Nat.le_of_ble_eq_true rfl) (jj_bare0 rfl) ?_
    refine rm_isRegister (fun i hi ei => ?_) (fun hn => ?_)
    · skip
      subst ei
      show jj G kR_beside (d + 11) Q rc rs 12 [some (.ref r), some (.int (nI (k))), some (.int (nI (i))), some (.int (z)), none, none] [.int (nI (1)), .ref r] M
      refine jn_if_eq (pc := 12) (tgt := 26) kR_beside_d12 (by decide) (by omega) (fun c => by exfalso; omega) (fun _ => ?_)
      refine jj_iload_n (pc := 15) kR_beside_d15 rfl ?_
      refine jj_callS (pc := 16) (As := [.int (z)]) kR_beside_d16 (kvR_R_isRegister hG) rfl rfl rfl (Nat.le_of_ble_eq_true rfl) (Nat.le_of_ble_eq_true rfl) (jj_bare0 rfl) ?_
      refine rm_isRegister (fun j hj ej => ?_) (fun hn => ?_)
      · skip
        subst ej
        show jj G kR_beside (d + 11) Q rc rs 19 [some (.ref r), some (.int (nI (k))), some (.int (nI (i))), some (.int (nI (j))), none, none] [.int (nI (1)), .ref r] M
        refine jn_if_eq (pc := 19) (tgt := 26) kR_beside_d19 (by decide) (by omega) (fun c => by exfalso; omega) (fun _ => ?_)
        refine jn_iconst (pc := 22) 0 kR_beside_d22 (by decide) ?_
        refine jj_goto (pc := 23) (tgt := 27) kR_beside_d23 (by decide) ?_
        have hP_q116 := hP
        have hO_q116 := hO
        refine jj_callV (pc := 27) (b := r) (As := [.int (nI (0))]) kR_beside_d27 (kvR_R_refuses hG) (kG_cl hG rfl) rfl (RPX.rr e0 e9 e10 e11 hP) rfl rfl rfl (Nat.le_of_ble_eq_true rfl) (Nat.le_of_ble_eq_true rfl) (jj_bare0 rfl) ?_
        refine rm_refuses (c := 0) hG (RPX.rr e0 e9 e10 e11 hP) (by omega) (fun hp => ?_) (fun hp => ?_)
        · skip
          exact absurd hp (by omega)
        · skip
          obtain ⟨Mq116, hMq116⟩ : ∃ Mq116, Mq116 = jj_up M r (.inl nR, [.int (nI (0)), .ref f, .ref o, .ref st]) := ⟨_, rfl⟩
          rw [← hMq116]
          obtain ⟨hPq116, hOq116, hCq116, hSq116, hTq116⟩ := RPX.refuse (code' := nI (0)) (M' := Mq116) hP_q116 (by rw [e10, e0, e12, e13]; exact hO_q116) (by rw [e0]; exact hC) hS (by rw [hMq116, e0, e9, e10, e11])
          rw [e0] at hCq116
          rw [e10, e0, e12, e13] at hOq116
          have hFq116 := (RTF.refl M F).trans hTq116
          show jj G kR_beside (d + 11) Q rc rs 30 [some (.ref r), some (.int (nI (k))), some (.int (nI (i))), some (.int (nI (j))), none, none] [.int (nI (0))] Mq116
          refine jn_if_eq (pc := 30) (tgt := 34) kR_beside_d30 (by decide) (by omega) (fun _ => ?_) (fun c => by exfalso; omega)
          refine jj_aload_n (pc := 34) kR_beside_d34 rfl ?_
          refine jj_callV (pc := 35) (b := r) (As := []) kR_beside_d35 (kvR_R_begin hG) (kG_cl hG rfl) rfl (RPX.rr e0 e9 e10 e11 hPq116) rfl rfl rfl (Nat.le_of_ble_eq_true rfl) (Nat.le_of_ble_eq_true rfl) (jj_bare0 rfl) ?_
          refine rm_begin hG e0 e9 e10 e11 hPq116 hCq116 hSq116 hT3 (fun Mb117 hCb117 hSb117 hFb117 => ?_)
          show jj G kR_beside (d + 11) Q rc rs 38 [some (.ref r), some (.int (nI (k))), some (.int (nI (i))), some (.int (nI (j))), none, none] [] Mb117
          have hGb117 := (FF.refl Mq116 f).trans hFb117
          refine jj_aload_n (pc := 38) kR_beside_d38 rfl ?_
          refine jj_iload_n (pc := 39) kR_beside_d39 rfl ?_
          refine jj_callV (pc := 40) (b := r) (As := [.int (nI (i))]) kR_beside_d40 (kvR_R_load hG) (kG_cl hG rfl) rfl (RPX.rr e0 e9 e10 e11 (hPq116.ffe e0 hGb117)) rfl rfl rfl (Nat.le_of_ble_eq_true rfl) (Nat.le_of_ble_eq_true rfl) (jj_bare0 rfl) ?_
          refine rm_load hG e0 e9 e10 e11 (hPq116.ffe e0 hGb117) hCb117 hSb117 hX (Nat.zero_le _) h1 (Nat.le_refl 3) hL hi (by omega) (by omega) (fun Ml118 vv Dl118 Tl118 Vl118 upl118 lowl118 Xl118 Zl118 vl118 rcl118 rsl118 hCl118 hSl118 hXl118 tl118 ul118 hol118 hvl118 hll118 hFl118 hml118 => ?_)
          show jj G kR_beside (d + 11) Q rcl118 rsl118 43 [some (.ref r), some (.int (nI (k))), some (.int (nI (i))), some (.int (nI (j))), none, none] [.int (nI (0))] Ml118
          obtain ⟨l1l118, l2l118, l3l118, l4l118, l5l118, l6l118⟩ := hL i hi
          obtain ⟨nl118, hnl118⟩ : ∃ nl118, σ.1 i * σ.2.1 i = nl118 := ⟨_, rfl⟩
          have hbl118 : nl118 ≤ 16 * 16 := by rw [← hnl118]; exact Nat.mul_le_mul l3l118 l4l118
          obtain ⟨ttl118, httl118⟩ : ∃ ttl118, 0 + 2 + 2 * nl118 = ttl118 := ⟨_, rfl⟩
          rw [hnl118, httl118] at hCl118 hll118 hml118
          obtain ⟨ldl118, hldl118⟩ : ∃ ldl118, ldS (σ.2.2 i) (σ.1 i * σ.2.1 i) = ldl118 := ⟨_, rfl⟩
          have hlbl118 : ldl118 ≤ 137216 := by rw [← hldl118]; exact ldS_fit l5l118 (by omega)
          rw [hldl118] at ul118
          have hGl118 := hGb117.trans hFl118
          have hcapl118 := hXl118.cap
          have hsl118 : ∀ k', k' < σ.1 i * σ.2.1 i → ZB 267 (σ.2.2 i k').num ∧ ZB 267 ((σ.2.2 i k').den : Int) := fun k' h => ⟨(fit_sizes l5l118 h).1, (fit_sizes l5l118 h).2.1⟩
          have h1l118 : RI Dl118 3 1 1 := h1.congr (Nat.le_refl _) (fun i hi => hol118 i (by omega))
          have hT3l118 : 3 ≤ Tl118 := by omega
          refine jj_istore (pc := 43) kR_beside_d43 (Nat.le_of_ble_eq_true rfl) ?_
          refine jj_aload_n (pc := 45) kR_beside_d45 rfl ?_
          refine jj_iload_n (pc := 46) kR_beside_d46 rfl ?_
          refine jj_callV (pc := 47) (b := r) (As := [.int (nI (j))]) kR_beside_d47 (kvR_R_load hG) (kG_cl hG rfl) rfl (RPX.rr e0 e9 e10 e11 (hPq116.ffe e0 hGl118)) rfl rfl rfl (Nat.le_of_ble_eq_true rfl) (Nat.le_of_ble_eq_true rfl) (jj_bare0 rfl) ?_
          refine rm_load hG e0 e9 e10 e11 (hPq116.ffe e0 hGl118) hCl118 hSl118 hXl118 hll118 h1l118 hT3l118 hL hj (by omega) (by omega) (fun Ml119 vv Dl119 Tl119 Vl119 upl119 lowl119 Xl119 Zl119 vl119 rcl119 rsl119 hCl119 hSl119 hXl119 tl119 ul119 hol119 hvl119 hll119 hFl119 hml119 => ?_)
          show jj G kR_beside (d + 11) Q rcl119 rsl119 50 [some (.ref r), some (.int (nI (k))), some (.int (nI (i))), some (.int (nI (j))), some (.int (nI (0))), none] [.int (nI (ttl118))] Ml119
          obtain ⟨l1l119, l2l119, l3l119, l4l119, l5l119, l6l119⟩ := hL j hj
          obtain ⟨nl119, hnl119⟩ : ∃ nl119, σ.1 j * σ.2.1 j = nl119 := ⟨_, rfl⟩
          have hbl119 : nl119 ≤ 16 * 16 := by rw [← hnl119]; exact Nat.mul_le_mul l3l119 l4l119
          obtain ⟨ttl119, httl119⟩ : ∃ ttl119, ttl118 + 2 + 2 * nl119 = ttl119 := ⟨_, rfl⟩
          rw [hnl119, httl119] at hCl119 hll119 hml119
          obtain ⟨ldl119, hldl119⟩ : ∃ ldl119, ldS (σ.2.2 j) (σ.1 j * σ.2.1 j) = ldl119 := ⟨_, rfl⟩
          have hlbl119 : ldl119 ≤ 137216 := by rw [← hldl119]; exact ldS_fit l5l119 (by omega)
          rw [hldl119] at ul119
          have hGl119 := hGl118.trans hFl119
          have hcapl119 := hXl119.cap
          have hsl119 : ∀ k', k' < σ.1 j * σ.2.1 j → ZB 267 (σ.2.2 j k').num ∧ ZB 267 ((σ.2.2 j k').den : Int) := fun k' h => ⟨(fit_sizes l5l119 h).1, (fit_sizes l5l119 h).2.1⟩
          have h1l119 : RI Dl119 3 1 1 := h1l118.congr (Nat.le_refl _) (fun i hi => hol119 i (by omega))
          have hT3l119 : 3 ≤ Tl119 := by omega
          have hA := hml118.congr (lo' := 3) tl119 hol119 (show ttl118 ≤ ttl119 by omega) hvl119 (Nat.le_refl _)
          have hB := hml119
          obtain ⟨a1, a2, a3, -⟩ := id hA
          obtain ⟨b1, b2, b3, -⟩ := id hB
          refine jj_istore (pc := 50) kR_beside_d50 (Nat.le_of_ble_eq_true rfl) ?_
          refine jj_aload_n (pc := 52) kR_beside_d52 rfl ?_
          refine jj_aload_n (pc := 53) kR_beside_d53 rfl ?_
          refine jj_getf (pc := 54) kR_beside_d54 (kfR_f hG) (RPX.rr e0 e9 e10 e11 (hPq116.ffe e0 hGl119)) rfl ?_
          refine jj_iload (pc := 57) kR_beside_d57 rfl ?_
          refine jj_callV (pc := 59) (b := f) (As := [.int (nI (0))]) kR_beside_d59 (kvR_RF_rows hG) (kG_cl hG rfl) rfl hCl119.1 rfl rfl rfl (Nat.le_of_ble_eq_true rfl) (Nat.le_of_ble_eq_true rfl) (jj_bare0 rfl) ?_
          refine rf_rows hG hCl119 (by omega) (by omega) ?_
          show jj G kR_beside (d + 11) Q rcl119 rsl119 62 [some (.ref r), some (.int (nI (k))), some (.int (nI (i))), some (.int (nI (j))), some (.int (nI (0))), some (.int (nI (ttl118)))] [.int (Vl119.getD 0 0), .ref r] Ml119
          refine jn_top (.int (nI (σ.1 i))) (by rw [a2]) ?_
          refine jj_aload_n (pc := 62) kR_beside_d62 rfl ?_
          refine jj_getf (pc := 63) kR_beside_d63 (kfR_f hG) (RPX.rr e0 e9 e10 e11 (hPq116.ffe e0 hGl119)) rfl ?_
          refine jj_iload (pc := 66) kR_beside_d66 rfl ?_
          refine jj_callV (pc := 68) (b := f) (As := [.int (nI (ttl118))]) kR_beside_d68 (kvR_RF_rows hG) (kG_cl hG rfl) rfl hCl119.1 rfl rfl rfl (Nat.le_of_ble_eq_true rfl) (Nat.le_of_ble_eq_true rfl) (jj_bare0 rfl) ?_
          refine rf_rows hG hCl119 (by omega) (by omega) ?_
          show jj G kR_beside (d + 11) Q rcl119 rsl119 71 [some (.ref r), some (.int (nI (k))), some (.int (nI (i))), some (.int (nI (j))), some (.int (nI (0))), some (.int (nI (ttl118)))] [.int (Vl119.getD ttl118 0), .int (nI (σ.1 i)), .ref r] Ml119
          refine jn_top (.int (nI (σ.1 j))) (by rw [b2]) ?_
          refine jn_icmp_ne (pc := 71) (tgt := 78) kR_beside_d71 (by decide) (by omega) (by omega) (fun c1 => ?_) (fun c1 => ?_)
          · skip
            refine jn_iconst (pc := 78) 2 kR_beside_d78 (by decide) ?_
            have hP_q120 := (hPq116.ffe e0 hGl119)
            have hO_q120 := (hOq116.ff hGl119)
            refine jj_callV (pc := 79) (b := r) (As := [.int (nI (2))]) kR_beside_d79 (kvR_R_refuses hG) (kG_cl hG rfl) rfl (RPX.rr e0 e9 e10 e11 (hPq116.ffe e0 hGl119)) rfl rfl rfl (Nat.le_of_ble_eq_true rfl) (Nat.le_of_ble_eq_true rfl) (jj_bare0 rfl) ?_
            refine rm_refuses (c := 2) hG (RPX.rr e0 e9 e10 e11 (hPq116.ffe e0 hGl119)) (by omega) (fun hp => ?_) (fun hp => ?_)
            · skip
              obtain ⟨Mq120, hMq120⟩ : ∃ Mq120, Mq120 = jj_up Ml119 r (.inl nR, [.int (nI (2)), .ref f, .ref o, .ref st]) := ⟨_, rfl⟩
              rw [← hMq120]
              obtain ⟨hPq120, hOq120, hCq120, hSq120, hTq120⟩ := RPX.refuse (code' := nI (2)) (M' := Mq120) hP_q120 (by rw [e10, e0, e12, e13]; exact hO_q120) (by rw [e0]; exact hCl119) hSl119 (by rw [hMq120, e0, e9, e10, e11])
              rw [e0] at hCq120
              rw [e10, e0, e12, e13] at hOq120
              have hFq120 := (hFq116.trans (RPX.rte e0 hPq116 hGl119)).trans hTq120
              show jj G kR_beside (d + 11) Q rcl119 rsl119 82 [some (.ref r), some (.int (nI (k))), some (.int (nI (i))), some (.int (nI (j))), some (.int (nI (0))), some (.int (nI (ttl118)))] [.int (nI (1))] Mq120
              refine jn_if_eq (pc := 82) (tgt := 86) kR_beside_d82 (by decide) (by omega) (fun c => by exfalso; omega) (fun _ => ?_)
              exact jj_vret (pc := 85) kR_beside_d85 rfl (K Mq120 2 σ rcl119 rsl119 (Or.inr ⟨k, i, j, hk, rfl, hi, rfl, hj, rfl, Or.inl ⟨c1, rfl, rfl⟩⟩) hL (RT.cls hPq120 (by rw [e10, e0, e12, e13]; exact hOq120) hCA hRA (by rw [e0]; exact hCq120) hSq120 hXl119 hT3l119 h1l119 hll119 hPL) hFq120)
            · skip
              exact absurd hp (by omega)
          · skip
            refine jn_iconst (pc := 74) 0 kR_beside_d74 (by decide) ?_
            refine jj_goto (pc := 75) (tgt := 79) kR_beside_d75 (by decide) ?_
            have hP_q121 := (hPq116.ffe e0 hGl119)
            have hO_q121 := (hOq116.ff hGl119)
            refine jj_callV (pc := 79) (b := r) (As := [.int (nI (0))]) kR_beside_d79 (kvR_R_refuses hG) (kG_cl hG rfl) rfl (RPX.rr e0 e9 e10 e11 (hPq116.ffe e0 hGl119)) rfl rfl rfl (Nat.le_of_ble_eq_true rfl) (Nat.le_of_ble_eq_true rfl) (jj_bare0 rfl) ?_
            refine rm_refuses (c := 0) hG (RPX.rr e0 e9 e10 e11 (hPq116.ffe e0 hGl119)) (by omega) (fun hp => ?_) (fun hp => ?_)
            · skip
              exact absurd hp (by omega)
            · skip
              obtain ⟨Mq121, hMq121⟩ : ∃ Mq121, Mq121 = jj_up Ml119 r (.inl nR, [.int (nI (0)), .ref f, .ref o, .ref st]) := ⟨_, rfl⟩
              rw [← hMq121]
              obtain ⟨hPq121, hOq121, hCq121, hSq121, hTq121⟩ := RPX.refuse (code' := nI (0)) (M' := Mq121) hP_q121 (by rw [e10, e0, e12, e13]; exact hO_q121) (by rw [e0]; exact hCl119) hSl119 (by rw [hMq121, e0, e9, e10, e11])
              rw [e0] at hCq121
              rw [e10, e0, e12, e13] at hOq121
              have hFq121 := (hFq116.trans (RPX.rte e0 hPq116 hGl119)).trans hTq121
              show jj G kR_beside (d + 11) Q rcl119 rsl119 82 [some (.ref r), some (.int (nI (k))), some (.int (nI (i))), some (.int (nI (j))), some (.int (nI (0))), some (.int (nI (ttl118)))] [.int (nI (0))] Mq121
              refine jn_if_eq (pc := 82) (tgt := 86) kR_beside_d82 (by decide) (by omega) (fun _ => ?_) (fun c => by exfalso; omega)
              refine jj_aload_n (pc := 86) kR_beside_d86 rfl ?_
              refine jj_iload_n (pc := 87) kR_beside_d87 rfl ?_
              refine jj_aload_n (pc := 88) kR_beside_d88 rfl ?_
              refine jj_getf (pc := 89) kR_beside_d89 (kfR_f hG) (RPX.rr e0 e9 e10 e11 hPq121) rfl ?_
              refine jj_iload (pc := 92) kR_beside_d92 rfl ?_
              refine jj_iload (pc := 94) kR_beside_d94 rfl ?_
              obtain ⟨nn, hnn⟩ : ∃ nn, σ.1 i * (σ.2.1 i + σ.2.1 j) = nn := ⟨_, rfl⟩
              have hnb : nn ≤ 16 * 32 := by rw [← hnn]; exact Nat.mul_le_mul l3l118 (by omega)
              have hnS : nn * 536 ≤ 16 * 32 * 536 := Nat.mul_le_mul_right _ hnb
              have hsz : ∀ k', k' < σ.1 i * (σ.2.1 i + σ.2.1 j) → ZB 267 ((fun t => if t % (σ.2.1 i + σ.2.1 j) < σ.2.1 i then σ.2.2 i (t / (σ.2.1 i + σ.2.1 j) * σ.2.1 i + t % (σ.2.1 i + σ.2.1 j)) else σ.2.2 j (t / (σ.2.1 i + σ.2.1 j) * σ.2.1 j + t % (σ.2.1 i + σ.2.1 j) - σ.2.1 i)) k').num ∧ ZB 267 (((fun t => if t % (σ.2.1 i + σ.2.1 j) < σ.2.1 i then σ.2.2 i (t / (σ.2.1 i + σ.2.1 j) * σ.2.1 i + t % (σ.2.1 i + σ.2.1 j)) else σ.2.2 j (t / (σ.2.1 i + σ.2.1 j) * σ.2.1 j + t % (σ.2.1 i + σ.2.1 j) - σ.2.1 i)) k').den : Int) := fun k' hk' => by
                obtain ⟨p1, p2, p3⟩ := at_back hk'
                dsimp only
                split
                · rename_i h; exact hsl118 _ (cell_lt p1 h)
                · rename_i h
                  rw [Nat.add_sub_assoc (by omega)]
                  exact hsl119 _ (cell_lt (by omega) (by omega))
              rw [← c1] at hB hsl119
              refine jj_callV (pc := 96) (b := f) (As := [.int (nI (0)), .int (nI (ttl118))]) kR_beside_d96 (kvR_RF_beside hG) (kG_cl hG rfl) rfl hCq121.1 rfl rfl rfl (Nat.le_of_ble_eq_true rfl) (Nat.le_of_ble_eq_true rfl) (jj_bare0 rfl) ?_
              refine rf_beside (qb := σ.2.2 i) (qc := σ.2.2 j) (lob := 3) (loc := Tl118) (s := 267) (S := 536) hG hCq121 hSq121 hXl119 hll119 (h1l119.congr hT3l119 (fun _ _ => rfl)) hT3l119 hA (by omega) (by omega) hsl118 hB (by omega) (by omega) hsl119 rfl (by rw [hnn]; omega) (by rw [hnn]; omega) (fun Mu vv Du Tu Vu upu lowu Xu Zu vu rcu rsu hCu hSu hXu tu uu hou hvu hlu hFu hmu => ?_)
              show jj G kR_beside (d + 11) Q rcu rsu 99 [some (.ref r), some (.int (nI (k))), some (.int (nI (i))), some (.int (nI (j))), some (.int (nI (0))), some (.int (nI (ttl118)))] [.int (nI (ttl119)), .int (nI (k)), .ref r] Mu
              rw [hnn] at hCu hlu hmu uu
              obtain ⟨ttu, httu⟩ : ∃ ttu, ttl119 + 2 + 2 * (nn) = ttu := ⟨_, rfl⟩
              rw [httu] at hCu hlu hmu
              have hGu := (FF.refl Mq121 f).trans hFu
              have hcapu := hXu.cap
              have h1u : RI Du 3 1 1 := h1l119.congr (Nat.le_refl _) (fun i hi => hou i (by omega))
              have hT3u : 3 ≤ Tu := by omega
              refine jn_iconst (pc := 99) 3 kR_beside_d99 (by decide) ?_
              refine jj_callV (pc := 100) (b := r) (As := [.int (nI (k)), .int (nI (ttl119)), .int (nI (3))]) kR_beside_d100 (kvR_R_puts hG) (kG_cl hG rfl) rfl (RPX.rr e0 e9 e10 e11 (hPq121.ffe e0 hGu)) rfl rfl rfl (Nat.le_of_ble_eq_true rfl) (Nat.le_of_ble_eq_true rfl) (jj_bare0 rfl) ?_
              refine rm_puts (s := 267) (lo := Tl119) (qn := fun t => if t % (σ.2.1 i + σ.2.1 j) < σ.2.1 i then σ.2.2 i (t / (σ.2.1 i + σ.2.1 j) * σ.2.1 i + t % (σ.2.1 i + σ.2.1 j)) else σ.2.2 j (t / (σ.2.1 i + σ.2.1 j) * σ.2.1 j + t % (σ.2.1 i + σ.2.1 j) - σ.2.1 i)) (Rn := σ.1 i) (cn := σ.2.1 i + σ.2.1 j) hG e0 e9 e10 e11 (hPq121.ffe e0 hGu) hCu e12 e13 (hOq121.ff hGu) hCA hRA hSu hXu hlu h1u hT3u hPL hk (by omega) (by omega) hmu (by omega) (by omega) hsz (by omega) (by omega) (fun M8 rc8 rs8 hnf hR8 hT8 => ?_) (fun M8 rc8 rs8 w8 vv8 pv8 V8 t8 up8 low8 P8 rk8 hfit hR8 hT8 hC8 hg8 hl8 hb8 => ?_)
              · skip
                show jj G kR_beside (d + 11) Q rc8 rs8 103 [some (.ref r), some (.int (nI (k))), some (.int (nI (i))), some (.int (nI (j))), some (.int (nI (0))), some (.int (nI (ttl118)))] [.int (nI (0))] M8
                refine jj_pop (pc := 103) kR_beside_d103 rfl ?_
                exact jj_vret (pc := 104) kR_beside_d104 rfl (K M8 3 σ rc8 rs8 (Or.inr ⟨k, i, j, hk, rfl, hi, rfl, hj, rfl, Or.inr ⟨c1, Or.inr ⟨hnf, rfl, rfl⟩⟩⟩) hL hR8 ((hFq121.trans (RPX.rte e0 hPq121 hGu)).trans hT8))
              · skip
                show jj G kR_beside (d + 11) Q rc8 rs8 103 [some (.ref r), some (.int (nI (k))), some (.int (nI (i))), some (.int (nI (j))), some (.int (nI (0))), some (.int (nI (ttl118)))] [.int (nI (1))] M8
                refine jj_pop (pc := 103) kR_beside_d103 rfl ?_
                exact jj_vret (pc := 104) kR_beside_d104 rfl (K M8 0 _ rc8 rs8 (Or.inr ⟨k, i, j, hk, rfl, hi, rfl, hj, rfl, Or.inr ⟨c1, Or.inl ⟨hfit, rfl, rfl⟩⟩⟩) (hL.rup (by omega) (by omega) hfit) hR8 ((hFq121.trans (RPX.rte e0 hPq121 hGu)).trans hT8))
      · skip
        show jj G kR_beside (d + 11) Q rc rs 19 [some (.ref r), some (.int (nI (k))), some (.int (nI (i))), some (.int (z)), none, none] [.int (nI (0)), .ref r] M
        refine jn_if_eq (pc := 19) (tgt := 26) kR_beside_d19 (by decide) (by omega) (fun _ => ?_) (fun c => by exfalso; omega)
        refine jn_iconst (pc := 26) 1 kR_beside_d26 (by decide) ?_
        have hP_q122 := hP
        have hO_q122 := hO
        refine jj_callV (pc := 27) (b := r) (As := [.int (nI (1))]) kR_beside_d27 (kvR_R_refuses hG) (kG_cl hG rfl) rfl (RPX.rr e0 e9 e10 e11 hP) rfl rfl rfl (Nat.le_of_ble_eq_true rfl) (Nat.le_of_ble_eq_true rfl) (jj_bare0 rfl) ?_
        refine rm_refuses (c := 1) hG (RPX.rr e0 e9 e10 e11 hP) (by omega) (fun hp => ?_) (fun hp => ?_)
        · skip
          obtain ⟨Mq122, hMq122⟩ : ∃ Mq122, Mq122 = jj_up M r (.inl nR, [.int (nI (1)), .ref f, .ref o, .ref st]) := ⟨_, rfl⟩
          rw [← hMq122]
          obtain ⟨hPq122, hOq122, hCq122, hSq122, hTq122⟩ := RPX.refuse (code' := nI (1)) (M' := Mq122) hP_q122 (by rw [e10, e0, e12, e13]; exact hO_q122) (by rw [e0]; exact hC) hS (by rw [hMq122, e0, e9, e10, e11])
          rw [e0] at hCq122
          rw [e10, e0, e12, e13] at hOq122
          have hFq122 := (RTF.refl M F).trans hTq122
          show jj G kR_beside (d + 11) Q rc rs 30 [some (.ref r), some (.int (nI (k))), some (.int (nI (i))), some (.int (z)), none, none] [.int (nI (1))] Mq122
          refine jn_if_eq (pc := 30) (tgt := 34) kR_beside_d30 (by decide) (by omega) (fun c => by exfalso; omega) (fun _ => ?_)
          exact jj_vret (pc := 33) kR_beside_d33 rfl (K Mq122 1 σ rc rs (Or.inl ⟨fun h => hn h.2.2, rfl, rfl⟩) hL (RT.cls hPq122 (by rw [e10, e0, e12, e13]; exact hOq122) hCA hRA (by rw [e0]; exact hCq122) hSq122 hX hT3 h1 htV hPL) hFq122)
        · skip
          exact absurd hp (by omega)
    · skip
      show jj G kR_beside (d + 11) Q rc rs 12 [some (.ref r), some (.int (nI (k))), some (.int (y)), some (.int (z)), none, none] [.int (nI (0)), .ref r] M
      refine jn_if_eq (pc := 12) (tgt := 26) kR_beside_d12 (by decide) (by omega) (fun _ => ?_) (fun c => by exfalso; omega)
      refine jn_iconst (pc := 26) 1 kR_beside_d26 (by decide) ?_
      have hP_q123 := hP
      have hO_q123 := hO
      refine jj_callV (pc := 27) (b := r) (As := [.int (nI (1))]) kR_beside_d27 (kvR_R_refuses hG) (kG_cl hG rfl) rfl (RPX.rr e0 e9 e10 e11 hP) rfl rfl rfl (Nat.le_of_ble_eq_true rfl) (Nat.le_of_ble_eq_true rfl) (jj_bare0 rfl) ?_
      refine rm_refuses (c := 1) hG (RPX.rr e0 e9 e10 e11 hP) (by omega) (fun hp => ?_) (fun hp => ?_)
      · skip
        obtain ⟨Mq123, hMq123⟩ : ∃ Mq123, Mq123 = jj_up M r (.inl nR, [.int (nI (1)), .ref f, .ref o, .ref st]) := ⟨_, rfl⟩
        rw [← hMq123]
        obtain ⟨hPq123, hOq123, hCq123, hSq123, hTq123⟩ := RPX.refuse (code' := nI (1)) (M' := Mq123) hP_q123 (by rw [e10, e0, e12, e13]; exact hO_q123) (by rw [e0]; exact hC) hS (by rw [hMq123, e0, e9, e10, e11])
        rw [e0] at hCq123
        rw [e10, e0, e12, e13] at hOq123
        have hFq123 := (RTF.refl M F).trans hTq123
        show jj G kR_beside (d + 11) Q rc rs 30 [some (.ref r), some (.int (nI (k))), some (.int (y)), some (.int (z)), none, none] [.int (nI (1))] Mq123
        refine jn_if_eq (pc := 30) (tgt := 34) kR_beside_d30 (by decide) (by omega) (fun c => by exfalso; omega) (fun _ => ?_)
        exact jj_vret (pc := 33) kR_beside_d33 rfl (K Mq123 1 σ rc rs (Or.inl ⟨fun h => hn h.2.1, rfl, rfl⟩) hL (RT.cls hPq123 (by rw [e10, e0, e12, e13]; exact hOq123) hCA hRA (by rw [e0]; exact hCq123) hSq123 hX hT3 h1 htV hPL) hFq123)
      · skip
        exact absurd hp (by omega)
  · skip
    show jj G kR_beside (d + 11) Q rc rs 5 [some (.ref r), some (.int (x)), some (.int (y)), some (.int (z)), none, none] [.int (nI (0)), .ref r] M
    refine jn_if_eq (pc := 5) (tgt := 26) kR_beside_d5 (by decide) (by omega) (fun _ => ?_) (fun c => by exfalso; omega)
    refine jn_iconst (pc := 26) 1 kR_beside_d26 (by decide) ?_
    have hP_q124 := hP
    have hO_q124 := hO
    refine jj_callV (pc := 27) (b := r) (As := [.int (nI (1))]) kR_beside_d27 (kvR_R_refuses hG) (kG_cl hG rfl) rfl (RPX.rr e0 e9 e10 e11 hP) rfl rfl rfl (Nat.le_of_ble_eq_true rfl) (Nat.le_of_ble_eq_true rfl) (jj_bare0 rfl) ?_
    refine rm_refuses (c := 1) hG (RPX.rr e0 e9 e10 e11 hP) (by omega) (fun hp => ?_) (fun hp => ?_)
    · skip
      obtain ⟨Mq124, hMq124⟩ : ∃ Mq124, Mq124 = jj_up M r (.inl nR, [.int (nI (1)), .ref f, .ref o, .ref st]) := ⟨_, rfl⟩
      rw [← hMq124]
      obtain ⟨hPq124, hOq124, hCq124, hSq124, hTq124⟩ := RPX.refuse (code' := nI (1)) (M' := Mq124) hP_q124 (by rw [e10, e0, e12, e13]; exact hO_q124) (by rw [e0]; exact hC) hS (by rw [hMq124, e0, e9, e10, e11])
      rw [e0] at hCq124
      rw [e10, e0, e12, e13] at hOq124
      have hFq124 := (RTF.refl M F).trans hTq124
      show jj G kR_beside (d + 11) Q rc rs 30 [some (.ref r), some (.int (x)), some (.int (y)), some (.int (z)), none, none] [.int (nI (1))] Mq124
      refine jn_if_eq (pc := 30) (tgt := 34) kR_beside_d30 (by decide) (by omega) (fun c => by exfalso; omega) (fun _ => ?_)
      exact jj_vret (pc := 33) kR_beside_d33 rfl (K Mq124 1 σ rc rs (Or.inl ⟨fun h => hn h.1, rfl, rfl⟩) hL (RT.cls hPq124 (by rw [e10, e0, e12, e13]; exact hOq124) hCA hRA (by rw [e0]; exact hCq124) hSq124 hX hT3 h1 htV hPL) hFq124)
    · skip
      exact absurd hp (by omega)
end RM12
