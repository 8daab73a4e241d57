/-! ===== the reference: multiply, part (printed by wip/gen/rm13.py) ===== -/
theorem fit_whole {q : Nat → Rat} {n : Nat} (h : fitC q n) {j : Nat} (hj : j < n) : zle (32768 ^ 267 - 1) (q j * ((lcmf 1 (fun j => (q j).den) n : Int) : Rat)) := by
  have hd : ((q j).den : Int) ∣ lcmf 1 (fun j => (q j).den) n := lcmf_dvd' (f := fun j => (q j).den) hj
  have hd0 : ((q j).den : Int) ≠ 0 := by have := (q j).den_nz; omega
  have hz := blen_ZB (h.2 j hj)
  refine ⟨lcmf 1 (fun j => (q j).den) n / ((q j).den : Int) * (q j).num, ?_, ?_⟩
  · obtain ⟨e, he⟩ := hd
    rw [he, Int.mul_ediv_cancel_left _ hd0, Rat.intCast_mul, Rat.intCast_mul]
    have hp := (Rat.num_divInt_den (q j)).symm
    rw [Rat.divInt_eq_div] at hp
    have d1 : (((q j).den : Int) : Rat) ≠ 0 := fun e => hd0 (Rat.intCast_inj.mp (e.trans (show (0 : Rat) = ((0 : Int) : Rat) from rfl)))
    generalize (((q j).den : Int) : Rat) = a at hp d1 ⊢
    generalize ((q j).num : Rat) = x at hp ⊢
    generalize (e : Rat) = y
    rw [hp]
    grind
  · unfold ZB at hz
    generalize (32768 : Nat) ^ 267 = W at *
    omega
theorem qsum_mul2 {f g : Nat → Rat} {a b : Rat} : ∀ n, qsum (fun x => f x * g x) n * (a * b) = qsum (fun x => (f x * a) * (g x * b)) n
  | 0 => by show (0 : Rat) * _ = 0; grind
  | n + 1 => by
    show (qsum _ n + f n * g n) * (a * b) = qsum _ n + _
    rw [← qsum_mul2 n]
    grind
theorem pw535 {k : Nat} (hk : k ≤ 16) : k * ((32768 ^ 267 - 1) * (32768 ^ 267 - 1)) < 32768 ^ 535 := by
  have h1 : (32768 ^ 267 - 1) * (32768 ^ 267 - 1) ≤ 32768 ^ 267 * 32768 ^ 267 := Nat.mul_le_mul (Nat.sub_le _ _) (Nat.sub_le _ _)
  rw [← Nat.pow_add, show 267 + 267 = 534 from rfl] at h1
  have h2 : k * ((32768 ^ 267 - 1) * (32768 ^ 267 - 1)) ≤ 16 * 32768 ^ 534 := Nat.mul_le_mul hk h1
  have h3 : (32768 : Nat) ^ 535 = 32768 ^ 534 * 32768 := Nat.pow_succ ..
  have h4 : 0 < (32768 : Nat) ^ 534 := Nat.pow_pos (by decide)
  rw [h3]
  generalize (32768 : Nat) ^ 534 = W at *
  omega
section RM13
variable {G : jg} {d : Nat} {Q : jq} {rc rs : Nat} {M : mheap} {F : Nat → Nat} {r : Nat} {code : Int32} {σ : rst} {X Z : Nat}
theorem rp_multiply {x y z : Int32} (hG : kG G) (e9 : F 9 = r) (hT : RT M F code σ X Z rc rs) (hL : LG σ)
    (K : ∀ M' cd σ' rc' rs', semMul σ x y z cd σ' → LG σ' → RT M' F (nI cd) σ' X Z rc' rs' → RTF M M' F → Q (.returned none) M' rc' rs') : jj G kR_multiply (d + 11) Q rc rs 0 (jj_ent [.ref r, .int x, .int y, .int z] 6) [] M := by
  obtain ⟨pt, zt, w, vv, pv, D, T, v2, V, t, up, low, P, rk, CA, RA, fi, se, X1, Z1, hP, hO, hCA, hRA, hC, hS, hX, hT3, h1, htV, hPL⟩ := hT.opn
  obtain ⟨f, e0⟩ : ∃ f, F 0 = f := ⟨_, rfl⟩
  obtain ⟨o, e10⟩ : ∃ o, F 10 = o := ⟨_, rfl⟩
  obtain ⟨st, e11⟩ : ∃ st, F 11 = st := ⟨_, rfl⟩
  obtain ⟨ca, e12⟩ : ∃ ca, F 12 = ca := ⟨_, rfl⟩
  obtain ⟨ra, e13⟩ : ∃ ra, F 13 = ra := ⟨_, rfl⟩
  rw [e10, e0, e12, e13] at hO
  rw [e0] at hC
  have hcap := hX.cap
  show jj G kR_multiply (d + 11) Q rc rs 0 [some (.ref r), some (.int (x)), some (.int (y)), some (.int (z)), none, none] [] M
  refine jj_aload_n (pc := 0) kR_multiply_d0 rfl ?_
  refine jj_iload_n (pc := 1) kR_multiply_d1 rfl ?_
  refine jj_callS (pc := 2) (As := [.int (x)]) kR_multiply_d2 (kvR_R_isRegister hG) rfl rfl rfl (Nat.le_of_ble_eq_true rfl) (Nat.le_of_ble_eq_true rfl) (jj_bare0 rfl) ?_
  refine rm_isRegister (fun k hk ek => ?_) (fun hn => ?_)
  · skip
    subst ek
    show jj G kR_multiply (d + 11) Q rc rs 5 [some (.ref r), some (.int (nI (k))), some (.int (y)), some (.int (z)), none, none] [.int (nI (1)), .ref r] M
    refine jn_if_eq (pc := 5) (tgt := 26) kR_multiply_d5 (by decide) (by omega) (fun c => by exfalso; omega) (fun _ => ?_)
    refine jj_iload_n (pc := 8) kR_multiply_d8 rfl ?_
    refine jj_callS (pc := 9) (As := [.int (y)]) kR_multiply_d9 (kvR_R_isRegister hG) rfl rfl rfl (Nat.le_of_ble_eq_true rfl) (Nat.le_of_ble_eq_true rfl) (jj_bare0 rfl) ?_
    refine rm_isRegister (fun i hi ei => ?_) (fun hn => ?_)
    · skip
      subst ei
      show jj G kR_multiply (d + 11) Q rc rs 12 [some (.ref r), some (.int (nI (k))), some (.int (nI (i))), some (.int (z)), none, none] [.int (nI (1)), .ref r] M
      refine jn_if_eq (pc := 12) (tgt := 26) kR_multiply_d12 (by decide) (by omega) (fun c => by exfalso; omega) (fun _ => ?_)
      refine jj_iload_n (pc := 15) kR_multiply_d15 rfl ?_
      refine jj_callS (pc := 16) (As := [.int (z)]) kR_multiply_d16 (kvR_R_isRegister hG) rfl rfl rfl (Nat.le_of_ble_eq_true rfl) (Nat.le_of_ble_eq_true rfl) (jj_bare0 rfl) ?_
      refine rm_isRegister (fun j hj ej => ?_) (fun hn => ?_)
      · skip
        subst ej
        show jj G kR_multiply (d + 11) Q rc rs 19 [some (.ref r), some (.int (nI (k))), some (.int (nI (i))), some (.int (nI (j))), none, none] [.int (nI (1)), .ref r] M
        refine jn_if_eq (pc := 19) (tgt := 26) kR_multiply_d19 (by decide) (by omega) (fun c => by exfalso; omega) (fun _ => ?_)
        refine jn_iconst (pc := 22) 0 kR_multiply_d22 (by decide) ?_
        refine jj_goto (pc := 23) (tgt := 27) kR_multiply_d23 (by decide) ?_
        have hP_q101 := hP
        have hO_q101 := hO
        refine jj_callV (pc := 27) (b := r) (As := [.int (nI (0))]) kR_multiply_d27 (kvR_R_refuses hG) (kG_cl hG rfl) rfl (RPX.rr e0 e9 e10 e11 hP) rfl rfl rfl (Nat.le_of_ble_eq_true rfl) (Nat.le_of_ble_eq_true rfl) (jj_bare0 rfl) ?_
        refine rm_refuses (c := 0) hG (RPX.rr e0 e9 e10 e11 hP) (by omega) (fun hp => ?_) (fun hp => ?_)
        · skip
          exact absurd hp (by omega)
        · skip
          obtain ⟨Mq101, hMq101⟩ : ∃ Mq101, Mq101 = jj_up M r (.inl nR, [.int (nI (0)), .ref f, .ref o, .ref st]) := ⟨_, rfl⟩
          rw [← hMq101]
          obtain ⟨hPq101, hOq101, hCq101, hSq101, hTq101⟩ := RPX.refuse (code' := nI (0)) (M' := Mq101) hP_q101 (by rw [e10, e0, e12, e13]; exact hO_q101) (by rw [e0]; exact hC) hS (by rw [hMq101, e0, e9, e10, e11])
          rw [e0] at hCq101
          rw [e10, e0, e12, e13] at hOq101
          have hFq101 := (RTF.refl M F).trans hTq101
          show jj G kR_multiply (d + 11) Q rc rs 30 [some (.ref r), some (.int (nI (k))), some (.int (nI (i))), some (.int (nI (j))), none, none] [.int (nI (0))] Mq101
          refine jn_if_eq (pc := 30) (tgt := 34) kR_multiply_d30 (by decide) (by omega) (fun _ => ?_) (fun c => by exfalso; omega)
          refine jj_aload_n (pc := 34) kR_multiply_d34 rfl ?_
          refine jj_callV (pc := 35) (b := r) (As := []) kR_multiply_d35 (kvR_R_begin hG) (kG_cl hG rfl) rfl (RPX.rr e0 e9 e10 e11 hPq101) rfl rfl rfl (Nat.le_of_ble_eq_true rfl) (Nat.le_of_ble_eq_true rfl) (jj_bare0 rfl) ?_
          refine rm_begin hG e0 e9 e10 e11 hPq101 hCq101 hSq101 hT3 (fun Mb102 hCb102 hSb102 hFb102 => ?_)
          show jj G kR_multiply (d + 11) Q rc rs 38 [some (.ref r), some (.int (nI (k))), some (.int (nI (i))), some (.int (nI (j))), none, none] [] Mb102
          have hGb102 := (FF.refl Mq101 f).trans hFb102
          refine jj_aload_n (pc := 38) kR_multiply_d38 rfl ?_
          refine jj_iload_n (pc := 39) kR_multiply_d39 rfl ?_
          refine jj_callV (pc := 40) (b := r) (As := [.int (nI (i))]) kR_multiply_d40 (kvR_R_load hG) (kG_cl hG rfl) rfl (RPX.rr e0 e9 e10 e11 (hPq101.ffe e0 hGb102)) rfl rfl rfl (Nat.le_of_ble_eq_true rfl) (Nat.le_of_ble_eq_true rfl) (jj_bare0 rfl) ?_
          refine rm_load hG e0 e9 e10 e11 (hPq101.ffe e0 hGb102) hCb102 hSb102 hX (Nat.zero_le _) h1 (Nat.le_refl 3) hL hi (by omega) (by omega) (fun Ml103 vv Dl103 Tl103 Vl103 upl103 lowl103 Xl103 Zl103 vl103 rcl103 rsl103 hCl103 hSl103 hXl103 tl103 ul103 hol103 hvl103 hll103 hFl103 hml103 => ?_)
          show jj G kR_multiply (d + 11) Q rcl103 rsl103 43 [some (.ref r), some (.int (nI (k))), some (.int (nI (i))), some (.int (nI (j))), none, none] [.int (nI (0))] Ml103
          obtain ⟨l1l103, l2l103, l3l103, l4l103, l5l103, l6l103⟩ := hL i hi
          obtain ⟨nl103, hnl103⟩ : ∃ nl103, σ.1 i * σ.2.1 i = nl103 := ⟨_, rfl⟩
          have hbl103 : nl103 ≤ 16 * 16 := by rw [← hnl103]; exact Nat.mul_le_mul l3l103 l4l103
          obtain ⟨ttl103, httl103⟩ : ∃ ttl103, 0 + 2 + 2 * nl103 = ttl103 := ⟨_, rfl⟩
          rw [hnl103, httl103] at hCl103 hll103 hml103
          obtain ⟨ldl103, hldl103⟩ : ∃ ldl103, ldS (σ.2.2 i) (σ.1 i * σ.2.1 i) = ldl103 := ⟨_, rfl⟩
          have hlbl103 : ldl103 ≤ 137216 := by rw [← hldl103]; exact ldS_fit l5l103 (by omega)
          rw [hldl103] at ul103
          have hGl103 := hGb102.trans hFl103
          have hcapl103 := hXl103.cap
          have hsl103 : ∀ k', k' < σ.1 i * σ.2.1 i → ZB 267 (σ.2.2 i k').num ∧ ZB 267 ((σ.2.2 i k').den : Int) := fun k' h => ⟨(fit_sizes l5l103 h).1, (fit_sizes l5l103 h).2.1⟩
          have h1l103 : RI Dl103 3 1 1 := h1.congr (Nat.le_refl _) (fun i hi => hol103 i (by omega))
          have hT3l103 : 3 ≤ Tl103 := by omega
          refine jj_istore (pc := 43) kR_multiply_d43 (Nat.le_of_ble_eq_true rfl) ?_
          refine jj_aload_n (pc := 45) kR_multiply_d45 rfl ?_
          refine jj_iload_n (pc := 46) kR_multiply_d46 rfl ?_
          refine jj_callV (pc := 47) (b := r) (As := [.int (nI (j))]) kR_multiply_d47 (kvR_R_load hG) (kG_cl hG rfl) rfl (RPX.rr e0 e9 e10 e11 (hPq101.ffe e0 hGl103)) rfl rfl rfl (Nat.le_of_ble_eq_true rfl) (Nat.le_of_ble_eq_true rfl) (jj_bare0 rfl) ?_
          refine rm_load hG e0 e9 e10 e11 (hPq101.ffe e0 hGl103) hCl103 hSl103 hXl103 hll103 h1l103 hT3l103 hL hj (by omega) (by omega) (fun Ml104 vv Dl104 Tl104 Vl104 upl104 lowl104 Xl104 Zl104 vl104 rcl104 rsl104 hCl104 hSl104 hXl104 tl104 ul104 hol104 hvl104 hll104 hFl104 hml104 => ?_)
          show jj G kR_multiply (d + 11) Q rcl104 rsl104 50 [some (.ref r), some (.int (nI (k))), some (.int (nI (i))), some (.int (nI (j))), some (.int (nI (0))), none] [.int (nI (ttl103))] Ml104
          obtain ⟨l1l104, l2l104, l3l104, l4l104, l5l104, l6l104⟩ := hL j hj
          obtain ⟨nl104, hnl104⟩ : ∃ nl104, σ.1 j * σ.2.1 j = nl104 := ⟨_, rfl⟩
          have hbl104 : nl104 ≤ 16 * 16 := by rw [← hnl104]; exact Nat.mul_le_mul l3l104 l4l104
          obtain ⟨ttl104, httl104⟩ : ∃ ttl104, ttl103 + 2 + 2 * nl104 = ttl104 := ⟨_, rfl⟩
          rw [hnl104, httl104] at hCl104 hll104 hml104
          obtain ⟨ldl104, hldl104⟩ : ∃ ldl104, ldS (σ.2.2 j) (σ.1 j * σ.2.1 j) = ldl104 := ⟨_, rfl⟩
          have hlbl104 : ldl104 ≤ 137216 := by rw [← hldl104]; exact ldS_fit l5l104 (by omega)
          rw [hldl104] at ul104
          have hGl104 := hGl103.trans hFl104
          have hcapl104 := hXl104.cap
          have hsl104 : ∀ k', k' < σ.1 j * σ.2.1 j → ZB 267 (σ.2.2 j k').num ∧ ZB 267 ((σ.2.2 j k').den : Int) := fun k' h => ⟨(fit_sizes l5l104 h).1, (fit_sizes l5l104 h).2.1⟩
          have h1l104 : RI Dl104 3 1 1 := h1l103.congr (Nat.le_refl _) (fun i hi => hol104 i (by omega))
          have hT3l104 : 3 ≤ Tl104 := by omega
          have hA := hml103.congr (lo' := 3) tl104 hol104 (show ttl103 ≤ ttl104 by omega) hvl104 (Nat.le_refl _)
          have hB := hml104
          obtain ⟨a1, a2, a3, -⟩ := id hA
          obtain ⟨b1, b2, b3, -⟩ := id hB
          refine jj_istore (pc := 50) kR_multiply_d50 (Nat.le_of_ble_eq_true rfl) ?_
          refine jj_aload_n (pc := 52) kR_multiply_d52 rfl ?_
          refine jj_aload_n (pc := 53) kR_multiply_d53 rfl ?_
          refine jj_getf (pc := 54) kR_multiply_d54 (kfR_f hG) (RPX.rr e0 e9 e10 e11 (hPq101.ffe e0 hGl104)) rfl ?_
          refine jj_iload (pc := 57) kR_multiply_d57 rfl ?_
          refine jj_callV (pc := 59) (b := f) (As := [.int (nI (0))]) kR_multiply_d59 (kvR_RF_columns hG) (kG_cl hG rfl) rfl hCl104.1 rfl rfl rfl (Nat.le_of_ble_eq_true rfl) (Nat.le_of_ble_eq_true rfl) (jj_bare0 rfl) ?_
          refine rf_columns hG hCl104 (by omega) (by omega) ?_
          show jj G kR_multiply (d + 11) Q rcl104 rsl104 62 [some (.ref r), some (.int (nI (k))), some (.int (nI (i))), some (.int (nI (j))), some (.int (nI (0))), some (.int (nI (ttl103)))] [.int (Vl104.getD (0 + 1) 0), .ref r] Ml104
          refine jn_top (.int (nI (σ.2.1 i))) (by rw [a3]) ?_
          refine jj_aload_n (pc := 62) kR_multiply_d62 rfl ?_
          refine jj_getf (pc := 63) kR_multiply_d63 (kfR_f hG) (RPX.rr e0 e9 e10 e11 (hPq101.ffe e0 hGl104)) rfl ?_
          refine jj_iload (pc := 66) kR_multiply_d66 rfl ?_
          refine jj_callV (pc := 68) (b := f) (As := [.int (nI (ttl103))]) kR_multiply_d68 (kvR_RF_rows hG) (kG_cl hG rfl) rfl hCl104.1 rfl rfl rfl (Nat.le_of_ble_eq_true rfl) (Nat.le_of_ble_eq_true rfl) (jj_bare0 rfl) ?_
          refine rf_rows hG hCl104 (by omega) (by omega) ?_
          show jj G kR_multiply (d + 11) Q rcl104 rsl104 71 [some (.ref r), some (.int (nI (k))), some (.int (nI (i))), some (.int (nI (j))), some (.int (nI (0))), some (.int (nI (ttl103)))] [.int (Vl104.getD ttl103 0), .int (nI (σ.2.1 i)), .ref r] Ml104
          refine jn_top (.int (nI (σ.1 j))) (by rw [b2]) ?_
          refine jn_icmp_ne (pc := 71) (tgt := 78) kR_multiply_d71 (by decide) (by omega) (by omega) (fun c1 => ?_) (fun c1 => ?_)
          · skip
            refine jn_iconst (pc := 78) 2 kR_multiply_d78 (by decide) ?_
            have hP_q105 := (hPq101.ffe e0 hGl104)
            have hO_q105 := (hOq101.ff hGl104)
            refine jj_callV (pc := 79) (b := r) (As := [.int (nI (2))]) kR_multiply_d79 (kvR_R_refuses hG) (kG_cl hG rfl) rfl (RPX.rr e0 e9 e10 e11 (hPq101.ffe e0 hGl104)) rfl rfl rfl (Nat.le_of_ble_eq_true rfl) (Nat.le_of_ble_eq_true rfl) (jj_bare0 rfl) ?_
            refine rm_refuses (c := 2) hG (RPX.rr e0 e9 e10 e11 (hPq101.ffe e0 hGl104)) (by omega) (fun hp => ?_) (fun hp => ?_)
            · skip
              obtain ⟨Mq105, hMq105⟩ : ∃ Mq105, Mq105 = jj_up Ml104 r (.inl nR, [.int (nI (2)), .ref f, .ref o, .ref st]) := ⟨_, rfl⟩
              rw [← hMq105]
              obtain ⟨hPq105, hOq105, hCq105, hSq105, hTq105⟩ := RPX.refuse (code' := nI (2)) (M' := Mq105) hP_q105 (by rw [e10, e0, e12, e13]; exact hO_q105) (by rw [e0]; exact hCl104) hSl104 (by rw [hMq105, e0, e9, e10, e11])
              rw [e0] at hCq105
              rw [e10, e0, e12, e13] at hOq105
              have hFq105 := (hFq101.trans (RPX.rte e0 hPq101 hGl104)).trans hTq105
              show jj G kR_multiply (d + 11) Q rcl104 rsl104 82 [some (.ref r), some (.int (nI (k))), some (.int (nI (i))), some (.int (nI (j))), some (.int (nI (0))), some (.int (nI (ttl103)))] [.int (nI (1))] Mq105
              refine jn_if_eq (pc := 82) (tgt := 86) kR_multiply_d82 (by decide) (by omega) (fun c => by exfalso; omega) (fun _ => ?_)
              exact jj_vret (pc := 85) kR_multiply_d85 rfl (K Mq105 2 σ rcl104 rsl104 (Or.inr ⟨k, i, j, hk, rfl, hi, rfl, hj, rfl, Or.inl ⟨c1, rfl, rfl⟩⟩) hL (RT.cls hPq105 (by rw [e10, e0, e12, e13]; exact hOq105) hCA hRA (by rw [e0]; exact hCq105) hSq105 hXl104 hT3l104 h1l104 hll104 hPL) hFq105)
            · skip
              exact absurd hp (by omega)
          · skip
            refine jn_iconst (pc := 74) 0 kR_multiply_d74 (by decide) ?_
            refine jj_goto (pc := 75) (tgt := 79) kR_multiply_d75 (by decide) ?_
            have hP_q106 := (hPq101.ffe e0 hGl104)
            have hO_q106 := (hOq101.ff hGl104)
            refine jj_callV (pc := 79) (b := r) (As := [.int (nI (0))]) kR_multiply_d79 (kvR_R_refuses hG) (kG_cl hG rfl) rfl (RPX.rr e0 e9 e10 e11 (hPq101.ffe e0 hGl104)) rfl rfl rfl (Nat.le_of_ble_eq_true rfl) (Nat.le_of_ble_eq_true rfl) (jj_bare0 rfl) ?_
            refine rm_refuses (c := 0) hG (RPX.rr e0 e9 e10 e11 (hPq101.ffe e0 hGl104)) (by omega) (fun hp => ?_) (fun hp => ?_)
            · skip
              exact absurd hp (by omega)
            · skip
              obtain ⟨Mq106, hMq106⟩ : ∃ Mq106, Mq106 = jj_up Ml104 r (.inl nR, [.int (nI (0)), .ref f, .ref o, .ref st]) := ⟨_, rfl⟩
              rw [← hMq106]
              obtain ⟨hPq106, hOq106, hCq106, hSq106, hTq106⟩ := RPX.refuse (code' := nI (0)) (M' := Mq106) hP_q106 (by rw [e10, e0, e12, e13]; exact hO_q106) (by rw [e0]; exact hCl104) hSl104 (by rw [hMq106, e0, e9, e10, e11])
              rw [e0] at hCq106
              rw [e10, e0, e12, e13] at hOq106
              have hFq106 := (hFq101.trans (RPX.rte e0 hPq101 hGl104)).trans hTq106
              show jj G kR_multiply (d + 11) Q rcl104 rsl104 82 [some (.ref r), some (.int (nI (k))), some (.int (nI (i))), some (.int (nI (j))), some (.int (nI (0))), some (.int (nI (ttl103)))] [.int (nI (0))] Mq106
              refine jn_if_eq (pc := 82) (tgt := 86) kR_multiply_d82 (by decide) (by omega) (fun _ => ?_) (fun c => by exfalso; omega)
              refine jj_aload_n (pc := 86) kR_multiply_d86 rfl ?_
              refine jj_iload_n (pc := 87) kR_multiply_d87 rfl ?_
              refine jj_aload_n (pc := 88) kR_multiply_d88 rfl ?_
              refine jj_getf (pc := 89) kR_multiply_d89 (kfR_f hG) (RPX.rr e0 e9 e10 e11 hPq106) rfl ?_
              refine jj_iload (pc := 92) kR_multiply_d92 rfl ?_
              refine jj_iload (pc := 94) kR_multiply_d94 rfl ?_
              obtain ⟨nn, hnn⟩ : ∃ nn, σ.1 i * σ.2.1 j = nn := ⟨_, rfl⟩
              have hnb : nn ≤ 16 * 16 := by rw [← hnn]; exact Nat.mul_le_mul l3l103 l4l104
              rw [← c1] at hB
              obtain ⟨n2, hn2⟩ : ∃ n2, σ.2.1 i * σ.2.1 j = n2 := ⟨_, rfl⟩
              have hn2b : n2 ≤ 16 * 16 := by rw [← hn2]; exact Nat.mul_le_mul l4l103 l4l104
              have hs2 : ∀ k', k' < σ.2.1 i * σ.2.1 j → ZB 267 (σ.2.2 j k').num ∧ ZB 267 ((σ.2.2 j k').den : Int) := fun k' h => hsl104 k' (by rw [← c1]; exact h)
              obtain ⟨Cb, hCb⟩ : ∃ Cb, lcmf 1 (fun t => (σ.2.2 i t).den) (σ.1 i * σ.2.1 i) = Cb := ⟨_, rfl⟩
              obtain ⟨Cc, hCc⟩ : ∃ Cc, lcmf 1 (fun t => (σ.2.2 j t).den) (σ.1 j * σ.2.1 j) = Cc := ⟨_, rfl⟩
              have hCb0 : 0 < Cb := by rw [← hCb]; exact lcmf_pos (by decide) (fun t _ => (σ.2.2 i t).den_pos)
              have hCc0 : 0 < Cc := by rw [← hCc]; exact lcmf_pos (by decide) (fun t _ => (σ.2.2 j t).den_pos)
              have zb := blen_ZB (l5l103.1 _ (Nat.le_refl _))
              have zc := blen_ZB (l5l104.1 _ (Nat.le_refl _))
              rw [hCb] at zb
              rw [hCc] at zc
              have zL : ZB 535 (Cb * Cc) := (zb.mul zc).up (by decide)
              have hsum : ∀ i' j', i' < σ.1 i → j' < σ.2.1 j → ∀ k', k' ≤ σ.2.1 i → ∃ z : Int, qsum (fun x => σ.2.2 i (i' * σ.2.1 i + x) * σ.2.2 j (x * σ.2.1 j + j')) k' * ((Cb * Cc : Int) : Rat) = z ∧ ZB 535 z := fun i' j' h1' h2' k' h3' => by
                rw [Rat.intCast_mul, qsum_mul2]
                refine ZB.ofzle (zle_sum (n := k') (b := (32768 ^ 267 - 1) * (32768 ^ 267 - 1)) (fun x hx => zle_mul ?_ ?_)) (pw535 (by omega))
                · rw [← hCb]; exact fit_whole l5l103 (cell_lt h1' (by omega))
                · rw [← hCc]; exact fit_whole l5l104 (cell_lt (by omega) h2')
              have hres : ∀ i' j', i' < σ.1 i → j' < σ.2.1 j → ZB 535 (qsum (fun x => σ.2.2 i (i' * σ.2.1 i + x) * σ.2.2 j (x * σ.2.1 j + j')) (σ.2.1 i)).num ∧ ZB 535 ((qsum (fun x => σ.2.2 i (i' * σ.2.1 i + x) * σ.2.2 j (x * σ.2.1 j + j')) (σ.2.1 i)).den : Int) := fun i' j' h1' h2' => by
                obtain ⟨z, hz1, hz2⟩ := hsum i' j' h1' h2' _ (Nat.le_refl _)
                have hL0 : ((Cb * Cc : Int) : Rat) ≠ 0 := fun e => by
                  have h9 := Rat.intCast_inj.mp (e.trans (show (0 : Rat) = ((0 : Int) : Rat) from rfl))
                  rcases Int.mul_eq_zero.mp h9 with h | h <;> omega
                obtain ⟨r1, r2⟩ := qle_ratio (a := z.natAbs) (b := (Cb * Cc).natAbs) ⟨z, rfl, Nat.le_refl _⟩ ⟨Cb * Cc, rfl, Nat.le_refl _⟩ hL0 hz1
                unfold ZB at hz2 zL ⊢
                omega
              have hsz : ∀ k', k' < σ.1 i * σ.2.1 j → ZB 535 ((fun t => qsum (fun x => σ.2.2 i (t / σ.2.1 j * σ.2.1 i + x) * σ.2.2 j (x * σ.2.1 j + t % σ.2.1 j)) (σ.2.1 i)) k').num ∧ ZB 535 (((fun t => qsum (fun x => σ.2.2 i (t / σ.2.1 j * σ.2.1 i + x) * σ.2.2 j (x * σ.2.1 j + t % σ.2.1 j)) (σ.2.1 i)) k').den : Int) := fun k' hk' => by
                obtain ⟨p1, p2, p3⟩ := at_back hk'
                exact hres _ _ p1 p2
              refine jj_callV (pc := 96) (b := f) (As := [.int (nI (0)), .int (nI (ttl103))]) kR_multiply_d96 (kvR_RF_product hG) (kG_cl hG rfl) rfl hCq106.1 rfl rfl rfl (Nat.le_of_ble_eq_true rfl) (Nat.le_of_ble_eq_true rfl) (jj_bare0 rfl) ?_
              refine rf_product (qb := σ.2.2 i) (qc := σ.2.2 j) (lob := 3) (loc := Tl103) (s := 267) (mm := 535) (e := 535) (S := 1072) (L := Cb * Cc) hG hCq106 hSq106 hXl104 hll104 (h1l104.congr hT3l104 (fun _ _ => rfl)) hT3l104 hA (by omega) (by omega) hsl103 hB (by omega) hs2 (by omega) (by omega) (Int.mul_pos hCb0 hCc0) zL (fun i' j' h1' h2' k' h3' => Int.mul_dvd_mul (by rw [← hCb]; exact lcmf_dvd' (f := fun t => (σ.2.2 i t).den) (cell_lt h1' h3')) (by rw [← hCc]; exact lcmf_dvd' (f := fun t => (σ.2.2 j t).den) (cell_lt (by omega) h2'))) hsum hres rfl (by rw [hn2, hnn]; omega) (by rw [hn2, hnn]; omega) (fun Mu vv Du Tu Vu upu lowu Xu Zu vu rcu rsu hCu hSu hXu tu uu hou hvu hlu hFu hmu => ?_)
              show jj G kR_multiply (d + 11) Q rcu rsu 99 [some (.ref r), some (.int (nI (k))), some (.int (nI (i))), some (.int (nI (j))), some (.int (nI (0))), some (.int (nI (ttl103)))] [.int (nI (ttl104)), .int (nI (k)), .ref r] Mu
              rw [hnn] at hCu hlu hmu uu
              obtain ⟨ttu, httu⟩ : ∃ ttu, ttl104 + 2 + 2 * (nn) = ttu := ⟨_, rfl⟩
              rw [httu] at hCu hlu hmu
              have hGu := (FF.refl Mq106 f).trans hFu
              have hcapu := hXu.cap
              have h1u : RI Du 3 1 1 := h1l104.congr (Nat.le_refl _) (fun i hi => hou i (by omega))
              have hT3u : 3 ≤ Tu := by omega
              refine jn_iconst (pc := 99) 3 kR_multiply_d99 (by decide) ?_
              refine jj_callV (pc := 100) (b := r) (As := [.int (nI (k)), .int (nI (ttl104)), .int (nI (3))]) kR_multiply_d100 (kvR_R_puts hG) (kG_cl hG rfl) rfl (RPX.rr e0 e9 e10 e11 (hPq106.ffe e0 hGu)) rfl rfl rfl (Nat.le_of_ble_eq_true rfl) (Nat.le_of_ble_eq_true rfl) (jj_bare0 rfl) ?_
              refine rm_puts (s := 535) (lo := Tl104) (qn := fun t => qsum (fun x => σ.2.2 i (t / σ.2.1 j * σ.2.1 i + x) * σ.2.2 j (x * σ.2.1 j + t % σ.2.1 j)) (σ.2.1 i)) (Rn := σ.1 i) (cn := σ.2.1 j) hG e0 e9 e10 e11 (hPq106.ffe e0 hGu) hCu e12 e13 (hOq106.ff hGu) hCA hRA hSu hXu hlu h1u hT3u hPL hk (by omega) (by omega) hmu (by omega) (by omega) hsz (by omega) (by omega) (fun M8 rc8 rs8 hnf hR8 hT8 => ?_) (fun M8 rc8 rs8 w8 vv8 pv8 V8 t8 up8 low8 P8 rk8 hfit hR8 hT8 hC8 hg8 hl8 hb8 => ?_)
              · skip
                show jj G kR_multiply (d + 11) Q rc8 rs8 103 [some (.ref r), some (.int (nI (k))), some (.int (nI (i))), some (.int (nI (j))), some (.int (nI (0))), some (.int (nI (ttl103)))] [.int (nI (0))] M8
                refine jj_pop (pc := 103) kR_multiply_d103 rfl ?_
                exact jj_vret (pc := 104) kR_multiply_d104 rfl (K M8 3 σ rc8 rs8 (Or.inr ⟨k, i, j, hk, rfl, hi, rfl, hj, rfl, Or.inr ⟨c1, Or.inr ⟨hnf, rfl, rfl⟩⟩⟩) hL hR8 ((hFq106.trans (RPX.rte e0 hPq106 hGu)).trans hT8))
              · skip
                show jj G kR_multiply (d + 11) Q rc8 rs8 103 [some (.ref r), some (.int (nI (k))), some (.int (nI (i))), some (.int (nI (j))), some (.int (nI (0))), some (.int (nI (ttl103)))] [.int (nI (1))] M8
                refine jj_pop (pc := 103) kR_multiply_d103 rfl ?_
                exact jj_vret (pc := 104) kR_multiply_d104 rfl (K M8 0 _ rc8 rs8 (Or.inr ⟨k, i, j, hk, rfl, hi, rfl, hj, rfl, Or.inr ⟨c1, Or.inl ⟨hfit, rfl, rfl⟩⟩⟩) (hL.rup (by omega) (by omega) hfit) hR8 ((hFq106.trans (RPX.rte e0 hPq106 hGu)).trans hT8))
      · skip
        show jj G kR_multiply (d + 11) Q rc rs 19 [some (.ref r), some (.int (nI (k))), some (.int (nI (i))), some (.int (z)), none, none] [.int (nI (0)), .ref r] M
        refine jn_if_eq (pc := 19) (tgt := 26) kR_multiply_d19 (by decide) (by omega) (fun _ => ?_) (fun c => by exfalso; omega)
        refine jn_iconst (pc := 26) 1 kR_multiply_d26 (by decide) ?_
        have hP_q107 := hP
        have hO_q107 := hO
        refine jj_callV (pc := 27) (b := r) (As := [.int (nI (1))]) kR_multiply_d27 (kvR_R_refuses hG) (kG_cl hG rfl) rfl (RPX.rr e0 e9 e10 e11 hP) rfl rfl rfl (Nat.le_of_ble_eq_true rfl) (Nat.le_of_ble_eq_true rfl) (jj_bare0 rfl) ?_
        refine rm_refuses (c := 1) hG (RPX.rr e0 e9 e10 e11 hP) (by omega) (fun hp => ?_) (fun hp => ?_)
        · skip
          obtain ⟨Mq107, hMq107⟩ : ∃ Mq107, Mq107 = jj_up M r (.inl nR, [.int (nI (1)), .ref f, .ref o, .ref st]) := ⟨_, rfl⟩
          rw [← hMq107]
          obtain ⟨hPq107, hOq107, hCq107, hSq107, hTq107⟩ := RPX.refuse (code' := nI (1)) (M' := Mq107) hP_q107 (by rw [e10, e0, e12, e13]; exact hO_q107) (by rw [e0]; exact hC) hS (by rw [hMq107, e0, e9, e10, e11])
          rw [e0] at hCq107
          rw [e10, e0, e12, e13] at hOq107
          have hFq107 := (RTF.refl M F).trans hTq107
          show jj G kR_multiply (d + 11) Q rc rs 30 [some (.ref r), some (.int (nI (k))), some (.int (nI (i))), some (.int (z)), none, none] [.int (nI (1))] Mq107
          refine jn_if_eq (pc := 30) (tgt := 34) kR_multiply_d30 (by decide) (by omega) (fun c => by exfalso; omega) (fun _ => ?_)
          exact jj_vret (pc := 33) kR_multiply_d33 rfl (K Mq107 1 σ rc rs (Or.inl ⟨fun h => hn h.2.2, rfl, rfl⟩) hL (RT.cls hPq107 (by rw [e10, e0, e12, e13]; exact hOq107) hCA hRA (by rw [e0]; exact hCq107) hSq107 hX hT3 h1 htV hPL) hFq107)
        · skip
          exact absurd hp (by omega)
    · skip
      show jj G kR_multiply (d + 11) Q rc rs 12 [some (.ref r), some (.int (nI (k))), some (.int (y)), some (.int (z)), none, none] [.int (nI (0)), .ref r] M
      refine jn_if_eq (pc := 12) (tgt := 26) kR_multiply_d12 (by decide) (by omega) (fun _ => ?_) (fun c => by exfalso; omega)
      refine jn_iconst (pc := 26) 1 kR_multiply_d26 (by decide) ?_
      have hP_q108 := hP
      have hO_q108 := hO
      refine jj_callV (pc := 27) (b := r) (As := [.int (nI (1))]) kR_multiply_d27 (kvR_R_refuses hG) (kG_cl hG rfl) rfl (RPX.rr e0 e9 e10 e11 hP) rfl rfl rfl (Nat.le_of_ble_eq_true rfl) (Nat.le_of_ble_eq_true rfl) (jj_bare0 rfl) ?_
      refine rm_refuses (c := 1) hG (RPX.rr e0 e9 e10 e11 hP) (by omega) (fun hp => ?_) (fun hp => ?_)
      · skip
        obtain ⟨Mq108, hMq108⟩ : ∃ Mq108, Mq108 = jj_up M r (.inl nR, [.int (nI (1)), .ref f, .ref o, .ref st]) := ⟨_, rfl⟩
        rw [← hMq108]
        obtain ⟨hPq108, hOq108, hCq108, hSq108, hTq108⟩ := RPX.refuse (code' := nI (1)) (M' := Mq108) hP_q108 (by rw [e10, e0, e12, e13]; exact hO_q108) (by rw [e0]; exact hC) hS (by rw [hMq108, e0, e9, e10, e11])
        rw [e0] at hCq108
        rw [e10, e0, e12, e13] at hOq108
        have hFq108 := (RTF.refl M F).trans hTq108
        show jj G kR_multiply (d + 11) Q rc rs 30 [some (.ref r), some (.int (nI (k))), some (.int (y)), some (.int (z)), none, none] [.int (nI (1))] Mq108
        refine jn_if_eq (pc := 30) (tgt := 34) kR_multiply_d30 (by decide) (by omega) (fun c => by exfalso; omega) (fun _ => ?_)
        exact jj_vret (pc := 33) kR_multiply_d33 rfl (K Mq108 1 σ rc rs (Or.inl ⟨fun h => hn h.2.1, rfl, rfl⟩) hL (RT.cls hPq108 (by rw [e10, e0, e12, e13]; exact hOq108) hCA hRA (by rw [e0]; exact hCq108) hSq108 hX hT3 h1 htV hPL) hFq108)
      · skip
        exact absurd hp (by omega)
  · skip
    show jj G kR_multiply (d + 11) Q rc rs 5 [some (.ref r), some (.int (x)), some (.int (y)), some (.int (z)), none, none] [.int (nI (0)), .ref r] M
    refine jn_if_eq (pc := 5) (tgt := 26) kR_multiply_d5 (by decide) (by omega) (fun _ => ?_) (fun c => by exfalso; omega)
    refine jn_iconst (pc := 26) 1 kR_multiply_d26 (by decide) ?_
    have hP_q109 := hP
    have hO_q109 := hO
    refine jj_callV (pc := 27) (b := r) (As := [.int (nI (1))]) kR_multiply_d27 (kvR_R_refuses hG) (kG_cl hG rfl) rfl (RPX.rr e0 e9 e10 e11 hP) rfl rfl rfl (Nat.le_of_ble_eq_true rfl) (Nat.le_of_ble_eq_true rfl) (jj_bare0 rfl) ?_
    refine rm_refuses (c := 1) hG (RPX.rr e0 e9 e10 e11 hP) (by omega) (fun hp => ?_) (fun hp => ?_)
    · skip
      obtain ⟨Mq109, hMq109⟩ : ∃ Mq109, Mq109 = jj_up M r (.inl nR, [.int (nI (1)), .ref f, .ref o, .ref st]) := ⟨_, rfl⟩
      rw [← hMq109]
      obtain ⟨hPq109, hOq109, hCq109, hSq109, hTq109⟩ := RPX.refuse (code' := nI (1)) (M' := Mq109) hP_q109 (by rw [e10, e0, e12, e13]; exact hO_q109) (by rw [e0]; exact hC) hS (by rw [hMq109, e0, e9, e10, e11])
      rw [e0] at hCq109
      rw [e10, e0, e12, e13] at hOq109
      have hFq109 := (RTF.refl M F).trans hTq109
      show jj G kR_multiply (d + 11) Q rc rs 30 [some (.ref r), some (.int (x)), some (.int (y)), some (.int (z)), none, none] [.int (nI (1))] Mq109
      refine jn_if_eq (pc := 30) (tgt := 34) kR_multiply_d30 (by decide) (by omega) (fun c => by exfalso; omega) (fun _ => ?_)
      exact jj_vret (pc := 33) kR_multiply_d33 rfl (K Mq109 1 σ rc rs (Or.inl ⟨fun h => hn h.1, rfl, rfl⟩) hL (RT.cls hPq109 (by rw [e10, e0, e12, e13]; exact hOq109) hCA hRA (by rw [e0]; exact hCq109) hSq109 hX hT3 h1 htV hPL) hFq109)
    · skip
      exact absurd hp (by omega)
theorem rp_part {x y i k j l : Int32} (hG : kG G) (e9 : F 9 = r) (hT : RT M F code σ X Z rc rs) (hL : LG σ)
    (K : ∀ M' cd σ' rc' rs', semPart σ x y i k j l cd σ' → LG σ' → RT M' F (nI cd) σ' X Z rc' rs' → RTF M M' F → Q (.returned none) M' rc' rs') : jj G kR_part (d + 11) Q rc rs 0 (jj_ent [.ref r, .int x, .int y, .int i, .int k, .int j, .int l] 7) [] M := by
  obtain ⟨pt, zt, w, vv, pv, D, T, v2, V, t, up, low, P, rk, CA, RA, fi, se, X1, Z1, hP, hO, hCA, hRA, hC, hS, hX, hT3, h1, htV, hPL⟩ := hT.opn
  obtain ⟨f, e0⟩ : ∃ f, F 0 = f := ⟨_, rfl⟩
  obtain ⟨o, e10⟩ : ∃ o, F 10 = o := ⟨_, rfl⟩
  obtain ⟨st, e11⟩ : ∃ st, F 11 = st := ⟨_, rfl⟩
  obtain ⟨ca, e12⟩ : ∃ ca, F 12 = ca := ⟨_, rfl⟩
  obtain ⟨ra, e13⟩ : ∃ ra, F 13 = ra := ⟨_, rfl⟩
  rw [e10, e0, e12, e13] at hO
  rw [e0] at hC
  have hcap := hX.cap
  show jj G kR_part (d + 11) Q rc rs 0 [some (.ref r), some (.int (x)), some (.int (y)), some (.int (i)), some (.int (k)), some (.int (j)), some (.int (l))] [] M
  refine jj_aload_n (pc := 0) kR_part_d0 rfl ?_
  refine jj_iload_n (pc := 1) kR_part_d1 rfl ?_
  refine jj_callS (pc := 2) (As := [.int (x)]) kR_part_d2 (kvR_R_isRegister hG) rfl rfl rfl (Nat.le_of_ble_eq_true rfl) (Nat.le_of_ble_eq_true rfl) (jj_bare0 rfl) ?_
  refine rm_isRegister (fun n hn en => ?_) (fun hn => ?_)
  · skip
    subst en
    show jj G kR_part (d + 11) Q rc rs 5 [some (.ref r), some (.int (nI (n))), some (.int (y)), some (.int (i)), some (.int (k)), some (.int (j)), some (.int (l))] [.int (nI (1)), .ref r] M
    refine jn_if_eq (pc := 5) (tgt := 52) kR_part_d5 (by decide) (by omega) (fun c => by exfalso; omega) (fun _ => ?_)
    refine jj_aload_n (pc := 8) kR_part_d8 rfl ?_
    refine jj_iload_n (pc := 9) kR_part_d9 rfl ?_
    refine jj_iload_n (pc := 10) kR_part_d10 rfl ?_
    refine jj_iload (pc := 11) kR_part_d11 rfl ?_
    refine jj_callV (pc := 13) (b := r) (As := [.int (y), .int (i), .int (j)]) kR_part_d13 (kvR_R_isCell hG) (kG_cl hG rfl) rfl (RPX.rr e0 e9 e10 e11 hP) rfl rfl rfl (Nat.le_of_ble_eq_true rfl) (Nat.le_of_ble_eq_true rfl) (jj_bare0 rfl) ?_
    refine rm_isCell (x := y) (y := i) (z := j) hG e0 e9 e10 e11 hP hC hL (fun a i1 j1 ha ea hi1 ei1 hj1 ej1 => ?_) (fun hn2 => ?_)
    · skip
      subst ea ei1 ej1
      show jj G kR_part (d + 11) Q rc rs 16 [some (.ref r), some (.int (nI (n))), some (.int (nI (a))), some (.int (nI (i1))), some (.int (k)), some (.int (nI (j1))), some (.int (l))] [.int (nI (1)), .ref r] M
      refine jn_if_eq (pc := 16) (tgt := 52) kR_part_d16 (by decide) (by omega) (fun c => by exfalso; omega) (fun _ => ?_)
      refine jj_aload_n (pc := 19) kR_part_d19 rfl ?_
      refine jj_iload_n (pc := 20) kR_part_d20 rfl ?_
      refine jj_iload (pc := 21) kR_part_d21 rfl ?_
      refine jj_iload (pc := 23) kR_part_d23 rfl ?_
      refine jj_callV (pc := 25) (b := r) (As := [.int (nI (a)), .int (k), .int (l)]) kR_part_d25 (kvR_R_isCell hG) (kG_cl hG rfl) rfl (RPX.rr e0 e9 e10 e11 hP) rfl rfl rfl (Nat.le_of_ble_eq_true rfl) (Nat.le_of_ble_eq_true rfl) (jj_bare0 rfl) ?_
      refine rm_isCell (x := nI a) (y := k) (z := l) hG e0 e9 e10 e11 hP hC hL (fun a2 k1 l1 ha2 ea2 hk1 ek1 hl1 el1 => ?_) (fun hn2 => ?_)
      · skip
        have e2 := nI_inj (by omega) (by omega) ea2
        subst e2
        subst ek1 el1
        obtain ⟨q1, q2, q3, q4, q5, q6⟩ := hL a ha
        show jj G kR_part (d + 11) Q rc rs 28 [some (.ref r), some (.int (nI (n))), some (.int (nI (a))), some (.int (nI (i1))), some (.int (nI (k1))), some (.int (nI (j1))), some (.int (nI (l1)))] [.int (nI (1)), .ref r] M
        refine jn_if_eq (pc := 28) (tgt := 52) kR_part_d28 (by decide) (by omega) (fun c => by exfalso; omega) (fun _ => ?_)
        refine jj_iload_n (pc := 31) kR_part_d31 rfl ?_
        refine jj_iload (pc := 32) kR_part_d32 rfl ?_
        refine jn_icmp_gt (pc := 34) (tgt := 44) kR_part_d34 (by decide) (by omega) (by omega) (fun c1 => ?_) (fun c1 => ?_)
        · skip
          refine jn_iconst (pc := 44) 2 kR_part_d44 (by decide) ?_
          refine jj_goto (pc := 45) (tgt := 53) kR_part_d45 (by decide) ?_
          have hP_q110 := hP
          have hO_q110 := hO
          refine jj_callV (pc := 53) (b := r) (As := [.int (nI (2))]) kR_part_d53 (kvR_R_refuses hG) (kG_cl hG rfl) rfl (RPX.rr e0 e9 e10 e11 hP) rfl rfl rfl (Nat.le_of_ble_eq_true rfl) (Nat.le_of_ble_eq_true rfl) (jj_bare0 rfl) ?_
          refine rm_refuses (c := 2) hG (RPX.rr e0 e9 e10 e11 hP) (by omega) (fun hp => ?_) (fun hp => ?_)
          · skip
            obtain ⟨Mq110, hMq110⟩ : ∃ Mq110, Mq110 = jj_up M r (.inl nR, [.int (nI (2)), .ref f, .ref o, .ref st]) := ⟨_, rfl⟩
            rw [← hMq110]
            obtain ⟨hPq110, hOq110, hCq110, hSq110, hTq110⟩ := RPX.refuse (code' := nI (2)) (M' := Mq110) hP_q110 (by rw [e10, e0, e12, e13]; exact hO_q110) (by rw [e0]; exact hC) hS (by rw [hMq110, e0, e9, e10, e11])
            rw [e0] at hCq110
            rw [e10, e0, e12, e13] at hOq110
            have hFq110 := (RTF.refl M F).trans hTq110
            show jj G kR_part (d + 11) Q rc rs 56 [some (.ref r), some (.int (nI (n))), some (.int (nI (a))), some (.int (nI (i1))), some (.int (nI (k1))), some (.int (nI (j1))), some (.int (nI (l1)))] [.int (nI (1))] Mq110
            refine jn_if_eq (pc := 56) (tgt := 60) kR_part_d56 (by decide) (by omega) (fun c => by exfalso; omega) (fun _ => ?_)
            exact jj_vret (pc := 59) kR_part_d59 rfl (K Mq110 2 σ rc rs (Or.inr ⟨n, a, i1, k1, j1, l1, hn, rfl, ha, rfl, hi1, rfl, hk1, rfl, hj1, rfl, hl1, rfl, Or.inl ⟨fun h => by omega, rfl, rfl⟩⟩) hL (RT.cls hPq110 (by rw [e10, e0, e12, e13]; exact hOq110) hCA hRA (by rw [e0]; exact hCq110) hSq110 hX hT3 h1 htV hPL) hFq110)
          · skip
            exact absurd hp (by omega)
        · skip
          refine jj_iload (pc := 37) kR_part_d37 rfl ?_
          refine jj_iload (pc := 39) kR_part_d39 rfl ?_
          refine jn_icmp_le (pc := 41) (tgt := 48) kR_part_d41 (by decide) (by omega) (by omega) (fun c2 => ?_) (fun c2 => ?_)
          · skip
            refine jn_iconst (pc := 48) 0 kR_part_d48 (by decide) ?_
            refine jj_goto (pc := 49) (tgt := 53) kR_part_d49 (by decide) ?_
            have hP_q111 := hP
            have hO_q111 := hO
            refine jj_callV (pc := 53) (b := r) (As := [.int (nI (0))]) kR_part_d53 (kvR_R_refuses hG) (kG_cl hG rfl) rfl (RPX.rr e0 e9 e10 e11 hP) rfl rfl rfl (Nat.le_of_ble_eq_true rfl) (Nat.le_of_ble_eq_true rfl) (jj_bare0 rfl) ?_
            refine rm_refuses (c := 0) hG (RPX.rr e0 e9 e10 e11 hP) (by omega) (fun hp => ?_) (fun hp => ?_)
            · skip
              exact absurd hp (by omega)
            · skip
              obtain ⟨Mq111, hMq111⟩ : ∃ Mq111, Mq111 = jj_up M r (.inl nR, [.int (nI (0)), .ref f, .ref o, .ref st]) := ⟨_, rfl⟩
              rw [← hMq111]
              obtain ⟨hPq111, hOq111, hCq111, hSq111, hTq111⟩ := RPX.refuse (code' := nI (0)) (M' := Mq111) hP_q111 (by rw [e10, e0, e12, e13]; exact hO_q111) (by rw [e0]; exact hC) hS (by rw [hMq111, e0, e9, e10, e11])
              rw [e0] at hCq111
              rw [e10, e0, e12, e13] at hOq111
              have hFq111 := (RTF.refl M F).trans hTq111
              show jj G kR_part (d + 11) Q rc rs 56 [some (.ref r), some (.int (nI (n))), some (.int (nI (a))), some (.int (nI (i1))), some (.int (nI (k1))), some (.int (nI (j1))), some (.int (nI (l1)))] [.int (nI (0))] Mq111
              refine jn_if_eq (pc := 56) (tgt := 60) kR_part_d56 (by decide) (by omega) (fun _ => ?_) (fun c => by exfalso; omega)
              refine jj_aload_n (pc := 60) kR_part_d60 rfl ?_
              refine jj_callV (pc := 61) (b := r) (As := []) kR_part_d61 (kvR_R_begin hG) (kG_cl hG rfl) rfl (RPX.rr e0 e9 e10 e11 hPq111) rfl rfl rfl (Nat.le_of_ble_eq_true rfl) (Nat.le_of_ble_eq_true rfl) (jj_bare0 rfl) ?_
              refine rm_begin hG e0 e9 e10 e11 hPq111 hCq111 hSq111 hT3 (fun Mb112 hCb112 hSb112 hFb112 => ?_)
              show jj G kR_part (d + 11) Q rc rs 64 [some (.ref r), some (.int (nI (n))), some (.int (nI (a))), some (.int (nI (i1))), some (.int (nI (k1))), some (.int (nI (j1))), some (.int (nI (l1)))] [] Mb112
              have hGb112 := (FF.refl Mq111 f).trans hFb112
              refine jj_aload_n (pc := 64) kR_part_d64 rfl ?_
              refine jj_iload_n (pc := 65) kR_part_d65 rfl ?_
              refine jj_aload_n (pc := 66) kR_part_d66 rfl ?_
              refine jj_getf (pc := 67) kR_part_d67 (kfR_f hG) (RPX.rr e0 e9 e10 e11 (hPq111.ffe e0 hGb112)) rfl ?_
              refine jj_aload_n (pc := 70) kR_part_d70 rfl ?_
              refine jj_iload_n (pc := 71) kR_part_d71 rfl ?_
              refine jj_callV (pc := 72) (b := r) (As := [.int (nI (a))]) kR_part_d72 (kvR_R_load hG) (kG_cl hG rfl) rfl (RPX.rr e0 e9 e10 e11 (hPq111.ffe e0 hGb112)) rfl rfl rfl (Nat.le_of_ble_eq_true rfl) (Nat.le_of_ble_eq_true rfl) (jj_bare0 rfl) ?_
              refine rm_load hG e0 e9 e10 e11 (hPq111.ffe e0 hGb112) hCb112 hSb112 hX (Nat.zero_le _) h1 (Nat.le_refl 3) hL ha (by omega) (by omega) (fun Ml113 vv Dl113 Tl113 Vl113 upl113 lowl113 Xl113 Zl113 vl113 rcl113 rsl113 hCl113 hSl113 hXl113 tl113 ul113 hol113 hvl113 hll113 hFl113 hml113 => ?_)
              show jj G kR_part (d + 11) Q rcl113 rsl113 75 [some (.ref r), some (.int (nI (n))), some (.int (nI (a))), some (.int (nI (i1))), some (.int (nI (k1))), some (.int (nI (j1))), some (.int (nI (l1)))] [.int (nI (0)), .ref f, .int (nI (n)), .ref r] Ml113
              obtain ⟨l1l113, l2l113, l3l113, l4l113, l5l113, l6l113⟩ := hL a ha
              obtain ⟨nl113, hnl113⟩ : ∃ nl113, σ.1 a * σ.2.1 a = nl113 := ⟨_, rfl⟩
              have hbl113 : nl113 ≤ 16 * 16 := by rw [← hnl113]; exact Nat.mul_le_mul l3l113 l4l113
              obtain ⟨ttl113, httl113⟩ : ∃ ttl113, 0 + 2 + 2 * nl113 = ttl113 := ⟨_, rfl⟩
              rw [hnl113, httl113] at hCl113 hll113 hml113
              obtain ⟨ldl113, hldl113⟩ : ∃ ldl113, ldS (σ.2.2 a) (σ.1 a * σ.2.1 a) = ldl113 := ⟨_, rfl⟩
              have hlbl113 : ldl113 ≤ 137216 := by rw [← hldl113]; exact ldS_fit l5l113 (by omega)
              rw [hldl113] at ul113
              have hGl113 := hGb112.trans hFl113
              have hcapl113 := hXl113.cap
              have hsl113 : ∀ k', k' < σ.1 a * σ.2.1 a → ZB 267 (σ.2.2 a k').num ∧ ZB 267 ((σ.2.2 a k').den : Int) := fun k' h => ⟨(fit_sizes l5l113 h).1, (fit_sizes l5l113 h).2.1⟩
              have h1l113 : RI Dl113 3 1 1 := h1.congr (Nat.le_refl _) (fun i hi => hol113 i (by omega))
              have hT3l113 : 3 ≤ Tl113 := by omega
              refine jj_iload_n (pc := 75) kR_part_d75 rfl ?_
              refine jj_iload (pc := 76) kR_part_d76 rfl ?_
              refine jj_iload (pc := 78) kR_part_d78 rfl ?_
              refine jj_iload_n (pc := 80) kR_part_d80 rfl ?_
              refine jn_isub (pc := 81) (k1 - i1) kR_part_d81 (by omega) ?_
              refine jn_iconst (pc := 82) 1 kR_part_d82 (by decide) ?_
              refine jn_iadd (pc := 83) (k1 - i1 + 1) kR_part_d83 (by omega) ?_
              refine jj_iload (pc := 84) kR_part_d84 rfl ?_
              refine jj_iload (pc := 86) kR_part_d86 rfl ?_
              refine jn_isub (pc := 88) (l1 - j1) kR_part_d88 (by omega) ?_
              refine jn_iconst (pc := 89) 1 kR_part_d89 (by decide) ?_
              refine jn_iadd (pc := 90) (l1 - j1 + 1) kR_part_d90 (by omega) ?_
              obtain ⟨rr, hrr⟩ : ∃ rr, k1 - i1 + 1 = rr := ⟨_, rfl⟩
              obtain ⟨cc, hcc⟩ : ∃ cc, l1 - j1 + 1 = cc := ⟨_, rfl⟩
              rw [hrr, hcc]
              obtain ⟨nn, hnn⟩ : ∃ nn, rr * cc = nn := ⟨_, rfl⟩
              have hnb : nn ≤ 16 * 16 := by rw [← hnn]; exact Nat.mul_le_mul (by omega) (by omega)
              have hsz : ∀ k', k' < rr * cc → ZB 267 ((fun t => σ.2.2 a ((i1 + t / cc) * σ.2.1 a + j1 + t % cc)) k').num ∧ ZB 267 (((fun t => σ.2.2 a ((i1 + t / cc) * σ.2.1 a + j1 + t % cc)) k').den : Int) := fun k' hk' => by
                obtain ⟨p1, p2, p3⟩ := at_back hk'
                dsimp only
                rw [Nat.add_assoc]
                exact hsl113 _ (cell_lt (by omega) (by omega))
              show jj G kR_part (d + 11) Q rcl113 rsl113 91 [some (.ref r), some (.int (nI (n))), some (.int (nI (a))), some (.int (nI (i1))), some (.int (nI (k1))), some (.int (nI (j1))), some (.int (nI (l1)))] [.int (nI (cc)), .int (nI (rr)), .int (nI (j1)), .int (nI (i1)), .int (nI (0)), .ref f, .int (nI (n)), .ref r] Ml113
              refine jj_callV (pc := 91) (b := f) (As := [.int (nI (0)), .int (nI (i1)), .int (nI (j1)), .int (nI (rr)), .int (nI (cc))]) kR_part_d91 (kvR_RF_part hG) (kG_cl hG rfl) rfl hCl113.1 rfl rfl rfl (Nat.le_of_ble_eq_true rfl) (Nat.le_of_ble_eq_true rfl) (jj_bare0 rfl) ?_
              refine rf_part (b := 0) (row := i1) (col := j1) (rows := rr) (cols := cc) (qb := σ.2.2 a) (lob := 3) (s := 267) (S := 536) hG hCl113 hSl113 hXl113 hll113 (h1l113.congr hT3l113 (fun _ _ => rfl)) hT3l113 hml113 (by omega) (by omega) hsl113 (by omega) (by omega) rfl (by rw [hnn]; omega) (by rw [hnn]; omega) (fun Mu vv Du Tu Vu upu lowu Xu Zu vu rcu rsu hCu hSu hXu tu uu hou hvu hlu hFu hmu => ?_)
              show jj G kR_part (d + 11) Q rcu rsu 94 [some (.ref r), some (.int (nI (n))), some (.int (nI (a))), some (.int (nI (i1))), some (.int (nI (k1))), some (.int (nI (j1))), some (.int (nI (l1)))] [.int (nI (ttl113)), .int (nI (n)), .ref r] Mu
              rw [hnn] at hCu hlu hmu uu
              obtain ⟨ttu, httu⟩ : ∃ ttu, ttl113 + 2 + 2 * (nn) = ttu := ⟨_, rfl⟩
              rw [httu] at hCu hlu hmu
              have hGu := hGl113.trans hFu
              have hcapu := hXu.cap
              have h1u : RI Du 3 1 1 := h1l113.congr (Nat.le_refl _) (fun i hi => hou i (by omega))
              have hT3u : 3 ≤ Tu := by omega
              refine jn_iconst (pc := 94) 3 kR_part_d94 (by decide) ?_
              refine jj_callV (pc := 95) (b := r) (As := [.int (nI (n)), .int (nI (ttl113)), .int (nI (3))]) kR_part_d95 (kvR_R_puts hG) (kG_cl hG rfl) rfl (RPX.rr e0 e9 e10 e11 (hPq111.ffe e0 hGu)) rfl rfl rfl (Nat.le_of_ble_eq_true rfl) (Nat.le_of_ble_eq_true rfl) (jj_bare0 rfl) ?_
              refine rm_puts (s := 267) (lo := Tl113) (qn := fun t => σ.2.2 a ((i1 + t / cc) * σ.2.1 a + j1 + t % cc)) (Rn := rr) (cn := cc) hG e0 e9 e10 e11 (hPq111.ffe e0 hGu) hCu e12 e13 (hOq111.ff hGu) hCA hRA hSu hXu hlu h1u hT3u hPL hn (by omega) (by omega) hmu (by omega) (by omega) hsz (by omega) (by omega) (fun M8 rc8 rs8 hnf hR8 hT8 => ?_) (fun M8 rc8 rs8 w8 vv8 pv8 V8 t8 up8 low8 P8 rk8 hfit hR8 hT8 hC8 hg8 hl8 hb8 => ?_)
              · skip
                show jj G kR_part (d + 11) Q rc8 rs8 98 [some (.ref r), some (.int (nI (n))), some (.int (nI (a))), some (.int (nI (i1))), some (.int (nI (k1))), some (.int (nI (j1))), some (.int (nI (l1)))] [.int (nI (0))] M8
                refine jj_pop (pc := 98) kR_part_d98 rfl ?_
                exact jj_vret (pc := 99) kR_part_d99 rfl (K M8 3 σ rc8 rs8 (Or.inr ⟨n, a, i1, k1, j1, l1, hn, rfl, ha, rfl, hi1, rfl, hk1, rfl, hj1, rfl, hl1, rfl, Or.inr ⟨c1, c2, by rw [hrr, hcc]; exact Or.inr ⟨hnf, rfl, rfl⟩⟩⟩) hL hR8 ((hFq111.trans (RPX.rte e0 hPq111 hGu)).trans hT8))
              · skip
                show jj G kR_part (d + 11) Q rc8 rs8 98 [some (.ref r), some (.int (nI (n))), some (.int (nI (a))), some (.int (nI (i1))), some (.int (nI (k1))), some (.int (nI (j1))), some (.int (nI (l1)))] [.int (nI (1))] M8
                refine jj_pop (pc := 98) kR_part_d98 rfl ?_
                exact jj_vret (pc := 99) kR_part_d99 rfl (K M8 0 _ rc8 rs8 (Or.inr ⟨n, a, i1, k1, j1, l1, hn, rfl, ha, rfl, hi1, rfl, hk1, rfl, hj1, rfl, hl1, rfl, Or.inr ⟨c1, c2, by rw [hrr, hcc]; exact Or.inl ⟨hfit, rfl, rfl⟩⟩⟩) (hL.rup (by omega) (by omega) hfit) hR8 ((hFq111.trans (RPX.rte e0 hPq111 hGu)).trans hT8))
          · skip
            refine jn_iconst (pc := 44) 2 kR_part_d44 (by decide) ?_
            refine jj_goto (pc := 45) (tgt := 53) kR_part_d45 (by decide) ?_
            have hP_q114 := hP
            have hO_q114 := hO
            refine jj_callV (pc := 53) (b := r) (As := [.int (nI (2))]) kR_part_d53 (kvR_R_refuses hG) (kG_cl hG rfl) rfl (RPX.rr e0 e9 e10 e11 hP) rfl rfl rfl (Nat.le_of_ble_eq_true rfl) (Nat.le_of_ble_eq_true rfl) (jj_bare0 rfl) ?_
            refine rm_refuses (c := 2) hG (RPX.rr e0 e9 e10 e11 hP) (by omega) (fun hp => ?_) (fun hp => ?_)
            · skip
              obtain ⟨Mq114, hMq114⟩ : ∃ Mq114, Mq114 = jj_up M r (.inl nR, [.int (nI (2)), .ref f, .ref o, .ref st]) := ⟨_, rfl⟩
              rw [← hMq114]
              obtain ⟨hPq114, hOq114, hCq114, hSq114, hTq114⟩ := RPX.refuse (code' := nI (2)) (M' := Mq114) hP_q114 (by rw [e10, e0, e12, e13]; exact hO_q114) (by rw [e0]; exact hC) hS (by rw [hMq114, e0, e9, e10, e11])
              rw [e0] at hCq114
              rw [e10, e0, e12, e13] at hOq114
              have hFq114 := (RTF.refl M F).trans hTq114
              show jj G kR_part (d + 11) Q rc rs 56 [some (.ref r), some (.int (nI (n))), some (.int (nI (a))), some (.int (nI (i1))), some (.int (nI (k1))), some (.int (nI (j1))), some (.int (nI (l1)))] [.int (nI (1))] Mq114
              refine jn_if_eq (pc := 56) (tgt := 60) kR_part_d56 (by decide) (by omega) (fun c => by exfalso; omega) (fun _ => ?_)
              exact jj_vret (pc := 59) kR_part_d59 rfl (K Mq114 2 σ rc rs (Or.inr ⟨n, a, i1, k1, j1, l1, hn, rfl, ha, rfl, hi1, rfl, hk1, rfl, hj1, rfl, hl1, rfl, Or.inl ⟨fun h => by omega, rfl, rfl⟩⟩) hL (RT.cls hPq114 (by rw [e10, e0, e12, e13]; exact hOq114) hCA hRA (by rw [e0]; exact hCq114) hSq114 hX hT3 h1 htV hPL) hFq114)
            · skip
              exact absurd hp (by omega)
      · skip
        show jj G kR_part (d + 11) Q rc rs 28 [some (.ref r), some (.int (nI (n))), some (.int (nI (a))), some (.int (nI (i1))), some (.int (k)), some (.int (nI (j1))), some (.int (l))] [.int (nI (0)), .ref r] M
        refine jn_if_eq (pc := 28) (tgt := 52) kR_part_d28 (by decide) (by omega) (fun _ => ?_) (fun c => by exfalso; omega)
        refine jn_iconst (pc := 52) 1 kR_part_d52 (by decide) ?_
        have hP_q115 := hP
        have hO_q115 := hO
        refine jj_callV (pc := 53) (b := r) (As := [.int (nI (1))]) kR_part_d53 (kvR_R_refuses hG) (kG_cl hG rfl) rfl (RPX.rr e0 e9 e10 e11 hP) rfl rfl rfl (Nat.le_of_ble_eq_true rfl) (Nat.le_of_ble_eq_true rfl) (jj_bare0 rfl) ?_
        refine rm_refuses (c := 1) hG (RPX.rr e0 e9 e10 e11 hP) (by omega) (fun hp => ?_) (fun hp => ?_)
        · skip
          obtain ⟨Mq115, hMq115⟩ : ∃ Mq115, Mq115 = jj_up M r (.inl nR, [.int (nI (1)), .ref f, .ref o, .ref st]) := ⟨_, rfl⟩
          rw [← hMq115]
          obtain ⟨hPq115, hOq115, hCq115, hSq115, hTq115⟩ := RPX.refuse (code' := nI (1)) (M' := Mq115) hP_q115 (by rw [e10, e0, e12, e13]; exact hO_q115) (by rw [e0]; exact hC) hS (by rw [hMq115, e0, e9, e10, e11])
          rw [e0] at hCq115
          rw [e10, e0, e12, e13] at hOq115
          have hFq115 := (RTF.refl M F).trans hTq115
          show jj G kR_part (d + 11) Q rc rs 56 [some (.ref r), some (.int (nI (n))), some (.int (nI (a))), some (.int (nI (i1))), some (.int (k)), some (.int (nI (j1))), some (.int (l))] [.int (nI (1))] Mq115
          refine jn_if_eq (pc := 56) (tgt := 60) kR_part_d56 (by decide) (by omega) (fun c => by exfalso; omega) (fun _ => ?_)
          exact jj_vret (pc := 59) kR_part_d59 rfl (K Mq115 1 σ rc rs (Or.inl ⟨fun h => hn2 h.2.2, rfl, rfl⟩) hL (RT.cls hPq115 (by rw [e10, e0, e12, e13]; exact hOq115) hCA hRA (by rw [e0]; exact hCq115) hSq115 hX hT3 h1 htV hPL) hFq115)
        · skip
          exact absurd hp (by omega)
    · skip
      show jj G kR_part (d + 11) Q rc rs 16 [some (.ref r), some (.int (nI (n))), some (.int (y)), some (.int (i)), some (.int (k)), some (.int (j)), some (.int (l))] [.int (nI (0)), .ref r] M
      refine jn_if_eq (pc := 16) (tgt := 52) kR_part_d16 (by decide) (by omega) (fun _ => ?_) (fun c => by exfalso; omega)
      refine jn_iconst (pc := 52) 1 kR_part_d52 (by decide) ?_
      have hP_q116 := hP
      have hO_q116 := hO
      refine jj_callV (pc := 53) (b := r) (As := [.int (nI (1))]) kR_part_d53 (kvR_R_refuses hG) (kG_cl hG rfl) rfl (RPX.rr e0 e9 e10 e11 hP) rfl rfl rfl (Nat.le_of_ble_eq_true rfl) (Nat.le_of_ble_eq_true rfl) (jj_bare0 rfl) ?_
      refine rm_refuses (c := 1) hG (RPX.rr e0 e9 e10 e11 hP) (by omega) (fun hp => ?_) (fun hp => ?_)
      · skip
        obtain ⟨Mq116, hMq116⟩ : ∃ Mq116, Mq116 = jj_up M r (.inl nR, [.int (nI (1)), .ref f, .ref o, .ref st]) := ⟨_, rfl⟩
        rw [← hMq116]
        obtain ⟨hPq116, hOq116, hCq116, hSq116, hTq116⟩ := RPX.refuse (code' := nI (1)) (M' := Mq116) hP_q116 (by rw [e10, e0, e12, e13]; exact hO_q116) (by rw [e0]; exact hC) hS (by rw [hMq116, e0, e9, e10, e11])
        rw [e0] at hCq116
        rw [e10, e0, e12, e13] at hOq116
        have hFq116 := (RTF.refl M F).trans hTq116
        show jj G kR_part (d + 11) Q rc rs 56 [some (.ref r), some (.int (nI (n))), some (.int (y)), some (.int (i)), some (.int (k)), some (.int (j)), some (.int (l))] [.int (nI (1))] Mq116
        refine jn_if_eq (pc := 56) (tgt := 60) kR_part_d56 (by decide) (by omega) (fun c => by exfalso; omega) (fun _ => ?_)
        exact jj_vret (pc := 59) kR_part_d59 rfl (K Mq116 1 σ rc rs (Or.inl ⟨fun h => hn2 h.2.1, rfl, rfl⟩) hL (RT.cls hPq116 (by rw [e10, e0, e12, e13]; exact hOq116) hCA hRA (by rw [e0]; exact hCq116) hSq116 hX hT3 h1 htV hPL) hFq116)
      · skip
        exact absurd hp (by omega)
  · skip
    show jj G kR_part (d + 11) Q rc rs 5 [some (.ref r), some (.int (x)), some (.int (y)), some (.int (i)), some (.int (k)), some (.int (j)), some (.int (l))] [.int (nI (0)), .ref r] M
    refine jn_if_eq (pc := 5) (tgt := 52) kR_part_d5 (by decide) (by omega) (fun _ => ?_) (fun c => by exfalso; omega)
    refine jn_iconst (pc := 52) 1 kR_part_d52 (by decide) ?_
    have hP_q117 := hP
    have hO_q117 := hO
    refine jj_callV (pc := 53) (b := r) (As := [.int (nI (1))]) kR_part_d53 (kvR_R_refuses hG) (kG_cl hG rfl) rfl (RPX.rr e0 e9 e10 e11 hP) rfl rfl rfl (Nat.le_of_ble_eq_true rfl) (Nat.le_of_ble_eq_true rfl) (jj_bare0 rfl) ?_
    refine rm_refuses (c := 1) hG (RPX.rr e0 e9 e10 e11 hP) (by omega) (fun hp => ?_) (fun hp => ?_)
    · skip
      obtain ⟨Mq117, hMq117⟩ : ∃ Mq117, Mq117 = jj_up M r (.inl nR, [.int (nI (1)), .ref f, .ref o, .ref st]) := ⟨_, rfl⟩
      rw [← hMq117]
      obtain ⟨hPq117, hOq117, hCq117, hSq117, hTq117⟩ := RPX.refuse (code' := nI (1)) (M' := Mq117) hP_q117 (by rw [e10, e0, e12, e13]; exact hO_q117) (by rw [e0]; exact hC) hS (by rw [hMq117, e0, e9, e10, e11])
      rw [e0] at hCq117
      rw [e10, e0, e12, e13] at hOq117
      have hFq117 := (RTF.refl M F).trans hTq117
      show jj G kR_part (d + 11) Q rc rs 56 [some (.ref r), some (.int (x)), some (.int (y)), some (.int (i)), some (.int (k)), some (.int (j)), some (.int (l))] [.int (nI (1))] Mq117
      refine jn_if_eq (pc := 56) (tgt := 60) kR_part_d56 (by decide) (by omega) (fun c => by exfalso; omega) (fun _ => ?_)
      exact jj_vret (pc := 59) kR_part_d59 rfl (K Mq117 1 σ rc rs (Or.inl ⟨fun h => hn h.1, rfl, rfl⟩) hL (RT.cls hPq117 (by rw [e10, e0, e12, e13]; exact hOq117) hCA hRA (by rw [e0]; exact hCq117) hSq117 hX hT3 h1 htV hPL) hFq117)
    · skip
      exact absurd hp (by omega)
end RM13
