/-! ===== the reference: make, unit, turn, add, multiply, beside, part (printed by wip/gen/rm11.py) ===== -/
theorem not_side {y : Int32} (h : y < nI 1 ∨ nI 16 < y) : ¬ isSide y := fun ⟨R, h1, h2, e⟩ => by
  rw [e] at h
  rcases h with h | h
  · exact nI_nlt h1 (by omega) h
  · exact nI_nlt h2 (by decide) h
theorem is_side {y : Int32} (h1 : ¬ y < nI 1) (h2 : ¬ nI 16 < y) : ∃ R, 1 ≤ R ∧ R ≤ 16 ∧ y = nI R := by
  have h0 : ¬ y < 0 := fun h => h1 (Int32.lt_trans h (by decide))
  obtain ⟨R, hR, e⟩ := nI_of h0
  refine ⟨R, ?_, ?_, e⟩
  · rcases Nat.lt_or_ge R 1 with g | g
    · exact absurd (by rw [e]; exact nI_lt g (by decide)) h1
    · exact g
  · rcases Nat.lt_or_ge 16 R with g | g
    · exact absurd (by rw [e]; exact nI_lt g hR) h2
    · exact g
theorem lcmf_one : ∀ n, lcmf 1 (fun _ => 1) n = 1
  | 0 => rfl
  | n + 1 => by
    show (Int.lcm (lcmf 1 (fun _ => 1) n) ((1 : Nat) : Int) : Int) = 1
    rw [lcmf_one n]; rfl
theorem fit_zero {R c : Nat} (hR : R ≤ 16) (hc : c ≤ 16) : FIT R c (fun _ => (0 : Rat)) := by
  have e : ∀ n, lcmf 1 (fun j => ((fun _ : Nat => (0 : Rat)) j).den) n = 1 := lcmf_one
  have hRc : R * c ≤ 16 * 16 := Nat.mul_le_mul hR hc
  have hf : fitC (fun _ => (0 : Rat)) (R * c) := by
    refine ⟨fun k _ => ?_, fun j _ => ?_⟩
    · rw [e]; decide
    · dsimp only
      rw [show (0 : Rat).num = 0 from rfl, Int.mul_zero]; decide
  refine ⟨hR, hc, hf, ?_⟩
  unfold limbC
  have h0 : ∀ m, nsum (fun j => (blen (lcmf 1 (fun j => ((fun _ : Nat => (0 : Rat)) j).den) (R * c) / ((((fun _ : Nat => (0 : Rat)) j).den : Nat) : Int) * ((fun _ : Nat => (0 : Rat)) j).num) + 31) / 32) m = 0 := by
    intro m
    induction m with
    | zero => rfl
    | succ m ih =>
      show nsum _ m + _ = 0
      rw [ih]
      dsimp only
      rw [show (0 : Rat).num = 0 from rfl, Int.mul_zero]; rfl
  rw [h0, e]
  decide
section RM11
variable {G : jg} {d : Nat} {Q : jq} {rc rs : Nat} {M : mheap} {F : Nat → Nat} {r : Nat} {code : Int32} {σ : rst} {X Z : Nat}
theorem rp_make {x y z : Int32} (hG : kG G) (e9 : F 9 = r) (hT : RT M F code σ X Z rc rs) (hL : LG σ)
    (K : ∀ M' cd σ' rc' rs', semMake σ x y z cd σ' → LG σ' → RT M' F (nI cd) σ' X Z rc' rs' → RTF M M' F → Q (.returned none) M' rc' rs') : jj G kR_make (d + 11) Q rc rs 0 (jj_ent [.ref r, .int x, .int y, .int z] 4) [] M := by
  obtain ⟨pt, zt, w, vv, pv, D, T, v2, V, t, up, low, P, rk, CA, RA, fi, se, X1, Z1, hP, hO, hCA, hRA, hC, hS, hX, hT3, h1, htV, hPL⟩ := hT.opn
  obtain ⟨f, e0⟩ : ∃ f, F 0 = f := ⟨_, rfl⟩
  obtain ⟨o, e10⟩ : ∃ o, F 10 = o := ⟨_, rfl⟩
  obtain ⟨st, e11⟩ : ∃ st, F 11 = st := ⟨_, rfl⟩
  obtain ⟨ca, e12⟩ : ∃ ca, F 12 = ca := ⟨_, rfl⟩
  obtain ⟨ra, e13⟩ : ∃ ra, F 13 = ra := ⟨_, rfl⟩
  rw [e10, e0, e12, e13] at hO
  rw [e0] at hC
  have hcap := hX.cap
  show jj G kR_make (d + 11) Q rc rs 0 [some (.ref r), some (.int (x)), some (.int (y)), some (.int (z))] [] M
  refine jj_aload_n (pc := 0) kR_make_d0 rfl ?_
  refine jj_iload_n (pc := 1) kR_make_d1 rfl ?_
  refine jj_callS (pc := 2) (As := [.int (x)]) kR_make_d2 (kvR_R_isRegister hG) rfl rfl rfl (Nat.le_of_ble_eq_true rfl) (Nat.le_of_ble_eq_true rfl) (jj_bare0 rfl) ?_
  refine rm_isRegister (fun k hk ek => ?_) (fun hn => ?_)
  · skip
    subst ek
    show jj G kR_make (d + 11) Q rc rs 5 [some (.ref r), some (.int (nI (k))), some (.int (y)), some (.int (z))] [.int (nI (1)), .ref r] M
    refine jn_if_ne (pc := 5) (tgt := 12) kR_make_d5 (by decide) (by omega) (fun _ => ?_) (fun c => by exfalso; omega)
    refine jj_iload_n (pc := 12) kR_make_d12 rfl ?_
    refine jn_iconst (pc := 13) 1 kR_make_d13 (by decide) ?_
    refine jj_icmp_lt (pc := 14) (tgt := 34) kR_make_d14 (by decide) (fun c1 => ?_) (fun c1 => ?_)
    · skip
      refine jn_iconst (pc := 34) 2 kR_make_d34 (by decide) ?_
      refine jj_goto (pc := 35) (tgt := 39) kR_make_d35 (by decide) ?_
      have hP_q101 := hP
      have hO_q101 := hO
      refine jj_callV (pc := 39) (b := r) (As := [.int (nI (2))]) kR_make_d39 (kvR_R_refuses hG) (kG_cl hG rfl) rfl (RPX.rr e0 e9 e10 e11 hP) rfl rfl rfl (Nat.le_of_ble_eq_true rfl) (Nat.le_of_ble_eq_true rfl) (jj_bare0 rfl) ?_
      refine rm_refuses (c := 2) hG (RPX.rr e0 e9 e10 e11 hP) (by omega) (fun hp => ?_) (fun hp => ?_)
      · skip
        obtain ⟨Mq101, hMq101⟩ : ∃ Mq101, Mq101 = jj_up M r (.inl nR, [.int (nI (2)), .ref f, .ref o, .ref st]) := ⟨_, rfl⟩
        rw [← hMq101]
        obtain ⟨hPq101, hOq101, hCq101, hSq101, hTq101⟩ := RPX.refuse (code' := nI (2)) (M' := Mq101) hP_q101 (by rw [e10, e0, e12, e13]; exact hO_q101) (by rw [e0]; exact hC) hS (by rw [hMq101, e0, e9, e10, e11])
        rw [e0] at hCq101
        rw [e10, e0, e12, e13] at hOq101
        have hFq101 := (RTF.refl M F).trans hTq101
        show jj G kR_make (d + 11) Q rc rs 42 [some (.ref r), some (.int (nI (k))), some (.int (y)), some (.int (z))] [.int (nI (1))] Mq101
        refine jn_if_eq (pc := 42) (tgt := 46) kR_make_d42 (by decide) (by omega) (fun c => by exfalso; omega) (fun _ => ?_)
        exact jj_vret (pc := 45) kR_make_d45 rfl (K Mq101 2 σ rc rs (Or.inr ⟨k, hk, rfl, Or.inl ⟨fun h => not_side (Or.inl c1) h.1, rfl, rfl⟩⟩) hL (RT.cls hPq101 (by rw [e10, e0, e12, e13]; exact hOq101) hCA hRA (by rw [e0]; exact hCq101) hSq101 hX hT3 h1 htV hPL) hFq101)
      · skip
        exact absurd hp (by omega)
    · skip
      refine jj_iload_n (pc := 17) kR_make_d17 rfl ?_
      refine jn_bipush (pc := 18) 16 kR_make_d18 (by decide) ?_
      refine jj_icmp_gt (pc := 20) (tgt := 34) kR_make_d20 (by decide) (fun c2 => ?_) (fun c2 => ?_)
      · skip
        refine jn_iconst (pc := 34) 2 kR_make_d34 (by decide) ?_
        refine jj_goto (pc := 35) (tgt := 39) kR_make_d35 (by decide) ?_
        have hP_q102 := hP
        have hO_q102 := hO
        refine jj_callV (pc := 39) (b := r) (As := [.int (nI (2))]) kR_make_d39 (kvR_R_refuses hG) (kG_cl hG rfl) rfl (RPX.rr e0 e9 e10 e11 hP) rfl rfl rfl (Nat.le_of_ble_eq_true rfl) (Nat.le_of_ble_eq_true rfl) (jj_bare0 rfl) ?_
        refine rm_refuses (c := 2) hG (RPX.rr e0 e9 e10 e11 hP) (by omega) (fun hp => ?_) (fun hp => ?_)
        · skip
          obtain ⟨Mq102, hMq102⟩ : ∃ Mq102, Mq102 = jj_up M r (.inl nR, [.int (nI (2)), .ref f, .ref o, .ref st]) := ⟨_, rfl⟩
          rw [← hMq102]
          obtain ⟨hPq102, hOq102, hCq102, hSq102, hTq102⟩ := RPX.refuse (code' := nI (2)) (M' := Mq102) hP_q102 (by rw [e10, e0, e12, e13]; exact hO_q102) (by rw [e0]; exact hC) hS (by rw [hMq102, e0, e9, e10, e11])
          rw [e0] at hCq102
          rw [e10, e0, e12, e13] at hOq102
          have hFq102 := (RTF.refl M F).trans hTq102
          show jj G kR_make (d + 11) Q rc rs 42 [some (.ref r), some (.int (nI (k))), some (.int (y)), some (.int (z))] [.int (nI (1))] Mq102
          refine jn_if_eq (pc := 42) (tgt := 46) kR_make_d42 (by decide) (by omega) (fun c => by exfalso; omega) (fun _ => ?_)
          exact jj_vret (pc := 45) kR_make_d45 rfl (K Mq102 2 σ rc rs (Or.inr ⟨k, hk, rfl, Or.inl ⟨fun h => not_side (Or.inr c2) h.1, rfl, rfl⟩⟩) hL (RT.cls hPq102 (by rw [e10, e0, e12, e13]; exact hOq102) hCA hRA (by rw [e0]; exact hCq102) hSq102 hX hT3 h1 htV hPL) hFq102)
        · skip
          exact absurd hp (by omega)
      · skip
        refine jj_iload_n (pc := 23) kR_make_d23 rfl ?_
        refine jn_iconst (pc := 24) 1 kR_make_d24 (by decide) ?_
        refine jj_icmp_lt (pc := 25) (tgt := 34) kR_make_d25 (by decide) (fun c3 => ?_) (fun c3 => ?_)
        · skip
          refine jn_iconst (pc := 34) 2 kR_make_d34 (by decide) ?_
          refine jj_goto (pc := 35) (tgt := 39) kR_make_d35 (by decide) ?_
          have hP_q103 := hP
          have hO_q103 := hO
          refine jj_callV (pc := 39) (b := r) (As := [.int (nI (2))]) kR_make_d39 (kvR_R_refuses hG) (kG_cl hG rfl) rfl (RPX.rr e0 e9 e10 e11 hP) rfl rfl rfl (Nat.le_of_ble_eq_true rfl) (Nat.le_of_ble_eq_true rfl) (jj_bare0 rfl) ?_
          refine rm_refuses (c := 2) hG (RPX.rr e0 e9 e10 e11 hP) (by omega) (fun hp => ?_) (fun hp => ?_)
          · skip
            obtain ⟨Mq103, hMq103⟩ : ∃ Mq103, Mq103 = jj_up M r (.inl nR, [.int (nI (2)), .ref f, .ref o, .ref st]) := ⟨_, rfl⟩
            rw [← hMq103]
            obtain ⟨hPq103, hOq103, hCq103, hSq103, hTq103⟩ := RPX.refuse (code' := nI (2)) (M' := Mq103) hP_q103 (by rw [e10, e0, e12, e13]; exact hO_q103) (by rw [e0]; exact hC) hS (by rw [hMq103, e0, e9, e10, e11])
            rw [e0] at hCq103
            rw [e10, e0, e12, e13] at hOq103
            have hFq103 := (RTF.refl M F).trans hTq103
            show jj G kR_make (d + 11) Q rc rs 42 [some (.ref r), some (.int (nI (k))), some (.int (y)), some (.int (z))] [.int (nI (1))] Mq103
            refine jn_if_eq (pc := 42) (tgt := 46) kR_make_d42 (by decide) (by omega) (fun c => by exfalso; omega) (fun _ => ?_)
            exact jj_vret (pc := 45) kR_make_d45 rfl (K Mq103 2 σ rc rs (Or.inr ⟨k, hk, rfl, Or.inl ⟨fun h => not_side (Or.inl c3) h.2, rfl, rfl⟩⟩) hL (RT.cls hPq103 (by rw [e10, e0, e12, e13]; exact hOq103) hCA hRA (by rw [e0]; exact hCq103) hSq103 hX hT3 h1 htV hPL) hFq103)
          · skip
            exact absurd hp (by omega)
        · skip
          refine jj_iload_n (pc := 28) kR_make_d28 rfl ?_
          refine jn_bipush (pc := 29) 16 kR_make_d29 (by decide) ?_
          refine jj_icmp_le (pc := 31) (tgt := 38) kR_make_d31 (by decide) (fun c4 => ?_) (fun c4 => ?_)
          · skip
            obtain ⟨R, hR1, hR2, eR⟩ := is_side c1 c2
            obtain ⟨c, hc1, hc2, ec⟩ := is_side c3 (fun h => Int32.not_lt.mpr c4 h)
            subst eR ec
            show jj G kR_make (d + 11) Q rc rs 38 [some (.ref r), some (.int (nI (k))), some (.int (nI (R))), some (.int (nI (c)))] [.ref r] M
            refine jn_iconst (pc := 38) 0 kR_make_d38 (by decide) ?_
            have hP_q104 := hP
            have hO_q104 := hO
            refine jj_callV (pc := 39) (b := r) (As := [.int (nI (0))]) kR_make_d39 (kvR_R_refuses hG) (kG_cl hG rfl) rfl (RPX.rr e0 e9 e10 e11 hP) rfl rfl rfl (Nat.le_of_ble_eq_true rfl) (Nat.le_of_ble_eq_true rfl) (jj_bare0 rfl) ?_
            refine rm_refuses (c := 0) hG (RPX.rr e0 e9 e10 e11 hP) (by omega) (fun hp => ?_) (fun hp => ?_)
            · skip
              exact absurd hp (by omega)
            · skip
              obtain ⟨Mq104, hMq104⟩ : ∃ Mq104, Mq104 = jj_up M r (.inl nR, [.int (nI (0)), .ref f, .ref o, .ref st]) := ⟨_, rfl⟩
              rw [← hMq104]
              obtain ⟨hPq104, hOq104, hCq104, hSq104, hTq104⟩ := RPX.refuse (code' := nI (0)) (M' := Mq104) hP_q104 (by rw [e10, e0, e12, e13]; exact hO_q104) (by rw [e0]; exact hC) hS (by rw [hMq104, e0, e9, e10, e11])
              rw [e0] at hCq104
              rw [e10, e0, e12, e13] at hOq104
              have hFq104 := (RTF.refl M F).trans hTq104
              show jj G kR_make (d + 11) Q rc rs 42 [some (.ref r), some (.int (nI (k))), some (.int (nI (R))), some (.int (nI (c)))] [.int (nI (0))] Mq104
              refine jn_if_eq (pc := 42) (tgt := 46) kR_make_d42 (by decide) (by omega) (fun _ => ?_) (fun c => by exfalso; omega)
              refine jj_aload_n (pc := 46) kR_make_d46 rfl ?_
              refine jj_iload_n (pc := 47) kR_make_d47 rfl ?_
              refine jj_iload_n (pc := 48) kR_make_d48 rfl ?_
              refine jj_iload_n (pc := 49) kR_make_d49 rfl ?_
              have hRc : R * c ≤ 16 * 16 := Nat.mul_le_mul hR2 hc2
              obtain ⟨pt2, zt2, u, vg, pg, E, TE, v3, Vg, tg, upg, lowg, Pg, rkg, X2, Z2, hPs, hCs, hSs, hXs, k3, k4, k5, k6⟩ := to_store (B := fun _ _ _ _ => True) hPq104 (by rw [e0]; exact hCq104) hSq104 hX hT3 h1 htV hPL trivial hk
              obtain ⟨g, eg⟩ : ∃ g, F (k + 1) = g := ⟨_, rfl⟩
              rw [eg] at hCs
              have hf0 : Mq104 (F 0) = some (.inl nRF, .ref w :: [.ref vv, .int (nI t), .int up, .int low, .ref pv, .int rk]) := by rw [e0]; exact hCq104.1
              have hO9 := hOq104
              rw [← e10, ← e0, ← e12, ← e13] at hO9
              refine jj_callV (pc := 50) (b := r) (As := [.int (nI (k)), .int (nI (R)), .int (nI (c))]) kR_make_d50 (kvR_R_empty hG) (kG_cl hG rfl) rfl (RPX.rr e0 e9 e10 e11 hPq104) rfl rfl rfl (Nat.le_of_ble_eq_true rfl) (Nat.le_of_ble_eq_true rfl) (jj_bare0 rfl) ?_
              refine rm_empty (R := R) (c := c) (k := k) hG e0 e9 e10 e11 eg hk hPs hCs hSs hXs k5 k4 k3 hR2 hc2 (by decide) (by decide) (fun M8 vg8 E8 TE8 Vg8 up8 low8 X8 Z8 v8 rc8 rs8 hC8 hS8 hX8 t8 h18 hl8 hF8 hm8 => ?_)
              show jj G kR_make (d + 11) Q rc8 rs8 53 [some (.ref r), some (.int (nI (k))), some (.int (nI (R))), some (.int (nI (c)))] [] M8
              have hF8' : FF Mq104 M8 (F (k + 1)) := by rw [eg]; exact hF8
              obtain ⟨hP8, hT8⟩ := hPs.ff (by omega) hF8'
              obtain ⟨hO8, hz8⟩ := OC.store hk hPs hO9 hf0 hF8'
              have hR8 : RT M8 F (nI 0) (rup σ k R c (fun _ => (0 : Rat))) X Z rc8 rs8 := from_store hk hP8 (fun j j1 j2 D T V t h => by
                by_cases c0 : j = 0
                · exact Or.inl c0
                · try dsimp only at h
                  rw [if_neg c0] at h
                  exact h) (by rw [eg]; exact hC8) hS8 hX8 t8 h18 hl8 k6 hm8 hz8 hO8 hCA hRA
              exact jj_vret (pc := 53) kR_make_d53 rfl (K M8 0 _ rc8 rs8 (Or.inr ⟨k, hk, rfl, Or.inr ⟨R, c, hR1, hR2, rfl, hc1, hc2, rfl, rfl, rfl⟩⟩) (hL.rup hR1 hc1 (fit_zero hR2 hc2)) hR8 (hFq104.trans hT8))
          · skip
            refine jn_iconst (pc := 34) 2 kR_make_d34 (by decide) ?_
            refine jj_goto (pc := 35) (tgt := 39) kR_make_d35 (by decide) ?_
            have hP_q105 := hP
            have hO_q105 := hO
            refine jj_callV (pc := 39) (b := r) (As := [.int (nI (2))]) kR_make_d39 (kvR_R_refuses hG) (kG_cl hG rfl) rfl (RPX.rr e0 e9 e10 e11 hP) rfl rfl rfl (Nat.le_of_ble_eq_true rfl) (Nat.le_of_ble_eq_true rfl) (jj_bare0 rfl) ?_
            refine rm_refuses (c := 2) hG (RPX.rr e0 e9 e10 e11 hP) (by omega) (fun hp => ?_) (fun hp => ?_)
            · skip
              obtain ⟨Mq105, hMq105⟩ : ∃ Mq105, Mq105 = jj_up M r (.inl nR, [.int (nI (2)), .ref f, .ref o, .ref st]) := ⟨_, rfl⟩
              rw [← hMq105]
              obtain ⟨hPq105, hOq105, hCq105, hSq105, hTq105⟩ := RPX.refuse (code' := nI (2)) (M' := Mq105) hP_q105 (by rw [e10, e0, e12, e13]; exact hO_q105) (by rw [e0]; exact hC) hS (by rw [hMq105, e0, e9, e10, e11])
              rw [e0] at hCq105
              rw [e10, e0, e12, e13] at hOq105
              have hFq105 := (RTF.refl M F).trans hTq105
              show jj G kR_make (d + 11) Q rc rs 42 [some (.ref r), some (.int (nI (k))), some (.int (y)), some (.int (z))] [.int (nI (1))] Mq105
              refine jn_if_eq (pc := 42) (tgt := 46) kR_make_d42 (by decide) (by omega) (fun c => by exfalso; omega) (fun _ => ?_)
              exact jj_vret (pc := 45) kR_make_d45 rfl (K Mq105 2 σ rc rs (Or.inr ⟨k, hk, rfl, Or.inl ⟨fun h => not_side (Or.inr (Int32.not_le.mp c4)) h.2, rfl, rfl⟩⟩) hL (RT.cls hPq105 (by rw [e10, e0, e12, e13]; exact hOq105) hCA hRA (by rw [e0]; exact hCq105) hSq105 hX hT3 h1 htV hPL) hFq105)
            · skip
              exact absurd hp (by omega)
  · skip
    show jj G kR_make (d + 11) Q rc rs 5 [some (.ref r), some (.int (x)), some (.int (y)), some (.int (z))] [.int (nI (0)), .ref r] M
    refine jn_if_ne (pc := 5) (tgt := 12) kR_make_d5 (by decide) (by omega) (fun c => by exfalso; omega) (fun _ => ?_)
    refine jn_iconst (pc := 8) 1 kR_make_d8 (by decide) ?_
    refine jj_goto (pc := 9) (tgt := 39) kR_make_d9 (by decide) ?_
    have hP_q106 := hP
    have hO_q106 := hO
    refine jj_callV (pc := 39) (b := r) (As := [.int (nI (1))]) kR_make_d39 (kvR_R_refuses hG) (kG_cl hG rfl) rfl (RPX.rr e0 e9 e10 e11 hP) rfl rfl rfl (Nat.le_of_ble_eq_true rfl) (Nat.le_of_ble_eq_true rfl) (jj_bare0 rfl) ?_
    refine rm_refuses (c := 1) hG (RPX.rr e0 e9 e10 e11 hP) (by omega) (fun hp => ?_) (fun hp => ?_)
    · skip
      obtain ⟨Mq106, hMq106⟩ : ∃ Mq106, Mq106 = jj_up M r (.inl nR, [.int (nI (1)), .ref f, .ref o, .ref st]) := ⟨_, rfl⟩
      rw [← hMq106]
      obtain ⟨hPq106, hOq106, hCq106, hSq106, hTq106⟩ := RPX.refuse (code' := nI (1)) (M' := Mq106) hP_q106 (by rw [e10, e0, e12, e13]; exact hO_q106) (by rw [e0]; exact hC) hS (by rw [hMq106, e0, e9, e10, e11])
      rw [e0] at hCq106
      rw [e10, e0, e12, e13] at hOq106
      have hFq106 := (RTF.refl M F).trans hTq106
      show jj G kR_make (d + 11) Q rc rs 42 [some (.ref r), some (.int (x)), some (.int (y)), some (.int (z))] [.int (nI (1))] Mq106
      refine jn_if_eq (pc := 42) (tgt := 46) kR_make_d42 (by decide) (by omega) (fun c => by exfalso; omega) (fun _ => ?_)
      exact jj_vret (pc := 45) kR_make_d45 rfl (K Mq106 1 σ rc rs (Or.inl ⟨hn, rfl, rfl⟩) hL (RT.cls hPq106 (by rw [e10, e0, e12, e13]; exact hOq106) hCA hRA (by rw [e0]; exact hCq106) hSq106 hX hT3 h1 htV hPL) hFq106)
    · skip
      exact absurd hp (by omega)
theorem rp_unit {x y : Int32} (hG : kG G) (e9 : F 9 = r) (hT : RT M F code σ X Z rc rs) (hL : LG σ)
    (K : ∀ M' cd σ' rc' rs', semUnit σ x y cd σ' → LG σ' → RT M' F (nI cd) σ' X Z rc' rs' → RTF M M' F → Q (.returned none) M' rc' rs') : jj G kR_unit (d + 11) Q rc rs 0 (jj_ent [.ref r, .int x, .int y] 3) [] M := by
  obtain ⟨pt, zt, w, vv, pv, D, T, v2, V, t, up, low, P, rk, CA, RA, fi, se, X1, Z1, hP, hO, hCA, hRA, hC, hS, hX, hT3, h1, htV, hPL⟩ := hT.opn
  obtain ⟨f, e0⟩ : ∃ f, F 0 = f := ⟨_, rfl⟩
  obtain ⟨o, e10⟩ : ∃ o, F 10 = o := ⟨_, rfl⟩
  obtain ⟨st, e11⟩ : ∃ st, F 11 = st := ⟨_, rfl⟩
  obtain ⟨ca, e12⟩ : ∃ ca, F 12 = ca := ⟨_, rfl⟩
  obtain ⟨ra, e13⟩ : ∃ ra, F 13 = ra := ⟨_, rfl⟩
  rw [e10, e0, e12, e13] at hO
  rw [e0] at hC
  have hcap := hX.cap
  show jj G kR_unit (d + 11) Q rc rs 0 [some (.ref r), some (.int (x)), some (.int (y))] [] M
  refine jj_aload_n (pc := 0) kR_unit_d0 rfl ?_
  refine jj_iload_n (pc := 1) kR_unit_d1 rfl ?_
  refine jj_callS (pc := 2) (As := [.int (x)]) kR_unit_d2 (kvR_R_isRegister hG) rfl rfl rfl (Nat.le_of_ble_eq_true rfl) (Nat.le_of_ble_eq_true rfl) (jj_bare0 rfl) ?_
  refine rm_isRegister (fun k hk ek => ?_) (fun hn => ?_)
  · skip
    subst ek
    show jj G kR_unit (d + 11) Q rc rs 5 [some (.ref r), some (.int (nI (k))), some (.int (y))] [.int (nI (1)), .ref r] M
    refine jn_if_ne (pc := 5) (tgt := 12) kR_unit_d5 (by decide) (by omega) (fun _ => ?_) (fun c => by exfalso; omega)
    refine jj_iload_n (pc := 12) kR_unit_d12 rfl ?_
    refine jn_iconst (pc := 13) 1 kR_unit_d13 (by decide) ?_
    refine jj_icmp_lt (pc := 14) (tgt := 23) kR_unit_d14 (by decide) (fun c1 => ?_) (fun c1 => ?_)
    · skip
      refine jn_iconst (pc := 23) 2 kR_unit_d23 (by decide) ?_
      refine jj_goto (pc := 24) (tgt := 28) kR_unit_d24 (by decide) ?_
      have hP_q107 := hP
      have hO_q107 := hO
      refine jj_callV (pc := 28) (b := r) (As := [.int (nI (2))]) kR_unit_d28 (kvR_R_refuses hG) (kG_cl hG rfl) rfl (RPX.rr e0 e9 e10 e11 hP) rfl rfl rfl (Nat.le_of_ble_eq_true rfl) (Nat.le_of_ble_eq_true rfl) (jj_bare0 rfl) ?_
      refine rm_refuses (c := 2) hG (RPX.rr e0 e9 e10 e11 hP) (by omega) (fun hp => ?_) (fun hp => ?_)
      · skip
        obtain ⟨Mq107, hMq107⟩ : ∃ Mq107, Mq107 = jj_up M r (.inl nR, [.int (nI (2)), .ref f, .ref o, .ref st]) := ⟨_, rfl⟩
        rw [← hMq107]
        obtain ⟨hPq107, hOq107, hCq107, hSq107, hTq107⟩ := RPX.refuse (code' := nI (2)) (M' := Mq107) hP_q107 (by rw [e10, e0, e12, e13]; exact hO_q107) (by rw [e0]; exact hC) hS (by rw [hMq107, e0, e9, e10, e11])
        rw [e0] at hCq107
        rw [e10, e0, e12, e13] at hOq107
        have hFq107 := (RTF.refl M F).trans hTq107
        show jj G kR_unit (d + 11) Q rc rs 31 [some (.ref r), some (.int (nI (k))), some (.int (y))] [.int (nI (1))] Mq107
        refine jn_if_eq (pc := 31) (tgt := 35) kR_unit_d31 (by decide) (by omega) (fun c => by exfalso; omega) (fun _ => ?_)
        exact jj_vret (pc := 34) kR_unit_d34 rfl (K Mq107 2 σ rc rs (Or.inr ⟨k, hk, rfl, Or.inl ⟨not_side (Or.inl c1), rfl, rfl⟩⟩) hL (RT.cls hPq107 (by rw [e10, e0, e12, e13]; exact hOq107) hCA hRA (by rw [e0]; exact hCq107) hSq107 hX hT3 h1 htV hPL) hFq107)
      · skip
        exact absurd hp (by omega)
    · skip
      refine jj_iload_n (pc := 17) kR_unit_d17 rfl ?_
      refine jn_bipush (pc := 18) 16 kR_unit_d18 (by decide) ?_
      refine jj_icmp_le (pc := 20) (tgt := 27) kR_unit_d20 (by decide) (fun c2 => ?_) (fun c2 => ?_)
      · skip
        obtain ⟨n, hn1, hn2, en⟩ := is_side c1 (fun h => Int32.not_lt.mpr c2 h)
        subst en
        show jj G kR_unit (d + 11) Q rc rs 27 [some (.ref r), some (.int (nI (k))), some (.int (nI (n)))] [.ref r] M
        refine jn_iconst (pc := 27) 0 kR_unit_d27 (by decide) ?_
        have hP_q108 := hP
        have hO_q108 := hO
        refine jj_callV (pc := 28) (b := r) (As := [.int (nI (0))]) kR_unit_d28 (kvR_R_refuses hG) (kG_cl hG rfl) rfl (RPX.rr e0 e9 e10 e11 hP) rfl rfl rfl (Nat.le_of_ble_eq_true rfl) (Nat.le_of_ble_eq_true rfl) (jj_bare0 rfl) ?_
        refine rm_refuses (c := 0) hG (RPX.rr e0 e9 e10 e11 hP) (by omega) (fun hp => ?_) (fun hp => ?_)
        · skip
          exact absurd hp (by omega)
        · skip
          obtain ⟨Mq108, hMq108⟩ : ∃ Mq108, Mq108 = jj_up M r (.inl nR, [.int (nI (0)), .ref f, .ref o, .ref st]) := ⟨_, rfl⟩
          rw [← hMq108]
          obtain ⟨hPq108, hOq108, hCq108, hSq108, hTq108⟩ := RPX.refuse (code' := nI (0)) (M' := Mq108) hP_q108 (by rw [e10, e0, e12, e13]; exact hO_q108) (by rw [e0]; exact hC) hS (by rw [hMq108, e0, e9, e10, e11])
          rw [e0] at hCq108
          rw [e10, e0, e12, e13] at hOq108
          have hFq108 := (RTF.refl M F).trans hTq108
          show jj G kR_unit (d + 11) Q rc rs 31 [some (.ref r), some (.int (nI (k))), some (.int (nI (n)))] [.int (nI (0))] Mq108
          refine jn_if_eq (pc := 31) (tgt := 35) kR_unit_d31 (by decide) (by omega) (fun _ => ?_) (fun c => by exfalso; omega)
          refine jj_aload_n (pc := 35) kR_unit_d35 rfl ?_
          refine jj_callV (pc := 36) (b := r) (As := []) kR_unit_d36 (kvR_R_begin hG) (kG_cl hG rfl) rfl (RPX.rr e0 e9 e10 e11 hPq108) rfl rfl rfl (Nat.le_of_ble_eq_true rfl) (Nat.le_of_ble_eq_true rfl) (jj_bare0 rfl) ?_
          refine rm_begin hG e0 e9 e10 e11 hPq108 hCq108 hSq108 hT3 (fun Mb109 hCb109 hSb109 hFb109 => ?_)
          show jj G kR_unit (d + 11) Q rc rs 39 [some (.ref r), some (.int (nI (k))), some (.int (nI (n)))] [] Mb109
          have hGb109 := (FF.refl Mq108 f).trans hFb109
          refine jj_aload_n (pc := 39) kR_unit_d39 rfl ?_
          refine jj_iload_n (pc := 40) kR_unit_d40 rfl ?_
          refine jj_aload_n (pc := 41) kR_unit_d41 rfl ?_
          refine jj_getf (pc := 42) kR_unit_d42 (kfR_f hG) (RPX.rr e0 e9 e10 e11 (hPq108.ffe e0 hGb109)) rfl ?_
          refine jj_iload_n (pc := 45) kR_unit_d45 rfl ?_
          have hnn : n * n ≤ 16 * 16 := Nat.mul_le_mul hn2 hn2
          refine jj_callV (pc := 46) (b := f) (As := [.int (nI (n))]) kR_unit_d46 (kvR_RF_unit hG) (kG_cl hG rfl) rfl hCb109.1 rfl rfl rfl (Nat.le_of_ble_eq_true rfl) (Nat.le_of_ble_eq_true rfl) (jj_bare0 rfl) ?_
          refine rf_unit hG hCb109 hSb109 hX (Nat.zero_le _) h1 (Nat.le_refl 3) (by omega) (by omega) (by omega) (fun Mu vv Du Tu Vu upu lowu Xu Zu vu rcu rsu hCu hSu hXu tu uu hou hvu hlu hFu hmu => ?_)
          show jj G kR_unit (d + 11) Q rcu rsu 49 [some (.ref r), some (.int (nI (k))), some (.int (nI (n)))] [.int (nI (0)), .int (nI (k)), .ref r] Mu
          obtain ⟨ttu, httu⟩ : ∃ ttu, 0 + 2 + 2 * (n * n) = ttu := ⟨_, rfl⟩
          rw [httu] at hCu hlu hmu
          have hGu := hGb109.trans hFu
          have hcapu := hXu.cap
          have h1u : RI Du 3 1 1 := h1.congr (Nat.le_refl _) (fun i hi => hou i (by omega))
          have hT3u : 3 ≤ Tu := by omega
          refine jn_iconst (pc := 49) 3 kR_unit_d49 (by decide) ?_
          have hsz : ∀ k', k' < n * n → ZB 1 ((fun t => if t / n = t % n then (1 : Rat) else 0) k').num ∧ ZB 1 (((fun t => if t / n = t % n then (1 : Rat) else 0) k').den : Int) := fun k' _ => by
            dsimp only
            split <;> exact ⟨by unfold ZB; decide, by unfold ZB; decide⟩
          refine jj_callV (pc := 50) (b := r) (As := [.int (nI (k)), .int (nI (0)), .int (nI (3))]) kR_unit_d50 (kvR_R_puts hG) (kG_cl hG rfl) rfl (RPX.rr e0 e9 e10 e11 (hPq108.ffe e0 hGu)) rfl rfl rfl (Nat.le_of_ble_eq_true rfl) (Nat.le_of_ble_eq_true rfl) (jj_bare0 rfl) ?_
          refine rm_puts (s := 1) (lo := 3) (qn := fun t => if t / n = t % n then (1 : Rat) else 0) (Rn := n) (cn := n) hG e0 e9 e10 e11 (hPq108.ffe e0 hGu) hCu e12 e13 (hOq108.ff hGu) hCA hRA hSu hXu hlu h1u hT3u hPL hk (by omega) (by omega) hmu (by omega) (by omega) hsz (by omega) (by omega) (fun M8 rc8 rs8 hnf hR8 hT8 => ?_) (fun M8 rc8 rs8 w8 vv8 pv8 V8 t8 up8 low8 P8 rk8 hfit hR8 hT8 hC8 hg8 hl8 hb8 => ?_)
          · skip
            show jj G kR_unit (d + 11) Q rc8 rs8 53 [some (.ref r), some (.int (nI (k))), some (.int (nI (n)))] [.int (nI (0))] M8
            refine jj_pop (pc := 53) kR_unit_d53 rfl ?_
            exact jj_vret (pc := 54) kR_unit_d54 rfl (K M8 3 σ rc8 rs8 (Or.inr ⟨k, hk, rfl, Or.inr ⟨n, hn1, hn2, rfl, Or.inr ⟨hnf, rfl, rfl⟩⟩⟩) hL hR8 ((hFq108.trans (RPX.rte e0 hPq108 hGu)).trans hT8))
          · skip
            show jj G kR_unit (d + 11) Q rc8 rs8 53 [some (.ref r), some (.int (nI (k))), some (.int (nI (n)))] [.int (nI (1))] M8
            refine jj_pop (pc := 53) kR_unit_d53 rfl ?_
            exact jj_vret (pc := 54) kR_unit_d54 rfl (K M8 0 _ rc8 rs8 (Or.inr ⟨k, hk, rfl, Or.inr ⟨n, hn1, hn2, rfl, Or.inl ⟨hfit, rfl, rfl⟩⟩⟩) (hL.rup (by omega) (by omega) hfit) hR8 ((hFq108.trans (RPX.rte e0 hPq108 hGu)).trans hT8))
      · skip
        refine jn_iconst (pc := 23) 2 kR_unit_d23 (by decide) ?_
        refine jj_goto (pc := 24) (tgt := 28) kR_unit_d24 (by decide) ?_
        have hP_q110 := hP
        have hO_q110 := hO
        refine jj_callV (pc := 28) (b := r) (As := [.int (nI (2))]) kR_unit_d28 (kvR_R_refuses hG) (kG_cl hG rfl) rfl (RPX.rr e0 e9 e10 e11 hP) rfl rfl rfl (Nat.le_of_ble_eq_true rfl) (Nat.le_of_ble_eq_true rfl) (jj_bare0 rfl) ?_
        refine rm_refuses (c := 2) hG (RPX.rr e0 e9 e10 e11 hP) (by omega) (fun hp => ?_) (fun hp => ?_)
        · skip
          obtain ⟨Mq110, hMq110⟩ : ∃ Mq110, Mq110 = jj_up M r (.inl nR, [.int (nI (2)), .ref f, .ref o, .ref st]) := ⟨_, rfl⟩
          rw [← hMq110]
          obtain ⟨hPq110, hOq110, hCq110, hSq110, hTq110⟩ := RPX.refuse (code' := nI (2)) (M' := Mq110) hP_q110 (by rw [e10, e0, e12, e13]; exact hO_q110) (by rw [e0]; exact hC) hS (by rw [hMq110, e0, e9, e10, e11])
          rw [e0] at hCq110
          rw [e10, e0, e12, e13] at hOq110
          have hFq110 := (RTF.refl M F).trans hTq110
          show jj G kR_unit (d + 11) Q rc rs 31 [some (.ref r), some (.int (nI (k))), some (.int (y))] [.int (nI (1))] Mq110
          refine jn_if_eq (pc := 31) (tgt := 35) kR_unit_d31 (by decide) (by omega) (fun c => by exfalso; omega) (fun _ => ?_)
          exact jj_vret (pc := 34) kR_unit_d34 rfl (K Mq110 2 σ rc rs (Or.inr ⟨k, hk, rfl, Or.inl ⟨not_side (Or.inr (Int32.not_le.mp c2)), rfl, rfl⟩⟩) hL (RT.cls hPq110 (by rw [e10, e0, e12, e13]; exact hOq110) hCA hRA (by rw [e0]; exact hCq110) hSq110 hX hT3 h1 htV hPL) hFq110)
        · skip
          exact absurd hp (by omega)
  · skip
    show jj G kR_unit (d + 11) Q rc rs 5 [some (.ref r), some (.int (x)), some (.int (y))] [.int (nI (0)), .ref r] M
    refine jn_if_ne (pc := 5) (tgt := 12) kR_unit_d5 (by decide) (by omega) (fun c => by exfalso; omega) (fun _ => ?_)
    refine jn_iconst (pc := 8) 1 kR_unit_d8 (by decide) ?_
    refine jj_goto (pc := 9) (tgt := 28) kR_unit_d9 (by decide) ?_
    have hP_q111 := hP
    have hO_q111 := hO
    refine jj_callV (pc := 28) (b := r) (As := [.int (nI (1))]) kR_unit_d28 (kvR_R_refuses hG) (kG_cl hG rfl) rfl (RPX.rr e0 e9 e10 e11 hP) rfl rfl rfl (Nat.le_of_ble_eq_true rfl) (Nat.le_of_ble_eq_true rfl) (jj_bare0 rfl) ?_
    refine rm_refuses (c := 1) hG (RPX.rr e0 e9 e10 e11 hP) (by omega) (fun hp => ?_) (fun hp => ?_)
    · skip
      obtain ⟨Mq111, hMq111⟩ : ∃ Mq111, Mq111 = jj_up M r (.inl nR, [.int (nI (1)), .ref f, .ref o, .ref st]) := ⟨_, rfl⟩
      rw [← hMq111]
      obtain ⟨hPq111, hOq111, hCq111, hSq111, hTq111⟩ := RPX.refuse (code' := nI (1)) (M' := Mq111) hP_q111 (by rw [e10, e0, e12, e13]; exact hO_q111) (by rw [e0]; exact hC) hS (by rw [hMq111, e0, e9, e10, e11])
      rw [e0] at hCq111
      rw [e10, e0, e12, e13] at hOq111
      have hFq111 := (RTF.refl M F).trans hTq111
      show jj G kR_unit (d + 11) Q rc rs 31 [some (.ref r), some (.int (x)), some (.int (y))] [.int (nI (1))] Mq111
      refine jn_if_eq (pc := 31) (tgt := 35) kR_unit_d31 (by decide) (by omega) (fun c => by exfalso; omega) (fun _ => ?_)
      exact jj_vret (pc := 34) kR_unit_d34 rfl (K Mq111 1 σ rc rs (Or.inl ⟨hn, rfl, rfl⟩) hL (RT.cls hPq111 (by rw [e10, e0, e12, e13]; exact hOq111) hCA hRA (by rw [e0]; exact hCq111) hSq111 hX hT3 h1 htV hPL) hFq111)
    · skip
      exact absurd hp (by omega)
end RM11
