/-! ===== the reference: thrown, size, sign, length, limb, same (printed by wip/gen/rm15.py) ===== -/
def semSize (σ : rst) (x b : Int32) (cd v : Nat) : Prop := (¬ isReg x ∧ cd = 1 ∧ v = 0) ∨ ∃ k, k < 8 ∧ x = nI k ∧ cd = 0 ∧ v = (if b = 0 then σ.1 k else σ.2.1 k)
def sgnv (z : Int) : Int32 := if z < 0 then -1 else if 0 < z then 1 else 0
def semSign (σ : rst) (x y z : Int32) (cd : Nat) (v : Int32) : Prop := (¬ isCel σ x y z ∧ cd = 1 ∧ v = 0) ∨ ∃ k i j, k < 8 ∧ x = nI k ∧ i < σ.1 k ∧ y = nI i ∧ j < σ.2.1 k ∧ z = nI j ∧ cd = 0 ∧ v = sgnv (σ.2.2 k (i * σ.2.1 k + j)).num
/-- the upper or the lower part of a fraction -/
def halfv (q : Rat) (b : Int32) : Int := if b = 0 then q.num else (q.den : Int)
def semLen (σ : rst) (x y z b : Int32) (cd v : Nat) : Prop := (¬ isCel σ x y z ∧ cd = 1 ∧ v = 0) ∨ ∃ k i j, k < 8 ∧ x = nI k ∧ i < σ.1 k ∧ y = nI i ∧ j < σ.2.1 k ∧ z = nI j ∧ cd = 0 ∧ v = blen (halfv (σ.2.2 k (i * σ.2.1 k + j)) b)
def semLimb (σ : rst) (x y z b l : Int32) (cd : Nat) (v : Int32) : Prop := (¬ (isCel σ x y z ∧ ¬ l < 0) ∧ cd = 1 ∧ v = 0) ∨ ∃ k i j n, k < 8 ∧ x = nI k ∧ i < σ.1 k ∧ y = nI i ∧ j < σ.2.1 k ∧ z = nI j ∧ n < 2 ^ 31 ∧ l = nI n ∧ cd = 0 ∧ v = nI ((halfv (σ.2.2 k (i * σ.2.1 k + j)) b).natAbs / 2 ^ (32 * n))
def semSame (σ : rst) (x y : Int32) (cd v : Nat) : Prop := (¬ reg2 x y ∧ cd = 1 ∧ v = 0) ∨ ∃ k i, k < 8 ∧ x = nI k ∧ i < 8 ∧ y = nI i ∧ cd = 0 ∧ v ≤ 1 ∧ (v = 1 ↔ σ.1 k = σ.1 i ∧ σ.2.1 k = σ.2.1 i ∧ ∀ t, t < σ.1 k * σ.2.1 k → σ.2.2 k t = σ.2.2 i t)
theorem RI.sgn {D : List Int32} {T p : Nat} {z : Int} (h : RI D T p z) (hT : T < 2 ^ 31) : (if D.getD p 0 < 0 then (-1 : Int32) else if 0 < D.getD p 0 then 1 else 0) = sgnv z := by
  obtain ⟨n, ⟨x1, x1b⟩, x2, x3, x4, x5⟩ := id h
  have hn : n < 2 ^ 31 := by omega
  unfold sgnv
  rw [x2]
  have hz : z = 0 ↔ n = 0 := ⟨fun e => by
    rcases Nat.eq_zero_or_pos n with g | g
    · exact g
    · rw [e] at x5; have := (rnat_eq0 x3 x4).mp x5; omega, fun e => by rw [e] at x5; have : (0 : Nat) = z.natAbs := x5; omega⟩
  by_cases c : z < 0
  · rw [if_pos c, if_pos c, if_pos]
    rw [Int32.lt_iff_toInt_lt, Int32.toInt_neg, nI_toInt hn, show (0 : Int32).toInt = 0 from rfl, Int.bmod_eq_of_le (by omega) (by omega)]
    have : n ≠ 0 := fun e => by have := hz.mpr e; omega
    omega
  · rw [if_neg c, if_neg c, if_neg (nI_pos hn)]
    by_cases c2 : 0 < z
    · rw [if_pos c2, if_pos]
      rw [Int32.lt_iff_toInt_lt, nI_toInt hn, show (0 : Int32).toInt = 0 from rfl]
      have : n ≠ 0 := fun e => by have := hz.mpr e; omega
      omega
    · rw [if_neg c2, if_neg]
      have : n = 0 := hz.mp (by omega)
      rw [this]
      decide
theorem halfv_lt {q : Rat} {b : Int32} (h1 : ZB 267 q.num) (h2 : ZB 267 (q.den : Int)) : ZB 267 (halfv q b) := by
  unfold halfv; split
  · exact h1
  · exact h2
section RM15
variable {G : jg} {d : Nat} {Q : jq} {rc rs : Nat} {M : mheap} {F : Nat → Nat} {r : Nat} {code : Int32} {σ : rst} {X Z : Nat}
theorem rp_thrown {c : Nat} (hG : kG G) (e9 : F 9 = r) (hT : RT M F (nI c) σ X Z rc rs) (K : Q (.returned (some (.int (nI c)))) M rc rs) : jj G kR_thrown d Q rc rs 0 (jj_ent [.ref r] 1) [] M := by
  obtain ⟨pt, zt, w, vv, pv, D, T, v2, V, t, up, low, P, rk, CA, RA, fi, se, X1, Z1, hP, hO, hCA, hRA, hC, hS, hX, hT3, h1, htV, hPL⟩ := hT.opn
  obtain ⟨f, e0⟩ : ∃ f, F 0 = f := ⟨_, rfl⟩
  obtain ⟨o, e10⟩ : ∃ o, F 10 = o := ⟨_, rfl⟩
  obtain ⟨st, e11⟩ : ∃ st, F 11 = st := ⟨_, rfl⟩
  obtain ⟨ca, e12⟩ : ∃ ca, F 12 = ca := ⟨_, rfl⟩
  obtain ⟨ra, e13⟩ : ∃ ra, F 13 = ra := ⟨_, rfl⟩
  rw [e10, e0, e12, e13] at hO
  rw [e0] at hC
  have hcap := hX.cap
  show jj G kR_thrown (d) Q rc rs 0 [some (.ref r)] [] M
  refine jj_aload_n (pc := 0) kR_thrown_d0 rfl ?_
  refine jj_getf (pc := 1) kR_thrown_d1 (kfR_code hG) (RPX.rr e0 e9 e10 e11 hP) rfl ?_
  exact jj_iret (pc := 4) kR_thrown_d4 rfl (by rfl) K
theorem rp_size {x b : Int32} (hG : kG G) (e9 : F 9 = r) (hT : RT M F code σ X Z rc rs) (hL : LG σ)
    (K : ∀ M' cd (v : Nat) rc' rs', semSize σ x b cd v → RT M' F (nI cd) σ X Z rc' rs' → RTF M M' F → Q (.returned (some (.int (nI v)))) M' rc' rs') : jj G kR_size (d + 11) Q rc rs 0 (jj_ent [.ref r, .int x, .int b] 3) [] M := by
  obtain ⟨pt, zt, w, vv, pv, D, T, v2, V, t, up, low, P, rk, CA, RA, fi, se, X1, Z1, hP, hO, hCA, hRA, hC, hS, hX, hT3, h1, htV, hPL⟩ := hT.opn
  obtain ⟨f, e0⟩ : ∃ f, F 0 = f := ⟨_, rfl⟩
  obtain ⟨o, e10⟩ : ∃ o, F 10 = o := ⟨_, rfl⟩
  obtain ⟨st, e11⟩ : ∃ st, F 11 = st := ⟨_, rfl⟩
  obtain ⟨ca, e12⟩ : ∃ ca, F 12 = ca := ⟨_, rfl⟩
  obtain ⟨ra, e13⟩ : ∃ ra, F 13 = ra := ⟨_, rfl⟩
  rw [e10, e0, e12, e13] at hO
  rw [e0] at hC
  have hcap := hX.cap
  show jj G kR_size (d + 11) Q rc rs 0 [some (.ref r), some (.int (x)), some (.int (b))] [] M
  refine jj_aload_n (pc := 0) kR_size_d0 rfl ?_
  refine jj_iload_n (pc := 1) kR_size_d1 rfl ?_
  refine jj_callS (pc := 2) (As := [.int (x)]) kR_size_d2 (kvR_R_isRegister hG) rfl rfl rfl (Nat.le_of_ble_eq_true rfl) (Nat.le_of_ble_eq_true rfl) (jj_bare0 rfl) ?_
  refine rm_isRegister (fun k hk ek => ?_) (fun hn => ?_)
  · skip
    subst ek
    show jj G kR_size (d + 11) Q rc rs 5 [some (.ref r), some (.int (nI (k))), some (.int (b))] [.int (nI (1)), .ref r] M
    refine jn_if_eq (pc := 5) (tgt := 12) kR_size_d5 (by decide) (by omega) (fun c => by exfalso; omega) (fun _ => ?_)
    refine jn_iconst (pc := 8) 0 kR_size_d8 (by decide) ?_
    refine jj_goto (pc := 9) (tgt := 13) kR_size_d9 (by decide) ?_
    have hP_q101 := hP
    have hO_q101 := hO
    refine jj_callV (pc := 13) (b := r) (As := [.int (nI (0))]) kR_size_d13 (kvR_R_refuses hG) (kG_cl hG rfl) rfl (RPX.rr e0 e9 e10 e11 hP) rfl rfl rfl (Nat.le_of_ble_eq_true rfl) (Nat.le_of_ble_eq_true rfl) (jj_bare0 rfl) ?_
    refine rm_refuses (c := 0) hG (RPX.rr e0 e9 e10 e11 hP) (by omega) (fun hp => ?_) (fun hp => ?_)
    · skip
      exact absurd hp (by omega)
    · skip
      obtain ⟨Mq101, hMq101⟩ : ∃ Mq101, Mq101 = jj_up M r (.inl nR, [.int (nI (0)), .ref f, .ref o, .ref st]) := ⟨_, rfl⟩
      rw [← hMq101]
      obtain ⟨hPq101, hOq101, hCq101, hSq101, hTq101⟩ := RPX.refuse (code' := nI (0)) (M' := Mq101) hP_q101 (by rw [e10, e0, e12, e13]; exact hO_q101) (by rw [e0]; exact hC) hS (by rw [hMq101, e0, e9, e10, e11])
      rw [e0] at hCq101
      rw [e10, e0, e12, e13] at hOq101
      have hFq101 := (RTF.refl M F).trans hTq101
      show jj G kR_size (d + 11) Q rc rs 16 [some (.ref r), some (.int (nI (k))), some (.int (b))] [.int (nI (0))] Mq101
      refine jn_if_eq (pc := 16) (tgt := 21) kR_size_d16 (by decide) (by omega) (fun _ => ?_) (fun c => by exfalso; omega)
      obtain ⟨g, eg⟩ : ∃ g, F (k + 1) = g := ⟨_, rfl⟩
      obtain ⟨u, vg, pg, de, E, TE, v3, Vg, tg, upg, lowg, Pg, rkg, hg, g1, g2, g3, g4, g5, g6, g7, g8⟩ := (hPq101).fg (by decide) (show k + 1 < 9 by omega) (by omega)
      rw [e0, eg] at hg
      have hm : MX E TE Vg tg 0 (σ.1 k) (σ.2.1 k) 3 (σ.2.2 k) := by
        rcases g8 with e | e
        · omega
        · rw [show k + 1 - 1 = k by omega] at e; exact e
      obtain ⟨hm1, hm2, hm3, hm4⟩ := id hm
      obtain ⟨l1, l2, l3, l4, l5, l6⟩ := hL k hk
      refine jj_iload_n (pc := 21) kR_size_d21 rfl ?_
      refine jj_if_eq (pc := 22) (tgt := 38) kR_size_d22 (by decide) (fun c1 => ?_) (fun c1 => ?_)
      · skip
        refine jj_aload_n (pc := 38) kR_size_d38 rfl ?_
        refine jj_getf (pc := 39) kR_size_d39 (kfR_store hG) (RPX.rr e0 e9 e10 e11 hPq101) rfl ?_
        refine jj_iload_n (pc := 42) kR_size_d42 rfl ?_
        refine jj_aald (pc := 43) kR_size_d43 (kG_t hG rfl) (RPX.ss e11 hPq101) rfl (by rw [List.length_map, List.length_range]; decide) (by rw [st_at hk, eg]) ?_
        show jj G kR_size (d + 11) Q rc rs 44 [some (.ref r), some (.int (nI (k))), some (.int (b))] [.ref g] Mq101
        refine jn_iconst (pc := 44) 0 kR_size_d44 (by decide) ?_
        refine jj_callV (pc := 45) (b := g) (As := [.int (nI (0))]) kR_size_d45 (kvR_RF_rows hG) (kG_cl hG rfl) rfl hg.1.1 rfl rfl rfl (Nat.le_of_ble_eq_true rfl) (Nat.le_of_ble_eq_true rfl) (jj_bare0 rfl) ?_
        refine rf_rows hG hg.1 (by omega) (by omega) ?_
        show jj G kR_size (d + 11) Q rc rs 48 [some (.ref r), some (.int (nI (k))), some (.int (b))] [.int (Vg.getD 0 0)] Mq101
        refine jn_top (.int (nI (σ.1 k))) (by rw [hm2]) ?_
        exact jj_iret (pc := 48) kR_size_d48 rfl (by rfl) (K Mq101 0 _ rc rs (Or.inr ⟨k, hk, rfl, rfl, by rw [if_pos c1]⟩) (RT.cls hPq101 (by rw [e10, e0, e12, e13]; exact hOq101) hCA hRA (by rw [e0]; exact hCq101) hSq101 hX hT3 h1 htV hPL) hFq101)
      · skip
        refine jj_aload_n (pc := 25) kR_size_d25 rfl ?_
        refine jj_getf (pc := 26) kR_size_d26 (kfR_store hG) (RPX.rr e0 e9 e10 e11 hPq101) rfl ?_
        refine jj_iload_n (pc := 29) kR_size_d29 rfl ?_
        refine jj_aald (pc := 30) kR_size_d30 (kG_t hG rfl) (RPX.ss e11 hPq101) rfl (by rw [List.length_map, List.length_range]; decide) (by rw [st_at hk, eg]) ?_
        show jj G kR_size (d + 11) Q rc rs 31 [some (.ref r), some (.int (nI (k))), some (.int (b))] [.ref g] Mq101
        refine jn_iconst (pc := 31) 0 kR_size_d31 (by decide) ?_
        refine jj_callV (pc := 32) (b := g) (As := [.int (nI (0))]) kR_size_d32 (kvR_RF_columns hG) (kG_cl hG rfl) rfl hg.1.1 rfl rfl rfl (Nat.le_of_ble_eq_true rfl) (Nat.le_of_ble_eq_true rfl) (jj_bare0 rfl) ?_
        refine rf_columns hG hg.1 (by omega) (by omega) ?_
        show jj G kR_size (d + 11) Q rc rs 35 [some (.ref r), some (.int (nI (k))), some (.int (b))] [.int (Vg.getD (0 + 1) 0)] Mq101
        refine jn_top (.int (nI (σ.2.1 k))) (by rw [hm3]) ?_
        refine jj_goto (pc := 35) (tgt := 48) kR_size_d35 (by decide) ?_
        exact jj_iret (pc := 48) kR_size_d48 rfl (by rfl) (K Mq101 0 _ rc rs (Or.inr ⟨k, hk, rfl, rfl, by rw [if_neg c1]⟩) (RT.cls hPq101 (by rw [e10, e0, e12, e13]; exact hOq101) hCA hRA (by rw [e0]; exact hCq101) hSq101 hX hT3 h1 htV hPL) hFq101)
  · skip
    show jj G kR_size (d + 11) Q rc rs 5 [some (.ref r), some (.int (x)), some (.int (b))] [.int (nI (0)), .ref r] M
    refine jn_if_eq (pc := 5) (tgt := 12) kR_size_d5 (by decide) (by omega) (fun _ => ?_) (fun c => by exfalso; omega)
    refine jn_iconst (pc := 12) 1 kR_size_d12 (by decide) ?_
    have hP_q102 := hP
    have hO_q102 := hO
    refine jj_callV (pc := 13) (b := r) (As := [.int (nI (1))]) kR_size_d13 (kvR_R_refuses hG) (kG_cl hG rfl) rfl (RPX.rr e0 e9 e10 e11 hP) rfl rfl rfl (Nat.le_of_ble_eq_true rfl) (Nat.le_of_ble_eq_true rfl) (jj_bare0 rfl) ?_
    refine rm_refuses (c := 1) hG (RPX.rr e0 e9 e10 e11 hP) (by omega) (fun hp => ?_) (fun hp => ?_)
    · skip
      obtain ⟨Mq102, hMq102⟩ : ∃ Mq102, Mq102 = jj_up M r (.inl nR, [.int (nI (1)), .ref f, .ref o, .ref st]) := ⟨_, rfl⟩
      rw [← hMq102]
      obtain ⟨hPq102, hOq102, hCq102, hSq102, hTq102⟩ := RPX.refuse (code' := nI (1)) (M' := Mq102) hP_q102 (by rw [e10, e0, e12, e13]; exact hO_q102) (by rw [e0]; exact hC) hS (by rw [hMq102, e0, e9, e10, e11])
      rw [e0] at hCq102
      rw [e10, e0, e12, e13] at hOq102
      have hFq102 := (RTF.refl M F).trans hTq102
      show jj G kR_size (d + 11) Q rc rs 16 [some (.ref r), some (.int (x)), some (.int (b))] [.int (nI (1))] Mq102
      refine jn_if_eq (pc := 16) (tgt := 21) kR_size_d16 (by decide) (by omega) (fun c => by exfalso; omega) (fun _ => ?_)
      refine jn_iconst (pc := 19) 0 kR_size_d19 (by decide) ?_
      exact jj_iret (pc := 20) kR_size_d20 rfl (by rfl) (K Mq102 1 0 rc rs (Or.inl ⟨hn, rfl, rfl⟩) (RT.cls hPq102 (by rw [e10, e0, e12, e13]; exact hOq102) hCA hRA (by rw [e0]; exact hCq102) hSq102 hX hT3 h1 htV hPL) hFq102)
    · skip
      exact absurd hp (by omega)
theorem rp_sign {x y z : Int32} (hG : kG G) (e9 : F 9 = r) (hT : RT M F code σ X Z rc rs) (hL : LG σ)
    (K : ∀ M' cd (v : Int32) rc' rs', semSign σ x y z cd v → RT M' F (nI cd) σ X Z rc' rs' → RTF M M' F → Q (.returned (some (.int v))) M' rc' rs') : jj G kR_sign (d + 11) Q rc rs 0 (jj_ent [.ref r, .int x, .int y, .int z] 4) [] M := by
  obtain ⟨pt, zt, w, vv, pv, D, T, v2, V, t, up, low, P, rk, CA, RA, fi, se, X1, Z1, hP, hO, hCA, hRA, hC, hS, hX, hT3, h1, htV, hPL⟩ := hT.opn
  obtain ⟨f, e0⟩ : ∃ f, F 0 = f := ⟨_, rfl⟩
  obtain ⟨o, e10⟩ : ∃ o, F 10 = o := ⟨_, rfl⟩
  obtain ⟨st, e11⟩ : ∃ st, F 11 = st := ⟨_, rfl⟩
  obtain ⟨ca, e12⟩ : ∃ ca, F 12 = ca := ⟨_, rfl⟩
  obtain ⟨ra, e13⟩ : ∃ ra, F 13 = ra := ⟨_, rfl⟩
  rw [e10, e0, e12, e13] at hO
  rw [e0] at hC
  have hcap := hX.cap
  show jj G kR_sign (d + 11) Q rc rs 0 [some (.ref r), some (.int (x)), some (.int (y)), some (.int (z))] [] M
  refine jj_aload_n (pc := 0) kR_sign_d0 rfl ?_
  refine jj_aload_n (pc := 1) kR_sign_d1 rfl ?_
  refine jj_iload_n (pc := 2) kR_sign_d2 rfl ?_
  refine jj_iload_n (pc := 3) kR_sign_d3 rfl ?_
  refine jj_iload_n (pc := 4) kR_sign_d4 rfl ?_
  refine jj_callV (pc := 5) (b := r) (As := [.int (x), .int (y), .int (z)]) kR_sign_d5 (kvR_R_isCell hG) (kG_cl hG rfl) rfl (RPX.rr e0 e9 e10 e11 hP) rfl rfl rfl (Nat.le_of_ble_eq_true rfl) (Nat.le_of_ble_eq_true rfl) (jj_bare0 rfl) ?_
  refine rm_isCell (x := x) (y := y) (z := z) hG e0 e9 e10 e11 hP hC hL (fun k i j hk ek hi ei hj ej => ?_) (fun hn => ?_)
  · skip
    subst ek ei ej
    obtain ⟨q1, q2, q3, q4, q5, q6⟩ := hL k hk
    show jj G kR_sign (d + 11) Q rc rs 8 [some (.ref r), some (.int (nI (k))), some (.int (nI (i))), some (.int (nI (j)))] [.int (nI (1)), .ref r] M
    refine jn_if_eq (pc := 8) (tgt := 15) kR_sign_d8 (by decide) (by omega) (fun c => by exfalso; omega) (fun _ => ?_)
    refine jn_iconst (pc := 11) 0 kR_sign_d11 (by decide) ?_
    refine jj_goto (pc := 12) (tgt := 16) kR_sign_d12 (by decide) ?_
    have hP_q103 := hP
    have hO_q103 := hO
    refine jj_callV (pc := 16) (b := r) (As := [.int (nI (0))]) kR_sign_d16 (kvR_R_refuses hG) (kG_cl hG rfl) rfl (RPX.rr e0 e9 e10 e11 hP) rfl rfl rfl (Nat.le_of_ble_eq_true rfl) (Nat.le_of_ble_eq_true rfl) (jj_bare0 rfl) ?_
    refine rm_refuses (c := 0) hG (RPX.rr e0 e9 e10 e11 hP) (by omega) (fun hp => ?_) (fun hp => ?_)
    · skip
      exact absurd hp (by omega)
    · skip
      obtain ⟨Mq103, hMq103⟩ : ∃ Mq103, Mq103 = jj_up M r (.inl nR, [.int (nI (0)), .ref f, .ref o, .ref st]) := ⟨_, rfl⟩
      rw [← hMq103]
      obtain ⟨hPq103, hOq103, hCq103, hSq103, hTq103⟩ := RPX.refuse (code' := nI (0)) (M' := Mq103) hP_q103 (by rw [e10, e0, e12, e13]; exact hO_q103) (by rw [e0]; exact hC) hS (by rw [hMq103, e0, e9, e10, e11])
      rw [e0] at hCq103
      rw [e10, e0, e12, e13] at hOq103
      have hFq103 := (RTF.refl M F).trans hTq103
      show jj G kR_sign (d + 11) Q rc rs 19 [some (.ref r), some (.int (nI (k))), some (.int (nI (i))), some (.int (nI (j)))] [.int (nI (0))] Mq103
      refine jn_if_eq (pc := 19) (tgt := 24) kR_sign_d19 (by decide) (by omega) (fun _ => ?_) (fun c => by exfalso; omega)
      obtain ⟨g0, eg0⟩ : ∃ g0, F (k + 1) = g0 := ⟨_, rfl⟩
      obtain ⟨u0, vg0, pg0, de0, E0, TE0, v30, Vg0, tg0, upg0, lowg0, Pg0, rkg0, hg0, g1, g2, g3, g4, g5, g6, g7, g8⟩ := (hPq103).fg (by decide) (show k + 1 < 9 by omega) (by omega)
      rw [e0, eg0] at hg0
      have hm : MX E0 TE0 Vg0 tg0 0 (σ.1 k) (σ.2.1 k) 3 (σ.2.2 k) := by
        rcases g8 with e | e
        · omega
        · rw [show k + 1 - 1 = k by omega] at e; exact e
      obtain ⟨hm1, hm2, hm3, hm4⟩ := id hm
      obtain ⟨l1, l2, l3, l4, l5, l6⟩ := hL k hk
      refine jj_aload_n (pc := 24) kR_sign_d24 rfl ?_
      refine jj_getf (pc := 25) kR_sign_d25 (kfR_store hG) (RPX.rr e0 e9 e10 e11 hPq103) rfl ?_
      refine jj_iload_n (pc := 28) kR_sign_d28 rfl ?_
      refine jj_aald (pc := 29) kR_sign_d29 (kG_t hG rfl) (RPX.ss e11 hPq103) rfl (by rw [List.length_map, List.length_range]; decide) (by rw [st_at hk, eg0]) ?_
      show jj G kR_sign (d + 11) Q rc rs 30 [some (.ref r), some (.int (nI (k))), some (.int (nI (i))), some (.int (nI (j)))] [.ref g0] Mq103
      refine jj_getf (pc := 30) kR_sign_d30 (kfR_RF_w hG) hg0.1.1 rfl ?_
      refine jj_aload_n (pc := 33) kR_sign_d33 rfl ?_
      refine jj_iload_n (pc := 34) kR_sign_d34 rfl ?_
      refine jj_iload_n (pc := 35) kR_sign_d35 rfl ?_
      refine jj_iload_n (pc := 36) kR_sign_d36 rfl ?_
      refine jn_iconst (pc := 37) 0 kR_sign_d37 (by decide) ?_
      refine jj_callV (pc := 38) (b := r) (As := [.int (nI (k)), .int (nI (i)), .int (nI (j)), .int (nI (0))]) kR_sign_d38 (kvR_R_half hG) (kG_cl hG rfl) rfl (RPX.rr e0 e9 e10 e11 hPq103) rfl rfl rfl (Nat.le_of_ble_eq_true rfl) (Nat.le_of_ble_eq_true rfl) (jj_bare0 rfl) ?_
      refine rm_halfU hG e0 e9 e10 e11 hPq103 hCq103 hL hk hi hj (show (nI 0 : Int32) = 0 from rfl) (fun g u vg pg de E TE v3 Vg tg upg lowg Pg rkg p eg hg g1 g2 g7 hI => ?_)
      show jj G kR_sign (d + 11) Q rc rs 41 [some (.ref r), some (.int (nI (k))), some (.int (nI (i))), some (.int (nI (j)))] [.int (nI (p)), .ref u0] Mq103
      rw [← eg, eg0] at hg
      have eu : u = u0 := by
        have h9 := hg.1.1
        rw [hg0.1.1] at h9
        simp only [Option.some.injEq, Prod.mk.injEq, List.cons.injEq, Value.ref.injEq] at h9
        exact h9.2.1.symm
      subst eu
      have hlI := hI.lt
      show jj G kR_sign (d + 11) Q rc rs 41 [some (.ref r), some (.int (nI (k))), some (.int (nI (i))), some (.int (nI (j)))] [.int (nI (p)), .ref u] Mq103
      refine jj_callV (pc := 41) (b := u) (As := [.int (nI (p))]) kR_sign_d41 (kvR_RW_sign hG) (kG_cl hG rfl) rfl hg.2.1 rfl rfl rfl (Nat.le_of_ble_eq_true rfl) (Nat.le_of_ble_eq_true rfl) (jj_bare0 rfl) ?_
      refine rw_sign hG hg.2.1 hg.2.2.1 (by omega) (by omega) ?_
      rw [hI.sgn (by omega)]
      show jj G kR_sign (d + 11) Q rc rs 44 [some (.ref r), some (.int (nI (k))), some (.int (nI (i))), some (.int (nI (j)))] [.int (sgnv (σ.2.2 k (i * σ.2.1 k + j)).num)] Mq103
      exact jj_iret (pc := 44) kR_sign_d44 rfl (by rfl) (K Mq103 0 _ rc rs (Or.inr ⟨k, i, j, hk, rfl, hi, rfl, hj, rfl, rfl, rfl⟩) (RT.cls hPq103 (by rw [e10, e0, e12, e13]; exact hOq103) hCA hRA (by rw [e0]; exact hCq103) hSq103 hX hT3 h1 htV hPL) hFq103)
  · skip
    show jj G kR_sign (d + 11) Q rc rs 8 [some (.ref r), some (.int (x)), some (.int (y)), some (.int (z))] [.int (nI (0)), .ref r] M
    refine jn_if_eq (pc := 8) (tgt := 15) kR_sign_d8 (by decide) (by omega) (fun _ => ?_) (fun c => by exfalso; omega)
    refine jn_iconst (pc := 15) 1 kR_sign_d15 (by decide) ?_
    have hP_q104 := hP
    have hO_q104 := hO
    refine jj_callV (pc := 16) (b := r) (As := [.int (nI (1))]) kR_sign_d16 (kvR_R_refuses hG) (kG_cl hG rfl) rfl (RPX.rr e0 e9 e10 e11 hP) rfl rfl rfl (Nat.le_of_ble_eq_true rfl) (Nat.le_of_ble_eq_true rfl) (jj_bare0 rfl) ?_
    refine rm_refuses (c := 1) hG (RPX.rr e0 e9 e10 e11 hP) (by omega) (fun hp => ?_) (fun hp => ?_)
    · skip
      obtain ⟨Mq104, hMq104⟩ : ∃ Mq104, Mq104 = jj_up M r (.inl nR, [.int (nI (1)), .ref f, .ref o, .ref st]) := ⟨_, rfl⟩
      rw [← hMq104]
      obtain ⟨hPq104, hOq104, hCq104, hSq104, hTq104⟩ := RPX.refuse (code' := nI (1)) (M' := Mq104) hP_q104 (by rw [e10, e0, e12, e13]; exact hO_q104) (by rw [e0]; exact hC) hS (by rw [hMq104, e0, e9, e10, e11])
      rw [e0] at hCq104
      rw [e10, e0, e12, e13] at hOq104
      have hFq104 := (RTF.refl M F).trans hTq104
      show jj G kR_sign (d + 11) Q rc rs 19 [some (.ref r), some (.int (x)), some (.int (y)), some (.int (z))] [.int (nI (1))] Mq104
      refine jn_if_eq (pc := 19) (tgt := 24) kR_sign_d19 (by decide) (by omega) (fun c => by exfalso; omega) (fun _ => ?_)
      refine jn_iconst (pc := 22) 0 kR_sign_d22 (by decide) ?_
      exact jj_iret (pc := 23) kR_sign_d23 rfl (by rfl) (K Mq104 1 0 rc rs (Or.inl ⟨hn, rfl, rfl⟩) (RT.cls hPq104 (by rw [e10, e0, e12, e13]; exact hOq104) hCA hRA (by rw [e0]; exact hCq104) hSq104 hX hT3 h1 htV hPL) hFq104)
    · skip
      exact absurd hp (by omega)
end RM15
