/-! ===== the reference: length, limb, same (printed by wip/gen/rm16.py) ===== -/
theorem RS.still {M : mheap} {u de : Nat} {E : List Int32} {TE : Nat} {v3 : Value} {rc rs : Nat} (h1 : M u = some (.inl nRW, [.ref de, .int (nI TE), v3])) (h2 : M de = some (.inr 0, E.map .int)) (hT : TE ≤ E.length) (hE : E.length < 16777216) (h0 : E.getD 0 0 = 0) (hp : 0 < TE) : RS M u E TE v3 E.length 0 0 rc rs :=
  ⟨⟨de, h1, h2⟩, ⟨0, by omega, hE, by omega, by omega, by unfold rpot; omega⟩, hT, h0, hp⟩
theorem i32_and1 (x : Int32) : (x &&& 1).toInt = x.toInt % 2 := by
  have h1 : (x &&& 1).toBitVec.toNat = x.toBitVec.toNat % 2 := by
    rw [Int32.toBitVec_and, BitVec.toNat_and]
    exact Nat.and_two_pow_sub_one_eq_mod x.toBitVec.toNat 1
  have h2 : x.toInt = x.toBitVec.toInt := rfl
  have h3 : (x &&& 1).toInt = (x &&& 1).toBitVec.toInt := rfl
  have hb : x.toBitVec.toNat < 2 ^ 32 := x.toBitVec.isLt
  rw [h2, h3, BitVec.toInt_eq_toNat_cond, BitVec.toInt_eq_toNat_cond, h1]
  split <;> split <;> omega
theorem nI_and1 {a : Nat} (h : a < 2 ^ 31) : nI a &&& nI 1 = nI (a % 2) := by
  refine nI_of_toInt ?_
  rw [show nI 1 = 1 from rfl, i32_and1, nI_toInt h]
  omega
theorem rnat_dig {D : List Int32} {x : Nat} : ∀ {n : Nat}, RD D x n → ∀ j, j < n → dv D (x + (j + 1)) = rnat D x n / 32768 ^ j % 32768
  | 0, _, j, h => absurd h (Nat.not_lt_zero _)
  | n + 1, h, j, hj => by
    have h1 := rnat_lt (h.less (Nat.le_succ n))
    have h2 := (h.dv (i := n + 1) (by omega) (Nat.le_refl _)).1
    show _ = (rnat D x n + dv D (x + (n + 1)) * 32768 ^ n) / 32768 ^ j % 32768
    by_cases c : j = n
    · subst c
      rw [Nat.add_mul_div_right _ _ (Nat.pow_pos (by decide)), Nat.div_eq_of_lt h1, Nat.zero_add, Nat.mod_eq_of_lt h2]
    · have hjn : j < n := by omega
      rw [rnat_dig (h.less (Nat.le_succ n)) j hjn]
      have e : (32768 : Nat) ^ n = 32768 ^ (n - j - 1) * 32768 * 32768 ^ j := by rw [← Nat.pow_succ, ← Nat.pow_add, show n - j - 1 + 1 + j = n by omega]
      rw [e, ← Nat.mul_assoc, Nat.add_mul_div_right _ _ (Nat.pow_pos (by decide)), ← Nat.mul_assoc, Nat.add_mul_mod_self_right]
/-- digits of a number in the work area -/
theorem RI.dig {D : List Int32} {T p : Nat} {z : Int} (h : RI D T p z) (hT : T < 2 ^ 31) : ∃ n, iabs (D.getD p 0) = nI n ∧ p + 1 + n ≤ T ∧ ∀ j, (if j < n then D.getD (p + 1 + j) 0 else 0) = nI (z.natAbs / 32768 ^ j % 32768) := by
  obtain ⟨n, ⟨x1, x1b⟩, x2, x3, x4, x5⟩ := id h
  refine ⟨n, nI_iabs (by omega) x2, by omega, fun j => ?_⟩
  by_cases c : j < n
  · rw [if_pos c, ← x5, ← rnat_dig x3 j c]
    have := (x3.dv (i := j + 1) (by omega) (by omega)).2
    rw [show p + 1 + j = p + (j + 1) by omega]
    exact this
  · rw [if_neg c, ← x5, Nat.div_eq_of_lt (Nat.lt_of_lt_of_le (rnat_lt x3) (Nat.pow_le_pow_right (by decide) (by omega)))]
    rfl
theorem bit_of (A t : Nat) : A / 32768 ^ (t / 15) % 32768 / 2 ^ (t % 15) % 2 = A / 2 ^ t % 2 := by
  have e1 : (32768 : Nat) ^ (t / 15) = 2 ^ (15 * (t / 15)) := by rw [Nat.pow_mul]
  have e2 : (32768 : Nat) = 2 ^ (t % 15) * 2 ^ (15 - t % 15) := by
    rw [← Nat.pow_add, show t % 15 + (15 - t % 15) = 15 by omega]
  have e3 : 2 ^ t = 2 ^ (15 * (t / 15)) * 2 ^ (t % 15) := by rw [← Nat.pow_add, Nat.div_add_mod]
  rw [e1, e3, ← Nat.div_div_eq_div_mul]
  generalize A / 2 ^ (15 * (t / 15)) = B
  have e4 : B % 32768 / 2 ^ (t % 15) = B / 2 ^ (t % 15) % 2 ^ (15 - t % 15) := by
    conv => lhs; rw [e2]
    exact Nat.mod_mul_right_div_self B (2 ^ (t % 15)) (2 ^ (15 - t % 15))
  rw [e4]
  have e5 : 2 ^ (15 - t % 15) = 2 * 2 ^ (14 - t % 15) := by rw [Nat.mul_comm, ← Nat.pow_succ, show (14 - t % 15).succ = 15 - t % 15 by omega]
  rw [e5, Nat.mod_mul_right_mod]
theorem limb_step (A n m : Nat) (hm : m < 32) : 2 * (A / 2 ^ (32 * n + (m + 1)) % 2 ^ (32 - (m + 1))) + A / 2 ^ (32 * n + m) % 2 = A / 2 ^ (32 * n + m) % 2 ^ (32 - m) := by
  have e1 : A / 2 ^ (32 * n + (m + 1)) = A / 2 ^ (32 * n + m) / 2 := by rw [← Nat.add_assoc, Nat.pow_succ, Nat.div_div_eq_div_mul]
  rw [e1]
  generalize A / 2 ^ (32 * n + m) = B
  have e2 : 2 ^ (32 - m) = 2 * 2 ^ (32 - (m + 1)) := by rw [Nat.mul_comm, ← Nat.pow_succ, show (32 - (m + 1)).succ = 32 - m by omega]
  rw [e2, Nat.mod_mul]
  omega
theorem nI_mod32 (a : Nat) : nI (a % 2 ^ 32) = nI a := by
  unfold nI
  apply Int32.toBitVec_inj.mp
  show BitVec.ofNat 32 (a % 2 ^ 32) = BitVec.ofNat 32 a
  exact BitVec.eq_of_toNat_eq (by simp)
theorem half_big {q : Rat} {b : Int32} {n : Nat} (h1 : ZB 267 q.num) (h2 : ZB 267 (q.den : Int)) (hn : 200 < n) : (halfv q b).natAbs / 2 ^ (32 * n) = 0 := by
  have h := halfv_lt (b := b) h1 h2
  unfold ZB at h
  rw [show (32768 : Nat) = 2 ^ 15 from rfl, ← Nat.pow_mul] at h
  exact Nat.div_eq_of_lt (Nat.lt_of_lt_of_le h (Nat.pow_le_pow_right (by decide) (by omega)))
section RM16
variable {G : jg} {d : Nat} {Q : jq} {rc rs : Nat} {M : mheap} {F : Nat → Nat} {r : Nat} {code : Int32} {σ : rst} {X Z : Nat}
theorem rp_length {x y z b : Int32} (hG : kG G) (e9 : F 9 = r) (hT : RT M F code σ X Z rc rs) (hL : LG σ)
    (K : ∀ M' cd (v : Nat) rc' rs', semLen σ x y z b cd v → RT M' F (nI cd) σ X Z rc' rs' → RTF M M' F → Q (.returned (some (.int (nI v)))) M' rc' rs') : jj G kR_length (d + 11) Q rc rs 0 (jj_ent [.ref r, .int x, .int y, .int z, .int b] 5) [] M := by
  obtain ⟨pt, zt, w, vv, pv, D, T, v2, V, t, up, low, P, rk, CA, RA, fi, se, X1, Z1, hP, hO, hCA, hRA, hC, hS, hX, hT3, h1, htV, hPL⟩ := hT.opn
  obtain ⟨f, e0⟩ : ∃ f, F 0 = f := ⟨_, rfl⟩
  obtain ⟨o, e10⟩ : ∃ o, F 10 = o := ⟨_, rfl⟩
  obtain ⟨st, e11⟩ : ∃ st, F 11 = st := ⟨_, rfl⟩
  obtain ⟨ca, e12⟩ : ∃ ca, F 12 = ca := ⟨_, rfl⟩
  obtain ⟨ra, e13⟩ : ∃ ra, F 13 = ra := ⟨_, rfl⟩
  rw [e10, e0, e12, e13] at hO
  rw [e0] at hC
  have hcap := hX.cap
  show jj G kR_length (d + 11) Q rc rs 0 [some (.ref r), some (.int (x)), some (.int (y)), some (.int (z)), some (.int (b))] [] M
  refine jj_aload_n (pc := 0) kR_length_d0 rfl ?_
  refine jj_aload_n (pc := 1) kR_length_d1 rfl ?_
  refine jj_iload_n (pc := 2) kR_length_d2 rfl ?_
  refine jj_iload_n (pc := 3) kR_length_d3 rfl ?_
  refine jj_iload_n (pc := 4) kR_length_d4 rfl ?_
  refine jj_callV (pc := 5) (b := r) (As := [.int (x), .int (y), .int (z)]) kR_length_d5 (kvR_R_isCell hG) (kG_cl hG rfl) rfl (RPX.rr e0 e9 e10 e11 hP) rfl rfl rfl (Nat.le_of_ble_eq_true rfl) (Nat.le_of_ble_eq_true rfl) (jj_bare0 rfl) ?_
  refine rm_isCell (x := x) (y := y) (z := z) hG e0 e9 e10 e11 hP hC hL (fun k i j hk ek hi ei hj ej => ?_) (fun hn => ?_)
  · skip
    subst ek ei ej
    obtain ⟨q1, q2, q3, q4, q5, q6⟩ := hL k hk
    show jj G kR_length (d + 11) Q rc rs 8 [some (.ref r), some (.int (nI (k))), some (.int (nI (i))), some (.int (nI (j))), some (.int (b))] [.int (nI (1)), .ref r] M
    refine jn_if_eq (pc := 8) (tgt := 15) kR_length_d8 (by decide) (by omega) (fun c => by exfalso; omega) (fun _ => ?_)
    refine jn_iconst (pc := 11) 0 kR_length_d11 (by decide) ?_
    refine jj_goto (pc := 12) (tgt := 16) kR_length_d12 (by decide) ?_
    have hP_q101 := hP
    have hO_q101 := hO
    refine jj_callV (pc := 16) (b := r) (As := [.int (nI (0))]) kR_length_d16 (kvR_R_refuses hG) (kG_cl hG rfl) rfl (RPX.rr e0 e9 e10 e11 hP) rfl rfl rfl (Nat.le_of_ble_eq_true rfl) (Nat.le_of_ble_eq_true rfl) (jj_bare0 rfl) ?_
    refine rm_refuses (c := 0) hG (RPX.rr e0 e9 e10 e11 hP) (by omega) (fun hp => ?_) (fun hp => ?_)
    · skip
      exact absurd hp (by omega)
    · skip
      obtain ⟨Mq101, hMq101⟩ : ∃ Mq101, Mq101 = jj_up M r (.inl nR, [.int (nI (0)), .ref f, .ref o, .ref st]) := ⟨_, rfl⟩
      rw [← hMq101]
      obtain ⟨hPq101, hOq101, hCq101, hSq101, hTq101⟩ := RPX.refuse (code' := nI (0)) (M' := Mq101) hP_q101 (by rw [e10, e0, e12, e13]; exact hO_q101) (by rw [e0]; exact hC) hS (by rw [hMq101, e0, e9, e10, e11])
      rw [e0] at hCq101
      rw [e10, e0, e12, e13] at hOq101
      have hFq101 := (RTF.refl M F).trans hTq101
      show jj G kR_length (d + 11) Q rc rs 19 [some (.ref r), some (.int (nI (k))), some (.int (nI (i))), some (.int (nI (j))), some (.int (b))] [.int (nI (0))] Mq101
      refine jn_if_eq (pc := 19) (tgt := 24) kR_length_d19 (by decide) (by omega) (fun _ => ?_) (fun c => by exfalso; omega)
      obtain ⟨g0, eg0⟩ : ∃ g0, F (k + 1) = g0 := ⟨_, rfl⟩
      obtain ⟨u0, vg0, pg0, de0, E0, TE0, v30, Vg0, tg0, upg0, lowg0, Pg0, rkg0, hg0, g1, g2, g3, g4, g5, g6, g7, g8⟩ := (hPq101).fg (by decide) (show k + 1 < 9 by omega) (by omega)
      rw [e0, eg0] at hg0
      have hm : MX E0 TE0 Vg0 tg0 0 (σ.1 k) (σ.2.1 k) 3 (σ.2.2 k) := by
        rcases g8 with e | e
        · omega
        · rw [show k + 1 - 1 = k by omega] at e; exact e
      obtain ⟨hm1, hm2, hm3, hm4⟩ := id hm
      obtain ⟨l1, l2, l3, l4, l5, l6⟩ := hL k hk
      refine jj_aload_n (pc := 24) kR_length_d24 rfl ?_
      refine jj_getf (pc := 25) kR_length_d25 (kfR_store hG) (RPX.rr e0 e9 e10 e11 hPq101) rfl ?_
      refine jj_iload_n (pc := 28) kR_length_d28 rfl ?_
      refine jj_aald (pc := 29) kR_length_d29 (kG_t hG rfl) (RPX.ss e11 hPq101) rfl (by rw [List.length_map, List.length_range]; decide) (by rw [st_at hk, eg0]) ?_
      show jj G kR_length (d + 11) Q rc rs 30 [some (.ref r), some (.int (nI (k))), some (.int (nI (i))), some (.int (nI (j))), some (.int (b))] [.ref g0] Mq101
      refine jj_getf (pc := 30) kR_length_d30 (kfR_RF_w hG) hg0.1.1 rfl ?_
      refine jj_aload_n (pc := 33) kR_length_d33 rfl ?_
      refine jj_iload_n (pc := 34) kR_length_d34 rfl ?_
      refine jj_iload_n (pc := 35) kR_length_d35 rfl ?_
      refine jj_iload_n (pc := 36) kR_length_d36 rfl ?_
      refine jj_iload (pc := 37) kR_length_d37 rfl ?_
      rcases Decidable.em (b = 0) with hb0 | hb0
      · skip
        refine jj_callV (pc := 39) (b := r) (As := [.int (nI (k)), .int (nI (i)), .int (nI (j)), .int (b)]) kR_length_d39 (kvR_R_half hG) (kG_cl hG rfl) rfl (RPX.rr e0 e9 e10 e11 hPq101) rfl rfl rfl (Nat.le_of_ble_eq_true rfl) (Nat.le_of_ble_eq_true rfl) (jj_bare0 rfl) ?_
        refine rm_halfU hG e0 e9 e10 e11 hPq101 hCq101 hL hk hi hj hb0 (fun g u vg pg de E TE v3 Vg tg upg lowg Pg rkg p eg hg g1 g2 g7 hI => ?_)
        show jj G kR_length (d + 11) Q rc rs 42 [some (.ref r), some (.int (nI (k))), some (.int (nI (i))), some (.int (nI (j))), some (.int (b))] [.int (nI (p)), .ref u0] Mq101
        rw [← eg, eg0] at hg
        have eu : u = u0 := by
          have h9 := hg.1.1
          rw [hg0.1.1] at h9
          simp only [Option.some.injEq, Prod.mk.injEq, List.cons.injEq, Value.ref.injEq] at h9
          exact h9.2.1.symm
        subst eu
        have hlI := hI.lt
        have hv0 : halfv (σ.2.2 k (i * σ.2.1 k + j)) b = (σ.2.2 k (i * σ.2.1 k + j)).num := if_pos hb0
        rw [← hv0] at hI
        show jj G kR_length (d + 11) Q rc rs 42 [some (.ref r), some (.int (nI (k))), some (.int (nI (i))), some (.int (nI (j))), some (.int (b))] [.int (nI (p)), .ref u] Mq101
        refine jj_callV (pc := 42) (b := u) (As := [.int (nI (p))]) kR_length_d42 (kvR_RW_length hG) (kG_cl hG rfl) rfl hg.2.1 rfl rfl rfl (Nat.le_of_ble_eq_true rfl) (Nat.le_of_ble_eq_true rfl) (jj_bare0 rfl) ?_
        refine ri_length hG (RS.still hg.2.1 hg.2.2.1 g1 g2 g7 (by omega)) hI (fun L hL0 hL1 => ?_)
        show jj G kR_length (d + 11) Q rc rs 45 [some (.ref r), some (.int (nI (k))), some (.int (nI (i))), some (.int (nI (j))), some (.int (b))] [.int (nI (L))] Mq101
        have hLe := blen_eq hL0 hL1
        exact jj_iret (pc := 45) kR_length_d45 rfl (by rfl) (K Mq101 0 L rc rs (Or.inr ⟨k, i, j, hk, rfl, hi, rfl, hj, rfl, rfl, hLe⟩) (RT.cls hPq101 (by rw [e10, e0, e12, e13]; exact hOq101) hCA hRA (by rw [e0]; exact hCq101) hSq101 hX hT3 h1 htV hPL) hFq101)
      · skip
        refine jj_callV (pc := 39) (b := r) (As := [.int (nI (k)), .int (nI (i)), .int (nI (j)), .int (b)]) kR_length_d39 (kvR_R_half hG) (kG_cl hG rfl) rfl (RPX.rr e0 e9 e10 e11 hPq101) rfl rfl rfl (Nat.le_of_ble_eq_true rfl) (Nat.le_of_ble_eq_true rfl) (jj_bare0 rfl) ?_
        refine rm_halfL hG e0 e9 e10 e11 hPq101 hCq101 hL hk hi hj hb0 (fun g u vg pg de E TE v3 Vg tg upg lowg Pg rkg p eg hg g1 g2 g7 hI => ?_)
        show jj G kR_length (d + 11) Q rc rs 42 [some (.ref r), some (.int (nI (k))), some (.int (nI (i))), some (.int (nI (j))), some (.int (b))] [.int (nI (p)), .ref u0] Mq101
        rw [← eg, eg0] at hg
        have eu : u = u0 := by
          have h9 := hg.1.1
          rw [hg0.1.1] at h9
          simp only [Option.some.injEq, Prod.mk.injEq, List.cons.injEq, Value.ref.injEq] at h9
          exact h9.2.1.symm
        subst eu
        have hlI := hI.lt
        have hv0 : halfv (σ.2.2 k (i * σ.2.1 k + j)) b = ((σ.2.2 k (i * σ.2.1 k + j)).den : Int) := if_neg hb0
        rw [← hv0] at hI
        show jj G kR_length (d + 11) Q rc rs 42 [some (.ref r), some (.int (nI (k))), some (.int (nI (i))), some (.int (nI (j))), some (.int (b))] [.int (nI (p)), .ref u] Mq101
        refine jj_callV (pc := 42) (b := u) (As := [.int (nI (p))]) kR_length_d42 (kvR_RW_length hG) (kG_cl hG rfl) rfl hg.2.1 rfl rfl rfl (Nat.le_of_ble_eq_true rfl) (Nat.le_of_ble_eq_true rfl) (jj_bare0 rfl) ?_
        refine ri_length hG (RS.still hg.2.1 hg.2.2.1 g1 g2 g7 (by omega)) hI (fun L hL0 hL1 => ?_)
        show jj G kR_length (d + 11) Q rc rs 45 [some (.ref r), some (.int (nI (k))), some (.int (nI (i))), some (.int (nI (j))), some (.int (b))] [.int (nI (L))] Mq101
        have hLe := blen_eq hL0 hL1
        exact jj_iret (pc := 45) kR_length_d45 rfl (by rfl) (K Mq101 0 L rc rs (Or.inr ⟨k, i, j, hk, rfl, hi, rfl, hj, rfl, rfl, hLe⟩) (RT.cls hPq101 (by rw [e10, e0, e12, e13]; exact hOq101) hCA hRA (by rw [e0]; exact hCq101) hSq101 hX hT3 h1 htV hPL) hFq101)
  · skip
    show jj G kR_length (d + 11) Q rc rs 8 [some (.ref r), some (.int (x)), some (.int (y)), some (.int (z)), some (.int (b))] [.int (nI (0)), .ref r] M
    refine jn_if_eq (pc := 8) (tgt := 15) kR_length_d8 (by decide) (by omega) (fun _ => ?_) (fun c => by exfalso; omega)
    refine jn_iconst (pc := 15) 1 kR_length_d15 (by decide) ?_
    have hP_q102 := hP
    have hO_q102 := hO
    refine jj_callV (pc := 16) (b := r) (As := [.int (nI (1))]) kR_length_d16 (kvR_R_refuses hG) (kG_cl hG rfl) rfl (RPX.rr e0 e9 e10 e11 hP) rfl rfl rfl (Nat.le_of_ble_eq_true rfl) (Nat.le_of_ble_eq_true rfl) (jj_bare0 rfl) ?_
    refine rm_refuses (c := 1) hG (RPX.rr e0 e9 e10 e11 hP) (by omega) (fun hp => ?_) (fun hp => ?_)
    · skip
      obtain ⟨Mq102, hMq102⟩ : ∃ Mq102, Mq102 = jj_up M r (.inl nR, [.int (nI (1)), .ref f, .ref o, .ref st]) := ⟨_, rfl⟩
      rw [← hMq102]
      obtain ⟨hPq102, hOq102, hCq102, hSq102, hTq102⟩ := RPX.refuse (code' := nI (1)) (M' := Mq102) hP_q102 (by rw [e10, e0, e12, e13]; exact hO_q102) (by rw [e0]; exact hC) hS (by rw [hMq102, e0, e9, e10, e11])
      rw [e0] at hCq102
      rw [e10, e0, e12, e13] at hOq102
      have hFq102 := (RTF.refl M F).trans hTq102
      show jj G kR_length (d + 11) Q rc rs 19 [some (.ref r), some (.int (x)), some (.int (y)), some (.int (z)), some (.int (b))] [.int (nI (1))] Mq102
      refine jn_if_eq (pc := 19) (tgt := 24) kR_length_d19 (by decide) (by omega) (fun c => by exfalso; omega) (fun _ => ?_)
      refine jn_iconst (pc := 22) 0 kR_length_d22 (by decide) ?_
      exact jj_iret (pc := 23) kR_length_d23 rfl (by rfl) (K Mq102 1 0 rc rs (Or.inl ⟨hn, rfl, rfl⟩) (RT.cls hPq102 (by rw [e10, e0, e12, e13]; exact hOq102) hCA hRA (by rw [e0]; exact hCq102) hSq102 hX hT3 h1 htV hPL) hFq102)
    · skip
      exact absurd hp (by omega)
theorem rp_limb {x y z b l : Int32} (hG : kG G) (e9 : F 9 = r) (hT : RT M F code σ X Z rc rs) (hL : LG σ)
    (K : ∀ M' cd (v : Int32) rc' rs', semLimb σ x y z b l cd v → RT M' F (nI cd) σ X Z rc' rs' → RTF M M' F → Q (.returned (some (.int v))) M' rc' rs') : jj G kR_limb (d + 11) Q rc rs 0 (jj_ent [.ref r, .int x, .int y, .int z, .int b, .int l] 11) [] M := by
  obtain ⟨pt, zt, w, vv, pv, D, T, v2, V, t, up, low, P, rk, CA, RA, fi, se, X1, Z1, hP, hO, hCA, hRA, hC, hS, hX, hT3, h1, htV, hPL⟩ := hT.opn
  obtain ⟨f, e0⟩ : ∃ f, F 0 = f := ⟨_, rfl⟩
  obtain ⟨o, e10⟩ : ∃ o, F 10 = o := ⟨_, rfl⟩
  obtain ⟨st, e11⟩ : ∃ st, F 11 = st := ⟨_, rfl⟩
  obtain ⟨ca, e12⟩ : ∃ ca, F 12 = ca := ⟨_, rfl⟩
  obtain ⟨ra, e13⟩ : ∃ ra, F 13 = ra := ⟨_, rfl⟩
  rw [e10, e0, e12, e13] at hO
  rw [e0] at hC
  have hcap := hX.cap
  show jj G kR_limb (d + 11) Q rc rs 0 [some (.ref r), some (.int (x)), some (.int (y)), some (.int (z)), some (.int (b)), some (.int (l)), none, none, none, none, none] [] M
  refine jj_aload_n (pc := 0) kR_limb_d0 rfl ?_
  refine jj_aload_n (pc := 1) kR_limb_d1 rfl ?_
  refine jj_iload_n (pc := 2) kR_limb_d2 rfl ?_
  refine jj_iload_n (pc := 3) kR_limb_d3 rfl ?_
  refine jj_iload_n (pc := 4) kR_limb_d4 rfl ?_
  refine jj_callV (pc := 5) (b := r) (As := [.int (x), .int (y), .int (z)]) kR_limb_d5 (kvR_R_isCell hG) (kG_cl hG rfl) rfl (RPX.rr e0 e9 e10 e11 hP) rfl rfl rfl (Nat.le_of_ble_eq_true rfl) (Nat.le_of_ble_eq_true rfl) (jj_bare0 rfl) ?_
  refine rm_isCell (x := x) (y := y) (z := z) hG e0 e9 e10 e11 hP hC hL (fun k i j hk ek hi ei hj ej => ?_) (fun hn => ?_)
  · skip
    subst ek ei ej
    obtain ⟨q1, q2, q3, q4, q5, q6⟩ := hL k hk
    show jj G kR_limb (d + 11) Q rc rs 8 [some (.ref r), some (.int (nI (k))), some (.int (nI (i))), some (.int (nI (j))), some (.int (b)), some (.int (l)), none, none, none, none, none] [.int (nI (1)), .ref r] M
    refine jn_if_eq (pc := 8) (tgt := 20) kR_limb_d8 (by decide) (by omega) (fun c => by exfalso; omega) (fun _ => ?_)
    refine jj_iload (pc := 11) kR_limb_d11 rfl ?_
    refine jj_if_lt (pc := 13) (tgt := 20) kR_limb_d13 (by decide) (fun c0 => ?_) (fun c0 => ?_)
    · skip
      refine jn_iconst (pc := 20) 1 kR_limb_d20 (by decide) ?_
      have hP_q103 := hP
      have hO_q103 := hO
      refine jj_callV (pc := 21) (b := r) (As := [.int (nI (1))]) kR_limb_d21 (kvR_R_refuses hG) (kG_cl hG rfl) rfl (RPX.rr e0 e9 e10 e11 hP) rfl rfl rfl (Nat.le_of_ble_eq_true rfl) (Nat.le_of_ble_eq_true rfl) (jj_bare0 rfl) ?_
      refine rm_refuses (c := 1) hG (RPX.rr e0 e9 e10 e11 hP) (by omega) (fun hp => ?_) (fun hp => ?_)
      · skip
        obtain ⟨Mq103, hMq103⟩ : ∃ Mq103, Mq103 = jj_up M r (.inl nR, [.int (nI (1)), .ref f, .ref o, .ref st]) := ⟨_, rfl⟩
        rw [← hMq103]
        obtain ⟨hPq103, hOq103, hCq103, hSq103, hTq103⟩ := RPX.refuse (code' := nI (1)) (M' := Mq103) hP_q103 (by rw [e10, e0, e12, e13]; exact hO_q103) (by rw [e0]; exact hC) hS (by rw [hMq103, e0, e9, e10, e11])
        rw [e0] at hCq103
        rw [e10, e0, e12, e13] at hOq103
        have hFq103 := (RTF.refl M F).trans hTq103
        show jj G kR_limb (d + 11) Q rc rs 24 [some (.ref r), some (.int (nI (k))), some (.int (nI (i))), some (.int (nI (j))), some (.int (b)), some (.int (l)), none, none, none, none, none] [.int (nI (1))] Mq103
        refine jn_if_eq (pc := 24) (tgt := 29) kR_limb_d24 (by decide) (by omega) (fun c => by exfalso; omega) (fun _ => ?_)
        refine jn_iconst (pc := 27) 0 kR_limb_d27 (by decide) ?_
        exact jj_iret (pc := 28) kR_limb_d28 rfl (by rfl) (K Mq103 1 0 rc rs (Or.inl ⟨fun h => h.2 c0, rfl, rfl⟩) (RT.cls hPq103 (by rw [e10, e0, e12, e13]; exact hOq103) hCA hRA (by rw [e0]; exact hCq103) hSq103 hX hT3 h1 htV hPL) hFq103)
      · skip
        exact absurd hp (by omega)
    · skip
      obtain ⟨n, hn, en⟩ := nI_of c0
      subst en
      show jj G kR_limb (d + 11) Q rc rs 16 [some (.ref r), some (.int (nI (k))), some (.int (nI (i))), some (.int (nI (j))), some (.int (b)), some (.int (nI (n))), none, none, none, none, none] [.ref r] M
      refine jn_iconst (pc := 16) 0 kR_limb_d16 (by decide) ?_
      refine jj_goto (pc := 17) (tgt := 21) kR_limb_d17 (by decide) ?_
      have hP_q104 := hP
      have hO_q104 := hO
      refine jj_callV (pc := 21) (b := r) (As := [.int (nI (0))]) kR_limb_d21 (kvR_R_refuses hG) (kG_cl hG rfl) rfl (RPX.rr e0 e9 e10 e11 hP) rfl rfl rfl (Nat.le_of_ble_eq_true rfl) (Nat.le_of_ble_eq_true rfl) (jj_bare0 rfl) ?_
      refine rm_refuses (c := 0) hG (RPX.rr e0 e9 e10 e11 hP) (by omega) (fun hp => ?_) (fun hp => ?_)
      · skip
        exact absurd hp (by omega)
      · skip
        obtain ⟨Mq104, hMq104⟩ : ∃ Mq104, Mq104 = jj_up M r (.inl nR, [.int (nI (0)), .ref f, .ref o, .ref st]) := ⟨_, rfl⟩
        rw [← hMq104]
        obtain ⟨hPq104, hOq104, hCq104, hSq104, hTq104⟩ := RPX.refuse (code' := nI (0)) (M' := Mq104) hP_q104 (by rw [e10, e0, e12, e13]; exact hO_q104) (by rw [e0]; exact hC) hS (by rw [hMq104, e0, e9, e10, e11])
        rw [e0] at hCq104
        rw [e10, e0, e12, e13] at hOq104
        have hFq104 := (RTF.refl M F).trans hTq104
        show jj G kR_limb (d + 11) Q rc rs 24 [some (.ref r), some (.int (nI (k))), some (.int (nI (i))), some (.int (nI (j))), some (.int (b)), some (.int (nI (n))), none, none, none, none, none] [.int (nI (0))] Mq104
        refine jn_if_eq (pc := 24) (tgt := 29) kR_limb_d24 (by decide) (by omega) (fun _ => ?_) (fun c => by exfalso; omega)
        obtain ⟨g0, eg0⟩ : ∃ g0, F (k + 1) = g0 := ⟨_, rfl⟩
        obtain ⟨u0, vg0, pg0, de0, E0, TE0, v30, Vg0, tg0, upg0, lowg0, Pg0, rkg0, hg0, g1, g2, g3, g4, g5, g6, g7, g8⟩ := (hPq104).fg (by decide) (show k + 1 < 9 by omega) (by omega)
        rw [e0, eg0] at hg0
        have hm : MX E0 TE0 Vg0 tg0 0 (σ.1 k) (σ.2.1 k) 3 (σ.2.2 k) := by
          rcases g8 with e | e
          · omega
          · rw [show k + 1 - 1 = k by omega] at e; exact e
        obtain ⟨hm1, hm2, hm3, hm4⟩ := id hm
        obtain ⟨l1, l2, l3, l4, l5, l6⟩ := hL k hk
        refine jj_aload_n (pc := 29) kR_limb_d29 rfl ?_
        refine jj_getf (pc := 30) kR_limb_d30 (kfR_store hG) (RPX.rr e0 e9 e10 e11 hPq104) rfl ?_
        refine jj_iload_n (pc := 33) kR_limb_d33 rfl ?_
        refine jj_aald (pc := 34) kR_limb_d34 (kG_t hG rfl) (RPX.ss e11 hPq104) rfl (by rw [List.length_map, List.length_range]; decide) (by rw [st_at hk, eg0]) ?_
        show jj G kR_limb (d + 11) Q rc rs 35 [some (.ref r), some (.int (nI (k))), some (.int (nI (i))), some (.int (nI (j))), some (.int (b)), some (.int (nI (n))), none, none, none, none, none] [.ref g0] Mq104
        refine jj_getf (pc := 35) kR_limb_d35 (kfR_RF_w hG) hg0.1.1 rfl ?_
        refine jj_astore (pc := 38) kR_limb_d38 (Nat.le_of_ble_eq_true rfl) ?_
        refine jj_aload_n (pc := 40) kR_limb_d40 rfl ?_
        refine jj_iload_n (pc := 41) kR_limb_d41 rfl ?_
        refine jj_iload_n (pc := 42) kR_limb_d42 rfl ?_
        refine jj_iload_n (pc := 43) kR_limb_d43 rfl ?_
        refine jj_iload (pc := 44) kR_limb_d44 rfl ?_
        rcases Decidable.em (b = 0) with hb0 | hb0
        · skip
          refine jj_callV (pc := 46) (b := r) (As := [.int (nI (k)), .int (nI (i)), .int (nI (j)), .int (b)]) kR_limb_d46 (kvR_R_half hG) (kG_cl hG rfl) rfl (RPX.rr e0 e9 e10 e11 hPq104) rfl rfl rfl (Nat.le_of_ble_eq_true rfl) (Nat.le_of_ble_eq_true rfl) (jj_bare0 rfl) ?_
          refine rm_halfU hG e0 e9 e10 e11 hPq104 hCq104 hL hk hi hj hb0 (fun g u vg pg de E TE v3 Vg tg upg lowg Pg rkg p eg hg g1 g2 g7 hI => ?_)
          show jj G kR_limb (d + 11) Q rc rs 49 [some (.ref r), some (.int (nI (k))), some (.int (nI (i))), some (.int (nI (j))), some (.int (b)), some (.int (nI (n))), some (.ref u0), none, none, none, none] [.int (nI (p))] Mq104
          rw [← eg, eg0] at hg
          have eu : u = u0 := by
            have h9 := hg.1.1
            rw [hg0.1.1] at h9
            simp only [Option.some.injEq, Prod.mk.injEq, List.cons.injEq, Value.ref.injEq] at h9
            exact h9.2.1.symm
          subst eu
          have hlI := hI.lt
          have hv0 : halfv (σ.2.2 k (i * σ.2.1 k + j)) b = (σ.2.2 k (i * σ.2.1 k + j)).num := if_pos hb0
          rw [← hv0] at hI
          show jj G kR_limb (d + 11) Q rc rs 49 [some (.ref r), some (.int (nI (k))), some (.int (nI (i))), some (.int (nI (j))), some (.int (b)), some (.int (nI (n))), some (.ref u), none, none, none, none] [.int (nI (p))] Mq104
          obtain ⟨s1, s2, -⟩ := fit_sizes q5 (cell_lt hi hj)
          obtain ⟨A, hA⟩ : ∃ A, (halfv (σ.2.2 k (i * σ.2.1 k + j)) b).natAbs = A := ⟨_, rfl⟩
          have hbig : 200 < n → A / 2 ^ (32 * n) = 0 := fun h => by rw [← hA]; exact half_big s1 s2 h
          obtain ⟨nd, d1, d2, d3⟩ := hI.dig (by omega)
          rw [hA] at d3
          refine jj_istore (pc := 49) kR_limb_d49 (Nat.le_of_ble_eq_true rfl) ?_
          refine jj_iload (pc := 51) kR_limb_d51 rfl ?_
          refine jn_sipush (pc := 53) 200 kR_limb_d53 (by decide) ?_
          refine jn_icmp_le (pc := 56) (tgt := 61) kR_limb_d56 (by decide) (by omega) (by omega) (fun c5 => ?_) (fun c5 => ?_)
          · skip
            refine jn_iconst (pc := 61) 0 kR_limb_d61 (by decide) ?_
            refine jj_istore (pc := 62) kR_limb_d62 (Nat.le_of_ble_eq_true rfl) ?_
            show jj G kR_limb (d + 11) Q rc rs 64 [some (.ref r), some (.int (nI (k))), some (.int (nI (i))), some (.int (nI (j))), some (.int (b)), some (.int (nI (n))), some (.ref u), some (.int (nI (p))), some (.int (nI (0))), none, none] [] Mq104
            refine jn_bipush (pc := 64) 31 kR_limb_d64 (by decide) ?_
            refine jj_istore (pc := 66) kR_limb_d66 (Nat.le_of_ble_eq_true rfl) ?_
            show jj G kR_limb (d + 11) Q rc rs 68 [some (.ref r), some (.int (nI (k))), some (.int (nI (i))), some (.int (nI (j))), some (.int (b)), some (.int (nI (n))), some (.ref u), some (.int (nI (p))), some (.int (nI (0))), some (.int (nI (31))), none] [] Mq104
            have loop : ∀ m, m ≤ 32 → ∀ (v : Nat) (o10 : Option Value), v = A / 2 ^ (32 * n + m) % 2 ^ (32 - m) → jj G kR_limb (d + 11) Q rc rs 68 [some (.ref r), some (.int (nI (k))), some (.int (nI (i))), some (.int (nI (j))), some (.int (b)), some (.int (nI (n))), some (.ref u), some (.int (nI (p))), some (.int (nI (v))), some (.int (zI (((m : Nat) : Int) - 1))), (o10)] [] Mq104 := by
              intro m
              induction m with
              | zero =>
                intro hm v o10 hv
                show jj G kR_limb (d + 11) Q rc rs 68 [some (.ref r), some (.int (nI (k))), some (.int (nI (i))), some (.int (nI (j))), some (.int (b)), some (.int (nI (n))), some (.ref u), some (.int (nI (p))), some (.int (nI (v))), some (.int (zI (-1))), (o10)] [] Mq104
                refine jj_iload (pc := 68) kR_limb_d68 rfl ?_
                refine jz_if_lt (pc := 70) (tgt := 116) (a := -1) kR_limb_d70 (by decide) rfl (by omega) (by omega) (fun _ => ?_) (fun c => by exfalso; omega)
                refine jj_iload (pc := 116) kR_limb_d116 rfl ?_
                rw [Nat.add_zero, show 32 - 0 = 32 from rfl] at hv
                refine jn_top (.int (nI (A / 2 ^ (32 * n)))) (by rw [hv, nI_mod32]) ?_
                exact jj_iret (pc := 118) kR_limb_d118 rfl (by rfl) (K Mq104 0 _ rc rs (Or.inr ⟨k, i, j, n, hk, rfl, hi, rfl, hj, rfl, hn, rfl, rfl, by rw [hA]⟩) (RT.cls hPq104 (by rw [e10, e0, e12, e13]; exact hOq104) hCA hRA (by rw [e0]; exact hCq104) hSq104 hX hT3 h1 htV hPL) hFq104)
              | succ m ih =>
                intro hm v o10 hv
                refine jj_eq (L' := [some (.ref r), some (.int (nI (k))), some (.int (nI (i))), some (.int (nI (j))), some (.int (b)), some (.int (nI (n))), some (.ref u), some (.int (nI (p))), some (.int (nI (v))), some (.int (nI (m))), (o10)]) rfl (by rw [show ((m + 1 : Nat) : Int) - 1 = (m : Int) by omega, zI_nat]) rfl rfl ?_
                show jj G kR_limb (d + 11) Q rc rs 68 [some (.ref r), some (.int (nI (k))), some (.int (nI (i))), some (.int (nI (j))), some (.int (b)), some (.int (nI (n))), some (.ref u), some (.int (nI (p))), some (.int (nI (v))), some (.int (nI (m))), (o10)] [] Mq104
                refine jj_iload (pc := 68) kR_limb_d68 rfl ?_
                refine jz_if_lt (pc := 70) (tgt := 116) (a := ((m : Nat) : Int)) kR_limb_d70 (by decide) (zI_nat _).symm (by omega) (by omega) (fun c => by exfalso; omega) (fun _ => ?_)
                refine jn_bipush (pc := 73) 32 kR_limb_d73 (by decide) ?_
                refine jj_iload (pc := 75) kR_limb_d75 rfl ?_
                refine jn_imul (pc := 77) (32 * n) kR_limb_d77 (by omega) ?_
                refine jj_iload (pc := 78) kR_limb_d78 rfl ?_
                refine jn_iadd (pc := 80) (32 * n + m) kR_limb_d80 (by omega) ?_
                refine jj_istore (pc := 81) kR_limb_d81 (Nat.le_of_ble_eq_true rfl) ?_
                refine jn_iconst (pc := 83) 2 kR_limb_d83 (by decide) ?_
                refine jj_iload (pc := 84) kR_limb_d84 rfl ?_
                refine jn_imul (pc := 86) (2 * v) kR_limb_d86 (by omega) ?_
                refine jj_aload (pc := 87) kR_limb_d87 rfl ?_
                refine jj_iload (pc := 89) kR_limb_d89 rfl ?_
                refine jj_iload (pc := 91) kR_limb_d91 rfl ?_
                refine jn_bipush (pc := 93) 15 kR_limb_d93 (by decide) ?_
                refine jn_idiv (pc := 95) ((32 * n + m) / 15) kR_limb_d95 (by omega) (by omega) (by omega) rfl ?_
                refine jj_callV (pc := 96) (b := u) (As := [.int (nI (p)), .int (nI ((32 * n + m) / 15))]) kR_limb_d96 (kvR_RW_digit hG) (kG_cl hG rfl) rfl hg.2.1 rfl rfl rfl (Nat.le_of_ble_eq_true rfl) (Nat.le_of_ble_eq_true rfl) (jj_bare0 rfl) ?_
                refine rw_digit (n := nd) hG hg.2.1 hg.2.2.1 (by omega) (by omega) d1 (by omega) (by omega) ?_
                show jj G kR_limb (d + 11) Q rc rs 99 [some (.ref r), some (.int (nI (k))), some (.int (nI (i))), some (.int (nI (j))), some (.int (b)), some (.int (nI (n))), some (.ref u), some (.int (nI (p))), some (.int (nI (v))), some (.int (nI (m))), some (.int (nI (32 * n + m)))] [.int (if (32 * n + m) / 15 < nd then E.getD (p + 1 + (32 * n + m) / 15) 0 else 0), .int (nI (2 * v))] Mq104
                refine jn_top (.int (nI (A / 32768 ^ ((32 * n + m) / 15) % 32768))) (by rw [d3]) ?_
                obtain ⟨dg, hdg⟩ : ∃ dg, A / 32768 ^ ((32 * n + m) / 15) % 32768 = dg := ⟨_, rfl⟩
                have hdl : dg < 32768 := by rw [← hdg]; exact Nat.mod_lt _ (by decide)
                obtain ⟨sh, hsh⟩ : ∃ sh, dg / 2 ^ ((32 * n + m) % 15) = sh := ⟨_, rfl⟩
                have hsl : sh ≤ dg := by rw [← hsh]; exact Nat.div_le_self _ _
                obtain ⟨bt, hbt⟩ : ∃ bt, sh % 2 = bt := ⟨_, rfl⟩
                refine jn_top (.int (nI (dg))) (by rw [hdg]) ?_
                refine jj_iload (pc := 99) kR_limb_d99 rfl ?_
                refine jn_bipush (pc := 101) 15 kR_limb_d101 (by decide) ?_
                refine jn_irem (pc := 103) ((32 * n + m) % 15) kR_limb_d103 (by omega) (by omega) (by omega) rfl ?_
                refine jj_ishr (pc := 104) kR_limb_d104 ?_
                refine jn_top (.int (nI (sh))) (by rw [i32_shr (by omega) (by omega), hsh]) ?_
                refine jn_iconst (pc := 105) 1 kR_limb_d105 (by decide) ?_
                refine jj_iand (pc := 106) kR_limb_d106 ?_
                refine jn_top (.int (nI (bt))) (by rw [nI_and1 (by omega), hbt]) ?_
                refine jn_iadd (pc := 107) (2 * v + bt) kR_limb_d107 (by omega) ?_
                refine jj_istore (pc := 108) kR_limb_d108 (Nat.le_of_ble_eq_true rfl) ?_
                refine jz_iinc (pc := 110) (((m : Nat) : Int) - 1) kR_limb_d110 rfl ((zI_nat _).symm) (by omega) ?_
                refine jj_goto (pc := 113) (tgt := 68) kR_limb_d113 (by decide) ?_
                show jj G kR_limb (d + 11) Q rc rs 68 [some (.ref r), some (.int (nI (k))), some (.int (nI (i))), some (.int (nI (j))), some (.int (b)), some (.int (nI (n))), some (.ref u), some (.int (nI (p))), some (.int (nI (2 * v + bt))), some (.int (zI (((m : Nat) : Int) - 1))), some (.int (nI (32 * n + m)))] [] Mq104
                exact ih (by omega) _ _ (by
                    rw [hv, ← limb_step A n m (by omega), ← bit_of, hdg, hsh, hbt])
            exact loop 32 (by omega) 0 none (by rw [show 32 - 32 = 0 from rfl, Nat.pow_zero, Nat.mod_one])
          · skip
            refine jn_iconst (pc := 59) 0 kR_limb_d59 (by decide) ?_
            exact jj_iret (pc := 60) kR_limb_d60 rfl (by rfl) (K Mq104 0 _ rc rs (Or.inr ⟨k, i, j, n, hk, rfl, hi, rfl, hj, rfl, hn, rfl, rfl, by rw [hA, hbig c5]⟩) (RT.cls hPq104 (by rw [e10, e0, e12, e13]; exact hOq104) hCA hRA (by rw [e0]; exact hCq104) hSq104 hX hT3 h1 htV hPL) hFq104)
        · skip
          refine jj_callV (pc := 46) (b := r) (As := [.int (nI (k)), .int (nI (i)), .int (nI (j)), .int (b)]) kR_limb_d46 (kvR_R_half hG) (kG_cl hG rfl) rfl (RPX.rr e0 e9 e10 e11 hPq104) rfl rfl rfl (Nat.le_of_ble_eq_true rfl) (Nat.le_of_ble_eq_true rfl) (jj_bare0 rfl) ?_
          refine rm_halfL hG e0 e9 e10 e11 hPq104 hCq104 hL hk hi hj hb0 (fun g u vg pg de E TE v3 Vg tg upg lowg Pg rkg p eg hg g1 g2 g7 hI => ?_)
          show jj G kR_limb (d + 11) Q rc rs 49 [some (.ref r), some (.int (nI (k))), some (.int (nI (i))), some (.int (nI (j))), some (.int (b)), some (.int (nI (n))), some (.ref u0), none, none, none, none] [.int (nI (p))] Mq104
          rw [← eg, eg0] at hg
          have eu : u = u0 := by
            have h9 := hg.1.1
            rw [hg0.1.1] at h9
            simp only [Option.some.injEq, Prod.mk.injEq, List.cons.injEq, Value.ref.injEq] at h9
            exact h9.2.1.symm
          subst eu
          have hlI := hI.lt
          have hv0 : halfv (σ.2.2 k (i * σ.2.1 k + j)) b = ((σ.2.2 k (i * σ.2.1 k + j)).den : Int) := if_neg hb0
          rw [← hv0] at hI
          show jj G kR_limb (d + 11) Q rc rs 49 [some (.ref r), some (.int (nI (k))), some (.int (nI (i))), some (.int (nI (j))), some (.int (b)), some (.int (nI (n))), some (.ref u), none, none, none, none] [.int (nI (p))] Mq104
          obtain ⟨s1, s2, -⟩ := fit_sizes q5 (cell_lt hi hj)
          obtain ⟨A, hA⟩ : ∃ A, (halfv (σ.2.2 k (i * σ.2.1 k + j)) b).natAbs = A := ⟨_, rfl⟩
          have hbig : 200 < n → A / 2 ^ (32 * n) = 0 := fun h => by rw [← hA]; exact half_big s1 s2 h
          obtain ⟨nd, d1, d2, d3⟩ := hI.dig (by omega)
          rw [hA] at d3
          refine jj_istore (pc := 49) kR_limb_d49 (Nat.le_of_ble_eq_true rfl) ?_
          refine jj_iload (pc := 51) kR_limb_d51 rfl ?_
          refine jn_sipush (pc := 53) 200 kR_limb_d53 (by decide) ?_
          refine jn_icmp_le (pc := 56) (tgt := 61) kR_limb_d56 (by decide) (by omega) (by omega) (fun c5 => ?_) (fun c5 => ?_)
          · skip
            refine jn_iconst (pc := 61) 0 kR_limb_d61 (by decide) ?_
            refine jj_istore (pc := 62) kR_limb_d62 (Nat.le_of_ble_eq_true rfl) ?_
            show jj G kR_limb (d + 11) Q rc rs 64 [some (.ref r), some (.int (nI (k))), some (.int (nI (i))), some (.int (nI (j))), some (.int (b)), some (.int (nI (n))), some (.ref u), some (.int (nI (p))), some (.int (nI (0))), none, none] [] Mq104
            refine jn_bipush (pc := 64) 31 kR_limb_d64 (by decide) ?_
            refine jj_istore (pc := 66) kR_limb_d66 (Nat.le_of_ble_eq_true rfl) ?_
            show jj G kR_limb (d + 11) Q rc rs 68 [some (.ref r), some (.int (nI (k))), some (.int (nI (i))), some (.int (nI (j))), some (.int (b)), some (.int (nI (n))), some (.ref u), some (.int (nI (p))), some (.int (nI (0))), some (.int (nI (31))), none] [] Mq104
            have loop : ∀ m, m ≤ 32 → ∀ (v : Nat) (o10 : Option Value), v = A / 2 ^ (32 * n + m) % 2 ^ (32 - m) → jj G kR_limb (d + 11) Q rc rs 68 [some (.ref r), some (.int (nI (k))), some (.int (nI (i))), some (.int (nI (j))), some (.int (b)), some (.int (nI (n))), some (.ref u), some (.int (nI (p))), some (.int (nI (v))), some (.int (zI (((m : Nat) : Int) - 1))), (o10)] [] Mq104 := by
              intro m
              induction m with
              | zero =>
                intro hm v o10 hv
                show jj G kR_limb (d + 11) Q rc rs 68 [some (.ref r), some (.int (nI (k))), some (.int (nI (i))), some (.int (nI (j))), some (.int (b)), some (.int (nI (n))), some (.ref u), some (.int (nI (p))), some (.int (nI (v))), some (.int (zI (-1))), (o10)] [] Mq104
                refine jj_iload (pc := 68) kR_limb_d68 rfl ?_
                refine jz_if_lt (pc := 70) (tgt := 116) (a := -1) kR_limb_d70 (by decide) rfl (by omega) (by omega) (fun _ => ?_) (fun c => by exfalso; omega)
                refine jj_iload (pc := 116) kR_limb_d116 rfl ?_
                rw [Nat.add_zero, show 32 - 0 = 32 from rfl] at hv
                refine jn_top (.int (nI (A / 2 ^ (32 * n)))) (by rw [hv, nI_mod32]) ?_
                exact jj_iret (pc := 118) kR_limb_d118 rfl (by rfl) (K Mq104 0 _ rc rs (Or.inr ⟨k, i, j, n, hk, rfl, hi, rfl, hj, rfl, hn, rfl, rfl, by rw [hA]⟩) (RT.cls hPq104 (by rw [e10, e0, e12, e13]; exact hOq104) hCA hRA (by rw [e0]; exact hCq104) hSq104 hX hT3 h1 htV hPL) hFq104)
              | succ m ih =>
                intro hm v o10 hv
                refine jj_eq (L' := [some (.ref r), some (.int (nI (k))), some (.int (nI (i))), some (.int (nI (j))), some (.int (b)), some (.int (nI (n))), some (.ref u), some (.int (nI (p))), some (.int (nI (v))), some (.int (nI (m))), (o10)]) rfl (by rw [show ((m + 1 : Nat) : Int) - 1 = (m : Int) by omega, zI_nat]) rfl rfl ?_
                show jj G kR_limb (d + 11) Q rc rs 68 [some (.ref r), some (.int (nI (k))), some (.int (nI (i))), some (.int (nI (j))), some (.int (b)), some (.int (nI (n))), some (.ref u), some (.int (nI (p))), some (.int (nI (v))), some (.int (nI (m))), (o10)] [] Mq104
                refine jj_iload (pc := 68) kR_limb_d68 rfl ?_
                refine jz_if_lt (pc := 70) (tgt := 116) (a := ((m : Nat) : Int)) kR_limb_d70 (by decide) (zI_nat _).symm (by omega) (by omega) (fun c => by exfalso; omega) (fun _ => ?_)
                refine jn_bipush (pc := 73) 32 kR_limb_d73 (by decide) ?_
                refine jj_iload (pc := 75) kR_limb_d75 rfl ?_
                refine jn_imul (pc := 77) (32 * n) kR_limb_d77 (by omega) ?_
                refine jj_iload (pc := 78) kR_limb_d78 rfl ?_
                refine jn_iadd (pc := 80) (32 * n + m) kR_limb_d80 (by omega) ?_
                refine jj_istore (pc := 81) kR_limb_d81 (Nat.le_of_ble_eq_true rfl) ?_
                refine jn_iconst (pc := 83) 2 kR_limb_d83 (by decide) ?_
                refine jj_iload (pc := 84) kR_limb_d84 rfl ?_
                refine jn_imul (pc := 86) (2 * v) kR_limb_d86 (by omega) ?_
                refine jj_aload (pc := 87) kR_limb_d87 rfl ?_
                refine jj_iload (pc := 89) kR_limb_d89 rfl ?_
                refine jj_iload (pc := 91) kR_limb_d91 rfl ?_
                refine jn_bipush (pc := 93) 15 kR_limb_d93 (by decide) ?_
                refine jn_idiv (pc := 95) ((32 * n + m) / 15) kR_limb_d95 (by omega) (by omega) (by omega) rfl ?_
                refine jj_callV (pc := 96) (b := u) (As := [.int (nI (p)), .int (nI ((32 * n + m) / 15))]) kR_limb_d96 (kvR_RW_digit hG) (kG_cl hG rfl) rfl hg.2.1 rfl rfl rfl (Nat.le_of_ble_eq_true rfl) (Nat.le_of_ble_eq_true rfl) (jj_bare0 rfl) ?_
                refine rw_digit (n := nd) hG hg.2.1 hg.2.2.1 (by omega) (by omega) d1 (by omega) (by omega) ?_
                show jj G kR_limb (d + 11) Q rc rs 99 [some (.ref r), some (.int (nI (k))), some (.int (nI (i))), some (.int (nI (j))), some (.int (b)), some (.int (nI (n))), some (.ref u), some (.int (nI (p))), some (.int (nI (v))), some (.int (nI (m))), some (.int (nI (32 * n + m)))] [.int (if (32 * n + m) / 15 < nd then E.getD (p + 1 + (32 * n + m) / 15) 0 else 0), .int (nI (2 * v))] Mq104
                refine jn_top (.int (nI (A / 32768 ^ ((32 * n + m) / 15) % 32768))) (by rw [d3]) ?_
                obtain ⟨dg, hdg⟩ : ∃ dg, A / 32768 ^ ((32 * n + m) / 15) % 32768 = dg := ⟨_, rfl⟩
                have hdl : dg < 32768 := by rw [← hdg]; exact Nat.mod_lt _ (by decide)
                obtain ⟨sh, hsh⟩ : ∃ sh, dg / 2 ^ ((32 * n + m) % 15) = sh := ⟨_, rfl⟩
                have hsl : sh ≤ dg := by rw [← hsh]; exact Nat.div_le_self _ _
                obtain ⟨bt, hbt⟩ : ∃ bt, sh % 2 = bt := ⟨_, rfl⟩
                refine jn_top (.int (nI (dg))) (by rw [hdg]) ?_
                refine jj_iload (pc := 99) kR_limb_d99 rfl ?_
                refine jn_bipush (pc := 101) 15 kR_limb_d101 (by decide) ?_
                refine jn_irem (pc := 103) ((32 * n + m) % 15) kR_limb_d103 (by omega) (by omega) (by omega) rfl ?_
                refine jj_ishr (pc := 104) kR_limb_d104 ?_
                refine jn_top (.int (nI (sh))) (by rw [i32_shr (by omega) (by omega), hsh]) ?_
                refine jn_iconst (pc := 105) 1 kR_limb_d105 (by decide) ?_
                refine jj_iand (pc := 106) kR_limb_d106 ?_
                refine jn_top (.int (nI (bt))) (by rw [nI_and1 (by omega), hbt]) ?_
                refine jn_iadd (pc := 107) (2 * v + bt) kR_limb_d107 (by omega) ?_
                refine jj_istore (pc := 108) kR_limb_d108 (Nat.le_of_ble_eq_true rfl) ?_
                refine jz_iinc (pc := 110) (((m : Nat) : Int) - 1) kR_limb_d110 rfl ((zI_nat _).symm) (by omega) ?_
                refine jj_goto (pc := 113) (tgt := 68) kR_limb_d113 (by decide) ?_
                show jj G kR_limb (d + 11) Q rc rs 68 [some (.ref r), some (.int (nI (k))), some (.int (nI (i))), some (.int (nI (j))), some (.int (b)), some (.int (nI (n))), some (.ref u), some (.int (nI (p))), some (.int (nI (2 * v + bt))), some (.int (zI (((m : Nat) : Int) - 1))), some (.int (nI (32 * n + m)))] [] Mq104
                exact ih (by omega) _ _ (by
                    rw [hv, ← limb_step A n m (by omega), ← bit_of, hdg, hsh, hbt])
            exact loop 32 (by omega) 0 none (by rw [show 32 - 32 = 0 from rfl, Nat.pow_zero, Nat.mod_one])
          · skip
            refine jn_iconst (pc := 59) 0 kR_limb_d59 (by decide) ?_
            exact jj_iret (pc := 60) kR_limb_d60 rfl (by rfl) (K Mq104 0 _ rc rs (Or.inr ⟨k, i, j, n, hk, rfl, hi, rfl, hj, rfl, hn, rfl, rfl, by rw [hA, hbig c5]⟩) (RT.cls hPq104 (by rw [e10, e0, e12, e13]; exact hOq104) hCA hRA (by rw [e0]; exact hCq104) hSq104 hX hT3 h1 htV hPL) hFq104)
  · skip
    show jj G kR_limb (d + 11) Q rc rs 8 [some (.ref r), some (.int (x)), some (.int (y)), some (.int (z)), some (.int (b)), some (.int (l)), none, none, none, none, none] [.int (nI (0)), .ref r] M
    refine jn_if_eq (pc := 8) (tgt := 20) kR_limb_d8 (by decide) (by omega) (fun _ => ?_) (fun c => by exfalso; omega)
    refine jn_iconst (pc := 20) 1 kR_limb_d20 (by decide) ?_
    have hP_q105 := hP
    have hO_q105 := hO
    refine jj_callV (pc := 21) (b := r) (As := [.int (nI (1))]) kR_limb_d21 (kvR_R_refuses hG) (kG_cl hG rfl) rfl (RPX.rr e0 e9 e10 e11 hP) rfl rfl rfl (Nat.le_of_ble_eq_true rfl) (Nat.le_of_ble_eq_true rfl) (jj_bare0 rfl) ?_
    refine rm_refuses (c := 1) hG (RPX.rr e0 e9 e10 e11 hP) (by omega) (fun hp => ?_) (fun hp => ?_)
    · skip
      obtain ⟨Mq105, hMq105⟩ : ∃ Mq105, Mq105 = jj_up M r (.inl nR, [.int (nI (1)), .ref f, .ref o, .ref st]) := ⟨_, rfl⟩
      rw [← hMq105]
      obtain ⟨hPq105, hOq105, hCq105, hSq105, hTq105⟩ := RPX.refuse (code' := nI (1)) (M' := Mq105) hP_q105 (by rw [e10, e0, e12, e13]; exact hO_q105) (by rw [e0]; exact hC) hS (by rw [hMq105, e0, e9, e10, e11])
      rw [e0] at hCq105
      rw [e10, e0, e12, e13] at hOq105
      have hFq105 := (RTF.refl M F).trans hTq105
      show jj G kR_limb (d + 11) Q rc rs 24 [some (.ref r), some (.int (x)), some (.int (y)), some (.int (z)), some (.int (b)), some (.int (l)), none, none, none, none, none] [.int (nI (1))] Mq105
      refine jn_if_eq (pc := 24) (tgt := 29) kR_limb_d24 (by decide) (by omega) (fun c => by exfalso; omega) (fun _ => ?_)
      refine jn_iconst (pc := 27) 0 kR_limb_d27 (by decide) ?_
      exact jj_iret (pc := 28) kR_limb_d28 rfl (by rfl) (K Mq105 1 0 rc rs (Or.inl ⟨fun h => hn h.1, rfl, rfl⟩) (RT.cls hPq105 (by rw [e10, e0, e12, e13]; exact hOq105) hCA hRA (by rw [e0]; exact hCq105) hSq105 hX hT3 h1 htV hPL) hFq105)
    · skip
      exact absurd hp (by omega)
theorem rp_same {x y : Int32} (hG : kG G) (e9 : F 9 = r) (hT : RT M F code σ X Z rc rs) (hL : LG σ)
    (K : ∀ M' cd (v : Nat) rc' rs', semSame σ x y cd v → RT M' F (nI cd) σ X Z rc' rs' → RTF M M' F → Q (.returned (some (.int (nI v)))) M' rc' rs') : jj G kR_same (d + 11) Q rc rs 0 (jj_ent [.ref r, .int x, .int y] 4) [] M := by
  obtain ⟨pt, zt, w, vv, pv, D, T, v2, V, t, up, low, P, rk, CA, RA, fi, se, X1, Z1, hP, hO, hCA, hRA, hC, hS, hX, hT3, h1, htV, hPL⟩ := hT.opn
  obtain ⟨f, e0⟩ : ∃ f, F 0 = f := ⟨_, rfl⟩
  obtain ⟨o, e10⟩ : ∃ o, F 10 = o := ⟨_, rfl⟩
  obtain ⟨st, e11⟩ : ∃ st, F 11 = st := ⟨_, rfl⟩
  obtain ⟨ca, e12⟩ : ∃ ca, F 12 = ca := ⟨_, rfl⟩
  obtain ⟨ra, e13⟩ : ∃ ra, F 13 = ra := ⟨_, rfl⟩
  rw [e10, e0, e12, e13] at hO
  rw [e0] at hC
  have hcap := hX.cap
  show jj G kR_same (d + 11) Q rc rs 0 [some (.ref r), some (.int (x)), some (.int (y)), none] [] M
  refine jj_aload_n (pc := 0) kR_same_d0 rfl ?_
  refine jj_iload_n (pc := 1) kR_same_d1 rfl ?_
  refine jj_callS (pc := 2) (As := [.int (x)]) kR_same_d2 (kvR_R_isRegister hG) rfl rfl rfl (Nat.le_of_ble_eq_true rfl) (Nat.le_of_ble_eq_true rfl) (jj_bare0 rfl) ?_
  refine rm_isRegister (fun k hk ek => ?_) (fun hn => ?_)
  · skip
    subst ek
    show jj G kR_same (d + 11) Q rc rs 5 [some (.ref r), some (.int (nI (k))), some (.int (y)), none] [.int (nI (1)), .ref r] M
    refine jn_if_eq (pc := 5) (tgt := 19) kR_same_d5 (by decide) (by omega) (fun c => by exfalso; omega) (fun _ => ?_)
    refine jj_iload_n (pc := 8) kR_same_d8 rfl ?_
    refine jj_callS (pc := 9) (As := [.int (y)]) kR_same_d9 (kvR_R_isRegister hG) rfl rfl rfl (Nat.le_of_ble_eq_true rfl) (Nat.le_of_ble_eq_true rfl) (jj_bare0 rfl) ?_
    refine rm_isRegister (fun i hi ei => ?_) (fun hn => ?_)
    · skip
      subst ei
      show jj G kR_same (d + 11) Q rc rs 12 [some (.ref r), some (.int (nI (k))), some (.int (nI (i))), none] [.int (nI (1)), .ref r] M
      refine jn_if_eq (pc := 12) (tgt := 19) kR_same_d12 (by decide) (by omega) (fun c => by exfalso; omega) (fun _ => ?_)
      refine jn_iconst (pc := 15) 0 kR_same_d15 (by decide) ?_
      refine jj_goto (pc := 16) (tgt := 20) kR_same_d16 (by decide) ?_
      have hP_q106 := hP
      have hO_q106 := hO
      refine jj_callV (pc := 20) (b := r) (As := [.int (nI (0))]) kR_same_d20 (kvR_R_refuses hG) (kG_cl hG rfl) rfl (RPX.rr e0 e9 e10 e11 hP) rfl rfl rfl (Nat.le_of_ble_eq_true rfl) (Nat.le_of_ble_eq_true rfl) (jj_bare0 rfl) ?_
      refine rm_refuses (c := 0) hG (RPX.rr e0 e9 e10 e11 hP) (by omega) (fun hp => ?_) (fun hp => ?_)
      · skip
        exact absurd hp (by omega)
      · skip
        obtain ⟨Mq106, hMq106⟩ : ∃ Mq106, Mq106 = jj_up M r (.inl nR, [.int (nI (0)), .ref f, .ref o, .ref st]) := ⟨_, rfl⟩
        rw [← hMq106]
        obtain ⟨hPq106, hOq106, hCq106, hSq106, hTq106⟩ := RPX.refuse (code' := nI (0)) (M' := Mq106) hP_q106 (by rw [e10, e0, e12, e13]; exact hO_q106) (by rw [e0]; exact hC) hS (by rw [hMq106, e0, e9, e10, e11])
        rw [e0] at hCq106
        rw [e10, e0, e12, e13] at hOq106
        have hFq106 := (RTF.refl M F).trans hTq106
        show jj G kR_same (d + 11) Q rc rs 23 [some (.ref r), some (.int (nI (k))), some (.int (nI (i))), none] [.int (nI (0))] Mq106
        refine jn_if_eq (pc := 23) (tgt := 28) kR_same_d23 (by decide) (by omega) (fun _ => ?_) (fun c => by exfalso; omega)
        refine jj_aload_n (pc := 28) kR_same_d28 rfl ?_
        refine jj_callV (pc := 29) (b := r) (As := []) kR_same_d29 (kvR_R_begin hG) (kG_cl hG rfl) rfl (RPX.rr e0 e9 e10 e11 hPq106) rfl rfl rfl (Nat.le_of_ble_eq_true rfl) (Nat.le_of_ble_eq_true rfl) (jj_bare0 rfl) ?_
        refine rm_begin hG e0 e9 e10 e11 hPq106 hCq106 hSq106 hT3 (fun Mb107 hCb107 hSb107 hFb107 => ?_)
        show jj G kR_same (d + 11) Q rc rs 32 [some (.ref r), some (.int (nI (k))), some (.int (nI (i))), none] [] Mb107
        have hGb107 := (FF.refl Mq106 f).trans hFb107
        refine jj_aload_n (pc := 32) kR_same_d32 rfl ?_
        refine jj_iload_n (pc := 33) kR_same_d33 rfl ?_
        refine jj_callV (pc := 34) (b := r) (As := [.int (nI (k))]) kR_same_d34 (kvR_R_load hG) (kG_cl hG rfl) rfl (RPX.rr e0 e9 e10 e11 (hPq106.ffe e0 hGb107)) rfl rfl rfl (Nat.le_of_ble_eq_true rfl) (Nat.le_of_ble_eq_true rfl) (jj_bare0 rfl) ?_
        refine rm_load hG e0 e9 e10 e11 (hPq106.ffe e0 hGb107) hCb107 hSb107 hX (Nat.zero_le _) h1 (Nat.le_refl 3) hL hk (by omega) (by omega) (fun Ml108 vv Dl108 Tl108 Vl108 upl108 lowl108 Xl108 Zl108 vl108 rcl108 rsl108 hCl108 hSl108 hXl108 tl108 ul108 hol108 hvl108 hll108 hFl108 hml108 => ?_)
        show jj G kR_same (d + 11) Q rcl108 rsl108 37 [some (.ref r), some (.int (nI (k))), some (.int (nI (i))), none] [.int (nI (0))] Ml108
        obtain ⟨l1l108, l2l108, l3l108, l4l108, l5l108, l6l108⟩ := hL k hk
        obtain ⟨nl108, hnl108⟩ : ∃ nl108, σ.1 k * σ.2.1 k = nl108 := ⟨_, rfl⟩
        have hbl108 : nl108 ≤ 16 * 16 := by rw [← hnl108]; exact Nat.mul_le_mul l3l108 l4l108
        obtain ⟨ttl108, httl108⟩ : ∃ ttl108, 0 + 2 + 2 * nl108 = ttl108 := ⟨_, rfl⟩
        rw [hnl108, httl108] at hCl108 hll108 hml108
        obtain ⟨ldl108, hldl108⟩ : ∃ ldl108, ldS (σ.2.2 k) (σ.1 k * σ.2.1 k) = ldl108 := ⟨_, rfl⟩
        have hlbl108 : ldl108 ≤ 137216 := by rw [← hldl108]; exact ldS_fit l5l108 (by omega)
        rw [hldl108] at ul108
        have hGl108 := hGb107.trans hFl108
        have hcapl108 := hXl108.cap
        have hsl108 : ∀ k', k' < σ.1 k * σ.2.1 k → ZB 267 (σ.2.2 k k').num ∧ ZB 267 ((σ.2.2 k k').den : Int) := fun k' h => ⟨(fit_sizes l5l108 h).1, (fit_sizes l5l108 h).2.1⟩
        have h1l108 : RI Dl108 3 1 1 := h1.congr (Nat.le_refl _) (fun i hi => hol108 i (by omega))
        have hT3l108 : 3 ≤ Tl108 := by omega
        refine jj_istore_n (pc := 37) kR_same_d37 (Nat.le_of_ble_eq_true rfl) ?_
        refine jj_aload_n (pc := 38) kR_same_d38 rfl ?_
        refine jj_getf (pc := 39) kR_same_d39 (kfR_f hG) (RPX.rr e0 e9 e10 e11 (hPq106.ffe e0 hGl108)) rfl ?_
        refine jj_iload_n (pc := 42) kR_same_d42 rfl ?_
        refine jj_aload_n (pc := 43) kR_same_d43 rfl ?_
        refine jj_iload_n (pc := 44) kR_same_d44 rfl ?_
        refine jj_callV (pc := 45) (b := r) (As := [.int (nI (i))]) kR_same_d45 (kvR_R_load hG) (kG_cl hG rfl) rfl (RPX.rr e0 e9 e10 e11 (hPq106.ffe e0 hGl108)) rfl rfl rfl (Nat.le_of_ble_eq_true rfl) (Nat.le_of_ble_eq_true rfl) (jj_bare0 rfl) ?_
        refine rm_load hG e0 e9 e10 e11 (hPq106.ffe e0 hGl108) hCl108 hSl108 hXl108 hll108 h1l108 hT3l108 hL hi (by omega) (by omega) (fun Ml109 vv Dl109 Tl109 Vl109 upl109 lowl109 Xl109 Zl109 vl109 rcl109 rsl109 hCl109 hSl109 hXl109 tl109 ul109 hol109 hvl109 hll109 hFl109 hml109 => ?_)
        show jj G kR_same (d + 11) Q rcl109 rsl109 48 [some (.ref r), some (.int (nI (k))), some (.int (nI (i))), some (.int (nI (0)))] [.int (nI (ttl108)), .int (nI (0)), .ref f] Ml109
        obtain ⟨l1l109, l2l109, l3l109, l4l109, l5l109, l6l109⟩ := hL i hi
        obtain ⟨nl109, hnl109⟩ : ∃ nl109, σ.1 i * σ.2.1 i = nl109 := ⟨_, rfl⟩
        have hbl109 : nl109 ≤ 16 * 16 := by rw [← hnl109]; exact Nat.mul_le_mul l3l109 l4l109
        obtain ⟨ttl109, httl109⟩ : ∃ ttl109, ttl108 + 2 + 2 * nl109 = ttl109 := ⟨_, rfl⟩
        rw [hnl109, httl109] at hCl109 hll109 hml109
        obtain ⟨ldl109, hldl109⟩ : ∃ ldl109, ldS (σ.2.2 i) (σ.1 i * σ.2.1 i) = ldl109 := ⟨_, rfl⟩
        have hlbl109 : ldl109 ≤ 137216 := by rw [← hldl109]; exact ldS_fit l5l109 (by omega)
        rw [hldl109] at ul109
        have hGl109 := hGl108.trans hFl109
        have hcapl109 := hXl109.cap
        have hsl109 : ∀ k', k' < σ.1 i * σ.2.1 i → ZB 267 (σ.2.2 i k').num ∧ ZB 267 ((σ.2.2 i k').den : Int) := fun k' h => ⟨(fit_sizes l5l109 h).1, (fit_sizes l5l109 h).2.1⟩
        have h1l109 : RI Dl109 3 1 1 := h1l108.congr (Nat.le_refl _) (fun i hi => hol109 i (by omega))
        have hT3l109 : 3 ≤ Tl109 := by omega
        have hA := hml108.congr (lo' := 3) tl109 hol109 (show ttl108 ≤ ttl109 by omega) hvl109 (Nat.le_refl _)
        have hB := hml109
        refine jj_callV (pc := 48) (b := f) (As := [.int (nI (0)), .int (nI (ttl108))]) kR_same_d48 (kvR_RF_isSame hG) (kG_cl hG rfl) rfl hCl109.1 rfl rfl rfl (Nat.le_of_ble_eq_true rfl) (Nat.le_of_ble_eq_true rfl) (jj_bare0 rfl) ?_
        refine rf_isSame (qa := σ.2.2 k) (qb := σ.2.2 i) (loa := 3) (lob := Tl108) hG hCl109 hSl109 (by omega) hll109 hA hB (by rw [hnl108]; omega) (by omega) (by omega) (by omega) (by omega) (fun hs => ?_) (fun hs => ?_)
        · skip
          show jj G kR_same (d + 11) Q rcl109 rsl109 51 [some (.ref r), some (.int (nI (k))), some (.int (nI (i))), some (.int (nI (0)))] [.int (nI (1))] Ml109
          exact jj_iret (pc := 51) kR_same_d51 rfl (by rfl) (K Ml109 0 1 rcl109 rsl109 (Or.inr ⟨k, i, hk, rfl, hi, rfl, rfl, by decide, ⟨fun _ => hs, fun _ => rfl⟩⟩) (RT.cls (hPq106.ffe e0 hGl109) (by rw [e10, e0, e12, e13]; exact (hOq106.ff hGl109)) hCA hRA (by rw [e0]; exact hCl109) hSl109 hXl109 hT3l109 h1l109 hll109 hPL) (hFq106.trans (RPX.rte e0 hPq106 hGl109)))
        · skip
          show jj G kR_same (d + 11) Q rcl109 rsl109 51 [some (.ref r), some (.int (nI (k))), some (.int (nI (i))), some (.int (nI (0)))] [.int (nI (0))] Ml109
          exact jj_iret (pc := 51) kR_same_d51 rfl (by rfl) (K Ml109 0 0 rcl109 rsl109 (Or.inr ⟨k, i, hk, rfl, hi, rfl, rfl, by decide, ⟨fun e => absurd e (by decide), fun h => absurd h hs⟩⟩) (RT.cls (hPq106.ffe e0 hGl109) (by rw [e10, e0, e12, e13]; exact (hOq106.ff hGl109)) hCA hRA (by rw [e0]; exact hCl109) hSl109 hXl109 hT3l109 h1l109 hll109 hPL) (hFq106.trans (RPX.rte e0 hPq106 hGl109)))
    · skip
      show jj G kR_same (d + 11) Q rc rs 12 [some (.ref r), some (.int (nI (k))), some (.int (y)), none] [.int (nI (0)), .ref r] M
      refine jn_if_eq (pc := 12) (tgt := 19) kR_same_d12 (by decide) (by omega) (fun _ => ?_) (fun c => by exfalso; omega)
      refine jn_iconst (pc := 19) 1 kR_same_d19 (by decide) ?_
      have hP_q110 := hP
      have hO_q110 := hO
      refine jj_callV (pc := 20) (b := r) (As := [.int (nI (1))]) kR_same_d20 (kvR_R_refuses hG) (kG_cl hG rfl) rfl (RPX.rr e0 e9 e10 e11 hP) rfl rfl rfl (Nat.le_of_ble_eq_true rfl) (Nat.le_of_ble_eq_true rfl) (jj_bare0 rfl) ?_
      refine rm_refuses (c := 1) hG (RPX.rr e0 e9 e10 e11 hP) (by omega) (fun hp => ?_) (fun hp => ?_)
      · skip
        obtain ⟨Mq110, hMq110⟩ : ∃ Mq110, Mq110 = jj_up M r (.inl nR, [.int (nI (1)), .ref f, .ref o, .ref st]) := ⟨_, rfl⟩
        rw [← hMq110]
        obtain ⟨hPq110, hOq110, hCq110, hSq110, hTq110⟩ := RPX.refuse (code' := nI (1)) (M' := Mq110) hP_q110 (by rw [e10, e0, e12, e13]; exact hO_q110) (by rw [e0]; exact hC) hS (by rw [hMq110, e0, e9, e10, e11])
        rw [e0] at hCq110
        rw [e10, e0, e12, e13] at hOq110
        have hFq110 := (RTF.refl M F).trans hTq110
        show jj G kR_same (d + 11) Q rc rs 23 [some (.ref r), some (.int (nI (k))), some (.int (y)), none] [.int (nI (1))] Mq110
        refine jn_if_eq (pc := 23) (tgt := 28) kR_same_d23 (by decide) (by omega) (fun c => by exfalso; omega) (fun _ => ?_)
        refine jn_iconst (pc := 26) 0 kR_same_d26 (by decide) ?_
        exact jj_iret (pc := 27) kR_same_d27 rfl (by rfl) (K Mq110 1 0 rc rs (Or.inl ⟨fun h => hn h.2, rfl, rfl⟩) (RT.cls hPq110 (by rw [e10, e0, e12, e13]; exact hOq110) hCA hRA (by rw [e0]; exact hCq110) hSq110 hX hT3 h1 htV hPL) hFq110)
      · skip
        exact absurd hp (by omega)
  · skip
    show jj G kR_same (d + 11) Q rc rs 5 [some (.ref r), some (.int (x)), some (.int (y)), none] [.int (nI (0)), .ref r] M
    refine jn_if_eq (pc := 5) (tgt := 19) kR_same_d5 (by decide) (by omega) (fun _ => ?_) (fun c => by exfalso; omega)
    refine jn_iconst (pc := 19) 1 kR_same_d19 (by decide) ?_
    have hP_q111 := hP
    have hO_q111 := hO
    refine jj_callV (pc := 20) (b := r) (As := [.int (nI (1))]) kR_same_d20 (kvR_R_refuses hG) (kG_cl hG rfl) rfl (RPX.rr e0 e9 e10 e11 hP) rfl rfl rfl (Nat.le_of_ble_eq_true rfl) (Nat.le_of_ble_eq_true rfl) (jj_bare0 rfl) ?_
    refine rm_refuses (c := 1) hG (RPX.rr e0 e9 e10 e11 hP) (by omega) (fun hp => ?_) (fun hp => ?_)
    · skip
      obtain ⟨Mq111, hMq111⟩ : ∃ Mq111, Mq111 = jj_up M r (.inl nR, [.int (nI (1)), .ref f, .ref o, .ref st]) := ⟨_, rfl⟩
      rw [← hMq111]
      obtain ⟨hPq111, hOq111, hCq111, hSq111, hTq111⟩ := RPX.refuse (code' := nI (1)) (M' := Mq111) hP_q111 (by rw [e10, e0, e12, e13]; exact hO_q111) (by rw [e0]; exact hC) hS (by rw [hMq111, e0, e9, e10, e11])
      rw [e0] at hCq111
      rw [e10, e0, e12, e13] at hOq111
      have hFq111 := (RTF.refl M F).trans hTq111
      show jj G kR_same (d + 11) Q rc rs 23 [some (.ref r), some (.int (x)), some (.int (y)), none] [.int (nI (1))] Mq111
      refine jn_if_eq (pc := 23) (tgt := 28) kR_same_d23 (by decide) (by omega) (fun c => by exfalso; omega) (fun _ => ?_)
      refine jn_iconst (pc := 26) 0 kR_same_d26 (by decide) ?_
      exact jj_iret (pc := 27) kR_same_d27 rfl (by rfl) (K Mq111 1 0 rc rs (Or.inl ⟨fun h => hn h.1, rfl, rfl⟩) (RT.cls hPq111 (by rw [e10, e0, e12, e13]; exact hOq111) hCA hRA (by rw [e0]; exact hCq111) hSq111 hX hT3 h1 htV hPL) hFq111)
    · skip
      exact absurd hp (by omega)
end RM16
