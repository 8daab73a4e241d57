/-! ===== Whole: subtractSizes, sum, equalTo, putLong (printed by wip/gen/rW4.py) ===== -/
theorem sub_dig {x y b : Nat} (hx : x < 4294967296) (hy : y < 4294967296) (hb : b ≤ 1) : ∃ e b' : Nat, e < 4294967296 ∧ b' ≤ 1 ∧ (-(b : Int) + ((x : Int) - (y : Int))) % 4294967296 = (e : Int) ∧ (-(b : Int) + ((x : Int) - (y : Int))) / 4294967296 = -(b' : Int) ∧ e + y + b = x + b' * 4294967296 := by
  by_cases c : y + b ≤ x
  · exact ⟨x - y - b, 0, by omega, by omega, by omega, by omega, by omega⟩
  · exact ⟨x + 4294967296 - y - b, 1, by omega, by omega, by omega, by omega, by omega⟩
section W4
variable {G : jg} {d : Nat} {Q : jq} {rc rs : Nat} {M : mheap} {wa la cap : Nat → Nat} {N : Nat} {V : Nat → Int}
theorem w_subtractSizes {t p q : Nat} {z : Int} {s : Int32} (hG : kG G) (hI : CI wa la cap N) (hc : CW M wa la cap N V) (ht : t < N) (hp : p < N) (hq : q < N) (hle : (V q).natAbs ≤ (V p).natAbs) (hr : lc (V p) ≤ cap t) (hz : z.natAbs + (V q).natAbs = (V p).natAbs) (hs : z ≠ 0 → s = sg z) (hsn : narrow .boolean (.int s) = .int s) (hsf : fits .boolean (.int s) = true) (k : ∀ M', CW M' wa la cap N (vup V t z) → WT M M' wa la t → Q (.returned none) M' rc rs) : jj G kW_subtractSizes (d + 2) Q rc rs 0 (jj_ent [.ref (wa t), .ref (wa p), .ref (wa q), .int s] 12) [] M := by
  obtain ⟨T, ct, hT1, hT2, hT3, hT4⟩ := hc t ht
  obtain ⟨at_, eat_⟩ : ∃ at_, wa t = at_ := ⟨_, rfl⟩
  obtain ⟨lt, elt⟩ : ∃ lt, la t = lt := ⟨_, rfl⟩
  have hcapt := hI.2.2 t ht
  have hleT := hT4.1
  rw [eat_, elt] at hT1
  rw [elt] at hT2
  obtain ⟨A, n, hA1, hA2, hA3, hA4⟩ := hc p hp
  obtain ⟨ap, eap⟩ : ∃ ap, wa p = ap := ⟨_, rfl⟩
  obtain ⟨lp, elp⟩ : ∃ lp, la p = lp := ⟨_, rfl⟩
  have hcapp := hI.2.2 p hp
  have hleA := hA4.1
  rw [eap, elp] at hA1
  rw [elp] at hA2
  obtain ⟨B, m, hB1, hB2, hB3, hB4⟩ := hc q hq
  obtain ⟨aq, eaq⟩ : ∃ aq, wa q = aq := ⟨_, rfl⟩
  obtain ⟨lq, elq⟩ : ∃ lq, la q = lq := ⟨_, rfl⟩
  have hcapq := hI.2.2 q hq
  have hleB := hB4.1
  rw [eaq, elq] at hB1
  rw [elq] at hB2
  have hcn := hA4.cnt
  have hcm := hB4.cnt
  rw [← hcn] at hr
  have hpq : m ≤ n := by
    rcases Nat.lt_or_ge n m with g | g
    · have := hA4.less hB4 g; omega
    · exact g
  rw [eat_, eap, eaq]
  show jj G kW_subtractSizes (d + 2) Q rc rs 0 [some (.ref at_), some (.ref ap), some (.ref aq), some (.int (s)), none, none, none, none, none, none, none, none] [] M
  refine jj_aload_n (pc := 0) kW_subtractSizes_d0 rfl ?_
  refine jj_getf (pc := 1) kW_subtractSizes_d1 (kfW_count hG) hA1 rfl ?_
  refine jj_istore (pc := 4) kW_subtractSizes_d4 (Nat.le_of_ble_eq_true rfl) ?_
  refine jj_aload_n (pc := 6) kW_subtractSizes_d6 rfl ?_
  refine jj_getf (pc := 7) kW_subtractSizes_d7 (kfW_count hG) hB1 rfl ?_
  refine jj_istore (pc := 10) kW_subtractSizes_d10 (Nat.le_of_ble_eq_true rfl) ?_
  refine jj_aload_n (pc := 12) kW_subtractSizes_d12 rfl ?_
  refine jj_iload (pc := 13) kW_subtractSizes_d13 rfl ?_
  refine jj_callV (pc := 15) (b := at_) (As := [.int (nI (n))]) kW_subtractSizes_d15 (kvW_W_needRoom hG) (kG_cl hG rfl) rfl hT1 rfl rfl rfl (Nat.le_of_ble_eq_true rfl) (Nat.le_of_ble_eq_true rfl) (jj_bare0 rfl) ?_
  refine w_needRoom hG hT1 hT2 (by omega) (by omega) ?_
  show jj G kW_subtractSizes (d + 2) Q rc rs 18 [some (.ref at_), some (.ref ap), some (.ref aq), some (.int (s)), some (.int (nI (n))), some (.int (nI (m))), none, none, none, none, none, none] [] M
  refine jj_aload_n (pc := 18) kW_subtractSizes_d18 rfl ?_
  refine jj_getf (pc := 19) kW_subtractSizes_d19 (kfW_limbs hG) hT1 rfl ?_
  refine jj_astore (pc := 22) kW_subtractSizes_d22 (Nat.le_of_ble_eq_true rfl) ?_
  refine jj_aload_n (pc := 24) kW_subtractSizes_d24 rfl ?_
  refine jj_getf (pc := 25) kW_subtractSizes_d25 (kfW_limbs hG) hA1 rfl ?_
  refine jj_astore (pc := 28) kW_subtractSizes_d28 (Nat.le_of_ble_eq_true rfl) ?_
  refine jj_aload_n (pc := 30) kW_subtractSizes_d30 rfl ?_
  refine jj_getf (pc := 31) kW_subtractSizes_d31 (kfW_limbs hG) hB1 rfl ?_
  refine jj_astore (pc := 34) kW_subtractSizes_d34 (Nat.le_of_ble_eq_true rfl) ?_
  refine jj_lconst (pc := 36) (v := lN 0) kW_subtractSizes_d36 (by decide) ?_
  refine jj_lstore (pc := 37) kW_subtractSizes_d37 (Nat.le_of_ble_eq_true rfl) ?_
  refine jn_iconst (pc := 39) 0 kW_subtractSizes_d39 (by decide) ?_
  refine jj_istore (pc := 40) kW_subtractSizes_d40 (Nat.le_of_ble_eq_true rfl) ?_
  show jj G kW_subtractSizes (d + 2) Q rc rs 42 [some (.ref at_), some (.ref ap), some (.ref aq), some (.int (s)), some (.int (nI (n))), some (.int (nI (m))), some (.ref lt), some (.ref lp), some (.ref lq), some (.long (lZ (-((0 : Nat) : Int)))), none, some (.int (nI (0)))] [] M
  have fin : ∀ (bw : Nat) (M9 : mheap) (T9 A9 B9 : List Int32), M9 at_ = some (.inl nW, [.ref lt, .int (nI ct), .int (sg (V t))]) → M9 lt = some (.inr 0, T9.map .int) → M9 lp = some (.inr 0, A9.map .int) → M9 lq = some (.inr 0, B9.map .int) → T9.length = T.length → A9.length = A.length → B9.length = B.length → (∀ j, n ≤ j → A9.getD j 0 = A.getD j 0) → (∀ j, n ≤ j → B9.getD j 0 = B.getD j 0) → (∀ r, r ≠ lt → M9 r = M r) → bw ≤ 1 → lnat T9 n + lnat B m = lnat A n + bw * BB ^ n → jj G kW_subtractSizes (d + 2) Q rc rs 143 [some (.ref at_), some (.ref ap), some (.ref aq), some (.int (s)), some (.int (nI (n))), some (.int (nI (m))), some (.ref lt), some (.ref lp), some (.ref lq), some (.long (lZ (-(bw : Int)))), none, some (.int (nI (n)))] [] M9 := by
    intro bw M9 T9 A9 B9 h91 h92 h93 h94 l1 l2 l3 q1 q2 hf hbw hv
    have hT9 := lnat_lt T9 n
    have hval : lnat T9 n = z.natAbs := by
      rw [hA4.2.1, hB4.2.1] at hv
      rcases (show bw = 0 ∨ bw = 1 by omega) with e | e
      · rw [e] at hv; omega
      · exfalso; rw [e, Nat.one_mul] at hv; omega
    refine jj_aload_n (pc := 143) kW_subtractSizes_d143 rfl ?_
    refine jj_iload (pc := 144) kW_subtractSizes_d144 rfl ?_
    refine jj_putf (pc := 146) kW_subtractSizes_d146 (kpW_count hG) h91 (by rfl) rfl ?_
    refine jn_gen (fun M101 hM102 => ?_)
    have h103 : M101 lt = some (.inr 0, (T9).map .int) := by rw [hM102, jj_up_ne _ _ (fun e => by have q1 := h92; rw [e, h91] at q1; cases q1)]; exact h92
    have h104 : M101 lp = some (.inr 0, (A9).map .int) := by rw [hM102, jj_up_ne _ _ (fun e => by have q1 := h93; rw [e, h91] at q1; cases q1)]; exact h93
    have h105 : M101 lq = some (.inr 0, (B9).map .int) := by rw [hM102, jj_up_ne _ _ (fun e => by have q1 := h94; rw [e, h91] at q1; cases q1)]; exact h94
    have h106 : M101 at_ = some (.inl nW, [.ref lt, .int (nI (n)), .int (sg (V t))]) := by rw [hM102]; exact jj_up_at _ _ _
    refine jj_aload_n (pc := 149) kW_subtractSizes_d149 rfl ?_
    refine jj_iload_n (pc := 150) kW_subtractSizes_d150 rfl ?_
    refine jj_putf (pc := 151) kW_subtractSizes_d151 (kpW_below hG) h106 hsn hsf ?_
    refine jn_gen (fun M107 hM108 => ?_)
    have h109 : M107 lt = some (.inr 0, (T9).map .int) := by rw [hM108, jj_up_ne _ _ (fun e => by have q1 := h103; rw [e, h106] at q1; cases q1)]; exact h103
    have h110 : M107 lp = some (.inr 0, (A9).map .int) := by rw [hM108, jj_up_ne _ _ (fun e => by have q1 := h104; rw [e, h106] at q1; cases q1)]; exact h104
    have h111 : M107 lq = some (.inr 0, (B9).map .int) := by rw [hM108, jj_up_ne _ _ (fun e => by have q1 := h105; rw [e, h106] at q1; cases q1)]; exact h105
    have h112 : M107 at_ = some (.inl nW, [.ref lt, .int (nI (n)), .int (s)]) := by rw [hM108]; exact jj_up_at _ _ _
    refine jj_aload_n (pc := 154) kW_subtractSizes_d154 rfl ?_
    refine jj_callV (pc := 155) (b := at_) (As := []) kW_subtractSizes_d155 (kvW_W_trim hG) (kG_cl hG rfl) rfl h112 rfl rfl rfl (Nat.le_of_ble_eq_true rfl) (Nat.le_of_ble_eq_true rfl) (jj_bare0 rfl) ?_
    refine w_trim hG (by omega) n M107 h112 h109 (by omega) (fun M8 h81 h82 => ?_)
    show jj G kW_subtractSizes (d + 2) Q rc rs 158 [some (.ref at_), some (.ref ap), some (.ref aq), some (.int (s)), some (.int (nI (n))), some (.int (nI (m))), some (.ref lt), some (.ref lp), some (.ref lq), some (.long (lZ (-(bw : Int)))), none, some (.int (nI (n)))] [] M8
    have hlt8 : M8 lt = some (.inr 0, T9.map .int) := by rw [h82 lt (fun e => by have q9 := h109; rw [e, h112] at q9; cases q9)]; exact h109
    have hWT : WT M M8 wa la t := fun r r1 r2 => by
      rw [eat_] at r1
      rw [elt] at r2
      rw [h82 r r1, hM108, jj_up_ne _ _ r1, hM102, jj_up_ne _ _ r1, hf r r2]
    have hsg : (if ltrim T9 n = 0 then (0 : Int32) else s) = sg z := sg_trim (by omega) hval hs
    rw [hsg] at h81
    exact jj_vret (pc := 158) kW_subtractSizes_d158 rfl (k M8 (hc.put hI ht (by rw [eat_, elt]; exact ⟨_, _, h81, hlt8, by rw [l1]; exact hT3, ltrim_LW (by omega) hval⟩) hWT) hWT)
  have loop2 : ∀ mu i, n = i + mu → ∀ (bw : Nat) (M9 : mheap) (T9 A9 B9 : List Int32), M9 at_ = some (.inl nW, [.ref lt, .int (nI ct), .int (sg (V t))]) → M9 lt = some (.inr 0, T9.map .int) → M9 lp = some (.inr 0, A9.map .int) → M9 lq = some (.inr 0, B9.map .int) → T9.length = T.length → A9.length = A.length → B9.length = B.length → (∀ j, i ≤ j → A9.getD j 0 = A.getD j 0) → (∀ j, i ≤ j → B9.getD j 0 = B.getD j 0) → (∀ r, r ≠ lt → M9 r = M r) → bw ≤ 1 → lnat T9 i + lnat B m = lnat A i + bw * BB ^ i → jj G kW_subtractSizes (d + 2) Q rc rs 100 [some (.ref at_), some (.ref ap), some (.ref aq), some (.int (s)), some (.int (nI (n))), some (.int (nI (m))), some (.ref lt), some (.ref lp), some (.ref lq), some (.long (lZ (-(bw : Int)))), none, some (.int (nI (i)))] [] M9 := by
    intro mu
    induction mu with
    | zero =>
      intro i hk bw M9 T9 A9 B9 h91 h92 h93 h94 l1 l2 l3 q1 q2 hf hbw hv
      have e9 : n = i := by omega
      subst e9
      refine jj_iload (pc := 100) kW_subtractSizes_d100 rfl ?_
      refine jj_iload (pc := 102) kW_subtractSizes_d102 rfl ?_
      refine jn_icmp_ge (pc := 104) (tgt := 143) kW_subtractSizes_d104 (by decide) (by omega) (by omega) (fun _ => ?_) (fun c => by exfalso; omega)
      show jj G kW_subtractSizes (d + 2) Q rc rs 143 [some (.ref at_), some (.ref ap), some (.ref aq), some (.int (s)), some (.int (nI (n))), some (.int (nI (m))), some (.ref lt), some (.ref lp), some (.ref lq), some (.long (lZ (-(bw : Int)))), none, some (.int (nI (n)))] [] M9
      exact fin bw M9 T9 A9 B9 h91 h92 h93 h94 l1 l2 l3 q1 q2 hf hbw hv
    | succ mu ih =>
      intro i hk bw M9 T9 A9 B9 h91 h92 h93 h94 l1 l2 l3 q1 q2 hf hbw hv
      have ha := lu_lt (A.getD i 0)
      have hb := lu_lt (B.getD i 0)
      obtain ⟨ed, b2, d1, d2, d3, d4, d5⟩ := sub_dig (x := lu (A.getD i 0)) (y := 0) (b := bw) ha (by omega) hbw
      obtain ⟨dd, hdd⟩ : ∃ dd : Int, -(bw : Int) + ((lu (A.getD i 0) : Int) - ((0 : Nat) : Int)) = dd := ⟨_, rfl⟩
      rw [hdd] at d3 d4
      refine jj_iload (pc := 100) kW_subtractSizes_d100 rfl ?_
      refine jj_iload (pc := 102) kW_subtractSizes_d102 rfl ?_
      refine jn_icmp_ge (pc := 104) (tgt := 143) kW_subtractSizes_d104 (by decide) (by omega) (by omega) (fun c => by exfalso; omega) (fun _ => ?_)
      refine jj_lload (pc := 107) kW_subtractSizes_d107 rfl ?_
      refine jj_aload (pc := 109) kW_subtractSizes_d109 rfl ?_
      refine jj_iload (pc := 111) kW_subtractSizes_d111 rfl ?_
      refine jn_iald (pc := 113) (v := (A.getD i 0)) kW_subtractSizes_d113 (kG_t hG rfl) h93 (by omega) (by omega) (q1 i (Nat.le_refl _)) ?_
      refine jj_i2l (pc := 114) kW_subtractSizes_d114 ?_
      refine jj_ldc2 (pc := 115) kW_subtractSizes_d115 (kcW_4294967295 hG) ?_
      refine jn_top (.long (lN (4294967295))) (rfl) ?_
      refine jj_land (pc := 118) kW_subtractSizes_d118 ?_
      refine jn_top (.long (lN (lu (A.getD i 0)))) (by rw [lu_mask]) ?_
      refine jn_top (.long (lZ ((lu (A.getD i 0) : Int) - ((0 : Nat) : Int)))) (by rw [← lZ_nat]; congr 2) ?_
      refine jj_ladd (pc := 119) kW_subtractSizes_d119 ?_
      refine jn_top (.long (lZ dd)) (by rw [lZ_add, hdd]) ?_
      refine jj_lstore (pc := 120) kW_subtractSizes_d120 (Nat.le_of_ble_eq_true rfl) ?_
      refine jj_aload (pc := 122) kW_subtractSizes_d122 rfl ?_
      refine jj_iload (pc := 124) kW_subtractSizes_d124 rfl ?_
      refine jj_lload (pc := 126) kW_subtractSizes_d126 rfl ?_
      refine jj_l2i (pc := 128) kW_subtractSizes_d128 ?_
      refine jn_top (.int (nI (ed))) (by rw [lZ_i, lu_zI d3]) ?_
      refine jn_iast (pc := 129) kW_subtractSizes_d129 (kG_t hG rfl) h92 (by omega) (by omega) ?_
      refine jn_gen (fun M113 hM114 => ?_)
      have h115 : M113 at_ = some (.inl nW, [.ref lt, .int (nI (ct)), .int (sg (V t))]) := by rw [hM114, jj_up_ne _ _ (fun e => by have q1 := h91; rw [e, h92] at q1; cases q1)]; exact h91
      obtain ⟨L117, h116, h116l, h116e⟩ := alias_set (i := i) (v := (nI (ed))) h92 h93
      rw [← hM114] at h116
      obtain ⟨L119, h118, h118l, h118e⟩ := alias_set (i := i) (v := (nI (ed))) h92 h94
      rw [← hM114] at h118
      have h120 : M113 lt = some (.inr 0, ((T9).set (i) ((nI (ed)))).map .int) := by rw [hM114]; exact jj_up_at _ _ _
      refine jj_lload (pc := 130) kW_subtractSizes_d130 rfl ?_
      refine jn_bipush (pc := 132) 32 kW_subtractSizes_d132 (by decide) ?_
      refine jj_lshr (pc := 134) kW_subtractSizes_d134 ?_
      refine jn_top (.long (lZ (-(b2 : Int)))) (by rw [lZ_shr32 (by omega) (by omega), d4]) ?_
      refine jj_lstore (pc := 135) kW_subtractSizes_d135 (Nat.le_of_ble_eq_true rfl) ?_
      refine jn_iinc (pc := 137) (i + 1) kW_subtractSizes_d137 rfl (nI_1 _) ?_
      refine jj_goto (pc := 140) (tgt := 100) kW_subtractSizes_d140 (by decide) ?_
      show jj G kW_subtractSizes (d + 2) Q rc rs 100 [some (.ref at_), some (.ref ap), some (.ref aq), some (.int (s)), some (.int (nI (n))), some (.int (nI (m))), some (.ref lt), some (.ref lp), some (.ref lq), some (.long (lZ (-(b2 : Int)))), none, some (.int (nI (i + 1)))] [] M113
      have hcs := borrow_step (e := ed) (u := lu (A.getD i 0)) (v := 0) (b' := b2) hv d5
      refine ih (i + 1) (by omega) b2 M113 _ L117 L119 h115 h120 h116 h118 (by rw [List.length_set]; exact l1) (h116l.trans l2) (h118l.trans l3) (fun j hj => by rw [h116e j (by omega)]; exact q1 j (by omega)) (fun j hj => by rw [h118e j (by omega)]; exact q2 j (by omega)) (fun r hr => by rw [hM114, jj_up_ne _ _ hr]; exact hf r hr) d2 ?_
      rw [lnat_step (by omega), Nat.mod_eq_of_lt (show ed < BB from d1), Nat.pow_succ]
      show _ = (lnat A i + lu (A.getD i 0) * BB ^ i) + _
      omega
  have loop1 : ∀ mu i, m = i + mu → ∀ (bw : Nat) (M9 : mheap) (T9 A9 B9 : List Int32), M9 at_ = some (.inl nW, [.ref lt, .int (nI ct), .int (sg (V t))]) → M9 lt = some (.inr 0, T9.map .int) → M9 lp = some (.inr 0, A9.map .int) → M9 lq = some (.inr 0, B9.map .int) → T9.length = T.length → A9.length = A.length → B9.length = B.length → (∀ j, i ≤ j → A9.getD j 0 = A.getD j 0) → (∀ j, i ≤ j → B9.getD j 0 = B.getD j 0) → (∀ r, r ≠ lt → M9 r = M r) → bw ≤ 1 → lnat T9 i + lnat B i = lnat A i + bw * BB ^ i → jj G kW_subtractSizes (d + 2) Q rc rs 42 [some (.ref at_), some (.ref ap), some (.ref aq), some (.int (s)), some (.int (nI (n))), some (.int (nI (m))), some (.ref lt), some (.ref lp), some (.ref lq), some (.long (lZ (-(bw : Int)))), none, some (.int (nI (i)))] [] M9 := by
    intro mu
    induction mu with
    | zero =>
      intro i hk bw M9 T9 A9 B9 h91 h92 h93 h94 l1 l2 l3 q1 q2 hf hbw hv
      have e9 : m = i := by omega
      subst e9
      refine jj_iload (pc := 42) kW_subtractSizes_d42 rfl ?_
      refine jj_iload (pc := 44) kW_subtractSizes_d44 rfl ?_
      refine jn_icmp_ge (pc := 46) (tgt := 96) kW_subtractSizes_d46 (by decide) (by omega) (by omega) (fun _ => ?_) (fun c => by exfalso; omega)
      refine jj_iload (pc := 96) kW_subtractSizes_d96 rfl ?_
      refine jj_istore (pc := 98) kW_subtractSizes_d98 (Nat.le_of_ble_eq_true rfl) ?_
      show jj G kW_subtractSizes (d + 2) Q rc rs 100 [some (.ref at_), some (.ref ap), some (.ref aq), some (.int (s)), some (.int (nI (n))), some (.int (nI (m))), some (.ref lt), some (.ref lp), some (.ref lq), some (.long (lZ (-(bw : Int)))), none, some (.int (nI (m)))] [] M9
      exact loop2 (n - m) m (by omega) bw M9 T9 A9 B9 h91 h92 h93 h94 l1 l2 l3 q1 q2 hf hbw hv
    | succ mu ih =>
      intro i hk bw M9 T9 A9 B9 h91 h92 h93 h94 l1 l2 l3 q1 q2 hf hbw hv
      have ha := lu_lt (A.getD i 0)
      have hb := lu_lt (B.getD i 0)
      obtain ⟨ed, b2, d1, d2, d3, d4, d5⟩ := sub_dig (x := lu (A.getD i 0)) (y := lu (B.getD i 0)) (b := bw) ha (by omega) hbw
      obtain ⟨dd, hdd⟩ : ∃ dd : Int, -(bw : Int) + ((lu (A.getD i 0) : Int) - ((lu (B.getD i 0) : Nat) : Int)) = dd := ⟨_, rfl⟩
      rw [hdd] at d3 d4
      refine jj_iload (pc := 42) kW_subtractSizes_d42 rfl ?_
      refine jj_iload (pc := 44) kW_subtractSizes_d44 rfl ?_
      refine jn_icmp_ge (pc := 46) (tgt := 96) kW_subtractSizes_d46 (by decide) (by omega) (by omega) (fun c => by exfalso; omega) (fun _ => ?_)
      refine jj_lload (pc := 49) kW_subtractSizes_d49 rfl ?_
      refine jj_aload (pc := 51) kW_subtractSizes_d51 rfl ?_
      refine jj_iload (pc := 53) kW_subtractSizes_d53 rfl ?_
      refine jn_iald (pc := 55) (v := (A.getD i 0)) kW_subtractSizes_d55 (kG_t hG rfl) h93 (by omega) (by omega) (q1 i (Nat.le_refl _)) ?_
      refine jj_i2l (pc := 56) kW_subtractSizes_d56 ?_
      refine jj_ldc2 (pc := 57) kW_subtractSizes_d57 (kcW_4294967295 hG) ?_
      refine jn_top (.long (lN (4294967295))) (rfl) ?_
      refine jj_land (pc := 60) kW_subtractSizes_d60 ?_
      refine jn_top (.long (lN (lu (A.getD i 0)))) (by rw [lu_mask]) ?_
      refine jj_aload (pc := 61) kW_subtractSizes_d61 rfl ?_
      refine jj_iload (pc := 63) kW_subtractSizes_d63 rfl ?_
      refine jn_iald (pc := 65) (v := (B.getD i 0)) kW_subtractSizes_d65 (kG_t hG rfl) h94 (by omega) (by omega) (q2 i (Nat.le_refl _)) ?_
      refine jj_i2l (pc := 66) kW_subtractSizes_d66 ?_
      refine jj_ldc2 (pc := 67) kW_subtractSizes_d67 (kcW_4294967295 hG) ?_
      refine jn_top (.long (lN (4294967295))) (rfl) ?_
      refine jj_land (pc := 70) kW_subtractSizes_d70 ?_
      refine jn_top (.long (lN (lu (B.getD i 0)))) (by rw [lu_mask]) ?_
      refine jj_lsub (pc := 71) kW_subtractSizes_d71 ?_
      refine jn_top (.long (lZ ((lu (A.getD i 0) : Int) - ((lu (B.getD i 0) : Nat) : Int)))) (by rw [← lZ_nat, ← lZ_nat, lZ_sub]) ?_
      refine jj_ladd (pc := 72) kW_subtractSizes_d72 ?_
      refine jn_top (.long (lZ dd)) (by rw [lZ_add, hdd]) ?_
      refine jj_lstore (pc := 73) kW_subtractSizes_d73 (Nat.le_of_ble_eq_true rfl) ?_
      refine jj_aload (pc := 75) kW_subtractSizes_d75 rfl ?_
      refine jj_iload (pc := 77) kW_subtractSizes_d77 rfl ?_
      refine jj_lload (pc := 79) kW_subtractSizes_d79 rfl ?_
      refine jj_l2i (pc := 81) kW_subtractSizes_d81 ?_
      refine jn_top (.int (nI (ed))) (by rw [lZ_i, lu_zI d3]) ?_
      refine jn_iast (pc := 82) kW_subtractSizes_d82 (kG_t hG rfl) h92 (by omega) (by omega) ?_
      refine jn_gen (fun M121 hM122 => ?_)
      have h123 : M121 at_ = some (.inl nW, [.ref lt, .int (nI (ct)), .int (sg (V t))]) := by rw [hM122, jj_up_ne _ _ (fun e => by have q1 := h91; rw [e, h92] at q1; cases q1)]; exact h91
      obtain ⟨L125, h124, h124l, h124e⟩ := alias_set (i := i) (v := (nI (ed))) h92 h93
      rw [← hM122] at h124
      obtain ⟨L127, h126, h126l, h126e⟩ := alias_set (i := i) (v := (nI (ed))) h92 h94
      rw [← hM122] at h126
      have h128 : M121 lt = some (.inr 0, ((T9).set (i) ((nI (ed)))).map .int) := by rw [hM122]; exact jj_up_at _ _ _
      refine jj_lload (pc := 83) kW_subtractSizes_d83 rfl ?_
      refine jn_bipush (pc := 85) 32 kW_subtractSizes_d85 (by decide) ?_
      refine jj_lshr (pc := 87) kW_subtractSizes_d87 ?_
      refine jn_top (.long (lZ (-(b2 : Int)))) (by rw [lZ_shr32 (by omega) (by omega), d4]) ?_
      refine jj_lstore (pc := 88) kW_subtractSizes_d88 (Nat.le_of_ble_eq_true rfl) ?_
      refine jn_iinc (pc := 90) (i + 1) kW_subtractSizes_d90 rfl (nI_1 _) ?_
      refine jj_goto (pc := 93) (tgt := 42) kW_subtractSizes_d93 (by decide) ?_
      show jj G kW_subtractSizes (d + 2) Q rc rs 42 [some (.ref at_), some (.ref ap), some (.ref aq), some (.int (s)), some (.int (nI (n))), some (.int (nI (m))), some (.ref lt), some (.ref lp), some (.ref lq), some (.long (lZ (-(b2 : Int)))), none, some (.int (nI (i + 1)))] [] M121
      have hcs := borrow_step (e := ed) (u := lu (A.getD i 0)) (v := lu (B.getD i 0)) (b' := b2) hv d5
      refine ih (i + 1) (by omega) b2 M121 _ L125 L127 h123 h128 h124 h126 (by rw [List.length_set]; exact l1) (h124l.trans l2) (h126l.trans l3) (fun j hj => by rw [h124e j (by omega)]; exact q1 j (by omega)) (fun j hj => by rw [h126e j (by omega)]; exact q2 j (by omega)) (fun r hr => by rw [hM122, jj_up_ne _ _ hr]; exact hf r hr) d2 ?_
      rw [lnat_step (by omega), Nat.mod_eq_of_lt (show ed < BB from d1), Nat.pow_succ]
      show _ + (lnat B i + lu (B.getD i 0) * BB ^ i) = (lnat A i + lu (A.getD i 0) * BB ^ i) + _
      omega
  exact loop1 m 0 (by omega) 0 M T A B hT1 hT2 hA2 hB2 rfl rfl rfl (fun _ _ => rfl) (fun _ _ => rfl) (fun _ _ => rfl) (by omega) (by show 0 + 0 = 0 + 0 * BB ^ 0; omega)
/-- ls below 0: the second number is taken away -/
theorem w_sum {t u v : Nat} {ls z : Int} (hG : kG G) (hI : CI wa la cap N) (hc : CW M wa la cap N V) (ht : t < N) (hu : u < N) (hv : v < N) (hr1 : lc (V u) + 1 ≤ cap t) (hr2 : lc (V v) + 1 ≤ cap t) (hz : z = if ls < 0 then V u - V v else V u + V v) (k : ∀ M', CW M' wa la cap N (vup V t z) → WT M M' wa la t → Q (.returned none) M' rc rs) : jj G kW_sum (d + 3) Q rc rs 0 (jj_ent [.ref (wa t), .ref (wa u), .ref (wa v), .int (sg ls)] 5) [] M := by
  obtain ⟨T, ct, hT1, hT2, hT3, hT4⟩ := hc t ht
  obtain ⟨A, n, hA1, hA2, hA3, hA4⟩ := hc u hu
  obtain ⟨B, m, hB1, hB2, hB3, hB4⟩ := hc v hv
  obtain ⟨w, hw⟩ : ∃ w : Int, (if ls < 0 then -V v else V v) = w := ⟨_, rfl⟩
  have hzw : z = V u + w := by rw [hz, ← hw]; split <;> omega
  have hwa : w.natAbs = (V v).natAbs := by rw [← hw]; split <;> omega
  show jj G kW_sum (d + 3) Q rc rs 0 [some (.ref (wa t)), some (.ref (wa u)), some (.ref (wa v)), some (.int (sg ls)), none] [] M
  refine jj_aload_n (pc := 0) kW_sum_d0 rfl ?_
  refine jj_getf (pc := 1) kW_sum_d1 (kfW_below hG) hB1 rfl ?_
  refine jj_iload_n (pc := 4) kW_sum_d4 rfl ?_
  refine jj_icmp_eq (pc := 5) (tgt := 12) kW_sum_d5 (by decide) (fun c0 => ?_) (fun c0 => ?_)
  · skip
    have hw0 : 0 ≤ w := by
      rw [← hw]
      rcases Decidable.em (ls < 0) with g | g
      · rw [if_pos g]; have := sg_eq1.mp (c0.trans (sg_eq1.mpr g)); omega
      · rw [if_neg g]; have := sg_eq0.mp (c0.trans (sg_eq0.mpr (by omega))); omega
    refine jn_iconst (pc := 12) 0 kW_sum_d12 (by decide) ?_
    refine jj_istore (pc := 13) kW_sum_d13 (Nat.le_of_ble_eq_true rfl) ?_
    refine jj_aload_n (pc := 15) kW_sum_d15 rfl ?_
    refine jj_getf (pc := 16) kW_sum_d16 (kfW_below hG) hA1 rfl ?_
    refine jj_iload (pc := 19) kW_sum_d19 rfl ?_
    refine jj_icmp_ne (pc := 21) (tgt := 37) kW_sum_d21 (by decide) (fun c1 => ?_) (fun c1 => ?_)
    · skip
      have hs1 : V u < 0 := by
        rcases Decidable.em (V u < 0) with g | g
        · exact g
        · exact absurd (sg_eq0.mpr (by omega)) c1
      refine jj_aload_n (pc := 37) kW_sum_d37 rfl ?_
      refine jj_aload_n (pc := 38) kW_sum_d38 rfl ?_
      refine jj_callV (pc := 39) (b := (wa u)) (As := [.ref (wa v)]) kW_sum_d39 (kvW_W_compareSizes hG) (kG_cl hG rfl) rfl hA1 rfl rfl rfl (Nat.le_of_ble_eq_true rfl) (Nat.le_of_ble_eq_true rfl) (jj_bare0 rfl) ?_
      refine w_compareSizes hG hI hc hu hv (fun c2 => ?_) (fun c2 => ?_) (fun c2 => ?_)
      · skip
        show jj G kW_sum (d + 3) Q rc rs 42 [some (.ref (wa t)), some (.ref (wa u)), some (.ref (wa v)), some (.int (sg ls)), some (.int (nI (0)))] [.int (-1)] M
        refine jj_if_lt (pc := 42) (tgt := 58) kW_sum_d42 (by decide) (fun _ => ?_) (fun c => absurd c (by decide))
        refine jj_aload_n (pc := 58) kW_sum_d58 rfl ?_
        refine jj_aload_n (pc := 59) kW_sum_d59 rfl ?_
        refine jj_aload_n (pc := 60) kW_sum_d60 rfl ?_
        refine jj_iload (pc := 61) kW_sum_d61 rfl ?_
        exact jj_callV (pc := 63) (b := (wa t)) (As := [.ref (wa v), .ref (wa u), .int (nI 0)]) kW_sum_d63 (kvW_W_subtractSizes hG) (kG_cl hG rfl) rfl hT1 rfl rfl rfl (Nat.le_of_ble_eq_true rfl) (Nat.le_of_ble_eq_true rfl) (jj_bare0 rfl) (w_subtractSizes (z := z) hG hI hc ht hv hu (by omega) (by omega) (by rw [hzw]; omega) (fun _ => (sg_eq0.mpr (by omega)).symm) rfl rfl (fun M8 h1 h2 => jj_vret (pc := 66) kW_sum_d66 rfl (k M8 h1 h2)))
      · skip
        show jj G kW_sum (d + 3) Q rc rs 42 [some (.ref (wa t)), some (.ref (wa u)), some (.ref (wa v)), some (.int (sg ls)), some (.int (nI (0)))] [.int (nI (0))] M
        refine jz_if_lt (pc := 42) (tgt := 58) (a := 0) kW_sum_d42 (by decide) (zI_nat _).symm (by omega) (by omega) (fun c => by exfalso; omega) (fun _ => ?_)
        refine jj_aload_n (pc := 45) kW_sum_d45 rfl ?_
        refine jj_aload_n (pc := 46) kW_sum_d46 rfl ?_
        refine jj_aload_n (pc := 47) kW_sum_d47 rfl ?_
        refine jj_aload_n (pc := 48) kW_sum_d48 rfl ?_
        refine jj_getf (pc := 49) kW_sum_d49 (kfW_below hG) hA1 rfl ?_
        exact jj_callV (pc := 52) (b := (wa t)) (As := [.ref (wa u), .ref (wa v), .int (sg (V u))]) kW_sum_d52 (kvW_W_subtractSizes hG) (kG_cl hG rfl) rfl hT1 rfl rfl rfl (Nat.le_of_ble_eq_true rfl) (Nat.le_of_ble_eq_true rfl) (jj_bare0 rfl) (w_subtractSizes (z := z) hG hI hc ht hu hv (by omega) (by omega) (by rw [hzw]; omega) (fun hz0 => by rw [sg_eq1.mpr hs1, sg_eq1.mpr (show z < 0 by omega)]) (sg_narrow _) (sg_fits _) (fun M8 h1 h2 => jj_goto (pc := 55) (tgt := 66) kW_sum_d55 (by decide) (jj_vret (pc := 66) kW_sum_d66 rfl (k M8 h1 h2))))
      · skip
        show jj G kW_sum (d + 3) Q rc rs 42 [some (.ref (wa t)), some (.ref (wa u)), some (.ref (wa v)), some (.int (sg ls)), some (.int (nI (0)))] [.int (nI (1))] M
        refine jz_if_lt (pc := 42) (tgt := 58) (a := 1) kW_sum_d42 (by decide) (zI_nat _).symm (by omega) (by omega) (fun c => by exfalso; omega) (fun _ => ?_)
        refine jj_aload_n (pc := 45) kW_sum_d45 rfl ?_
        refine jj_aload_n (pc := 46) kW_sum_d46 rfl ?_
        refine jj_aload_n (pc := 47) kW_sum_d47 rfl ?_
        refine jj_aload_n (pc := 48) kW_sum_d48 rfl ?_
        refine jj_getf (pc := 49) kW_sum_d49 (kfW_below hG) hA1 rfl ?_
        exact jj_callV (pc := 52) (b := (wa t)) (As := [.ref (wa u), .ref (wa v), .int (sg (V u))]) kW_sum_d52 (kvW_W_subtractSizes hG) (kG_cl hG rfl) rfl hT1 rfl rfl rfl (Nat.le_of_ble_eq_true rfl) (Nat.le_of_ble_eq_true rfl) (jj_bare0 rfl) (w_subtractSizes (z := z) hG hI hc ht hu hv (by omega) (by omega) (by rw [hzw]; omega) (fun hz0 => by rw [sg_eq1.mpr hs1, sg_eq1.mpr (show z < 0 by omega)]) (sg_narrow _) (sg_fits _) (fun M8 h1 h2 => jj_goto (pc := 55) (tgt := 66) kW_sum_d55 (by decide) (jj_vret (pc := 66) kW_sum_d66 rfl (k M8 h1 h2))))
    · skip
      have hs1 : 0 ≤ V u := sg_eq0.mp c1
      refine jj_aload_n (pc := 24) kW_sum_d24 rfl ?_
      refine jj_aload_n (pc := 25) kW_sum_d25 rfl ?_
      refine jj_aload_n (pc := 26) kW_sum_d26 rfl ?_
      refine jj_aload_n (pc := 27) kW_sum_d27 rfl ?_
      refine jj_getf (pc := 28) kW_sum_d28 (kfW_below hG) hA1 rfl ?_
      exact jj_callV (pc := 31) (b := (wa t)) (As := [.ref (wa u), .ref (wa v), .int (sg (V u))]) kW_sum_d31 (kvW_W_addSizes hG) (kG_cl hG rfl) rfl hT1 rfl rfl rfl (Nat.le_of_ble_eq_true rfl) (Nat.le_of_ble_eq_true rfl) (jj_bare0 rfl) (w_addSizes (z := z) hG hI hc ht hu hv hr1 hr2 (by rw [hzw]; omega) (fun hz0 => by rw [sg_eq0.mpr hs1, sg_eq0.mpr (show 0 ≤ z by omega)]) (sg_narrow _) (sg_fits _) (fun M8 h1 h2 => jj_goto (pc := 34) (tgt := 66) kW_sum_d34 (by decide) (jj_vret (pc := 66) kW_sum_d66 rfl (k M8 h1 h2))))
  · skip
    have hw0 : w ≤ 0 := by
      rw [← hw]
      rcases Decidable.em (ls < 0) with g | g
      · rw [if_pos g]
        rcases Decidable.em (0 ≤ V v) with g2 | g2
        · omega
        · exact absurd ((sg_eq1.mpr (by omega)).trans (sg_eq1.mpr g).symm) c0
      · rw [if_neg g]
        rcases Decidable.em (V v < 0) with g2 | g2
        · omega
        · exact absurd ((sg_eq0.mpr (by omega)).trans (sg_eq0.mpr (by omega)).symm) c0
    refine jn_iconst (pc := 8) 1 kW_sum_d8 (by decide) ?_
    refine jj_goto (pc := 9) (tgt := 13) kW_sum_d9 (by decide) ?_
    refine jj_istore (pc := 13) kW_sum_d13 (Nat.le_of_ble_eq_true rfl) ?_
    refine jj_aload_n (pc := 15) kW_sum_d15 rfl ?_
    refine jj_getf (pc := 16) kW_sum_d16 (kfW_below hG) hA1 rfl ?_
    refine jj_iload (pc := 19) kW_sum_d19 rfl ?_
    refine jj_icmp_ne (pc := 21) (tgt := 37) kW_sum_d21 (by decide) (fun c1 => ?_) (fun c1 => ?_)
    · skip
      have hs1 : 0 ≤ V u := by
        rcases Decidable.em (0 ≤ V u) with g | g
        · exact g
        · exact absurd (sg_eq1.mpr (by omega)) c1
      refine jj_aload_n (pc := 37) kW_sum_d37 rfl ?_
      refine jj_aload_n (pc := 38) kW_sum_d38 rfl ?_
      refine jj_callV (pc := 39) (b := (wa u)) (As := [.ref (wa v)]) kW_sum_d39 (kvW_W_compareSizes hG) (kG_cl hG rfl) rfl hA1 rfl rfl rfl (Nat.le_of_ble_eq_true rfl) (Nat.le_of_ble_eq_true rfl) (jj_bare0 rfl) ?_
      refine w_compareSizes hG hI hc hu hv (fun c2 => ?_) (fun c2 => ?_) (fun c2 => ?_)
      · skip
        show jj G kW_sum (d + 3) Q rc rs 42 [some (.ref (wa t)), some (.ref (wa u)), some (.ref (wa v)), some (.int (sg ls)), some (.int (nI (1)))] [.int (-1)] M
        refine jj_if_lt (pc := 42) (tgt := 58) kW_sum_d42 (by decide) (fun _ => ?_) (fun c => absurd c (by decide))
        refine jj_aload_n (pc := 58) kW_sum_d58 rfl ?_
        refine jj_aload_n (pc := 59) kW_sum_d59 rfl ?_
        refine jj_aload_n (pc := 60) kW_sum_d60 rfl ?_
        refine jj_iload (pc := 61) kW_sum_d61 rfl ?_
        exact jj_callV (pc := 63) (b := (wa t)) (As := [.ref (wa v), .ref (wa u), .int (nI 1)]) kW_sum_d63 (kvW_W_subtractSizes hG) (kG_cl hG rfl) rfl hT1 rfl rfl rfl (Nat.le_of_ble_eq_true rfl) (Nat.le_of_ble_eq_true rfl) (jj_bare0 rfl) (w_subtractSizes (z := z) hG hI hc ht hv hu (by omega) (by omega) (by rw [hzw]; omega) (fun _ => (sg_eq1.mpr (by omega)).symm) rfl rfl (fun M8 h1 h2 => jj_vret (pc := 66) kW_sum_d66 rfl (k M8 h1 h2)))
      · skip
        show jj G kW_sum (d + 3) Q rc rs 42 [some (.ref (wa t)), some (.ref (wa u)), some (.ref (wa v)), some (.int (sg ls)), some (.int (nI (1)))] [.int (nI (0))] M
        refine jz_if_lt (pc := 42) (tgt := 58) (a := 0) kW_sum_d42 (by decide) (zI_nat _).symm (by omega) (by omega) (fun c => by exfalso; omega) (fun _ => ?_)
        refine jj_aload_n (pc := 45) kW_sum_d45 rfl ?_
        refine jj_aload_n (pc := 46) kW_sum_d46 rfl ?_
        refine jj_aload_n (pc := 47) kW_sum_d47 rfl ?_
        refine jj_aload_n (pc := 48) kW_sum_d48 rfl ?_
        refine jj_getf (pc := 49) kW_sum_d49 (kfW_below hG) hA1 rfl ?_
        exact jj_callV (pc := 52) (b := (wa t)) (As := [.ref (wa u), .ref (wa v), .int (sg (V u))]) kW_sum_d52 (kvW_W_subtractSizes hG) (kG_cl hG rfl) rfl hT1 rfl rfl rfl (Nat.le_of_ble_eq_true rfl) (Nat.le_of_ble_eq_true rfl) (jj_bare0 rfl) (w_subtractSizes (z := z) hG hI hc ht hu hv (by omega) (by omega) (by rw [hzw]; omega) (fun hz0 => by rw [sg_eq0.mpr hs1, sg_eq0.mpr (show 0 ≤ z by omega)]) (sg_narrow _) (sg_fits _) (fun M8 h1 h2 => jj_goto (pc := 55) (tgt := 66) kW_sum_d55 (by decide) (jj_vret (pc := 66) kW_sum_d66 rfl (k M8 h1 h2))))
      · skip
        show jj G kW_sum (d + 3) Q rc rs 42 [some (.ref (wa t)), some (.ref (wa u)), some (.ref (wa v)), some (.int (sg ls)), some (.int (nI (1)))] [.int (nI (1))] M
        refine jz_if_lt (pc := 42) (tgt := 58) (a := 1) kW_sum_d42 (by decide) (zI_nat _).symm (by omega) (by omega) (fun c => by exfalso; omega) (fun _ => ?_)
        refine jj_aload_n (pc := 45) kW_sum_d45 rfl ?_
        refine jj_aload_n (pc := 46) kW_sum_d46 rfl ?_
        refine jj_aload_n (pc := 47) kW_sum_d47 rfl ?_
        refine jj_aload_n (pc := 48) kW_sum_d48 rfl ?_
        refine jj_getf (pc := 49) kW_sum_d49 (kfW_below hG) hA1 rfl ?_
        exact jj_callV (pc := 52) (b := (wa t)) (As := [.ref (wa u), .ref (wa v), .int (sg (V u))]) kW_sum_d52 (kvW_W_subtractSizes hG) (kG_cl hG rfl) rfl hT1 rfl rfl rfl (Nat.le_of_ble_eq_true rfl) (Nat.le_of_ble_eq_true rfl) (jj_bare0 rfl) (w_subtractSizes (z := z) hG hI hc ht hu hv (by omega) (by omega) (by rw [hzw]; omega) (fun hz0 => by rw [sg_eq0.mpr hs1, sg_eq0.mpr (show 0 ≤ z by omega)]) (sg_narrow _) (sg_fits _) (fun M8 h1 h2 => jj_goto (pc := 55) (tgt := 66) kW_sum_d55 (by decide) (jj_vret (pc := 66) kW_sum_d66 rfl (k M8 h1 h2))))
    · skip
      have hs1 : V u < 0 := sg_eq1.mp c1
      refine jj_aload_n (pc := 24) kW_sum_d24 rfl ?_
      refine jj_aload_n (pc := 25) kW_sum_d25 rfl ?_
      refine jj_aload_n (pc := 26) kW_sum_d26 rfl ?_
      refine jj_aload_n (pc := 27) kW_sum_d27 rfl ?_
      refine jj_getf (pc := 28) kW_sum_d28 (kfW_below hG) hA1 rfl ?_
      exact jj_callV (pc := 31) (b := (wa t)) (As := [.ref (wa u), .ref (wa v), .int (sg (V u))]) kW_sum_d31 (kvW_W_addSizes hG) (kG_cl hG rfl) rfl hT1 rfl rfl rfl (Nat.le_of_ble_eq_true rfl) (Nat.le_of_ble_eq_true rfl) (jj_bare0 rfl) (w_addSizes (z := z) hG hI hc ht hu hv hr1 hr2 (by rw [hzw]; omega) (fun hz0 => by rw [sg_eq1.mpr hs1, sg_eq1.mpr (show z < 0 by omega)]) (sg_narrow _) (sg_fits _) (fun M8 h1 h2 => jj_goto (pc := 34) (tgt := 66) kW_sum_d34 (by decide) (jj_vret (pc := 66) kW_sum_d66 rfl (k M8 h1 h2))))
theorem w_equalTo {t u : Nat} (hG : kG G) (hI : CI wa la cap N) (hc : CW M wa la cap N V) (ht : t < N) (hu : u < N) (k1 : V t = V u → Q (.returned (some (.int (nI 1)))) M rc rs) (k0 : V t ≠ V u → Q (.returned (some (.int (nI 0)))) M rc rs) : jj G kW_equalTo (d + 1) Q rc rs 0 (jj_ent [.ref (wa t), .ref (wa u)] 2) [] M := by
  obtain ⟨T, ct, hT1, hT2, hT3, hT4⟩ := hc t ht
  obtain ⟨A, n, hA1, hA2, hA3, hA4⟩ := hc u hu
  show jj G kW_equalTo (d + 1) Q rc rs 0 [some (.ref (wa t)), some (.ref (wa u))] [] M
  refine jj_aload_n (pc := 0) kW_equalTo_d0 rfl ?_
  refine jj_getf (pc := 1) kW_equalTo_d1 (kfW_below hG) hT1 rfl ?_
  refine jj_aload_n (pc := 4) kW_equalTo_d4 rfl ?_
  refine jj_getf (pc := 5) kW_equalTo_d5 (kfW_below hG) hA1 rfl ?_
  refine jj_icmp_ne (pc := 8) (tgt := 23) kW_equalTo_d8 (by decide) (fun c0 => ?_) (fun c0 => ?_)
  · skip
    refine jn_iconst (pc := 23) 0 kW_equalTo_d23 (by decide) ?_
    exact jj_iret (pc := 24) kW_equalTo_d24 rfl (by rfl) (k0 (fun e => c0 (by rw [e])))
  · skip
    refine jj_aload_n (pc := 11) kW_equalTo_d11 rfl ?_
    refine jj_aload_n (pc := 12) kW_equalTo_d12 rfl ?_
    refine jj_callV (pc := 13) (b := (wa t)) (As := [.ref (wa u)]) kW_equalTo_d13 (kvW_W_compareSizes hG) (kG_cl hG rfl) rfl hT1 rfl rfl rfl (Nat.le_of_ble_eq_true rfl) (Nat.le_of_ble_eq_true rfl) (jj_bare0 rfl) ?_
    refine w_compareSizes hG hI hc ht hu (fun c2 => ?_) (fun c2 => ?_) (fun c2 => ?_)
    · skip
      show jj G kW_equalTo (d + 1) Q rc rs 16 [some (.ref (wa t)), some (.ref (wa u))] [.int (-1)] M
      refine jj_if_ne (pc := 16) (tgt := 23) kW_equalTo_d16 (by decide) (fun _ => ?_) (fun c => absurd c (by decide))
      refine jn_iconst (pc := 23) 0 kW_equalTo_d23 (by decide) ?_
      exact jj_iret (pc := 24) kW_equalTo_d24 rfl (by rfl) (k0 (fun e => by rw [e] at c2; omega))
    · skip
      show jj G kW_equalTo (d + 1) Q rc rs 16 [some (.ref (wa t)), some (.ref (wa u))] [.int (nI (0))] M
      have hs : V t = V u := by
        rcases Decidable.em (V t < 0) with g | g
        · have := sg_eq1.mp (c0.symm.trans (sg_eq1.mpr g)); omega
        · have := sg_eq0.mp (c0.symm.trans (sg_eq0.mpr (by omega))); omega
      refine jn_if_ne (pc := 16) (tgt := 23) kW_equalTo_d16 (by decide) (by omega) (fun c => by exfalso; omega) (fun _ => ?_)
      refine jn_iconst (pc := 19) 1 kW_equalTo_d19 (by decide) ?_
      refine jj_goto (pc := 20) (tgt := 24) kW_equalTo_d20 (by decide) ?_
      exact jj_iret (pc := 24) kW_equalTo_d24 rfl (by rfl) (k1 hs)
    · skip
      show jj G kW_equalTo (d + 1) Q rc rs 16 [some (.ref (wa t)), some (.ref (wa u))] [.int (nI (1))] M
      refine jn_if_ne (pc := 16) (tgt := 23) kW_equalTo_d16 (by decide) (by omega) (fun _ => ?_) (fun c => by exfalso; omega)
      refine jn_iconst (pc := 23) 0 kW_equalTo_d23 (by decide) ?_
      exact jj_iret (pc := 24) kW_equalTo_d24 rfl (by rfl) (k0 (fun e => by rw [e] at c2; omega))
end W4
