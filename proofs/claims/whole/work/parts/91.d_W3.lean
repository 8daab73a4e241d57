/-! ===== Whole: addSizes, subtractSizes (printed by wip/gen/rW3.py) ===== -/
/-- how many limbs -/
def lc (z : Int) : Nat := (blen z + 31) / 32
theorem LW.cnt {D : List Int32} {c : Nat} {z : Int} (h : LW D c z) : c = lc z := by
  unfold lc
  rcases Nat.eq_zero_or_pos c with e | e
  · have := h.zero.mp e
    rw [e, this]; rfl
  · have h1 := h.2.2 e
    have h2 := bl_limbs h1
    rw [show c - 1 + 1 = c by omega, h.2.1, ← bl_z] at h2
    have h3 : lu (D.getD (c - 1) 0) ≠ 0 := fun g => h1 (lu_eq0.mp g)
    obtain ⟨a1, a2, a3⟩ := bl_spec h3
    have h4 := lu_lt (D.getD (c - 1) 0)
    have h5 : bl (lu (D.getD (c - 1) 0)) ≤ 32 := by
      rcases Nat.lt_or_ge 32 (bl (lu (D.getD (c - 1) 0))) with g | g
      · have : 2 ^ 32 ≤ 2 ^ (bl (lu (D.getD (c - 1) 0)) - 1) := Nat.pow_le_pow_right (by decide) (by omega)
        omega
      · exact g
    omega
theorem lc_le {z : Int} {L : Nat} (h : z.natAbs < BB ^ L) : lc z ≤ L := by
  unfold lc
  rw [show BB = 2 ^ 32 from rfl, ← Nat.pow_mul] at h
  rw [bl_z]
  by_cases e : z.natAbs = 0
  · rw [e]; show (0 + 31) / 32 ≤ L; omega
  · obtain ⟨a1, a2, a3⟩ := bl_spec e
    rcases Nat.lt_or_ge (32 * L) (bl z.natAbs) with g | g
    · have : 2 ^ (32 * L) ≤ 2 ^ (bl z.natAbs - 1) := Nat.pow_le_pow_right (by decide) (by omega)
      omega
    · omega
theorem carry_step {x y c s W u v : Nat} (h : x + c * W = y) (hs : c + u + v = s) : x + s % BB * W + s / BB * (W * BB) = y + u * W + v * W := by
  have e : s / BB * (W * BB) + s % BB * W = s * W := by
    rw [← Nat.mul_assoc, Nat.mul_right_comm, ← Nat.add_mul, Nat.div_add_mod' s BB]
  have e2 : s * W = c * W + u * W + v * W := by rw [← hs, Nat.add_mul, Nat.add_mul]
  omega
theorem borrow_step {x y z b W u v e b' : Nat} (h : x + y = z + b * W) (hd : e + v + b = u + b' * BB) : x + e * W + (y + v * W) = z + u * W + b' * (W * BB) := by
  have e1 : (e + v + b) * W = (u + b' * BB) * W := by rw [hd]
  rw [Nat.add_mul, Nat.add_mul, Nat.add_mul, Nat.mul_assoc b' BB W, Nat.mul_comm BB W] at e1
  omega
theorem lZ_nat (n : Nat) : lZ (n : Int) = lN n := by
  unfold lZ lN
  apply Int64.toBitVec_inj.mp
  exact BitVec.ofInt_natCast ..
theorem lZ_add (a b : Int) : lZ a + lZ b = lZ (a + b) := by unfold lZ; rw [← Int64.ofInt_add]
theorem lZ_sub (a b : Int) : lZ a - lZ b = lZ (a - b) := by unfold lZ; rw [← Int64.ofInt_sub]
theorem lZ_shr32 {z : Int} (h1 : -9223372036854775808 ≤ z) (h2 : z < 9223372036854775808) : lZ z >>> ((nI 32).toInt64 &&& 63) = lZ (z / 4294967296) := Int64.toInt_inj.mp (by
  rw [lZ_toInt (by omega) (by omega)]
  have e : (lZ z >>> ((nI 32).toInt64 &&& 63)).toInt = (lZ z).toInt >>> 32 := by
    show (lZ z >>> ((nI 32).toInt64 &&& 63)).toBitVec.toInt = (lZ z).toBitVec.toInt >>> 32
    rw [Int64.toBitVec_shiftRight]
    exact BitVec.toInt_sshiftRight ..
  rw [e, lZ_toInt h1 h2, Int.shiftRight_eq_div_pow]
  rfl)
theorem lu_zI {z : Int} {e : Nat} (h : z % 4294967296 = (e : Int)) : zI z = nI e := by
  unfold zI nI
  apply Int32.toBitVec_inj.mp
  show BitVec.ofInt 32 z = BitVec.ofNat 32 e
  rw [← BitVec.ofInt_natCast, ← h]
  apply BitVec.eq_of_toInt_eq
  rw [BitVec.toInt_ofInt, BitVec.toInt_ofInt]
  exact (Int.emod_bmod ..).symm
section W3
variable {G : jg} {d : Nat} {Q : jq} {rc rs : Nat} {M : mheap} {wa la cap : Nat → Nat} {N : Nat} {V : Nat → Int}
theorem w_add36 {t p q : Nat} {z : Int} {s : Int32} {o1 o2 : Option Value} (hG : kG G) (hI : CI wa la cap N) (hc : CW M wa la cap N V) (ht : t < N) (hp : p < N) (hq : q < N) (hpq : lc (V q) ≤ lc (V p)) (hr : lc (V p) + 1 ≤ cap t) (hz : z.natAbs = (V p).natAbs + (V q).natAbs) (hs : z ≠ 0 → s = sg z) (hsn : narrow .boolean (.int s) = .int s) (hsf : fits .boolean (.int s) = true) (k : ∀ M', CW M' wa la cap N (vup V t z) → WT M M' wa la t → Q (.returned none) M' rc rs) : jj G kW_addSizes (d + 2) Q rc rs 36 [some (.ref (wa t)), o1, o2, some (.int s), some (.ref (wa p)), some (.ref (wa q)), none, none, none, none, none, none, none, none] [] M := by
  obtain ⟨T, ct, hT1, hT2, hT3, hT4⟩ := hc t ht
  obtain ⟨at_, eat_⟩ : ∃ at_, wa t = at_ := ⟨_, rfl⟩
  obtain ⟨lt, elt⟩ : ∃ lt, la t = lt := ⟨_, rfl⟩
  have hcapt := hI.2.2 t ht
  have hleT := hT4.1
  rw [eat_, elt] at hT1
  rw [elt] at hT2
  obtain ⟨A, n, hA1, hA2, hA3, hA4⟩ := hc p hp
  obtain ⟨ap, eap⟩ : ∃ ap, wa p = ap := ⟨_, rfl⟩
  obtain ⟨lp, elp⟩ : ∃ lp, la p = lp := ⟨_, rfl⟩
  have hcapp := hI.2.2 p hp
  have hleA := hA4.1
  rw [eap, elp] at hA1
  rw [elp] at hA2
  obtain ⟨B, m, hB1, hB2, hB3, hB4⟩ := hc q hq
  obtain ⟨aq, eaq⟩ : ∃ aq, wa q = aq := ⟨_, rfl⟩
  obtain ⟨lq, elq⟩ : ∃ lq, la q = lq := ⟨_, rfl⟩
  have hcapq := hI.2.2 q hq
  have hleB := hB4.1
  rw [eaq, elq] at hB1
  rw [elq] at hB2
  have hcn := hA4.cnt
  have hcm := hB4.cnt
  rw [← hcn, ← hcm] at hpq
  rw [← hcn] at hr
  rw [eat_, eap, eaq]
  show jj G kW_addSizes (d + 2) Q rc rs 36 [some (.ref at_), (o1), (o2), some (.int (s)), some (.ref ap), some (.ref aq), none, none, none, none, none, none, none, none] [] M
  refine jj_aload (pc := 36) kW_addSizes_d36 rfl ?_
  refine jj_getf (pc := 38) kW_addSizes_d38 (kfW_count hG) hA1 rfl ?_
  refine jj_istore (pc := 41) kW_addSizes_d41 (Nat.le_of_ble_eq_true rfl) ?_
  refine jj_aload (pc := 43) kW_addSizes_d43 rfl ?_
  refine jj_getf (pc := 45) kW_addSizes_d45 (kfW_count hG) hB1 rfl ?_
  refine jj_istore (pc := 48) kW_addSizes_d48 (Nat.le_of_ble_eq_true rfl) ?_
  refine jj_aload_n (pc := 50) kW_addSizes_d50 rfl ?_
  refine jj_iload (pc := 51) kW_addSizes_d51 rfl ?_
  refine jn_iconst (pc := 53) 1 kW_addSizes_d53 (by decide) ?_
  refine jn_iadd (pc := 54) (n + 1) kW_addSizes_d54 (by omega) ?_
  refine jj_callV (pc := 55) (b := at_) (As := [.int (nI (n + 1))]) kW_addSizes_d55 (kvW_W_needRoom hG) (kG_cl hG rfl) rfl hT1 rfl rfl rfl (Nat.le_of_ble_eq_true rfl) (Nat.le_of_ble_eq_true rfl) (jj_bare0 rfl) ?_
  refine w_needRoom hG hT1 hT2 (by omega) (by omega) ?_
  show jj G kW_addSizes (d + 2) Q rc rs 58 [some (.ref at_), (o1), (o2), some (.int (s)), some (.ref ap), some (.ref aq), some (.int (nI (n))), some (.int (nI (m))), none, none, none, none, none, none] [] M
  refine jj_aload_n (pc := 58) kW_addSizes_d58 rfl ?_
  refine jj_getf (pc := 59) kW_addSizes_d59 (kfW_limbs hG) hT1 rfl ?_
  refine jj_astore (pc := 62) kW_addSizes_d62 (Nat.le_of_ble_eq_true rfl) ?_
  refine jj_aload (pc := 64) kW_addSizes_d64 rfl ?_
  refine jj_getf (pc := 66) kW_addSizes_d66 (kfW_limbs hG) hA1 rfl ?_
  refine jj_astore (pc := 69) kW_addSizes_d69 (Nat.le_of_ble_eq_true rfl) ?_
  refine jj_aload (pc := 71) kW_addSizes_d71 rfl ?_
  refine jj_getf (pc := 73) kW_addSizes_d73 (kfW_limbs hG) hB1 rfl ?_
  refine jj_astore (pc := 76) kW_addSizes_d76 (Nat.le_of_ble_eq_true rfl) ?_
  refine jj_lconst (pc := 78) (v := lN 0) kW_addSizes_d78 (by decide) ?_
  refine jj_lstore (pc := 79) kW_addSizes_d79 (Nat.le_of_ble_eq_true rfl) ?_
  refine jn_iconst (pc := 81) 0 kW_addSizes_d81 (by decide) ?_
  refine jj_istore (pc := 82) kW_addSizes_d82 (Nat.le_of_ble_eq_true rfl) ?_
  show jj G kW_addSizes (d + 2) Q rc rs 84 [some (.ref at_), (o1), (o2), some (.int (s)), some (.ref ap), some (.ref aq), some (.int (nI (n))), some (.int (nI (m))), some (.ref lt), some (.ref lp), some (.ref lq), some (.long (lN (0))), none, some (.int (nI (0)))] [] M
  have fin : ∀ (cy : Nat) (M9 : mheap) (T9 A9 B9 : List Int32), M9 at_ = some (.inl nW, [.ref lt, .int (nI ct), .int (sg (V t))]) → M9 lt = some (.inr 0, T9.map .int) → M9 lp = some (.inr 0, A9.map .int) → M9 lq = some (.inr 0, B9.map .int) → T9.length = T.length → A9.length = A.length → B9.length = B.length → (∀ j, n ≤ j → A9.getD j 0 = A.getD j 0) → (∀ j, n ≤ j → B9.getD j 0 = B.getD j 0) → (∀ r, r ≠ lt → M9 r = M r) → cy ≤ 1 → lnat T9 n + cy * BB ^ n = lnat A n + lnat B m → jj G kW_addSizes (d + 2) Q rc rs 185 [some (.ref at_), (o1), (o2), some (.int (s)), some (.ref ap), some (.ref aq), some (.int (nI (n))), some (.int (nI (m))), some (.ref lt), some (.ref lp), some (.ref lq), some (.long (lN (cy))), none, some (.int (nI (n)))] [] M9 := by
    intro cy M9 T9 A9 B9 h91 h92 h93 h94 l1 l2 l3 q1 q2 hf hcy hv
    refine jj_aload (pc := 185) kW_addSizes_d185 rfl ?_
    refine jj_iload (pc := 187) kW_addSizes_d187 rfl ?_
    refine jj_lload (pc := 189) kW_addSizes_d189 rfl ?_
    refine jj_l2i (pc := 191) kW_addSizes_d191 ?_
    refine jn_top (.int (nI (cy))) (by rw [lN_i]) ?_
    refine jn_iast (pc := 192) kW_addSizes_d192 (kG_t hG rfl) h92 (by omega) (by omega) ?_
    refine jn_gen (fun M101 hM102 => ?_)
    have h103 : M101 at_ = some (.inl nW, [.ref lt, .int (nI (ct)), .int (sg (V t))]) := by rw [hM102, jj_up_ne _ _ (fun e => by have q1 := h91; rw [e, h92] at q1; cases q1)]; exact h91
    obtain ⟨L105, h104, h104l, h104e⟩ := alias_set (i := n) (v := (nI (cy))) h92 h93
    rw [← hM102] at h104
    obtain ⟨L107, h106, h106l, h106e⟩ := alias_set (i := n) (v := (nI (cy))) h92 h94
    rw [← hM102] at h106
    have h108 : M101 lt = some (.inr 0, ((T9).set (n) ((nI (cy)))).map .int) := by rw [hM102]; exact jj_up_at _ _ _
    have hval : lnat (T9.set n (nI cy)) (n + 1) = z.natAbs := by
      rw [lnat_step (by omega), Nat.mod_eq_of_lt (show cy < BB by show cy < 4294967296; omega), hv, hA4.2.1, hB4.2.1, hz]
    refine jj_aload_n (pc := 193) kW_addSizes_d193 rfl ?_
    refine jj_iload (pc := 194) kW_addSizes_d194 rfl ?_
    refine jn_iconst (pc := 196) 1 kW_addSizes_d196 (by decide) ?_
    refine jn_iadd (pc := 197) (n + 1) kW_addSizes_d197 (by omega) ?_
    refine jj_putf (pc := 198) kW_addSizes_d198 (kpW_count hG) h103 (by rfl) rfl ?_
    refine jn_gen (fun M109 hM110 => ?_)
    have h111 : M109 lt = some (.inr 0, ((T9).set (n) ((nI (cy)))).map .int) := by rw [hM110, jj_up_ne _ _ (fun e => by have q1 := h108; rw [e, h103] at q1; cases q1)]; exact h108
    have h112 : M109 lp = some (.inr 0, (L105).map .int) := by rw [hM110, jj_up_ne _ _ (fun e => by have q1 := h104; rw [e, h103] at q1; cases q1)]; exact h104
    have h113 : M109 lq = some (.inr 0, (L107).map .int) := by rw [hM110, jj_up_ne _ _ (fun e => by have q1 := h106; rw [e, h103] at q1; cases q1)]; exact h106
    have h114 : M109 at_ = some (.inl nW, [.ref lt, .int (nI (n + 1)), .int (sg (V t))]) := by rw [hM110]; exact jj_up_at _ _ _
    refine jj_aload_n (pc := 201) kW_addSizes_d201 rfl ?_
    refine jj_iload_n (pc := 202) kW_addSizes_d202 rfl ?_
    refine jj_putf (pc := 203) kW_addSizes_d203 (kpW_below hG) h114 hsn hsf ?_
    refine jn_gen (fun M115 hM116 => ?_)
    have h117 : M115 lt = some (.inr 0, ((T9).set (n) ((nI (cy)))).map .int) := by rw [hM116, jj_up_ne _ _ (fun e => by have q1 := h111; rw [e, h114] at q1; cases q1)]; exact h111
    have h118 : M115 lp = some (.inr 0, (L105).map .int) := by rw [hM116, jj_up_ne _ _ (fun e => by have q1 := h112; rw [e, h114] at q1; cases q1)]; exact h112
    have h119 : M115 lq = some (.inr 0, (L107).map .int) := by rw [hM116, jj_up_ne _ _ (fun e => by have q1 := h113; rw [e, h114] at q1; cases q1)]; exact h113
    have h120 : M115 at_ = some (.inl nW, [.ref lt, .int (nI (n + 1)), .int (s)]) := by rw [hM116]; exact jj_up_at _ _ _
    refine jj_aload_n (pc := 206) kW_addSizes_d206 rfl ?_
    refine jj_callV (pc := 207) (b := at_) (As := []) kW_addSizes_d207 (kvW_W_trim hG) (kG_cl hG rfl) rfl h120 rfl rfl rfl (Nat.le_of_ble_eq_true rfl) (Nat.le_of_ble_eq_true rfl) (jj_bare0 rfl) ?_
    refine w_trim hG (by rw [List.length_set]; omega) (n + 1) M115 h120 h117 (by rw [List.length_set]; omega) (fun M8 h81 h82 => ?_)
    show jj G kW_addSizes (d + 2) Q rc rs 210 [some (.ref at_), (o1), (o2), some (.int (s)), some (.ref ap), some (.ref aq), some (.int (nI (n))), some (.int (nI (m))), some (.ref lt), some (.ref lp), some (.ref lq), some (.long (lN (cy))), none, some (.int (nI (n)))] [] M8
    have hlt8 : M8 lt = some (.inr 0, (T9.set n (nI cy)).map .int) := by rw [h82 lt (fun e => by have q9 := h117; rw [e, h120] at q9; cases q9)]; exact h117
    have hWT : WT M M8 wa la t := fun r r1 r2 => by
      rw [eat_] at r1
      rw [elt] at r2
      rw [h82 r r1, hM116, jj_up_ne _ _ r1, hM110, jj_up_ne _ _ r1, hM102, jj_up_ne _ _ r2, hf r r2]
    have hsg : (if ltrim (T9.set n (nI cy)) (n + 1) = 0 then (0 : Int32) else s) = sg z := sg_trim (by rw [List.length_set]; omega) hval hs
    rw [hsg] at h81
    exact jj_vret (pc := 210) kW_addSizes_d210 rfl (k M8 (hc.put hI ht (by rw [eat_, elt]; exact ⟨_, _, h81, hlt8, by rw [List.length_set, l1]; exact hT3, ltrim_LW (by rw [List.length_set]; omega) hval⟩) hWT) hWT)
  have loop2 : ∀ mu i, n = i + mu → ∀ (cy : Nat) (M9 : mheap) (T9 A9 B9 : List Int32), M9 at_ = some (.inl nW, [.ref lt, .int (nI ct), .int (sg (V t))]) → M9 lt = some (.inr 0, T9.map .int) → M9 lp = some (.inr 0, A9.map .int) → M9 lq = some (.inr 0, B9.map .int) → T9.length = T.length → A9.length = A.length → B9.length = B.length → (∀ j, i ≤ j → A9.getD j 0 = A.getD j 0) → (∀ j, i ≤ j → B9.getD j 0 = B.getD j 0) → (∀ r, r ≠ lt → M9 r = M r) → cy ≤ 1 → lnat T9 i + cy * BB ^ i = lnat A i + lnat B m → jj G kW_addSizes (d + 2) Q rc rs 142 [some (.ref at_), (o1), (o2), some (.int (s)), some (.ref ap), some (.ref aq), some (.int (nI (n))), some (.int (nI (m))), some (.ref lt), some (.ref lp), some (.ref lq), some (.long (lN (cy))), none, some (.int (nI (i)))] [] M9 := by
    intro mu
    induction mu with
    | zero =>
      intro i hk cy M9 T9 A9 B9 h91 h92 h93 h94 l1 l2 l3 q1 q2 hf hcy hv
      have e9 : n = i := by omega
      subst e9
      refine jj_iload (pc := 142) kW_addSizes_d142 rfl ?_
      refine jj_iload (pc := 144) kW_addSizes_d144 rfl ?_
      refine jn_icmp_ge (pc := 146) (tgt := 185) kW_addSizes_d146 (by decide) (by omega) (by omega) (fun _ => ?_) (fun c => by exfalso; omega)
      show jj G kW_addSizes (d + 2) Q rc rs 185 [some (.ref at_), (o1), (o2), some (.int (s)), some (.ref ap), some (.ref aq), some (.int (nI (n))), some (.int (nI (m))), some (.ref lt), some (.ref lp), some (.ref lq), some (.long (lN (cy))), none, some (.int (nI (n)))] [] M9
      exact fin cy M9 T9 A9 B9 h91 h92 h93 h94 l1 l2 l3 q1 q2 hf hcy hv
    | succ mu ih =>
      intro i hk cy M9 T9 A9 B9 h91 h92 h93 h94 l1 l2 l3 q1 q2 hf hcy hv
      have ha := lu_lt (A.getD i 0)
      have hb := lu_lt (B.getD i 0)
      refine jj_iload (pc := 142) kW_addSizes_d142 rfl ?_
      refine jj_iload (pc := 144) kW_addSizes_d144 rfl ?_
      refine jn_icmp_ge (pc := 146) (tgt := 185) kW_addSizes_d146 (by decide) (by omega) (by omega) (fun c => by exfalso; omega) (fun _ => ?_)
      refine jj_lload (pc := 149) kW_addSizes_d149 rfl ?_
      refine jj_aload (pc := 151) kW_addSizes_d151 rfl ?_
      refine jj_iload (pc := 153) kW_addSizes_d153 rfl ?_
      refine jn_iald (pc := 155) (v := (A.getD i 0)) kW_addSizes_d155 (kG_t hG rfl) h93 (by omega) (by omega) (q1 i (Nat.le_refl _)) ?_
      refine jj_i2l (pc := 156) kW_addSizes_d156 ?_
      refine jj_ldc2 (pc := 157) kW_addSizes_d157 (kcW_4294967295 hG) ?_
      refine jn_top (.long (lN (4294967295))) (rfl) ?_
      refine jj_land (pc := 160) kW_addSizes_d160 ?_
      refine jn_top (.long (lN (lu (A.getD i 0)))) (by rw [lu_mask]) ?_
      obtain ⟨sm, hsm⟩ : ∃ sm, cy + lu (A.getD i 0) = sm := ⟨_, rfl⟩
      refine jj_ladd (pc := 161) kW_addSizes_d161 ?_
      refine jn_top (.long (lN (sm))) (by rw [lN_add, hsm]) ?_
      refine jj_lstore (pc := 162) kW_addSizes_d162 (Nat.le_of_ble_eq_true rfl) ?_
      refine jj_aload (pc := 164) kW_addSizes_d164 rfl ?_
      refine jj_iload (pc := 166) kW_addSizes_d166 rfl ?_
      refine jj_lload (pc := 168) kW_addSizes_d168 rfl ?_
      refine jj_l2i (pc := 170) kW_addSizes_d170 ?_
      refine jn_top (.int (nI (sm))) (by rw [lN_i]) ?_
      refine jn_iast (pc := 171) kW_addSizes_d171 (kG_t hG rfl) h92 (by omega) (by omega) ?_
      refine jn_gen (fun M121 hM122 => ?_)
      have h123 : M121 at_ = some (.inl nW, [.ref lt, .int (nI (ct)), .int (sg (V t))]) := by rw [hM122, jj_up_ne _ _ (fun e => by have q1 := h91; rw [e, h92] at q1; cases q1)]; exact h91
      obtain ⟨L125, h124, h124l, h124e⟩ := alias_set (i := i) (v := (nI (sm))) h92 h93
      rw [← hM122] at h124
      obtain ⟨L127, h126, h126l, h126e⟩ := alias_set (i := i) (v := (nI (sm))) h92 h94
      rw [← hM122] at h126
      have h128 : M121 lt = some (.inr 0, ((T9).set (i) ((nI (sm)))).map .int) := by rw [hM122]; exact jj_up_at _ _ _
      refine jj_lload (pc := 172) kW_addSizes_d172 rfl ?_
      refine jn_bipush (pc := 174) 32 kW_addSizes_d174 (by decide) ?_
      refine jj_lushr (pc := 176) kW_addSizes_d176 ?_
      refine jn_top (.long (lN (sm / BB))) (by rw [lN_shr32 (by omega)]) ?_
      refine jj_lstore (pc := 177) kW_addSizes_d177 (Nat.le_of_ble_eq_true rfl) ?_
      refine jn_iinc (pc := 179) (i + 1) kW_addSizes_d179 rfl (nI_1 _) ?_
      refine jj_goto (pc := 182) (tgt := 142) kW_addSizes_d182 (by decide) ?_
      show jj G kW_addSizes (d + 2) Q rc rs 142 [some (.ref at_), (o1), (o2), some (.int (s)), some (.ref ap), some (.ref aq), some (.int (nI (n))), some (.int (nI (m))), some (.ref lt), some (.ref lp), some (.ref lq), some (.long (lN (sm / BB))), none, some (.int (nI (i + 1)))] [] M121
      have hcs := carry_step (s := sm) (u := lu (A.getD i 0)) (v := 0) hv (by omega)
      have hq9 : sm / BB ≤ 1 := by
        show sm / 4294967296 ≤ 1
        omega
      refine ih (i + 1) (by omega) (sm / BB) M121 _ L125 L127 h123 h128 h124 h126 (by rw [List.length_set]; exact l1) (h124l.trans l2) (h126l.trans l3) (fun j hj => by rw [h124e j (by omega)]; exact q1 j (by omega)) (fun j hj => by rw [h126e j (by omega)]; exact q2 j (by omega)) (fun r hr => by rw [hM122, jj_up_ne _ _ hr]; exact hf r hr) hq9 ?_
      rw [lnat_step (by omega), Nat.pow_succ]
      rw [hcs]
      show _ = (lnat A i + lu (A.getD i 0) * BB ^ i) + lnat B m
      omega
  have loop1 : ∀ mu i, m = i + mu → ∀ (cy : Nat) (M9 : mheap) (T9 A9 B9 : List Int32), M9 at_ = some (.inl nW, [.ref lt, .int (nI ct), .int (sg (V t))]) → M9 lt = some (.inr 0, T9.map .int) → M9 lp = some (.inr 0, A9.map .int) → M9 lq = some (.inr 0, B9.map .int) → T9.length = T.length → A9.length = A.length → B9.length = B.length → (∀ j, i ≤ j → A9.getD j 0 = A.getD j 0) → (∀ j, i ≤ j → B9.getD j 0 = B.getD j 0) → (∀ r, r ≠ lt → M9 r = M r) → cy ≤ 1 → lnat T9 i + cy * BB ^ i = lnat A i + lnat B i → jj G kW_addSizes (d + 2) Q rc rs 84 [some (.ref at_), (o1), (o2), some (.int (s)), some (.ref ap), some (.ref aq), some (.int (nI (n))), some (.int (nI (m))), some (.ref lt), some (.ref lp), some (.ref lq), some (.long (lN (cy))), none, some (.int (nI (i)))] [] M9 := by
    intro mu
    induction mu with
    | zero =>
      intro i hk cy M9 T9 A9 B9 h91 h92 h93 h94 l1 l2 l3 q1 q2 hf hcy hv
      have e9 : m = i := by omega
      subst e9
      refine jj_iload (pc := 84) kW_addSizes_d84 rfl ?_
      refine jj_iload (pc := 86) kW_addSizes_d86 rfl ?_
      refine jn_icmp_ge (pc := 88) (tgt := 138) kW_addSizes_d88 (by decide) (by omega) (by omega) (fun _ => ?_) (fun c => by exfalso; omega)
      refine jj_iload (pc := 138) kW_addSizes_d138 rfl ?_
      refine jj_istore (pc := 140) kW_addSizes_d140 (Nat.le_of_ble_eq_true rfl) ?_
      show jj G kW_addSizes (d + 2) Q rc rs 142 [some (.ref at_), (o1), (o2), some (.int (s)), some (.ref ap), some (.ref aq), some (.int (nI (n))), some (.int (nI (m))), some (.ref lt), some (.ref lp), some (.ref lq), some (.long (lN (cy))), none, some (.int (nI (m)))] [] M9
      exact loop2 (n - m) m (by omega) cy M9 T9 A9 B9 h91 h92 h93 h94 l1 l2 l3 q1 q2 hf hcy hv
    | succ mu ih =>
      intro i hk cy M9 T9 A9 B9 h91 h92 h93 h94 l1 l2 l3 q1 q2 hf hcy hv
      have ha := lu_lt (A.getD i 0)
      have hb := lu_lt (B.getD i 0)
      refine jj_iload (pc := 84) kW_addSizes_d84 rfl ?_
      refine jj_iload (pc := 86) kW_addSizes_d86 rfl ?_
      refine jn_icmp_ge (pc := 88) (tgt := 138) kW_addSizes_d88 (by decide) (by omega) (by omega) (fun c => by exfalso; omega) (fun _ => ?_)
      refine jj_lload (pc := 91) kW_addSizes_d91 rfl ?_
      refine jj_aload (pc := 93) kW_addSizes_d93 rfl ?_
      refine jj_iload (pc := 95) kW_addSizes_d95 rfl ?_
      refine jn_iald (pc := 97) (v := (A.getD i 0)) kW_addSizes_d97 (kG_t hG rfl) h93 (by omega) (by omega) (q1 i (Nat.le_refl _)) ?_
      refine jj_i2l (pc := 98) kW_addSizes_d98 ?_
      refine jj_ldc2 (pc := 99) kW_addSizes_d99 (kcW_4294967295 hG) ?_
      refine jn_top (.long (lN (4294967295))) (rfl) ?_
      refine jj_land (pc := 102) kW_addSizes_d102 ?_
      refine jn_top (.long (lN (lu (A.getD i 0)))) (by rw [lu_mask]) ?_
      refine jj_aload (pc := 103) kW_addSizes_d103 rfl ?_
      refine jj_iload (pc := 105) kW_addSizes_d105 rfl ?_
      refine jn_iald (pc := 107) (v := (B.getD i 0)) kW_addSizes_d107 (kG_t hG rfl) h94 (by omega) (by omega) (q2 i (Nat.le_refl _)) ?_
      refine jj_i2l (pc := 108) kW_addSizes_d108 ?_
      refine jj_ldc2 (pc := 109) kW_addSizes_d109 (kcW_4294967295 hG) ?_
      refine jn_top (.long (lN (4294967295))) (rfl) ?_
      refine jj_land (pc := 112) kW_addSizes_d112 ?_
      refine jn_top (.long (lN (lu (B.getD i 0)))) (by rw [lu_mask]) ?_
      obtain ⟨sm, hsm⟩ : ∃ sm, cy + (lu (A.getD i 0) + lu (B.getD i 0)) = sm := ⟨_, rfl⟩
      refine jj_ladd (pc := 113) kW_addSizes_d113 ?_
      refine jn_top (.long (lN (lu (A.getD i 0) + lu (B.getD i 0)))) (by rw [lN_add]) ?_
      refine jj_ladd (pc := 114) kW_addSizes_d114 ?_
      refine jn_top (.long (lN (sm))) (by rw [lN_add, hsm]) ?_
      refine jj_lstore (pc := 115) kW_addSizes_d115 (Nat.le_of_ble_eq_true rfl) ?_
      refine jj_aload (pc := 117) kW_addSizes_d117 rfl ?_
      refine jj_iload (pc := 119) kW_addSizes_d119 rfl ?_
      refine jj_lload (pc := 121) kW_addSizes_d121 rfl ?_
      refine jj_l2i (pc := 123) kW_addSizes_d123 ?_
      refine jn_top (.int (nI (sm))) (by rw [lN_i]) ?_
      refine jn_iast (pc := 124) kW_addSizes_d124 (kG_t hG rfl) h92 (by omega) (by omega) ?_
      refine jn_gen (fun M129 hM130 => ?_)
      have h131 : M129 at_ = some (.inl nW, [.ref lt, .int (nI (ct)), .int (sg (V t))]) := by rw [hM130, jj_up_ne _ _ (fun e => by have q1 := h91; rw [e, h92] at q1; cases q1)]; exact h91
      obtain ⟨L133, h132, h132l, h132e⟩ := alias_set (i := i) (v := (nI (sm))) h92 h93
      rw [← hM130] at h132
      obtain ⟨L135, h134, h134l, h134e⟩ := alias_set (i := i) (v := (nI (sm))) h92 h94
      rw [← hM130] at h134
      have h136 : M129 lt = some (.inr 0, ((T9).set (i) ((nI (sm)))).map .int) := by rw [hM130]; exact jj_up_at _ _ _
      refine jj_lload (pc := 125) kW_addSizes_d125 rfl ?_
      refine jn_bipush (pc := 127) 32 kW_addSizes_d127 (by decide) ?_
      refine jj_lushr (pc := 129) kW_addSizes_d129 ?_
      refine jn_top (.long (lN (sm / BB))) (by rw [lN_shr32 (by omega)]) ?_
      refine jj_lstore (pc := 130) kW_addSizes_d130 (Nat.le_of_ble_eq_true rfl) ?_
      refine jn_iinc (pc := 132) (i + 1) kW_addSizes_d132 rfl (nI_1 _) ?_
      refine jj_goto (pc := 135) (tgt := 84) kW_addSizes_d135 (by decide) ?_
      show jj G kW_addSizes (d + 2) Q rc rs 84 [some (.ref at_), (o1), (o2), some (.int (s)), some (.ref ap), some (.ref aq), some (.int (nI (n))), some (.int (nI (m))), some (.ref lt), some (.ref lp), some (.ref lq), some (.long (lN (sm / BB))), none, some (.int (nI (i + 1)))] [] M129
      have hcs := carry_step (s := sm) (u := lu (A.getD i 0)) (v := lu (B.getD i 0)) hv (by omega)
      have hq9 : sm / BB ≤ 1 := by
        show sm / 4294967296 ≤ 1
        omega
      refine ih (i + 1) (by omega) (sm / BB) M129 _ L133 L135 h131 h136 h132 h134 (by rw [List.length_set]; exact l1) (h132l.trans l2) (h134l.trans l3) (fun j hj => by rw [h132e j (by omega)]; exact q1 j (by omega)) (fun j hj => by rw [h134e j (by omega)]; exact q2 j (by omega)) (fun r hr => by rw [hM130, jj_up_ne _ _ hr]; exact hf r hr) hq9 ?_
      rw [lnat_step (by omega), Nat.pow_succ]
      rw [hcs]
      show _ = (lnat A i + lu (A.getD i 0) * BB ^ i) + (lnat B i + lu (B.getD i 0) * BB ^ i)
      omega
  exact loop1 m 0 (by omega) 0 M T A B hT1 hT2 hA2 hB2 rfl rfl rfl (fun _ _ => rfl) (fun _ _ => rfl) (fun _ _ => rfl) (by omega) (by show 0 + 0 * BB ^ 0 = 0 + 0; omega)
theorem w_addSizes {t u v : Nat} {z : Int} {s : Int32} (hG : kG G) (hI : CI wa la cap N) (hc : CW M wa la cap N V) (ht : t < N) (hu : u < N) (hv : v < N) (hr1 : lc (V u) + 1 ≤ cap t) (hr2 : lc (V v) + 1 ≤ cap t) (hz : z.natAbs = (V u).natAbs + (V v).natAbs) (hs : z ≠ 0 → s = sg z) (hsn : narrow .boolean (.int s) = .int s) (hsf : fits .boolean (.int s) = true) (k : ∀ M', CW M' wa la cap N (vup V t z) → WT M M' wa la t → Q (.returned none) M' rc rs) : jj G kW_addSizes (d + 2) Q rc rs 0 (jj_ent [.ref (wa t), .ref (wa u), .ref (wa v), .int s] 14) [] M := by
  obtain ⟨A, n, hA1, hA2, hA3, hA4⟩ := hc u hu
  obtain ⟨B, m, hB1, hB2, hB3, hB4⟩ := hc v hv
  have hcn := hA4.cnt
  have hcm := hB4.cnt
  have hcu := hI.2.2 u hu
  have hcv := hI.2.2 v hv
  have hlA := hA4.1
  have hlB := hB4.1
  show jj G kW_addSizes (d + 2) Q rc rs 0 [some (.ref (wa t)), some (.ref (wa u)), some (.ref (wa v)), some (.int (s)), none, none, none, none, none, none, none, none, none, none] [] M
  refine jj_aload_n (pc := 0) kW_addSizes_d0 rfl ?_
  refine jj_getf (pc := 1) kW_addSizes_d1 (kfW_count hG) hA1 rfl ?_
  refine jj_aload_n (pc := 4) kW_addSizes_d4 rfl ?_
  refine jj_getf (pc := 5) kW_addSizes_d5 (kfW_count hG) hB1 rfl ?_
  refine jn_icmp_lt (pc := 8) (tgt := 15) kW_addSizes_d8 (by decide) (by omega) (by omega) (fun c0 => ?_) (fun c0 => ?_)
  · skip
    refine jj_aload_n (pc := 15) kW_addSizes_d15 rfl ?_
    refine jj_astore (pc := 16) kW_addSizes_d16 (Nat.le_of_ble_eq_true rfl) ?_
    refine jj_aload_n (pc := 18) kW_addSizes_d18 rfl ?_
    refine jj_getf (pc := 19) kW_addSizes_d19 (kfW_count hG) hA1 rfl ?_
    refine jj_aload_n (pc := 22) kW_addSizes_d22 rfl ?_
    refine jj_getf (pc := 23) kW_addSizes_d23 (kfW_count hG) hB1 rfl ?_
    refine jn_icmp_lt (pc := 26) (tgt := 33) kW_addSizes_d26 (by decide) (by omega) (by omega) (fun _ => ?_) (fun c => by exfalso; omega)
    refine jj_aload_n (pc := 33) kW_addSizes_d33 rfl ?_
    refine jj_astore (pc := 34) kW_addSizes_d34 (Nat.le_of_ble_eq_true rfl) ?_
    show jj G kW_addSizes (d + 2) Q rc rs 36 [some (.ref (wa t)), some (.ref (wa u)), some (.ref (wa v)), some (.int (s)), some (.ref (wa v)), some (.ref (wa u)), none, none, none, none, none, none, none, none] [] M
    exact w_add36 hG hI hc ht hv hu (by omega) hr2 (by omega) hs hsn hsf k
  · skip
    refine jj_aload_n (pc := 11) kW_addSizes_d11 rfl ?_
    refine jj_goto (pc := 12) (tgt := 16) kW_addSizes_d12 (by decide) ?_
    refine jj_astore (pc := 16) kW_addSizes_d16 (Nat.le_of_ble_eq_true rfl) ?_
    refine jj_aload_n (pc := 18) kW_addSizes_d18 rfl ?_
    refine jj_getf (pc := 19) kW_addSizes_d19 (kfW_count hG) hA1 rfl ?_
    refine jj_aload_n (pc := 22) kW_addSizes_d22 rfl ?_
    refine jj_getf (pc := 23) kW_addSizes_d23 (kfW_count hG) hB1 rfl ?_
    refine jn_icmp_lt (pc := 26) (tgt := 33) kW_addSizes_d26 (by decide) (by omega) (by omega) (fun c => by exfalso; omega) (fun _ => ?_)
    refine jj_aload_n (pc := 29) kW_addSizes_d29 rfl ?_
    refine jj_goto (pc := 30) (tgt := 34) kW_addSizes_d30 (by decide) ?_
    refine jj_astore (pc := 34) kW_addSizes_d34 (Nat.le_of_ble_eq_true rfl) ?_
    show jj G kW_addSizes (d + 2) Q rc rs 36 [some (.ref (wa t)), some (.ref (wa u)), some (.ref (wa v)), some (.int (s)), some (.ref (wa u)), some (.ref (wa v)), none, none, none, none, none, none, none, none] [] M
    exact w_add36 hG hI hc ht hu hv (by omega) hr1 hz hs hsn hsf k
end W3
