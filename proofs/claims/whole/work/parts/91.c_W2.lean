/-! ===== Whole: copy, compareSizes, equalTo, bitsOf, bits (printed by wip/gen/rW2.py) ===== -/
theorem cp2_map {A B : List Int32} {n : Nat} : jj_cp (A.map Value.int) (B.map Value.int) 0 0 n = (A.take n ++ B.drop n).map Value.int := by
  simp [jj_cp]
theorem cp2_len {A B : List Int32} {n : Nat} (h1 : n ≤ A.length) (h2 : n ≤ B.length) : (A.take n ++ B.drop n).length = B.length := by
  simp; omega
theorem cp2_at {A B : List Int32} {n i : Nat} (h1 : n ≤ A.length) (hi : i < n) : (A.take n ++ B.drop n).getD i 0 = A.getD i 0 := by
  simp only [List.getD_eq_getElem?_getD]
  rw [List.getElem?_append_left (by simp; omega), List.getElem?_take_of_lt hi]
theorem LW.moved {D E : List Int32} {c : Nat} {z : Int} (h : LW D c z) (hc : c ≤ E.length) (e : ∀ i, i < c → E.getD i 0 = D.getD i 0) : LW E c z := ⟨hc, by rw [lnat_congr e]; exact h.2.1, fun h0 => by rw [e _ (by omega)]; exact h.2.2 h0⟩
theorem lnat_cmp {D E : List Int32} {n : Nat} (h : lu (D.getD n 0) < lu (E.getD n 0)) : lnat D (n + 1) < lnat E (n + 1) := by
  have h1 := lnat_lt D n
  have h2 : (lu (D.getD n 0) + 1) * BB ^ n ≤ lu (E.getD n 0) * BB ^ n := Nat.mul_le_mul_right _ h
  rw [Nat.succ_mul] at h2
  show lnat D n + _ < lnat E n + _
  omega
theorem lnat_more {D E : List Int32} : ∀ {m k : Nat}, (∀ j, m ≤ j → j < m + k → D.getD j 0 = E.getD j 0) → ∃ X, lnat D (m + k) = lnat D m + X ∧ lnat E (m + k) = lnat E m + X
  | m, 0, _ => ⟨0, rfl, rfl⟩
  | m, k + 1, h => by
    obtain ⟨X, h1, h2⟩ := lnat_more (m := m) (k := k) (fun j a b => h j a (by omega))
    refine ⟨X + lu (E.getD (m + k) 0) * BB ^ (m + k), ?_, ?_⟩
    · show lnat D (m + k) + lu (D.getD (m + k) 0) * _ = _
      rw [h (m + k) (by omega) (by omega), h1, Nat.add_assoc]
      rfl
    · show lnat E (m + k) + _ = _
      rw [h2, Nat.add_assoc]
      rfl
theorem LW.less {D E : List Int32} {c e : Nat} {y z : Int} (h : LW D c y) (h' : LW E e z) (hce : c < e) : y.natAbs < z.natAbs := by
  have h1 := h.lt
  have h2 := lnat_top (h'.2.2 (by omega))
  rw [show e - 1 + 1 = e by omega, h'.2.1] at h2
  have h3 : BB ^ c ≤ BB ^ (e - 1) := Nat.pow_le_pow_right (by decide) (by omega)
  omega
/-- bits of a count -/
def bl (n : Nat) : Nat := if n = 0 then 0 else n.log2 + 1
theorem bl_z (z : Int) : blen z = bl z.natAbs := by
  unfold blen bl
  by_cases e : z = 0
  · rw [if_pos e, if_pos (by omega)]
  · rw [if_neg e, if_neg (by omega)]
theorem bl_eq {n L : Nat} (h1 : 2 ^ L ≤ n) (h2 : n < 2 ^ (L + 1)) : bl n = L + 1 := by
  have h0 : n ≠ 0 := fun e => by rw [e] at h1; have := Nat.pow_pos (n := L) (show 0 < 2 by decide); omega
  unfold bl
  rw [if_neg h0]
  have a := (Nat.le_log2 h0).mpr h1
  have b := (Nat.log2_lt h0).mpr h2
  omega
theorem bl_spec {n : Nat} (h : n ≠ 0) : 2 ^ (bl n - 1) ≤ n ∧ n < 2 ^ bl n ∧ 0 < bl n := by
  unfold bl
  rw [if_neg h]
  exact ⟨Nat.log2_self_le h, (Nat.log2_lt h).mp (Nat.lt_succ_self _), by omega⟩
theorem bl_shift {n s : Nat} (h : n / 2 ^ s ≠ 0) : bl n = s + bl (n / 2 ^ s) := by
  obtain ⟨h1, h2, h3⟩ := bl_spec h
  have e : bl n = (s + (bl (n / 2 ^ s) - 1)) + 1 := bl_eq (by
    rw [Nat.pow_add]
    have := Nat.mul_le_mul_left (2 ^ s) h1
    have := Nat.mul_div_le n (2 ^ s)
    omega) (by
    rw [show s + (bl (n / 2 ^ s) - 1) + 1 = s + bl (n / 2 ^ s) by omega, Nat.pow_add]
    have := (Nat.div_lt_iff_lt_mul (Nat.pow_pos (n := s) (show 0 < 2 by decide))).mp h2
    rw [Nat.mul_comm] at this
    exact this)
  omega
theorem bl_two {n : Nat} (h : n < 2) : bl n = n := by
  rcases (show n = 0 ∨ n = 1 by omega) with e | e <;> subst e <;> rfl
theorem bl_limbs {D : List Int32} {n : Nat} (h : D.getD n 0 ≠ 0) : bl (lnat D (n + 1)) = 32 * n + bl (lu (D.getD n 0)) := by
  have h0 : lu (D.getD n 0) ≠ 0 := fun e => h (lu_eq0.mp e)
  have h1 := lnat_lt D n
  have e : lnat D (n + 1) / 2 ^ (32 * n) = lu (D.getD n 0) := by
    rw [Nat.pow_mul, show (2 : Nat) ^ 32 = BB from rfl]
    show (lnat D n + _ * BB ^ n) / _ = _
    rw [Nat.add_mul_div_right _ _ (Nat.pow_pos (by decide)), Nat.div_eq_of_lt h1, Nat.zero_add]
  have h2 := bl_shift (n := lnat D (n + 1)) (s := 32 * n) (by rw [e]; exact h0)
  rw [h2, e]
theorem iushr_nI : ∀ h, h < 32 → ∀ x : Int32, (x.toUInt32 >>> ((nI h).toUInt32 &&& Int32.toUInt32 31)).toInt32 = nI (lu x / 2 ^ h) := by
  intro h hh x
  apply Int32.toBitVec_inj.mp
  show (x.toUInt32 >>> ((nI h).toUInt32 &&& Int32.toUInt32 31)).toBitVec = _
  rw [UInt32.toBitVec_shiftRight]
  apply BitVec.eq_of_toNat_eq
  have e : (((nI h).toUInt32 &&& Int32.toUInt32 31).toBitVec % 32) = BitVec.ofNat 32 h := by
    have : ∀ h, h < 32 → (((nI h).toUInt32 &&& Int32.toUInt32 31).toBitVec % 32) = BitVec.ofNat 32 h := by decide
    exact this h hh
  rw [e]
  show (x.toUInt32.toBitVec >>> (BitVec.ofNat 32 h).toNat).toNat = _
  rw [BitVec.toNat_ofNat, Nat.mod_eq_of_lt (show h < 2 ^ 32 by omega), BitVec.toNat_ushiftRight, Nat.shiftRight_eq_div_pow]
  show lu x / 2 ^ h = (BitVec.ofNat 32 (lu x / 2 ^ h)).toNat
  rw [BitVec.toNat_ofNat, Nat.mod_eq_of_lt (Nat.lt_of_le_of_lt (Nat.div_le_self _ _) (lu_lt x))]
section W2
variable {G : jg} {d : Nat} {Q : jq} {rc rs : Nat} {M : mheap} {wa la cap : Nat → Nat} {N : Nat} {V : Nat → Int}
theorem w_copy {t u : Nat} (hG : kG G) (hI : CI wa la cap N) (hc : CW M wa la cap N V) (ht : t < N) (hu : u < N) (hr : (V u).natAbs < BB ^ cap t) (k : ∀ M', CW M' wa la cap N (vup V t (V u)) → WT M M' wa la t → Q (.returned none) M' rc rs) : jj G kW_copy (d + 2) Q rc rs 0 (jj_ent [.ref (wa t), .ref (wa u)] 2) [] M := by
  by_cases ctu : t = u
  · subst ctu
    obtain ⟨D, c, hD1, hD2, hD3, hD4⟩ := hc t ht
    obtain ⟨at_, eat_⟩ : ∃ at_, wa t = at_ := ⟨_, rfl⟩
    obtain ⟨lt, elt⟩ : ∃ lt, la t = lt := ⟨_, rfl⟩
    have hcapt := hI.2.2 t ht
    have hleD := hD4.1
    rw [eat_, elt] at hD1
    rw [elt] at hD2
    rw [eat_]
    show jj G kW_copy (d + 2) Q rc rs 0 [some (.ref at_), some (.ref at_)] [] M
    refine jj_aload_n (pc := 0) kW_copy_d0 rfl ?_
    refine jj_aload_n (pc := 1) kW_copy_d1 rfl ?_
    refine jj_getf (pc := 2) kW_copy_d2 (kfW_count hG) hD1 rfl ?_
    refine jj_callV (pc := 5) (b := at_) (As := [.int (nI (c))]) kW_copy_d5 (kvW_W_needRoom hG) (kG_cl hG rfl) rfl hD1 rfl rfl rfl (Nat.le_of_ble_eq_true rfl) (Nat.le_of_ble_eq_true rfl) (jj_bare0 rfl) ?_
    refine w_needRoom hG hD1 hD2 (by omega) (by omega) ?_
    show jj G kW_copy (d + 2) Q rc rs 8 [some (.ref at_), some (.ref at_)] [] M
    refine jj_aload_n (pc := 8) kW_copy_d8 rfl ?_
    refine jj_getf (pc := 9) kW_copy_d9 (kfW_limbs hG) hD1 rfl ?_
    refine jn_iconst (pc := 12) 0 kW_copy_d12 (by decide) ?_
    refine jj_aload_n (pc := 13) kW_copy_d13 rfl ?_
    refine jj_getf (pc := 14) kW_copy_d14 (kfW_limbs hG) hD1 rfl ?_
    refine jn_iconst (pc := 17) 0 kW_copy_d17 (by decide) ?_
    refine jj_aload_n (pc := 18) kW_copy_d18 rfl ?_
    refine jj_getf (pc := 19) kW_copy_d19 (kfW_count hG) hD1 rfl ?_
    refine jj_acopy (pc := 22) (sp := 0) (dp := 0) (n := c) kW_copy_d22 (koW_copy hG) (ka_nat hG) (ka_sta hG) (ka_ini hG) (kG_t hG rfl) hD2 hD2 rfl rfl rfl (by rw [List.length_map]; omega) (by rw [List.length_map]; omega) (by rw [List.length_map]; omega) (by rw [List.length_map]; omega) (fun i hi => ⟨_, by rw [Nat.zero_add]; exact gd_int (by omega)⟩) rfl (by decide +kernel) ?_
    rw [cp2_map]
    refine jn_gen (fun M101 hM102 => ?_)
    have h103 : M101 at_ = some (.inl nW, [.ref lt, .int (nI (c)), .int (sg (V t))]) := by rw [hM102, jj_up_ne _ _ (fun e => by have q1 := hD1; rw [e, hD2] at q1; cases q1)]; exact hD1
    have h104 : M101 lt = some (.inr 0, (D.take c ++ D.drop c).map .int) := by rw [hM102]; exact jj_up_at _ _ _
    refine jj_aload_n (pc := 25) kW_copy_d25 rfl ?_
    refine jj_aload_n (pc := 26) kW_copy_d26 rfl ?_
    refine jj_getf (pc := 27) kW_copy_d27 (kfW_count hG) h103 rfl ?_
    refine jj_putf (pc := 30) kW_copy_d30 (kpW_count hG) h103 (by rfl) rfl ?_
    refine jn_gen (fun M105 hM106 => ?_)
    have h107 : M105 lt = some (.inr 0, (D.take c ++ D.drop c).map .int) := by rw [hM106, jj_up_ne _ _ (fun e => by have q1 := h104; rw [e, h103] at q1; cases q1)]; exact h104
    have h108 : M105 at_ = some (.inl nW, [.ref lt, .int (nI (c)), .int (sg (V t))]) := by rw [hM106]; exact jj_up_at _ _ _
    refine jj_aload_n (pc := 33) kW_copy_d33 rfl ?_
    refine jj_aload_n (pc := 34) kW_copy_d34 rfl ?_
    refine jj_getf (pc := 35) kW_copy_d35 (kfW_below hG) h108 rfl ?_
    refine jj_putf (pc := 38) kW_copy_d38 (kpW_below hG) h108 (sg_narrow _) (sg_fits _) ?_
    refine jn_gen (fun M109 hM110 => ?_)
    have h111 : M109 lt = some (.inr 0, (D.take c ++ D.drop c).map .int) := by rw [hM110, jj_up_ne _ _ (fun e => by have q1 := h107; rw [e, h108] at q1; cases q1)]; exact h107
    have h112 : M109 at_ = some (.inl nW, [.ref lt, .int (nI (c)), .int (sg (V t))]) := by rw [hM110]; exact jj_up_at _ _ _
    have hWT : WT M M109 wa la t := fun q h1 h2 => by
      rw [eat_] at h1
      rw [elt] at h2
      rw [hM110, jj_up_ne _ _ h1, hM106, jj_up_ne _ _ h1, hM102, jj_up_ne _ _ h2]
    exact jj_vret (pc := 41) kW_copy_d41 rfl (k M109 (hc.put hI ht (by rw [eat_, elt]; exact ⟨_, c, h112, h111, by rw [cp2_len (by omega) (by omega)]; exact hD3, hD4.moved (by rw [cp2_len (by omega) (by omega)]; omega) (fun i hi => cp2_at (by omega) hi)⟩) hWT) hWT)
  · skip
    obtain ⟨D, c, hD1, hD2, hD3, hD4⟩ := hc t ht
    obtain ⟨at_, eat_⟩ : ∃ at_, wa t = at_ := ⟨_, rfl⟩
    obtain ⟨lt, elt⟩ : ∃ lt, la t = lt := ⟨_, rfl⟩
    have hcapt := hI.2.2 t ht
    have hleD := hD4.1
    rw [eat_, elt] at hD1
    rw [elt] at hD2
    obtain ⟨E, e, hE1, hE2, hE3, hE4⟩ := hc u hu
    obtain ⟨au, eau⟩ : ∃ au, wa u = au := ⟨_, rfl⟩
    obtain ⟨lu_, elu_⟩ : ∃ lu_, la u = lu_ := ⟨_, rfl⟩
    have hcapu := hI.2.2 u hu
    have hleE := hE4.1
    rw [eau, elu_] at hE1
    rw [elu_] at hE2
    have hna : au ≠ at_ := fun h => ctu (hI.1 t u ht hu (by rw [eat_, eau, h]))
    have hnl : lu_ ≠ lt := fun h => ctu (hI.2.1 t u ht hu (by rw [elt, elu_, h]))
    have hbd := hE4.bound hr
    rw [eat_, eau]
    show jj G kW_copy (d + 2) Q rc rs 0 [some (.ref at_), some (.ref au)] [] M
    refine jj_aload_n (pc := 0) kW_copy_d0 rfl ?_
    refine jj_aload_n (pc := 1) kW_copy_d1 rfl ?_
    refine jj_getf (pc := 2) kW_copy_d2 (kfW_count hG) hE1 rfl ?_
    refine jj_callV (pc := 5) (b := at_) (As := [.int (nI (e))]) kW_copy_d5 (kvW_W_needRoom hG) (kG_cl hG rfl) rfl hD1 rfl rfl rfl (Nat.le_of_ble_eq_true rfl) (Nat.le_of_ble_eq_true rfl) (jj_bare0 rfl) ?_
    refine w_needRoom hG hD1 hD2 (by omega) (by omega) ?_
    show jj G kW_copy (d + 2) Q rc rs 8 [some (.ref at_), some (.ref au)] [] M
    refine jj_aload_n (pc := 8) kW_copy_d8 rfl ?_
    refine jj_getf (pc := 9) kW_copy_d9 (kfW_limbs hG) hE1 rfl ?_
    refine jn_iconst (pc := 12) 0 kW_copy_d12 (by decide) ?_
    refine jj_aload_n (pc := 13) kW_copy_d13 rfl ?_
    refine jj_getf (pc := 14) kW_copy_d14 (kfW_limbs hG) hD1 rfl ?_
    refine jn_iconst (pc := 17) 0 kW_copy_d17 (by decide) ?_
    refine jj_aload_n (pc := 18) kW_copy_d18 rfl ?_
    refine jj_getf (pc := 19) kW_copy_d19 (kfW_count hG) hE1 rfl ?_
    refine jj_acopy (pc := 22) (sp := 0) (dp := 0) (n := e) kW_copy_d22 (koW_copy hG) (ka_nat hG) (ka_sta hG) (ka_ini hG) (kG_t hG rfl) hE2 hD2 rfl rfl rfl (by rw [List.length_map]; omega) (by rw [List.length_map]; omega) (by rw [List.length_map]; omega) (by rw [List.length_map]; omega) (fun i hi => ⟨_, by rw [Nat.zero_add]; exact gd_int (by omega)⟩) rfl (by decide +kernel) ?_
    rw [cp2_map]
    refine jn_gen (fun M113 hM114 => ?_)
    have h115 : M113 at_ = some (.inl nW, [.ref lt, .int (nI (c)), .int (sg (V t))]) := by rw [hM114, jj_up_ne _ _ (fun e => by have q1 := hD1; rw [e, hD2] at q1; cases q1)]; exact hD1
    have h116 : M113 au = some (.inl nW, [.ref lu_, .int (nI (e)), .int (sg (V u))]) := by rw [hM114, jj_up_ne _ _ (fun e => by have q1 := hE1; rw [e, hD2] at q1; cases q1)]; exact hE1
    have h117 : M113 lu_ = some (.inr 0, (E).map .int) := by rw [hM114, jj_up_ne _ _ hnl]; exact hE2
    have h118 : M113 lt = some (.inr 0, (E.take e ++ D.drop e).map .int) := by rw [hM114]; exact jj_up_at _ _ _
    refine jj_aload_n (pc := 25) kW_copy_d25 rfl ?_
    refine jj_aload_n (pc := 26) kW_copy_d26 rfl ?_
    refine jj_getf (pc := 27) kW_copy_d27 (kfW_count hG) h116 rfl ?_
    refine jj_putf (pc := 30) kW_copy_d30 (kpW_count hG) h115 (by rfl) rfl ?_
    refine jn_gen (fun M119 hM120 => ?_)
    have h121 : M119 lt = some (.inr 0, (E.take e ++ D.drop e).map .int) := by rw [hM120, jj_up_ne _ _ (fun e => by have q1 := h118; rw [e, h115] at q1; cases q1)]; exact h118
    have h122 : M119 au = some (.inl nW, [.ref lu_, .int (nI (e)), .int (sg (V u))]) := by rw [hM120, jj_up_ne _ _ hna]; exact h116
    have h123 : M119 lu_ = some (.inr 0, (E).map .int) := by rw [hM120, jj_up_ne _ _ (fun e => by have q1 := h117; rw [e, h115] at q1; cases q1)]; exact h117
    have h124 : M119 at_ = some (.inl nW, [.ref lt, .int (nI (e)), .int (sg (V t))]) := by rw [hM120]; exact jj_up_at _ _ _
    refine jj_aload_n (pc := 33) kW_copy_d33 rfl ?_
    refine jj_aload_n (pc := 34) kW_copy_d34 rfl ?_
    refine jj_getf (pc := 35) kW_copy_d35 (kfW_below hG) h122 rfl ?_
    refine jj_putf (pc := 38) kW_copy_d38 (kpW_below hG) h124 (sg_narrow _) (sg_fits _) ?_
    refine jn_gen (fun M125 hM126 => ?_)
    have h127 : M125 lt = some (.inr 0, (E.take e ++ D.drop e).map .int) := by rw [hM126, jj_up_ne _ _ (fun e => by have q1 := h121; rw [e, h124] at q1; cases q1)]; exact h121
    have h128 : M125 au = some (.inl nW, [.ref lu_, .int (nI (e)), .int (sg (V u))]) := by rw [hM126, jj_up_ne _ _ hna]; exact h122
    have h129 : M125 lu_ = some (.inr 0, (E).map .int) := by rw [hM126, jj_up_ne _ _ (fun e => by have q1 := h123; rw [e, h124] at q1; cases q1)]; exact h123
    have h130 : M125 at_ = some (.inl nW, [.ref lt, .int (nI (e)), .int (sg (V u))]) := by rw [hM126]; exact jj_up_at _ _ _
    have hWT : WT M M125 wa la t := fun q h1 h2 => by
      rw [eat_] at h1
      rw [elt] at h2
      rw [hM126, jj_up_ne _ _ h1, hM120, jj_up_ne _ _ h1, hM114, jj_up_ne _ _ h2]
    exact jj_vret (pc := 41) kW_copy_d41 rfl (k M125 (hc.put hI ht (by rw [eat_, elt]; exact ⟨_, e, h130, h127, by rw [cp2_len (by omega) (by omega)]; exact hD3, hE4.moved (by rw [cp2_len (by omega) (by omega)]; omega) (fun i hi => cp2_at (by omega) hi)⟩) hWT) hWT)
theorem w_compareSizes {t u : Nat} (hG : kG G) (hI : CI wa la cap N) (hc : CW M wa la cap N V) (ht : t < N) (hu : u < N) (kl : (V t).natAbs < (V u).natAbs → Q (.returned (some (.int (-1)))) M rc rs) (ke : (V t).natAbs = (V u).natAbs → Q (.returned (some (.int (nI 0)))) M rc rs) (kg : (V u).natAbs < (V t).natAbs → Q (.returned (some (.int (nI 1)))) M rc rs) : jj G kW_compareSizes d Q rc rs 0 (jj_ent [.ref (wa t), .ref (wa u)] 3) [] M := by
  obtain ⟨D, c, hD1, hD2, hD3, hD4⟩ := hc t ht
  obtain ⟨at_, eat_⟩ : ∃ at_, wa t = at_ := ⟨_, rfl⟩
  obtain ⟨lt, elt⟩ : ∃ lt, la t = lt := ⟨_, rfl⟩
  have hcapt := hI.2.2 t ht
  have hleD := hD4.1
  rw [eat_, elt] at hD1
  rw [elt] at hD2
  obtain ⟨E, e, hE1, hE2, hE3, hE4⟩ := hc u hu
  obtain ⟨au, eau⟩ : ∃ au, wa u = au := ⟨_, rfl⟩
  obtain ⟨lu_, elu_⟩ : ∃ lu_, la u = lu_ := ⟨_, rfl⟩
  have hcapu := hI.2.2 u hu
  have hleE := hE4.1
  rw [eau, elu_] at hE1
  rw [elu_] at hE2
  rw [eat_, eau]
  show jj G kW_compareSizes (d) Q rc rs 0 [some (.ref at_), some (.ref au), none] [] M
  refine jj_aload_n (pc := 0) kW_compareSizes_d0 rfl ?_
  refine jj_getf (pc := 1) kW_compareSizes_d1 (kfW_count hG) hD1 rfl ?_
  refine jj_aload_n (pc := 4) kW_compareSizes_d4 rfl ?_
  refine jj_getf (pc := 5) kW_compareSizes_d5 (kfW_count hG) hE1 rfl ?_
  refine jn_icmp_eq (pc := 8) (tgt := 28) kW_compareSizes_d8 (by decide) (by omega) (by omega) (fun c0 => ?_) (fun c0 => ?_)
  · skip
    subst c0
    refine jj_aload_n (pc := 28) kW_compareSizes_d28 rfl ?_
    refine jj_getf (pc := 29) kW_compareSizes_d29 (kfW_count hG) hD1 rfl ?_
    have loop : ∀ m, m ≤ c → (∀ j, m ≤ j → j < c → D.getD j 0 = E.getD j 0) → jj G kW_compareSizes (d) Q rc rs 35 [some (.ref at_), some (.ref au), some (.int (zI (((m : Nat) : Int) - 1)))] [] M := by
      intro m
      induction m with
      | zero =>
        intro hm heq
        show jj G kW_compareSizes (d) Q rc rs 35 [some (.ref at_), some (.ref au), some (.int (zI (-1)))] [] M
        refine jj_iload_n (pc := 35) kW_compareSizes_d35 rfl ?_
        refine jz_if_lt (pc := 36) (tgt := 92) (a := -1) kW_compareSizes_d36 (by decide) rfl (by omega) (by omega) (fun _ => ?_) (fun c => by exfalso; omega)
        refine jn_iconst (pc := 92) 0 kW_compareSizes_d92 (by decide) ?_
        obtain ⟨X, x1, x2⟩ := lnat_more (D := D) (E := E) (m := 0) (k := c) (fun j _ h => heq j (Nat.zero_le _) (by omega))
        rw [Nat.zero_add] at x1 x2
        exact jj_iret (pc := 93) kW_compareSizes_d93 rfl (by rfl) (ke (by rw [← hD4.2.1, ← hE4.2.1, x1, x2]; rfl))
      | succ m ih =>
        intro hm heq
        refine jj_eq (L' := [some (.ref at_), some (.ref au), some (.int (nI (m)))]) rfl (by rw [show ((m + 1 : Nat) : Int) - 1 = (m : Int) by omega, zI_nat]) rfl rfl ?_
        show jj G kW_compareSizes (d) Q rc rs 35 [some (.ref at_), some (.ref au), some (.int (nI (m)))] [] M
        refine jj_iload_n (pc := 35) kW_compareSizes_d35 rfl ?_
        refine jz_if_lt (pc := 36) (tgt := 92) (a := ((m : Nat) : Int)) kW_compareSizes_d36 (by decide) (zI_nat _).symm (by omega) (by omega) (fun c => by exfalso; omega) (fun _ => ?_)
        refine jj_aload_n (pc := 39) kW_compareSizes_d39 rfl ?_
        refine jj_getf (pc := 40) kW_compareSizes_d40 (kfW_limbs hG) hD1 rfl ?_
        refine jj_iload_n (pc := 43) kW_compareSizes_d43 rfl ?_
        refine jn_iald (pc := 44) (v := (D.getD m 0)) kW_compareSizes_d44 (kG_t hG rfl) hD2 (by omega) (by omega) (rfl) ?_
        refine jj_aload_n (pc := 45) kW_compareSizes_d45 rfl ?_
        refine jj_getf (pc := 46) kW_compareSizes_d46 (kfW_limbs hG) hE1 rfl ?_
        refine jj_iload_n (pc := 49) kW_compareSizes_d49 rfl ?_
        refine jn_iald (pc := 50) (v := (E.getD m 0)) kW_compareSizes_d50 (kG_t hG rfl) hE2 (by omega) (by omega) (rfl) ?_
        refine jj_icmp_eq (pc := 51) (tgt := 86) kW_compareSizes_d51 (by decide) (fun c1 => ?_) (fun c1 => ?_)
        · skip
          have heq' : ∀ j, m ≤ j → j < c → D.getD j 0 = E.getD j 0 := fun j h1 h2 => by
            by_cases g : j = m
            · rw [g]; exact c1
            · exact heq j (by omega) h2
          refine jz_iinc (pc := 86) (((m : Nat) : Int) - 1) kW_compareSizes_d86 rfl ((zI_nat _).symm) (by omega) ?_
          refine jj_goto (pc := 89) (tgt := 35) kW_compareSizes_d89 (by decide) ?_
          show jj G kW_compareSizes (d) Q rc rs 35 [some (.ref at_), some (.ref au), some (.int (zI (((m : Nat) : Int) - 1)))] [] M
          exact ih (by omega) heq'
        · skip
          obtain ⟨X, x1, x2⟩ := lnat_more (D := D) (E := E) (m := m + 1) (k := c - (m + 1)) (fun j h1 h2 => heq j h1 (by omega))
          rw [show m + 1 + (c - (m + 1)) = c by omega] at x1 x2
          rw [hD4.2.1] at x1
          rw [hE4.2.1] at x2
          have hl1 := lu_lt (D.getD m 0)
          have hl2 := lu_lt (E.getD m 0)
          refine jj_aload_n (pc := 54) kW_compareSizes_d54 rfl ?_
          refine jj_getf (pc := 55) kW_compareSizes_d55 (kfW_limbs hG) hD1 rfl ?_
          refine jj_iload_n (pc := 58) kW_compareSizes_d58 rfl ?_
          refine jn_iald (pc := 59) (v := (D.getD m 0)) kW_compareSizes_d59 (kG_t hG rfl) hD2 (by omega) (by omega) (rfl) ?_
          refine jj_i2l (pc := 60) kW_compareSizes_d60 ?_
          refine jj_ldc2 (pc := 61) kW_compareSizes_d61 (kcW_4294967295 hG) ?_
          refine jn_top (.long (lN (4294967295))) (rfl) ?_
          refine jj_land (pc := 64) kW_compareSizes_d64 ?_
          refine jn_top (.long (lN (lu (D.getD m 0)))) (by rw [lu_mask]) ?_
          refine jj_aload_n (pc := 65) kW_compareSizes_d65 rfl ?_
          refine jj_getf (pc := 66) kW_compareSizes_d66 (kfW_limbs hG) hE1 rfl ?_
          refine jj_iload_n (pc := 69) kW_compareSizes_d69 rfl ?_
          refine jn_iald (pc := 70) (v := (E.getD m 0)) kW_compareSizes_d70 (kG_t hG rfl) hE2 (by omega) (by omega) (rfl) ?_
          refine jj_i2l (pc := 71) kW_compareSizes_d71 ?_
          refine jj_ldc2 (pc := 72) kW_compareSizes_d72 (kcW_4294967295 hG) ?_
          refine jn_top (.long (lN (4294967295))) (rfl) ?_
          refine jj_land (pc := 75) kW_compareSizes_d75 ?_
          refine jn_top (.long (lN (lu (E.getD m 0)))) (by rw [lu_mask]) ?_
          refine jj_lcmp (pc := 76) kW_compareSizes_d76 ?_
          refine jj_if_ge (pc := 77) (tgt := 84) kW_compareSizes_d77 (by decide) (fun c2 => ?_) (fun c2 => ?_)
          · skip
            have c3 : lu (E.getD m 0) ≤ lu (D.getD m 0) := by
              rw [lg_cmp_ge, Int64.le_iff_toInt_le, lN_big (by omega), lN_big (by omega)] at c2
              omega
            have c4 : lu (E.getD m 0) ≠ lu (D.getD m 0) := fun h => c1 (lu_inj h).symm
            have c5 := lnat_cmp (D := E) (E := D) (n := m) (by omega)
            refine jn_iconst (pc := 84) 1 kW_compareSizes_d84 (by decide) ?_
            exact jj_iret (pc := 85) kW_compareSizes_d85 rfl (by rfl) (kg (by omega))
          · skip
            have c3 : lu (D.getD m 0) < lu (E.getD m 0) := by
              rw [lg_cmp_ge, Int64.le_iff_toInt_le, lN_big (by omega), lN_big (by omega)] at c2
              omega
            have c5 := lnat_cmp (D := D) (E := E) (n := m) c3
            refine jj_iconst (pc := 80) (v := (-1)) kW_compareSizes_d80 (by decide) ?_
            refine jj_goto (pc := 81) (tgt := 85) kW_compareSizes_d81 (by decide) ?_
            exact jj_iret (pc := 85) kW_compareSizes_d85 rfl (by rfl) (kl (by omega))
    show jj G kW_compareSizes (d) Q rc rs 32 [some (.ref at_), some (.ref au), none] [.int (nI (c))] M
    refine jn_iconst (pc := 32) 1 kW_compareSizes_d32 (by decide) ?_
    refine jz_isub (pc := 33) (((c : Nat) : Int) - 1) kW_compareSizes_d33 ((zI_nat _).symm) ((zI_nat _).symm) (by omega) ?_
    refine jj_istore_n (pc := 34) kW_compareSizes_d34 (Nat.le_of_ble_eq_true rfl) ?_
    show jj G kW_compareSizes (d) Q rc rs 35 [some (.ref at_), some (.ref au), some (.int (zI (((c : Nat) : Int) - 1)))] [] M
    exact loop c (Nat.le_refl _) (fun j h1 h2 => by omega)
  · skip
    refine jj_aload_n (pc := 11) kW_compareSizes_d11 rfl ?_
    refine jj_getf (pc := 12) kW_compareSizes_d12 (kfW_count hG) hD1 rfl ?_
    refine jj_aload_n (pc := 15) kW_compareSizes_d15 rfl ?_
    refine jj_getf (pc := 16) kW_compareSizes_d16 (kfW_count hG) hE1 rfl ?_
    refine jn_icmp_ge (pc := 19) (tgt := 26) kW_compareSizes_d19 (by decide) (by omega) (by omega) (fun c1 => ?_) (fun c1 => ?_)
    · skip
      refine jn_iconst (pc := 26) 1 kW_compareSizes_d26 (by decide) ?_
      exact jj_iret (pc := 27) kW_compareSizes_d27 rfl (by rfl) (kg (hE4.less hD4 (by omega)))
    · skip
      refine jj_iconst (pc := 22) (v := (-1)) kW_compareSizes_d22 (by decide) ?_
      refine jj_goto (pc := 23) (tgt := 27) kW_compareSizes_d23 (by decide) ?_
      exact jj_iret (pc := 27) kW_compareSizes_d27 rfl (by rfl) (kl (hD4.less hE4 (by omega)))
theorem w_bitsOf {x : Int32} (k : Q (.returned (some (.int (nI (bl (lu x)))))) M rc rs) : jj G kW_bitsOf d Q rc rs 0 (jj_ent [.int x] 4) [] M := by
  have hlx := lu_lt x
  have h0 : ∀ b y, y < 2 → b ≤ 31 → bl (lu x) = b + bl y → jj G kW_bitsOf (d) Q rc rs 7 [some (.int (x)), some (.int (nI (b))), some (.int (nI (y))), some (.int (nI (0)))] [] M := by
    intro b y hy hb he
    rw [bl_two hy] at he
    refine jj_iload_n (pc := 7) kW_bitsOf_d7 rfl ?_
    refine jn_if_le (pc := 8) (tgt := 32) kW_bitsOf_d8 (by decide) (by omega) (fun _ => ?_) (fun c => by exfalso; omega)
    refine jj_iload_n (pc := 32) kW_bitsOf_d32 rfl ?_
    refine jj_iload_n (pc := 33) kW_bitsOf_d33 rfl ?_
    refine jn_iadd (pc := 34) (b + y) kW_bitsOf_d34 (by omega) ?_
    exact jj_iret (pc := 35) kW_bitsOf_d35 rfl (by rfl) (by rw [he] at k; exact k)
  have h1 : ∀ b y, y < 2 ^ 2 → b + 2 ≤ 32 → bl (lu x) = b + bl y → jj G kW_bitsOf (d) Q rc rs 7 [some (.int (x)), some (.int (nI (b))), some (.int (nI (y))), some (.int (nI (1)))] [] M := by
    intro b y hy hb he
    have hyb : y < BB := Nat.lt_of_lt_of_le hy (by decide)
    have hdq : y / 2 ^ 1 < 2 ^ 1 := (Nat.div_lt_iff_lt_mul (by decide)).mpr (by rw [← Nat.pow_add]; exact hy)
    refine jj_iload_n (pc := 7) kW_bitsOf_d7 rfl ?_
    refine jn_if_le (pc := 8) (tgt := 32) kW_bitsOf_d8 (by decide) (by omega) (fun c => by exfalso; omega) (fun _ => ?_)
    refine jj_iload_n (pc := 11) kW_bitsOf_d11 rfl ?_
    refine jj_iload_n (pc := 12) kW_bitsOf_d12 rfl ?_
    obtain ⟨yh, hyh⟩ : ∃ yh, y / 2 ^ 1 = yh := ⟨_, rfl⟩
    have hyl : yh < 2 ^ 1 := by rw [← hyh]; exact hdq
    refine jj_iushr (pc := 13) kW_bitsOf_d13 ?_
    refine jn_top (.int (nI (yh))) (by rw [iushr_nI 1 (by decide), lu_nI' hyb, hyh]) ?_
    refine jn_if_eq (pc := 14) (tgt := 25) kW_bitsOf_d14 (by decide) (by omega) (fun c0 => ?_) (fun c0 => ?_)
    · skip
      have hy0 : y < 2 ^ 1 := by
        rcases Nat.lt_or_ge y (2 ^ 1) with g | g
        · exact g
        · have := Nat.div_pos g (by decide); omega
      refine jj_iload_n (pc := 25) kW_bitsOf_d25 rfl ?_
      refine jn_iconst (pc := 26) 1 kW_bitsOf_d26 (by decide) ?_
      refine jj_ishr (pc := 27) kW_bitsOf_d27 ?_
      refine jn_top (.int (nI (0))) (by decide) ?_
      refine jj_istore_n (pc := 28) kW_bitsOf_d28 (Nat.le_of_ble_eq_true rfl) ?_
      refine jj_goto (pc := 29) (tgt := 7) kW_bitsOf_d29 (by decide) ?_
      show jj G kW_bitsOf (d) Q rc rs 7 [some (.int (x)), some (.int (nI (b))), some (.int (nI (y))), some (.int (nI (0)))] [] M
      exact h0 b y (Nat.lt_of_lt_of_le hy0 (by decide)) (by omega) he
    · skip
      have hbs := bl_shift (n := y) (s := 1) (by omega)
      rw [hyh] at hbs
      refine jj_iload_n (pc := 17) kW_bitsOf_d17 rfl ?_
      refine jj_iload_n (pc := 18) kW_bitsOf_d18 rfl ?_
      refine jn_iadd (pc := 19) (b + 1) kW_bitsOf_d19 (by omega) ?_
      refine jj_istore_n (pc := 20) kW_bitsOf_d20 (Nat.le_of_ble_eq_true rfl) ?_
      refine jj_iload_n (pc := 21) kW_bitsOf_d21 rfl ?_
      refine jj_iload_n (pc := 22) kW_bitsOf_d22 rfl ?_
      refine jj_iushr (pc := 23) kW_bitsOf_d23 ?_
      refine jn_top (.int (nI (yh))) (by rw [iushr_nI 1 (by decide), lu_nI' hyb, hyh]) ?_
      refine jj_istore_n (pc := 24) kW_bitsOf_d24 (Nat.le_of_ble_eq_true rfl) ?_
      refine jj_iload_n (pc := 25) kW_bitsOf_d25 rfl ?_
      refine jn_iconst (pc := 26) 1 kW_bitsOf_d26 (by decide) ?_
      refine jj_ishr (pc := 27) kW_bitsOf_d27 ?_
      refine jn_top (.int (nI (0))) (by decide) ?_
      refine jj_istore_n (pc := 28) kW_bitsOf_d28 (Nat.le_of_ble_eq_true rfl) ?_
      refine jj_goto (pc := 29) (tgt := 7) kW_bitsOf_d29 (by decide) ?_
      show jj G kW_bitsOf (d) Q rc rs 7 [some (.int (x)), some (.int (nI (b + 1))), some (.int (nI (yh))), some (.int (nI (0)))] [] M
      exact h0 (b + 1) yh (Nat.lt_of_lt_of_le hyl (by decide)) (by omega) (by omega)
  have h2 : ∀ b y, y < 2 ^ 4 → b + 4 ≤ 32 → bl (lu x) = b + bl y → jj G kW_bitsOf (d) Q rc rs 7 [some (.int (x)), some (.int (nI (b))), some (.int (nI (y))), some (.int (nI (2)))] [] M := by
    intro b y hy hb he
    have hyb : y < BB := Nat.lt_of_lt_of_le hy (by decide)
    have hdq : y / 2 ^ 2 < 2 ^ 2 := (Nat.div_lt_iff_lt_mul (by decide)).mpr (by rw [← Nat.pow_add]; exact hy)
    refine jj_iload_n (pc := 7) kW_bitsOf_d7 rfl ?_
    refine jn_if_le (pc := 8) (tgt := 32) kW_bitsOf_d8 (by decide) (by omega) (fun c => by exfalso; omega) (fun _ => ?_)
    refine jj_iload_n (pc := 11) kW_bitsOf_d11 rfl ?_
    refine jj_iload_n (pc := 12) kW_bitsOf_d12 rfl ?_
    obtain ⟨yh, hyh⟩ : ∃ yh, y / 2 ^ 2 = yh := ⟨_, rfl⟩
    have hyl : yh < 2 ^ 2 := by rw [← hyh]; exact hdq
    refine jj_iushr (pc := 13) kW_bitsOf_d13 ?_
    refine jn_top (.int (nI (yh))) (by rw [iushr_nI 2 (by decide), lu_nI' hyb, hyh]) ?_
    refine jn_if_eq (pc := 14) (tgt := 25) kW_bitsOf_d14 (by decide) (by omega) (fun c0 => ?_) (fun c0 => ?_)
    · skip
      have hy0 : y < 2 ^ 2 := by
        rcases Nat.lt_or_ge y (2 ^ 2) with g | g
        · exact g
        · have := Nat.div_pos g (by decide); omega
      refine jj_iload_n (pc := 25) kW_bitsOf_d25 rfl ?_
      refine jn_iconst (pc := 26) 1 kW_bitsOf_d26 (by decide) ?_
      refine jj_ishr (pc := 27) kW_bitsOf_d27 ?_
      refine jn_top (.int (nI (1))) (by decide) ?_
      refine jj_istore_n (pc := 28) kW_bitsOf_d28 (Nat.le_of_ble_eq_true rfl) ?_
      refine jj_goto (pc := 29) (tgt := 7) kW_bitsOf_d29 (by decide) ?_
      show jj G kW_bitsOf (d) Q rc rs 7 [some (.int (x)), some (.int (nI (b))), some (.int (nI (y))), some (.int (nI (1)))] [] M
      exact h1 b y (Nat.lt_of_lt_of_le hy0 (by decide)) (by omega) he
    · skip
      have hbs := bl_shift (n := y) (s := 2) (by omega)
      rw [hyh] at hbs
      refine jj_iload_n (pc := 17) kW_bitsOf_d17 rfl ?_
      refine jj_iload_n (pc := 18) kW_bitsOf_d18 rfl ?_
      refine jn_iadd (pc := 19) (b + 2) kW_bitsOf_d19 (by omega) ?_
      refine jj_istore_n (pc := 20) kW_bitsOf_d20 (Nat.le_of_ble_eq_true rfl) ?_
      refine jj_iload_n (pc := 21) kW_bitsOf_d21 rfl ?_
      refine jj_iload_n (pc := 22) kW_bitsOf_d22 rfl ?_
      refine jj_iushr (pc := 23) kW_bitsOf_d23 ?_
      refine jn_top (.int (nI (yh))) (by rw [iushr_nI 2 (by decide), lu_nI' hyb, hyh]) ?_
      refine jj_istore_n (pc := 24) kW_bitsOf_d24 (Nat.le_of_ble_eq_true rfl) ?_
      refine jj_iload_n (pc := 25) kW_bitsOf_d25 rfl ?_
      refine jn_iconst (pc := 26) 1 kW_bitsOf_d26 (by decide) ?_
      refine jj_ishr (pc := 27) kW_bitsOf_d27 ?_
      refine jn_top (.int (nI (1))) (by decide) ?_
      refine jj_istore_n (pc := 28) kW_bitsOf_d28 (Nat.le_of_ble_eq_true rfl) ?_
      refine jj_goto (pc := 29) (tgt := 7) kW_bitsOf_d29 (by decide) ?_
      show jj G kW_bitsOf (d) Q rc rs 7 [some (.int (x)), some (.int (nI (b + 2))), some (.int (nI (yh))), some (.int (nI (1)))] [] M
      exact h1 (b + 2) yh (Nat.lt_of_lt_of_le hyl (by decide)) (by omega) (by omega)
  have h4 : ∀ b y, y < 2 ^ 8 → b + 8 ≤ 32 → bl (lu x) = b + bl y → jj G kW_bitsOf (d) Q rc rs 7 [some (.int (x)), some (.int (nI (b))), some (.int (nI (y))), some (.int (nI (4)))] [] M := by
    intro b y hy hb he
    have hyb : y < BB := Nat.lt_of_lt_of_le hy (by decide)
    have hdq : y / 2 ^ 4 < 2 ^ 4 := (Nat.div_lt_iff_lt_mul (by decide)).mpr (by rw [← Nat.pow_add]; exact hy)
    refine jj_iload_n (pc := 7) kW_bitsOf_d7 rfl ?_
    refine jn_if_le (pc := 8) (tgt := 32) kW_bitsOf_d8 (by decide) (by omega) (fun c => by exfalso; omega) (fun _ => ?_)
    refine jj_iload_n (pc := 11) kW_bitsOf_d11 rfl ?_
    refine jj_iload_n (pc := 12) kW_bitsOf_d12 rfl ?_
    obtain ⟨yh, hyh⟩ : ∃ yh, y / 2 ^ 4 = yh := ⟨_, rfl⟩
    have hyl : yh < 2 ^ 4 := by rw [← hyh]; exact hdq
    refine jj_iushr (pc := 13) kW_bitsOf_d13 ?_
    refine jn_top (.int (nI (yh))) (by rw [iushr_nI 4 (by decide), lu_nI' hyb, hyh]) ?_
    refine jn_if_eq (pc := 14) (tgt := 25) kW_bitsOf_d14 (by decide) (by omega) (fun c0 => ?_) (fun c0 => ?_)
    · skip
      have hy0 : y < 2 ^ 4 := by
        rcases Nat.lt_or_ge y (2 ^ 4) with g | g
        · exact g
        · have := Nat.div_pos g (by decide); omega
      refine jj_iload_n (pc := 25) kW_bitsOf_d25 rfl ?_
      refine jn_iconst (pc := 26) 1 kW_bitsOf_d26 (by decide) ?_
      refine jj_ishr (pc := 27) kW_bitsOf_d27 ?_
      refine jn_top (.int (nI (2))) (by decide) ?_
      refine jj_istore_n (pc := 28) kW_bitsOf_d28 (Nat.le_of_ble_eq_true rfl) ?_
      refine jj_goto (pc := 29) (tgt := 7) kW_bitsOf_d29 (by decide) ?_
      show jj G kW_bitsOf (d) Q rc rs 7 [some (.int (x)), some (.int (nI (b))), some (.int (nI (y))), some (.int (nI (2)))] [] M
      exact h2 b y (Nat.lt_of_lt_of_le hy0 (by decide)) (by omega) he
    · skip
      have hbs := bl_shift (n := y) (s := 4) (by omega)
      rw [hyh] at hbs
      refine jj_iload_n (pc := 17) kW_bitsOf_d17 rfl ?_
      refine jj_iload_n (pc := 18) kW_bitsOf_d18 rfl ?_
      refine jn_iadd (pc := 19) (b + 4) kW_bitsOf_d19 (by omega) ?_
      refine jj_istore_n (pc := 20) kW_bitsOf_d20 (Nat.le_of_ble_eq_true rfl) ?_
      refine jj_iload_n (pc := 21) kW_bitsOf_d21 rfl ?_
      refine jj_iload_n (pc := 22) kW_bitsOf_d22 rfl ?_
      refine jj_iushr (pc := 23) kW_bitsOf_d23 ?_
      refine jn_top (.int (nI (yh))) (by rw [iushr_nI 4 (by decide), lu_nI' hyb, hyh]) ?_
      refine jj_istore_n (pc := 24) kW_bitsOf_d24 (Nat.le_of_ble_eq_true rfl) ?_
      refine jj_iload_n (pc := 25) kW_bitsOf_d25 rfl ?_
      refine jn_iconst (pc := 26) 1 kW_bitsOf_d26 (by decide) ?_
      refine jj_ishr (pc := 27) kW_bitsOf_d27 ?_
      refine jn_top (.int (nI (2))) (by decide) ?_
      refine jj_istore_n (pc := 28) kW_bitsOf_d28 (Nat.le_of_ble_eq_true rfl) ?_
      refine jj_goto (pc := 29) (tgt := 7) kW_bitsOf_d29 (by decide) ?_
      show jj G kW_bitsOf (d) Q rc rs 7 [some (.int (x)), some (.int (nI (b + 4))), some (.int (nI (yh))), some (.int (nI (2)))] [] M
      exact h2 (b + 4) yh (Nat.lt_of_lt_of_le hyl (by decide)) (by omega) (by omega)
  have h8 : ∀ b y, y < 2 ^ 16 → b + 16 ≤ 32 → bl (lu x) = b + bl y → jj G kW_bitsOf (d) Q rc rs 7 [some (.int (x)), some (.int (nI (b))), some (.int (nI (y))), some (.int (nI (8)))] [] M := by
    intro b y hy hb he
    have hyb : y < BB := Nat.lt_of_lt_of_le hy (by decide)
    have hdq : y / 2 ^ 8 < 2 ^ 8 := (Nat.div_lt_iff_lt_mul (by decide)).mpr (by rw [← Nat.pow_add]; exact hy)
    refine jj_iload_n (pc := 7) kW_bitsOf_d7 rfl ?_
    refine jn_if_le (pc := 8) (tgt := 32) kW_bitsOf_d8 (by decide) (by omega) (fun c => by exfalso; omega) (fun _ => ?_)
    refine jj_iload_n (pc := 11) kW_bitsOf_d11 rfl ?_
    refine jj_iload_n (pc := 12) kW_bitsOf_d12 rfl ?_
    obtain ⟨yh, hyh⟩ : ∃ yh, y / 2 ^ 8 = yh := ⟨_, rfl⟩
    have hyl : yh < 2 ^ 8 := by rw [← hyh]; exact hdq
    refine jj_iushr (pc := 13) kW_bitsOf_d13 ?_
    refine jn_top (.int (nI (yh))) (by rw [iushr_nI 8 (by decide), lu_nI' hyb, hyh]) ?_
    refine jn_if_eq (pc := 14) (tgt := 25) kW_bitsOf_d14 (by decide) (by omega) (fun c0 => ?_) (fun c0 => ?_)
    · skip
      have hy0 : y < 2 ^ 8 := by
        rcases Nat.lt_or_ge y (2 ^ 8) with g | g
        · exact g
        · have := Nat.div_pos g (by decide); omega
      refine jj_iload_n (pc := 25) kW_bitsOf_d25 rfl ?_
      refine jn_iconst (pc := 26) 1 kW_bitsOf_d26 (by decide) ?_
      refine jj_ishr (pc := 27) kW_bitsOf_d27 ?_
      refine jn_top (.int (nI (4))) (by decide) ?_
      refine jj_istore_n (pc := 28) kW_bitsOf_d28 (Nat.le_of_ble_eq_true rfl) ?_
      refine jj_goto (pc := 29) (tgt := 7) kW_bitsOf_d29 (by decide) ?_
      show jj G kW_bitsOf (d) Q rc rs 7 [some (.int (x)), some (.int (nI (b))), some (.int (nI (y))), some (.int (nI (4)))] [] M
      exact h4 b y (Nat.lt_of_lt_of_le hy0 (by decide)) (by omega) he
    · skip
      have hbs := bl_shift (n := y) (s := 8) (by omega)
      rw [hyh] at hbs
      refine jj_iload_n (pc := 17) kW_bitsOf_d17 rfl ?_
      refine jj_iload_n (pc := 18) kW_bitsOf_d18 rfl ?_
      refine jn_iadd (pc := 19) (b + 8) kW_bitsOf_d19 (by omega) ?_
      refine jj_istore_n (pc := 20) kW_bitsOf_d20 (Nat.le_of_ble_eq_true rfl) ?_
      refine jj_iload_n (pc := 21) kW_bitsOf_d21 rfl ?_
      refine jj_iload_n (pc := 22) kW_bitsOf_d22 rfl ?_
      refine jj_iushr (pc := 23) kW_bitsOf_d23 ?_
      refine jn_top (.int (nI (yh))) (by rw [iushr_nI 8 (by decide), lu_nI' hyb, hyh]) ?_
      refine jj_istore_n (pc := 24) kW_bitsOf_d24 (Nat.le_of_ble_eq_true rfl) ?_
      refine jj_iload_n (pc := 25) kW_bitsOf_d25 rfl ?_
      refine jn_iconst (pc := 26) 1 kW_bitsOf_d26 (by decide) ?_
      refine jj_ishr (pc := 27) kW_bitsOf_d27 ?_
      refine jn_top (.int (nI (4))) (by decide) ?_
      refine jj_istore_n (pc := 28) kW_bitsOf_d28 (Nat.le_of_ble_eq_true rfl) ?_
      refine jj_goto (pc := 29) (tgt := 7) kW_bitsOf_d29 (by decide) ?_
      show jj G kW_bitsOf (d) Q rc rs 7 [some (.int (x)), some (.int (nI (b + 8))), some (.int (nI (yh))), some (.int (nI (4)))] [] M
      exact h4 (b + 8) yh (Nat.lt_of_lt_of_le hyl (by decide)) (by omega) (by omega)
  have h16 : ∀ b y, y < 2 ^ 32 → b + 32 ≤ 32 → bl (lu x) = b + bl y → jj G kW_bitsOf (d) Q rc rs 7 [some (.int (x)), some (.int (nI (b))), some (.int (nI (y))), some (.int (nI (16)))] [] M := by
    intro b y hy hb he
    have hyb : y < BB := Nat.lt_of_lt_of_le hy (by decide)
    have hdq : y / 2 ^ 16 < 2 ^ 16 := (Nat.div_lt_iff_lt_mul (by decide)).mpr (by rw [← Nat.pow_add]; exact hy)
    refine jj_iload_n (pc := 7) kW_bitsOf_d7 rfl ?_
    refine jn_if_le (pc := 8) (tgt := 32) kW_bitsOf_d8 (by decide) (by omega) (fun c => by exfalso; omega) (fun _ => ?_)
    refine jj_iload_n (pc := 11) kW_bitsOf_d11 rfl ?_
    refine jj_iload_n (pc := 12) kW_bitsOf_d12 rfl ?_
    obtain ⟨yh, hyh⟩ : ∃ yh, y / 2 ^ 16 = yh := ⟨_, rfl⟩
    have hyl : yh < 2 ^ 16 := by rw [← hyh]; exact hdq
    refine jj_iushr (pc := 13) kW_bitsOf_d13 ?_
    refine jn_top (.int (nI (yh))) (by rw [iushr_nI 16 (by decide), lu_nI' hyb, hyh]) ?_
    refine jn_if_eq (pc := 14) (tgt := 25) kW_bitsOf_d14 (by decide) (by omega) (fun c0 => ?_) (fun c0 => ?_)
    · skip
      have hy0 : y < 2 ^ 16 := by
        rcases Nat.lt_or_ge y (2 ^ 16) with g | g
        · exact g
        · have := Nat.div_pos g (by decide); omega
      refine jj_iload_n (pc := 25) kW_bitsOf_d25 rfl ?_
      refine jn_iconst (pc := 26) 1 kW_bitsOf_d26 (by decide) ?_
      refine jj_ishr (pc := 27) kW_bitsOf_d27 ?_
      refine jn_top (.int (nI (8))) (by decide) ?_
      refine jj_istore_n (pc := 28) kW_bitsOf_d28 (Nat.le_of_ble_eq_true rfl) ?_
      refine jj_goto (pc := 29) (tgt := 7) kW_bitsOf_d29 (by decide) ?_
      show jj G kW_bitsOf (d) Q rc rs 7 [some (.int (x)), some (.int (nI (b))), some (.int (nI (y))), some (.int (nI (8)))] [] M
      exact h8 b y (Nat.lt_of_lt_of_le hy0 (by decide)) (by omega) he
    · skip
      have hbs := bl_shift (n := y) (s := 16) (by omega)
      rw [hyh] at hbs
      refine jj_iload_n (pc := 17) kW_bitsOf_d17 rfl ?_
      refine jj_iload_n (pc := 18) kW_bitsOf_d18 rfl ?_
      refine jn_iadd (pc := 19) (b + 16) kW_bitsOf_d19 (by omega) ?_
      refine jj_istore_n (pc := 20) kW_bitsOf_d20 (Nat.le_of_ble_eq_true rfl) ?_
      refine jj_iload_n (pc := 21) kW_bitsOf_d21 rfl ?_
      refine jj_iload_n (pc := 22) kW_bitsOf_d22 rfl ?_
      refine jj_iushr (pc := 23) kW_bitsOf_d23 ?_
      refine jn_top (.int (nI (yh))) (by rw [iushr_nI 16 (by decide), lu_nI' hyb, hyh]) ?_
      refine jj_istore_n (pc := 24) kW_bitsOf_d24 (Nat.le_of_ble_eq_true rfl) ?_
      refine jj_iload_n (pc := 25) kW_bitsOf_d25 rfl ?_
      refine jn_iconst (pc := 26) 1 kW_bitsOf_d26 (by decide) ?_
      refine jj_ishr (pc := 27) kW_bitsOf_d27 ?_
      refine jn_top (.int (nI (8))) (by decide) ?_
      refine jj_istore_n (pc := 28) kW_bitsOf_d28 (Nat.le_of_ble_eq_true rfl) ?_
      refine jj_goto (pc := 29) (tgt := 7) kW_bitsOf_d29 (by decide) ?_
      show jj G kW_bitsOf (d) Q rc rs 7 [some (.int (x)), some (.int (nI (b + 16))), some (.int (nI (yh))), some (.int (nI (8)))] [] M
      exact h8 (b + 16) yh (Nat.lt_of_lt_of_le hyl (by decide)) (by omega) (by omega)
  show jj G kW_bitsOf (d) Q rc rs 0 [some (.int (x)), none, none, none] [] M
  refine jn_iconst (pc := 0) 0 kW_bitsOf_d0 (by decide) ?_
  refine jj_istore_n (pc := 1) kW_bitsOf_d1 (Nat.le_of_ble_eq_true rfl) ?_
  refine jj_iload_n (pc := 2) kW_bitsOf_d2 rfl ?_
  refine jn_top (.int (nI (lu x))) (by rw [nI_lu]) ?_
  refine jj_istore_n (pc := 3) kW_bitsOf_d3 (Nat.le_of_ble_eq_true rfl) ?_
  refine jn_bipush (pc := 4) 16 kW_bitsOf_d4 (by decide) ?_
  refine jj_istore_n (pc := 6) kW_bitsOf_d6 (Nat.le_of_ble_eq_true rfl) ?_
  show jj G kW_bitsOf (d) Q rc rs 7 [some (.int (x)), some (.int (nI (0))), some (.int (nI (lu x))), some (.int (nI (16)))] [] M
  exact h16 0 (lu x) hlx (by decide) (by omega)
theorem w_bits {t : Nat} (hG : kG G) (hI : CI wa la cap N) (hc : CW M wa la cap N V) (ht : t < N) (k : Q (.returned (some (.int (nI (blen (V t)))))) M rc rs) : jj G kW_bits (d + 1) Q rc rs 0 (jj_ent [.ref (wa t)] 1) [] M := by
  obtain ⟨D, c, hD1, hD2, hD3, hD4⟩ := hc t ht
  obtain ⟨at_, eat_⟩ : ∃ at_, wa t = at_ := ⟨_, rfl⟩
  obtain ⟨lt, elt⟩ : ∃ lt, la t = lt := ⟨_, rfl⟩
  have hcapt := hI.2.2 t ht
  have hleD := hD4.1
  rw [eat_, elt] at hD1
  rw [elt] at hD2
  rw [eat_]
  have hz0 := hD4.zero
  show jj G kW_bits (d + 1) Q rc rs 0 [some (.ref at_)] [] M
  refine jj_aload_n (pc := 0) kW_bits_d0 rfl ?_
  refine jj_getf (pc := 1) kW_bits_d1 (kfW_count hG) hD1 rfl ?_
  refine jn_if_ne (pc := 4) (tgt := 11) kW_bits_d4 (by decide) (by omega) (fun c0 => ?_) (fun c0 => ?_)
  · skip
    obtain ⟨m, hm⟩ : ∃ m, c = m + 1 := ⟨c - 1, by omega⟩
    subst hm
    have htop := hD4.2.2 (by omega)
    rw [show m + 1 - 1 = m by omega] at htop
    have hbl := bl_limbs htop
    rw [hD4.2.1, ← bl_z] at hbl
    show jj G kW_bits (d + 1) Q rc rs 11 [some (.ref at_)] [] M
    refine jn_bipush (pc := 11) 32 kW_bits_d11 (by decide) ?_
    refine jj_aload_n (pc := 13) kW_bits_d13 rfl ?_
    refine jj_getf (pc := 14) kW_bits_d14 (kfW_count hG) hD1 rfl ?_
    refine jn_iconst (pc := 17) 1 kW_bits_d17 (by decide) ?_
    refine jn_isub (pc := 18) (m) kW_bits_d18 (by omega) ?_
    refine jn_imul (pc := 19) (32 * m) kW_bits_d19 (by omega) ?_
    refine jj_aload_n (pc := 20) kW_bits_d20 rfl ?_
    refine jj_getf (pc := 21) kW_bits_d21 (kfW_limbs hG) hD1 rfl ?_
    refine jj_aload_n (pc := 24) kW_bits_d24 rfl ?_
    refine jj_getf (pc := 25) kW_bits_d25 (kfW_count hG) hD1 rfl ?_
    refine jn_iconst (pc := 28) 1 kW_bits_d28 (by decide) ?_
    refine jn_isub (pc := 29) (m) kW_bits_d29 (by omega) ?_
    refine jn_iald (pc := 30) (v := (D.getD m 0)) kW_bits_d30 (kG_t hG rfl) hD2 (by omega) (by omega) (rfl) ?_
    refine jj_callS (pc := 31) (As := [.int (D.getD m 0)]) kW_bits_d31 (kvW_W_bitsOf hG) rfl rfl rfl (Nat.le_of_ble_eq_true rfl) (Nat.le_of_ble_eq_true rfl) (jj_bare0 rfl) ?_
    refine w_bitsOf ?_
    show jj G kW_bits (d + 1) Q rc rs 34 [some (.ref at_)] [.int (nI (bl (lu (D.getD m 0)))), .int (nI (32 * m))] M
    refine jn_iadd (pc := 34) (32 * m + bl (lu (D.getD m 0))) kW_bits_d34 (by omega) ?_
    exact jj_iret (pc := 35) kW_bits_d35 rfl (by rfl) (by rw [hbl] at k; exact k)
  · skip
    have hv0 := hz0.mp (by omega)
    refine jn_iconst (pc := 7) 0 kW_bits_d7 (by decide) ?_
    refine jj_goto (pc := 8) (tgt := 35) kW_bits_d8 (by decide) ?_
    exact jj_iret (pc := 35) kW_bits_d35 rfl (by rfl) (by rw [hv0] at k; exact k)
end W2
