/-! ===== Arrays.fill; Whole: product, putLong (printed by wip/gen/rW5.py) ===== -/
theorem prod_step {x y c s W f b t : Nat} (h : x + c * W = y) (hs : c + (f * b + t) = s) : x + s % BB * W + s / BB * (W * BB) = y + f * b * W + t * W := by
  have h1 := carry_step (s := s) (u := f * b) (v := t) h (by omega)
  exact h1
theorem prod_row {f y b i j : Nat} : f * (y + b * BB ^ j) * BB ^ i = f * y * BB ^ i + f * b * BB ^ (i + j) := by
  rw [Nat.mul_add, Nat.add_mul, Nat.pow_add, Nat.mul_comm (BB ^ i) (BB ^ j)]
  congr 1
  rw [Nat.mul_assoc, Nat.mul_assoc, Nat.mul_assoc]
theorem big_sum {c f b t : Nat} (hc : c < 4294967296) (hf : f < 4294967296) (hb : b < 4294967296) (ht : t < 4294967296) : c + (f * b + t) < 4294967296 * 4294967296 := by
  have : f * b ≤ 4294967295 * 4294967295 := Nat.mul_le_mul (by omega) (by omega)
  omega
theorem sg_mul {a b : Int} (h : a * b ≠ 0) : sg (a * b) = if sg a = sg b then 0 else 1 := by
  have ha : a ≠ 0 := fun e => h (by rw [e, Int.zero_mul])
  have hb : b ≠ 0 := fun e => h (by rw [e, Int.mul_zero])
  rcases (show a < 0 ∨ 0 < a by omega) with g1 | g1 <;> rcases (show b < 0 ∨ 0 < b by omega) with g2 | g2
  · rw [sg_eq1.mpr g1, sg_eq1.mpr g2, if_pos rfl]; exact sg_eq0.mpr (Int.le_of_lt (Int.mul_pos_of_neg_of_neg g1 g2))
  · rw [sg_eq1.mpr g1, sg_eq0.mpr (show 0 ≤ b by omega), if_neg (by decide)]; exact sg_eq1.mpr (Int.mul_neg_of_neg_of_pos g1 g2)
  · rw [sg_eq0.mpr (show 0 ≤ a by omega), sg_eq1.mpr g2, if_neg (by decide)]; exact sg_eq1.mpr (Int.mul_neg_of_pos_of_neg g1 g2)
  · rw [sg_eq0.mpr (show 0 ≤ a by omega), sg_eq0.mpr (show 0 ≤ b by omega), if_pos rfl]; exact sg_eq0.mpr (Int.le_of_lt (Int.mul_pos g1 g2))
section W5
variable {G : jg} {d : Nat} {Q : jq} {rc rs : Nat} {M : mheap} {wa la cap : Nat → Nat} {N : Nat} {V : Nat → Int}
theorem ja_range {L n : Nat} (hL : L < 2 ^ 31) (hn : n ≤ L) (k : Q (.returned none) M rc rs) : jj G kJA_rangeCheck d Q rc rs 0 (jj_ent [.int (nI L), .int (nI 0), .int (nI n)] 3) [] M := by
  show jj G kJA_rangeCheck (d) Q rc rs 0 [some (.int (nI (L))), some (.int (nI (0))), some (.int (nI (n)))] [] M
  refine jj_iload_n (pc := 0) kJA_rangeCheck_d0 rfl ?_
  refine jj_iload_n (pc := 1) kJA_rangeCheck_d1 rfl ?_
  refine jn_icmp_le (pc := 2) (tgt := 46) kJA_rangeCheck_d2 (by decide) (by omega) (by omega) (fun _ => ?_) (fun c => by exfalso; omega)
  refine jj_iload_n (pc := 46) kJA_rangeCheck_d46 rfl ?_
  refine jz_if_ge (pc := 47) (tgt := 59) (a := 0) kJA_rangeCheck_d47 (by decide) (zI_nat _).symm (by omega) (by omega) (fun _ => ?_) (fun c => by exfalso; omega)
  refine jj_iload_n (pc := 59) kJA_rangeCheck_d59 rfl ?_
  refine jj_iload_n (pc := 60) kJA_rangeCheck_d60 rfl ?_
  refine jn_icmp_le (pc := 61) (tgt := 73) kJA_rangeCheck_d61 (by decide) (by omega) (by omega) (fun _ => ?_) (fun c => by exfalso; omega)
  exact jj_vret (pc := 73) kJA_rangeCheck_d73 rfl k
theorem ja_fill {a n : Nat} {D : List Int32} (hG : kG G) (hM : M a = some (.inr 0, D.map .int)) (hD : D.length < 2 ^ 31) (hn : n ≤ D.length) (k : ∀ (M' : mheap) (D' : List Int32), M' a = some (.inr 0, D'.map .int) → D'.length = D.length → (∀ j, j < n → D'.getD j 0 = 0) → (∀ q, q ≠ a → M' q = M q) → Q (.returned none) M' rc rs) : jj G kJA_fill (d + 1) Q rc rs 0 (jj_ent [.ref a, .int (nI 0), .int (nI n), .int (nI 0)] 5) [] M := by
  show jj G kJA_fill (d + 1) Q rc rs 0 [some (.ref a), some (.int (nI (0))), some (.int (nI (n))), some (.int (nI (0))), none] [] M
  refine jj_aload_n (pc := 0) kJA_fill_d0 rfl ?_
  refine jn_alen (pc := 1) kJA_fill_d1 hM ?_
  refine jj_iload_n (pc := 2) kJA_fill_d2 rfl ?_
  refine jj_iload_n (pc := 3) kJA_fill_d3 rfl ?_
  refine jj_callS (pc := 4) (As := [.int (nI (D.length)), .int (nI (0)), .int (nI (n))]) kJA_fill_d4 (kvJA_JA_rangeCheck hG) rfl rfl rfl (Nat.le_of_ble_eq_true rfl) (Nat.le_of_ble_eq_true rfl) (jj_bare0 rfl) ?_
  refine ja_range hD hn ?_
  show jj G kJA_fill (d + 1) Q rc rs 7 [some (.ref a), some (.int (nI (0))), some (.int (nI (n))), some (.int (nI (0))), none] [] M
  refine jj_iload_n (pc := 7) kJA_fill_d7 rfl ?_
  refine jj_istore (pc := 8) kJA_fill_d8 (Nat.le_of_ble_eq_true rfl) ?_
  show jj G kJA_fill (d + 1) Q rc rs 10 [some (.ref a), some (.int (nI (0))), some (.int (nI (n))), some (.int (nI (0))), some (.int (nI (0)))] [] M
  have loop : ∀ mu i, n = i + mu → ∀ (M9 : mheap) (D9 : List Int32), M9 a = some (.inr 0, D9.map .int) → D9.length = D.length → (∀ j, j < i → D9.getD j 0 = 0) → (∀ q, q ≠ a → M9 q = M q) → jj G kJA_fill (d + 1) Q rc rs 10 [some (.ref a), some (.int (nI (0))), some (.int (nI (n))), some (.int (nI (0))), some (.int (nI (i)))] [] M9 := by
    intro mu
    induction mu with
    | zero =>
      intro i hk M9 D9 h9 l9 q9 f9
      have e9 : n = i := by omega
      subst e9
      refine jj_iload (pc := 10) kJA_fill_d10 rfl ?_
      refine jj_iload_n (pc := 12) kJA_fill_d12 rfl ?_
      refine jn_icmp_ge (pc := 13) (tgt := 27) kJA_fill_d13 (by decide) (by omega) (by omega) (fun _ => ?_) (fun c => by exfalso; omega)
      exact jj_vret (pc := 27) kJA_fill_d27 rfl (k M9 D9 h9 l9 q9 f9)
    | succ mu ih =>
      intro i hk M9 D9 h9 l9 q9 f9
      refine jj_iload (pc := 10) kJA_fill_d10 rfl ?_
      refine jj_iload_n (pc := 12) kJA_fill_d12 rfl ?_
      refine jn_icmp_ge (pc := 13) (tgt := 27) kJA_fill_d13 (by decide) (by omega) (by omega) (fun c => by exfalso; omega) (fun _ => ?_)
      refine jj_aload_n (pc := 16) kJA_fill_d16 rfl ?_
      refine jj_iload (pc := 17) kJA_fill_d17 rfl ?_
      refine jj_iload_n (pc := 19) kJA_fill_d19 rfl ?_
      refine jn_iast (pc := 20) kJA_fill_d20 (kG_t hG rfl) h9 (by omega) (by omega) ?_
      refine jn_gen (fun M101 hM102 => ?_)
      have h103 : M101 a = some (.inr 0, ((D9).set (i) ((nI (0)))).map .int) := by rw [hM102]; exact jj_up_at _ _ _
      refine jn_iinc (pc := 21) (i + 1) kJA_fill_d21 rfl (nI_1 _) ?_
      refine jj_goto (pc := 24) (tgt := 10) kJA_fill_d24 (by decide) ?_
      show jj G kJA_fill (d + 1) Q rc rs 10 [some (.ref a), some (.int (nI (0))), some (.int (nI (n))), some (.int (nI (0))), some (.int (nI (i + 1)))] [] M101
      refine ih (i + 1) (by omega) M101 _ h103 (by rw [List.length_set]; exact l9) (fun j hj => ?_) (fun q hq => by rw [hM102, jj_up_ne _ _ hq]; exact f9 q hq)
      by_cases e : j = i
      · rw [e, gd_set_eq (by omega)]; rfl
      · rw [gd_set_ne (by omega)]; exact q9 j (by omega)
  exact loop n 0 (by omega) M D hM rfl (fun j hj => by omega) (fun _ _ => rfl)
theorem w_product {t u v : Nat} (hG : kG G) (hI : CI wa la cap N) (hc : CW M wa la cap N V) (ht : t < N) (hu : u < N) (hv : v < N) (htu : t ≠ u) (htv : t ≠ v) (hr : lc (V u) + lc (V v) ≤ cap t) (k : ∀ M', CW M' wa la cap N (vup V t (V u * V v)) → WT M M' wa la t → Q (.returned none) M' rc rs) : jj G kW_product (d + 2) Q rc rs 0 (jj_ent [.ref (wa t), .ref (wa u), .ref (wa v)] 12) [] M := by
  obtain ⟨T, ct, hT1, hT2, hT3, hT4⟩ := hc t ht
  obtain ⟨at_, eat_⟩ : ∃ at_, wa t = at_ := ⟨_, rfl⟩
  obtain ⟨lt, elt⟩ : ∃ lt, la t = lt := ⟨_, rfl⟩
  have hcapt := hI.2.2 t ht
  have hleT := hT4.1
  rw [eat_, elt] at hT1
  rw [elt] at hT2
  obtain ⟨A, n, hA1, hA2, hA3, hA4⟩ := hc u hu
  obtain ⟨au, eau⟩ : ∃ au, wa u = au := ⟨_, rfl⟩
  obtain ⟨lp, elp⟩ : ∃ lp, la u = lp := ⟨_, rfl⟩
  have hcapu := hI.2.2 u hu
  have hleA := hA4.1
  rw [eau, elp] at hA1
  rw [elp] at hA2
  obtain ⟨B, m, hB1, hB2, hB3, hB4⟩ := hc v hv
  obtain ⟨av, eav⟩ : ∃ av, wa v = av := ⟨_, rfl⟩
  obtain ⟨lq, elq⟩ : ∃ lq, la v = lq := ⟨_, rfl⟩
  have hcapv := hI.2.2 v hv
  have hleB := hB4.1
  rw [eav, elq] at hB1
  rw [elq] at hB2
  have hcn := hA4.cnt
  have hcm := hB4.cnt
  rw [← hcn, ← hcm] at hr
  have hnp : lp ≠ lt := fun h => htu (hI.2.1 t u ht hu (by rw [elt, elp, h]))
  have hnq : lq ≠ lt := fun h => htv (hI.2.1 t v ht hv (by rw [elt, elq, h]))
  have hna : au ≠ at_ := fun h => htu (hI.1 t u ht hu (by rw [eat_, eau, h]))
  have hnb : av ≠ at_ := fun h => htv (hI.1 t v ht hv (by rw [eat_, eav, h]))
  have hz1 := hA4.zero
  have hz2 := hB4.zero
  rw [eat_, eau, eav]
  show jj G kW_product (d + 2) Q rc rs 0 [some (.ref at_), some (.ref au), some (.ref av), none, none, none, none, none, none, none, none, none] [] M
  refine jj_aload_n (pc := 0) kW_product_d0 rfl ?_
  refine jj_getf (pc := 1) kW_product_d1 (kfW_count hG) hA1 rfl ?_
  refine jn_if_eq (pc := 4) (tgt := 14) kW_product_d4 (by decide) (by omega) (fun c0 => ?_) (fun c0 => ?_)
  · skip
    refine jj_aload_n (pc := 14) kW_product_d14 rfl ?_
    rw [← eat_]
    exact jj_callV (pc := 15) (b := (wa t)) (As := []) kW_product_d15 (kvW_W_putZero hG) (kG_cl hG rfl) rfl (by rw [eat_]; exact hT1) rfl rfl rfl (Nat.le_of_ble_eq_true rfl) (Nat.le_of_ble_eq_true rfl) (jj_bare0 rfl) (w_putZero hG hI hc ht (fun M8 h1 h2 => jj_vret (pc := 18) kW_product_d18 rfl (k M8 (by rw [hz1.mp c0, Int.zero_mul]; exact h1) h2)))
  · skip
    refine jj_aload_n (pc := 7) kW_product_d7 rfl ?_
    refine jj_getf (pc := 8) kW_product_d8 (kfW_count hG) hB1 rfl ?_
    refine jn_if_ne (pc := 11) (tgt := 19) kW_product_d11 (by decide) (by omega) (fun c1 => ?_) (fun c1 => ?_)
    · skip
      refine jj_aload_n (pc := 19) kW_product_d19 rfl ?_
      refine jj_getf (pc := 20) kW_product_d20 (kfW_count hG) hB1 rfl ?_
      refine jj_istore_n (pc := 23) kW_product_d23 (Nat.le_of_ble_eq_true rfl) ?_
      refine jj_aload_n (pc := 24) kW_product_d24 rfl ?_
      refine jj_aload_n (pc := 25) kW_product_d25 rfl ?_
      refine jj_getf (pc := 26) kW_product_d26 (kfW_count hG) hA1 rfl ?_
      refine jj_iload_n (pc := 29) kW_product_d29 rfl ?_
      refine jn_iadd (pc := 30) (n + m) kW_product_d30 (by omega) ?_
      refine jj_callV (pc := 31) (b := at_) (As := [.int (nI (n + m))]) kW_product_d31 (kvW_W_needRoom hG) (kG_cl hG rfl) rfl hT1 rfl rfl rfl (Nat.le_of_ble_eq_true rfl) (Nat.le_of_ble_eq_true rfl) (jj_bare0 rfl) ?_
      refine w_needRoom hG hT1 hT2 (by omega) (by omega) ?_
      show jj G kW_product (d + 2) Q rc rs 34 [some (.ref at_), some (.ref au), some (.ref av), some (.int (nI (m))), none, none, none, none, none, none, none, none] [] M
      refine jj_aload_n (pc := 34) kW_product_d34 rfl ?_
      refine jj_getf (pc := 35) kW_product_d35 (kfW_limbs hG) hT1 rfl ?_
      refine jj_astore (pc := 38) kW_product_d38 (Nat.le_of_ble_eq_true rfl) ?_
      refine jj_aload_n (pc := 40) kW_product_d40 rfl ?_
      refine jj_getf (pc := 41) kW_product_d41 (kfW_limbs hG) hB1 rfl ?_
      refine jj_astore (pc := 44) kW_product_d44 (Nat.le_of_ble_eq_true rfl) ?_
      refine jj_aload (pc := 46) kW_product_d46 rfl ?_
      refine jn_iconst (pc := 48) 0 kW_product_d48 (by decide) ?_
      refine jj_iload_n (pc := 49) kW_product_d49 rfl ?_
      refine jn_iconst (pc := 50) 0 kW_product_d50 (by decide) ?_
      refine jj_callS (pc := 51) (As := [.ref lt, .int (nI (0)), .int (nI (m)), .int (nI (0))]) kW_product_d51 (kvW_JA_fill hG) rfl rfl rfl (Nat.le_of_ble_eq_true rfl) (Nat.le_of_ble_eq_true rfl) (jj_bare0 rfl) ?_
      refine ja_fill hG hT2 (by omega) (by omega) (fun M1 T1 hM1 hl1 hz9 hf1 => ?_)
      show jj G kW_product (d + 2) Q rc rs 54 [some (.ref at_), some (.ref au), some (.ref av), some (.int (nI (m))), some (.ref lt), some (.ref lq), none, none, none, none, none, none] [] M1
      have h1t : M1 at_ = some (.inl nW, [.ref lt, .int (nI ct), .int (sg (V t))]) := by rw [hf1 _ (fun e => by have q9 := hT1; rw [e, hT2] at q9; cases q9)]; exact hT1
      refine jn_iconst (pc := 54) 0 kW_product_d54 (by decide) ?_
      refine jj_istore (pc := 55) kW_product_d55 (Nat.le_of_ble_eq_true rfl) ?_
      show jj G kW_product (d + 2) Q rc rs 57 [some (.ref at_), some (.ref au), some (.ref av), some (.int (nI (m))), some (.ref lt), some (.ref lq), some (.int (nI (0))), none, none, none, none, none] [] M1
      have loop : ∀ mu i, n = i + mu → ∀ (o7 o8 o9 o10 o11 : Option Value) (M9 : mheap) (T9 : List Int32), M9 at_ = some (.inl nW, [.ref lt, .int (nI ct), .int (sg (V t))]) → M9 lt = some (.inr 0, T9.map .int) → T9.length = T.length → (∀ r, r ≠ lt → M9 r = M r) → lnat T9 (i + m) = lnat A i * lnat B m → jj G kW_product (d + 2) Q rc rs 57 [some (.ref at_), some (.ref au), some (.ref av), some (.int (nI (m))), some (.ref lt), some (.ref lq), some (.int (nI (i))), (o7), (o8), (o9), (o10), (o11)] [] M9 := by
        intro mu
        induction mu with
        | zero =>
          intro i hk o7 o8 o9 o10 o11 M9 T9 h91 h92 l9 hf9 hv9
          have e9 : n = i := by omega
          subst e9
          have h9u := (hf9 au (fun e => by have q9 := hA1; rw [e, hT2] at q9; cases q9)).trans hA1
          have h9v := (hf9 av (fun e => by have q9 := hB1; rw [e, hT2] at q9; cases q9)).trans hB1
          have h9p := (hf9 lp hnp).trans hA2
          have h9q := (hf9 lq hnq).trans hB2
          refine jj_iload (pc := 57) kW_product_d57 rfl ?_
          refine jj_aload_n (pc := 59) kW_product_d59 rfl ?_
          refine jj_getf (pc := 60) kW_product_d60 (kfW_count hG) h9u rfl ?_
          refine jn_icmp_ge (pc := 63) (tgt := 164) kW_product_d63 (by decide) (by omega) (by omega) (fun _ => ?_) (fun c => by exfalso; omega)
          have hval : lnat T9 (n + m) = (V u * V v).natAbs := by rw [hv9, hA4.2.1, hB4.2.1, Int.natAbs_mul]
          refine jj_aload_n (pc := 164) kW_product_d164 rfl ?_
          refine jj_aload_n (pc := 165) kW_product_d165 rfl ?_
          refine jj_getf (pc := 166) kW_product_d166 (kfW_count hG) h9u rfl ?_
          refine jj_iload_n (pc := 169) kW_product_d169 rfl ?_
          refine jn_iadd (pc := 170) (n + m) kW_product_d170 (by omega) ?_
          refine jj_putf (pc := 171) kW_product_d171 (kpW_count hG) h91 (by rfl) rfl ?_
          refine jn_gen (fun M104 hM105 => ?_)
          have h106 : M104 lt = some (.inr 0, (T9).map .int) := by rw [hM105, jj_up_ne _ _ (fun e => by have q1 := h92; rw [e, h91] at q1; cases q1)]; exact h92
          have h107 : M104 au = some (.inl nW, [.ref lp, .int (nI (n)), .int (sg (V u))]) := by rw [hM105, jj_up_ne _ _ hna]; exact h9u
          have h108 : M104 av = some (.inl nW, [.ref lq, .int (nI (m)), .int (sg (V v))]) := by rw [hM105, jj_up_ne _ _ hnb]; exact h9v
          have h109 : M104 lp = some (.inr 0, (A).map .int) := by rw [hM105, jj_up_ne _ _ (fun e => by have q1 := h9p; rw [e, h91] at q1; cases q1)]; exact h9p
          have h110 : M104 lq = some (.inr 0, (B).map .int) := by rw [hM105, jj_up_ne _ _ (fun e => by have q1 := h9q; rw [e, h91] at q1; cases q1)]; exact h9q
          have h111 : M104 at_ = some (.inl nW, [.ref lt, .int (nI (n + m)), .int (sg (V t))]) := by rw [hM105]; exact jj_up_at _ _ _
          refine jj_aload_n (pc := 174) kW_product_d174 rfl ?_
          refine jj_aload_n (pc := 175) kW_product_d175 rfl ?_
          refine jj_getf (pc := 176) kW_product_d176 (kfW_below hG) h107 rfl ?_
          refine jj_aload_n (pc := 179) kW_product_d179 rfl ?_
          refine jj_getf (pc := 180) kW_product_d180 (kfW_below hG) h108 rfl ?_
          refine jj_icmp_eq (pc := 183) (tgt := 190) kW_product_d183 (by decide) (fun c5 => ?_) (fun c5 => ?_)
          · skip
            refine jn_iconst (pc := 190) 0 kW_product_d190 (by decide) ?_
            refine jj_putf (pc := 191) kW_product_d191 (kpW_below hG) h111 (by rfl) rfl ?_
            refine jn_gen (fun M112 hM113 => ?_)
            have h114 : M112 lt = some (.inr 0, (T9).map .int) := by rw [hM113, jj_up_ne _ _ (fun e => by have q1 := h106; rw [e, h111] at q1; cases q1)]; exact h106
            have h115 : M112 au = some (.inl nW, [.ref lp, .int (nI (n)), .int (sg (V u))]) := by rw [hM113, jj_up_ne _ _ hna]; exact h107
            have h116 : M112 av = some (.inl nW, [.ref lq, .int (nI (m)), .int (sg (V v))]) := by rw [hM113, jj_up_ne _ _ hnb]; exact h108
            have h117 : M112 lp = some (.inr 0, (A).map .int) := by rw [hM113, jj_up_ne _ _ (fun e => by have q1 := h109; rw [e, h111] at q1; cases q1)]; exact h109
            have h118 : M112 lq = some (.inr 0, (B).map .int) := by rw [hM113, jj_up_ne _ _ (fun e => by have q1 := h110; rw [e, h111] at q1; cases q1)]; exact h110
            have h119 : M112 at_ = some (.inl nW, [.ref lt, .int (nI (n + m)), .int (nI (0))]) := by rw [hM113]; exact jj_up_at _ _ _
            refine jj_aload_n (pc := 194) kW_product_d194 rfl ?_
            refine jj_callV (pc := 195) (b := at_) (As := []) kW_product_d195 (kvW_W_trim hG) (kG_cl hG rfl) rfl h119 rfl rfl rfl (Nat.le_of_ble_eq_true rfl) (Nat.le_of_ble_eq_true rfl) (jj_bare0 rfl) ?_
            refine w_trim hG (by omega) (n + m) M112 h119 h114 (by omega) (fun M8 h81 h82 => ?_)
            show jj G kW_product (d + 2) Q rc rs 198 [some (.ref at_), some (.ref au), some (.ref av), some (.int (nI (m))), some (.ref lt), some (.ref lq), some (.int (nI (n))), (o7), (o8), (o9), (o10), (o11)] [] M8
            have hlt8 : M8 lt = some (.inr 0, T9.map .int) := by rw [h82 lt (fun e => by have q9 := h114; rw [e, h119] at q9; cases q9)]; exact h114
            have hWT : WT M M8 wa la t := fun r r1 r2 => by
              rw [eat_] at r1
              rw [elt] at r2
              rw [h82 r r1, hM113, jj_up_ne _ _ r1, hM105, jj_up_ne _ _ r1, hf9 r r2]
            have hsg : (if ltrim T9 (n + m) = 0 then (0 : Int32) else nI 0) = sg (V u * V v) := sg_trim (by omega) hval (fun h => by rw [sg_mul h, if_pos c5]; rfl)
            rw [hsg] at h81
            exact jj_vret (pc := 198) kW_product_d198 rfl (k M8 (hc.put hI ht (by rw [eat_, elt]; exact ⟨_, _, h81, hlt8, by rw [l9]; exact hT3, ltrim_LW (by omega) hval⟩) hWT) hWT)
          · skip
            refine jn_iconst (pc := 186) 1 kW_product_d186 (by decide) ?_
            refine jj_goto (pc := 187) (tgt := 191) kW_product_d187 (by decide) ?_
            refine jj_putf (pc := 191) kW_product_d191 (kpW_below hG) h111 (by rfl) rfl ?_
            refine jn_gen (fun M120 hM121 => ?_)
            have h122 : M120 lt = some (.inr 0, (T9).map .int) := by rw [hM121, jj_up_ne _ _ (fun e => by have q1 := h106; rw [e, h111] at q1; cases q1)]; exact h106
            have h123 : M120 au = some (.inl nW, [.ref lp, .int (nI (n)), .int (sg (V u))]) := by rw [hM121, jj_up_ne _ _ hna]; exact h107
            have h124 : M120 av = some (.inl nW, [.ref lq, .int (nI (m)), .int (sg (V v))]) := by rw [hM121, jj_up_ne _ _ hnb]; exact h108
            have h125 : M120 lp = some (.inr 0, (A).map .int) := by rw [hM121, jj_up_ne _ _ (fun e => by have q1 := h109; rw [e, h111] at q1; cases q1)]; exact h109
            have h126 : M120 lq = some (.inr 0, (B).map .int) := by rw [hM121, jj_up_ne _ _ (fun e => by have q1 := h110; rw [e, h111] at q1; cases q1)]; exact h110
            have h127 : M120 at_ = some (.inl nW, [.ref lt, .int (nI (n + m)), .int (nI (1))]) := by rw [hM121]; exact jj_up_at _ _ _
            refine jj_aload_n (pc := 194) kW_product_d194 rfl ?_
            refine jj_callV (pc := 195) (b := at_) (As := []) kW_product_d195 (kvW_W_trim hG) (kG_cl hG rfl) rfl h127 rfl rfl rfl (Nat.le_of_ble_eq_true rfl) (Nat.le_of_ble_eq_true rfl) (jj_bare0 rfl) ?_
            refine w_trim hG (by omega) (n + m) M120 h127 h122 (by omega) (fun M8 h81 h82 => ?_)
            show jj G kW_product (d + 2) Q rc rs 198 [some (.ref at_), some (.ref au), some (.ref av), some (.int (nI (m))), some (.ref lt), some (.ref lq), some (.int (nI (n))), (o7), (o8), (o9), (o10), (o11)] [] M8
            have hlt8 : M8 lt = some (.inr 0, T9.map .int) := by rw [h82 lt (fun e => by have q9 := h122; rw [e, h127] at q9; cases q9)]; exact h122
            have hWT : WT M M8 wa la t := fun r r1 r2 => by
              rw [eat_] at r1
              rw [elt] at r2
              rw [h82 r r1, hM121, jj_up_ne _ _ r1, hM105, jj_up_ne _ _ r1, hf9 r r2]
            have hsg : (if ltrim T9 (n + m) = 0 then (0 : Int32) else nI 1) = sg (V u * V v) := sg_trim (by omega) hval (fun h => by rw [sg_mul h, if_neg c5]; rfl)
            rw [hsg] at h81
            exact jj_vret (pc := 198) kW_product_d198 rfl (k M8 (hc.put hI ht (by rw [eat_, elt]; exact ⟨_, _, h81, hlt8, by rw [l9]; exact hT3, ltrim_LW (by omega) hval⟩) hWT) hWT)
        | succ mu ih =>
          intro i hk o7 o8 o9 o10 o11 M9 T9 h91 h92 l9 hf9 hv9
          have ha := lu_lt (A.getD i 0)
          have h9u := (hf9 au (fun e => by have q9 := hA1; rw [e, hT2] at q9; cases q9)).trans hA1
          have h9v := (hf9 av (fun e => by have q9 := hB1; rw [e, hT2] at q9; cases q9)).trans hB1
          have h9p := (hf9 lp hnp).trans hA2
          have h9q := (hf9 lq hnq).trans hB2
          refine jj_iload (pc := 57) kW_product_d57 rfl ?_
          refine jj_aload_n (pc := 59) kW_product_d59 rfl ?_
          refine jj_getf (pc := 60) kW_product_d60 (kfW_count hG) h9u rfl ?_
          refine jn_icmp_ge (pc := 63) (tgt := 164) kW_product_d63 (by decide) (by omega) (by omega) (fun c => by exfalso; omega) (fun _ => ?_)
          refine jj_aload_n (pc := 66) kW_product_d66 rfl ?_
          refine jj_getf (pc := 67) kW_product_d67 (kfW_limbs hG) h9u rfl ?_
          refine jj_iload (pc := 70) kW_product_d70 rfl ?_
          refine jn_iald (pc := 72) (v := (A.getD i 0)) kW_product_d72 (kG_t hG rfl) h9p (by omega) (by omega) (rfl) ?_
          refine jj_i2l (pc := 73) kW_product_d73 ?_
          refine jj_ldc2 (pc := 74) kW_product_d74 (kcW_4294967295 hG) ?_
          refine jn_top (.long (lN (4294967295))) (rfl) ?_
          refine jj_land (pc := 77) kW_product_d77 ?_
          refine jn_top (.long (lN (lu (A.getD i 0)))) (by rw [lu_mask]) ?_
          obtain ⟨fa, hfa⟩ : ∃ fa, lu (A.getD i 0) = fa := ⟨_, rfl⟩
          rw [hfa] at ha
          refine jn_top (.long (lN (fa))) (by rw [hfa]) ?_
          refine jj_lstore (pc := 78) kW_product_d78 (Nat.le_of_ble_eq_true rfl) ?_
          refine jj_lconst (pc := 80) (v := lN 0) kW_product_d80 (by decide) ?_
          refine jj_lstore (pc := 81) kW_product_d81 (Nat.le_of_ble_eq_true rfl) ?_
          refine jn_iconst (pc := 83) 0 kW_product_d83 (by decide) ?_
          refine jj_istore (pc := 84) kW_product_d84 (Nat.le_of_ble_eq_true rfl) ?_
          show jj G kW_product (d + 2) Q rc rs 86 [some (.ref at_), some (.ref au), some (.ref av), some (.int (nI (m))), some (.ref lt), some (.ref lq), some (.int (nI (i))), some (.long (lN (fa))), none, some (.long (lN (0))), none, some (.int (nI (0)))] [] M9
          have inner : ∀ mu2 j, m = j + mu2 → ∀ (cy : Nat) (M7 : mheap) (T7 : List Int32), M7 at_ = some (.inl nW, [.ref lt, .int (nI ct), .int (sg (V t))]) → M7 lt = some (.inr 0, T7.map .int) → T7.length = T.length → (∀ r, r ≠ lt → M7 r = M r) → (∀ h, i + j ≤ h → T7.getD h 0 = T9.getD h 0) → cy < 4294967296 → lnat T7 (i + j) + cy * BB ^ (i + j) = lnat T9 (i + j) + fa * lnat B j * BB ^ i → jj G kW_product (d + 2) Q rc rs 86 [some (.ref at_), some (.ref au), some (.ref av), some (.int (nI (m))), some (.ref lt), some (.ref lq), some (.int (nI (i))), some (.long (lN (fa))), none, some (.long (lN (cy))), none, some (.int (nI (j)))] [] M7 := by
            intro mu2
            induction mu2 with
            | zero =>
              intro j hk2 cy M7 T7 h71 h72 l7 hf7 q7 hcy hv7
              have e9 : m = j := by omega
              subst e9
              have h7u := (hf7 au (fun e => by have q9 := hA1; rw [e, hT2] at q9; cases q9)).trans hA1
              have h7v := (hf7 av (fun e => by have q9 := hB1; rw [e, hT2] at q9; cases q9)).trans hB1
              have h7p := (hf7 lp hnp).trans hA2
              have h7q := (hf7 lq hnq).trans hB2
              refine jj_iload (pc := 86) kW_product_d86 rfl ?_
              refine jj_iload_n (pc := 88) kW_product_d88 rfl ?_
              refine jn_icmp_ge (pc := 89) (tgt := 148) kW_product_d89 (by decide) (by omega) (by omega) (fun _ => ?_) (fun c => by exfalso; omega)
              refine jj_aload (pc := 148) kW_product_d148 rfl ?_
              refine jj_iload (pc := 150) kW_product_d150 rfl ?_
              refine jj_iload_n (pc := 152) kW_product_d152 rfl ?_
              refine jn_iadd (pc := 153) (i + m) kW_product_d153 (by omega) ?_
              refine jj_lload (pc := 154) kW_product_d154 rfl ?_
              refine jj_l2i (pc := 156) kW_product_d156 ?_
              refine jn_top (.int (nI (cy))) (by rw [lN_i]) ?_
              refine jn_iast (pc := 157) kW_product_d157 (kG_t hG rfl) h72 (by omega) (by omega) ?_
              refine jn_gen (fun M128 hM129 => ?_)
              have h130 : M128 at_ = some (.inl nW, [.ref lt, .int (nI (ct)), .int (sg (V t))]) := by rw [hM129, jj_up_ne _ _ (fun e => by have q1 := h71; rw [e, h72] at q1; cases q1)]; exact h71
              have h131 : M128 au = some (.inl nW, [.ref lp, .int (nI (n)), .int (sg (V u))]) := by rw [hM129, jj_up_ne _ _ (fun e => by have q1 := h7u; rw [e, h72] at q1; cases q1)]; exact h7u
              have h132 : M128 av = some (.inl nW, [.ref lq, .int (nI (m)), .int (sg (V v))]) := by rw [hM129, jj_up_ne _ _ (fun e => by have q1 := h7v; rw [e, h72] at q1; cases q1)]; exact h7v
              have h133 : M128 lp = some (.inr 0, (A).map .int) := by rw [hM129, jj_up_ne _ _ hnp]; exact h7p
              have h134 : M128 lq = some (.inr 0, (B).map .int) := by rw [hM129, jj_up_ne _ _ hnq]; exact h7q
              have h135 : M128 lt = some (.inr 0, ((T7).set (i + m) ((nI (cy)))).map .int) := by rw [hM129]; exact jj_up_at _ _ _
              refine jn_iinc (pc := 158) (i + 1) kW_product_d158 rfl (nI_1 _) ?_
              refine jj_goto (pc := 161) (tgt := 57) kW_product_d161 (by decide) ?_
              show jj G kW_product (d + 2) Q rc rs 57 [some (.ref at_), some (.ref au), some (.ref av), some (.int (nI (m))), some (.ref lt), some (.ref lq), some (.int (nI (i + 1))), some (.long (lN (fa))), none, some (.long (lN (cy))), none, some (.int (nI (m)))] [] M128
              refine ih (i + 1) (by omega) _ _ _ _ _ M128 _ h130 h135 (by rw [List.length_set]; exact l7) (fun r hr => by rw [hM129, jj_up_ne _ _ hr]; exact hf7 r hr) ?_
              rw [show i + 1 + m = i + m + 1 by omega, lnat_step (by omega), Nat.mod_eq_of_lt (show cy < BB from hcy), hv7, hv9]
              show _ = (lnat A i + lu (A.getD i 0) * BB ^ i) * lnat B m
              rw [hfa, Nat.add_mul, Nat.mul_right_comm]
            | succ mu2 ih2 =>
              intro j hk2 cy M7 T7 h71 h72 l7 hf7 q7 hcy hv7
              have hb := lu_lt (B.getD j 0)
              have htl := lu_lt (T9.getD (i + j) 0)
              have h7u := (hf7 au (fun e => by have q9 := hA1; rw [e, hT2] at q9; cases q9)).trans hA1
              have h7v := (hf7 av (fun e => by have q9 := hB1; rw [e, hT2] at q9; cases q9)).trans hB1
              have h7p := (hf7 lp hnp).trans hA2
              have h7q := (hf7 lq hnq).trans hB2
              refine jj_iload (pc := 86) kW_product_d86 rfl ?_
              refine jj_iload_n (pc := 88) kW_product_d88 rfl ?_
              refine jn_icmp_ge (pc := 89) (tgt := 148) kW_product_d89 (by decide) (by omega) (by omega) (fun c => by exfalso; omega) (fun _ => ?_)
              refine jj_lload (pc := 92) kW_product_d92 rfl ?_
              refine jj_lload (pc := 94) kW_product_d94 rfl ?_
              refine jj_aload (pc := 96) kW_product_d96 rfl ?_
              refine jj_iload (pc := 98) kW_product_d98 rfl ?_
              refine jn_iald (pc := 100) (v := (B.getD j 0)) kW_product_d100 (kG_t hG rfl) h7q (by omega) (by omega) (rfl) ?_
              refine jj_i2l (pc := 101) kW_product_d101 ?_
              refine jj_ldc2 (pc := 102) kW_product_d102 (kcW_4294967295 hG) ?_
              refine jn_top (.long (lN (4294967295))) (rfl) ?_
              refine jj_land (pc := 105) kW_product_d105 ?_
              refine jn_top (.long (lN (lu (B.getD j 0)))) (by rw [lu_mask]) ?_
              refine jj_lmul (pc := 106) kW_product_d106 ?_
              refine jn_top (.long (lN (fa * lu (B.getD j 0)))) (by rw [lN_mul]) ?_
              refine jj_aload (pc := 107) kW_product_d107 rfl ?_
              refine jj_iload (pc := 109) kW_product_d109 rfl ?_
              refine jj_iload (pc := 111) kW_product_d111 rfl ?_
              refine jn_iadd (pc := 113) (i + j) kW_product_d113 (by omega) ?_
              refine jn_iald (pc := 114) (v := (T9.getD (i + j) 0)) kW_product_d114 (kG_t hG rfl) h72 (by omega) (by omega) (q7 _ (Nat.le_refl _)) ?_
              refine jj_i2l (pc := 115) kW_product_d115 ?_
              refine jj_ldc2 (pc := 116) kW_product_d116 (kcW_4294967295 hG) ?_
              refine jn_top (.long (lN (4294967295))) (rfl) ?_
              refine jj_land (pc := 119) kW_product_d119 ?_
              refine jn_top (.long (lN (lu (T9.getD (i + j) 0)))) (by rw [lu_mask]) ?_
              obtain ⟨sm, hsm⟩ : ∃ sm, cy + (fa * lu (B.getD j 0) + lu (T9.getD (i + j) 0)) = sm := ⟨_, rfl⟩
              have hsb := big_sum hcy ha hb htl
              rw [hsm] at hsb
              refine jj_ladd (pc := 120) kW_product_d120 ?_
              refine jn_top (.long (lN (fa * lu (B.getD j 0) + lu (T9.getD (i + j) 0)))) (by rw [lN_add]) ?_
              refine jj_ladd (pc := 121) kW_product_d121 ?_
              refine jn_top (.long (lN (sm))) (by rw [lN_add, hsm]) ?_
              refine jj_lstore (pc := 122) kW_product_d122 (Nat.le_of_ble_eq_true rfl) ?_
              refine jj_aload (pc := 124) kW_product_d124 rfl ?_
              refine jj_iload (pc := 126) kW_product_d126 rfl ?_
              refine jj_iload (pc := 128) kW_product_d128 rfl ?_
              refine jn_iadd (pc := 130) (i + j) kW_product_d130 (by omega) ?_
              refine jj_lload (pc := 131) kW_product_d131 rfl ?_
              refine jj_l2i (pc := 133) kW_product_d133 ?_
              refine jn_top (.int (nI (sm))) (by rw [lN_i]) ?_
              refine jn_iast (pc := 134) kW_product_d134 (kG_t hG rfl) h72 (by omega) (by omega) ?_
              refine jn_gen (fun M136 hM137 => ?_)
              have h138 : M136 at_ = some (.inl nW, [.ref lt, .int (nI (ct)), .int (sg (V t))]) := by rw [hM137, jj_up_ne _ _ (fun e => by have q1 := h71; rw [e, h72] at q1; cases q1)]; exact h71
              have h139 : M136 au = some (.inl nW, [.ref lp, .int (nI (n)), .int (sg (V u))]) := by rw [hM137, jj_up_ne _ _ (fun e => by have q1 := h7u; rw [e, h72] at q1; cases q1)]; exact h7u
              have h140 : M136 av = some (.inl nW, [.ref lq, .int (nI (m)), .int (sg (V v))]) := by rw [hM137, jj_up_ne _ _ (fun e => by have q1 := h7v; rw [e, h72] at q1; cases q1)]; exact h7v
              have h141 : M136 lp = some (.inr 0, (A).map .int) := by rw [hM137, jj_up_ne _ _ hnp]; exact h7p
              have h142 : M136 lq = some (.inr 0, (B).map .int) := by rw [hM137, jj_up_ne _ _ hnq]; exact h7q
              have h143 : M136 lt = some (.inr 0, ((T7).set (i + j) ((nI (sm)))).map .int) := by rw [hM137]; exact jj_up_at _ _ _
              refine jj_lload (pc := 135) kW_product_d135 rfl ?_
              refine jn_bipush (pc := 137) 32 kW_product_d137 (by decide) ?_
              refine jj_lushr (pc := 139) kW_product_d139 ?_
              refine jn_top (.long (lN (sm / BB))) (by rw [lN_shr32 (by omega)]) ?_
              refine jj_lstore (pc := 140) kW_product_d140 (Nat.le_of_ble_eq_true rfl) ?_
              refine jn_iinc (pc := 142) (j + 1) kW_product_d142 rfl (nI_1 _) ?_
              refine jj_goto (pc := 145) (tgt := 86) kW_product_d145 (by decide) ?_
              show jj G kW_product (d + 2) Q rc rs 86 [some (.ref at_), some (.ref au), some (.ref av), some (.int (nI (m))), some (.ref lt), some (.ref lq), some (.int (nI (i))), some (.long (lN (fa))), none, some (.long (lN (sm / BB))), none, some (.int (nI (j + 1)))] [] M136
              have hps := prod_step (f := fa) (b := lu (B.getD j 0)) (t := lu (T9.getD (i + j) 0)) hv7 hsm
              have hq9 : sm / BB < 4294967296 := (Nat.div_lt_iff_lt_mul (by decide)).mpr hsb
              refine ih2 (j + 1) (by omega) (sm / BB) M136 _ h138 h143 (by rw [List.length_set]; exact l7) (fun r hr => by rw [hM137, jj_up_ne _ _ hr]; exact hf7 r hr) (fun h hh => by rw [gd_set_ne (by omega)]; exact q7 h (by omega)) hq9 ?_
              rw [← Nat.add_assoc, lnat_step (by omega), Nat.pow_succ, hps]
              show _ = (lnat T9 (i + j) + lu (T9.getD (i + j) 0) * BB ^ (i + j)) + fa * (lnat B j + lu (B.getD j 0) * BB ^ j) * BB ^ i
              rw [prod_row]
              omega
          exact inner m 0 (by omega) 0 M9 T9 h91 h92 l9 hf9 (fun _ _ => rfl) (by decide) (by show lnat T9 i + 0 * BB ^ (i + 0) = lnat T9 (i + 0) + fa * 0 * BB ^ i; rw [Nat.zero_mul, Nat.mul_zero, Nat.zero_mul]; rfl)
      have hz0 : ∀ j, j ≤ m → lnat T1 j = 0 := by
        intro j
        induction j with
        | zero => intro _; rfl
        | succ j ih => intro hj; rw [lnat_zero_top (hz9 j (by omega))]; exact ih (by omega)
      exact loop n 0 (by omega) none none none none none M1 T1 h1t hM1 hl1 hf1 (by rw [Nat.zero_add, hz0 m (Nat.le_refl _)]; show 0 = 0 * _; rw [Nat.zero_mul])
    · skip
      refine jj_aload_n (pc := 14) kW_product_d14 rfl ?_
      rw [← eat_]
      exact jj_callV (pc := 15) (b := (wa t)) (As := []) kW_product_d15 (kvW_W_putZero hG) (kG_cl hG rfl) rfl (by rw [eat_]; exact hT1) rfl rfl rfl (Nat.le_of_ble_eq_true rfl) (Nat.le_of_ble_eq_true rfl) (jj_bare0 rfl) (w_putZero hG hI hc ht (fun M8 h1 h2 => jj_vret (pc := 18) kW_product_d18 rfl (k M8 (by rw [hz2.mp (by omega), Int.mul_zero]; exact h1) h2)))
theorem w_putLong {t : Nat} {x : Int64} (hG : kG G) (hI : CI wa la cap N) (hc : CW M wa la cap N V) (ht : t < N) (hr : 2 ≤ cap t) (k : ∀ M', CW M' wa la cap N (vup V t x.toInt) → WT M M' wa la t → Q (.returned none) M' rc rs) : jj G kW_putLong (d + 1) Q rc rs 0 (jj_ent [.ref (wa t), .long x] 5) [] M := by
  obtain ⟨T, ct, hT1, hT2, hT3, hT4⟩ := hc t ht
  obtain ⟨at_, eat_⟩ : ∃ at_, wa t = at_ := ⟨_, rfl⟩
  obtain ⟨lt, elt⟩ : ∃ lt, la t = lt := ⟨_, rfl⟩
  have hcapt := hI.2.2 t ht
  have hleT := hT4.1
  rw [eat_, elt] at hT1
  rw [elt] at hT2
  have hxl := Int64.toInt_lt x
  have hxg := Int64.le_toInt x
  obtain ⟨mg, hmg⟩ : ∃ mg, x.toInt.natAbs = mg := ⟨_, rfl⟩
  have hmb : mg ≤ 9223372036854775808 := by omega
  have hx0 : (0 : Int64).toInt = 0 := rfl
  rw [eat_]
  show jj G kW_putLong (d + 1) Q rc rs 0 [some (.ref at_), some (.long (x)), none, none, none] [] M
  refine jj_lload_n (pc := 0) kW_putLong_d0 rfl ?_
  refine jj_lconst (pc := 1) (v := lN 0) kW_putLong_d1 (by decide) ?_
  refine jj_lcmp (pc := 2) kW_putLong_d2 ?_
  have hls : (T.set 0 (nI mg)).length = T.length := List.length_set ..
  have k12 : jj G kW_putLong (d + 1) Q rc rs 12 [some (.ref at_), some (.long (x)), none, none, none] [.long (lN (mg))] M := by
    refine jj_lstore_n (pc := 12) kW_putLong_d12 (Nat.le_of_ble_eq_true rfl) ?_
    refine jj_aload_n (pc := 13) kW_putLong_d13 rfl ?_
    refine jj_getf (pc := 14) kW_putLong_d14 (kfW_limbs hG) hT1 rfl ?_
    refine jn_iconst (pc := 17) 0 kW_putLong_d17 (by decide) ?_
    refine jj_lload_n (pc := 18) kW_putLong_d18 rfl ?_
    refine jj_l2i (pc := 19) kW_putLong_d19 ?_
    refine jn_top (.int (nI (mg))) (by rw [lN_i]) ?_
    refine jn_iast (pc := 20) kW_putLong_d20 (kG_t hG rfl) hT2 (by omega) (by omega) ?_
    refine jn_gen (fun M144 hM145 => ?_)
    have h146 : M144 at_ = some (.inl nW, [.ref lt, .int (nI (ct)), .int (sg (V t))]) := by rw [hM145, jj_up_ne _ _ (fun e => by have q1 := hT1; rw [e, hT2] at q1; cases q1)]; exact hT1
    have h147 : M144 lt = some (.inr 0, ((T).set (0) ((nI (mg)))).map .int) := by rw [hM145]; exact jj_up_at _ _ _
    refine jj_aload_n (pc := 21) kW_putLong_d21 rfl ?_
    refine jj_getf (pc := 22) kW_putLong_d22 (kfW_limbs hG) h146 rfl ?_
    refine jn_iconst (pc := 25) 1 kW_putLong_d25 (by decide) ?_
    refine jj_lload_n (pc := 26) kW_putLong_d26 rfl ?_
    refine jn_bipush (pc := 27) 32 kW_putLong_d27 (by decide) ?_
    refine jj_lushr (pc := 29) kW_putLong_d29 ?_
    refine jn_top (.long (lN (mg / BB))) (by rw [lN_shr32 (by omega)]) ?_
    refine jj_l2i (pc := 30) kW_putLong_d30 ?_
    refine jn_top (.int (nI (mg / BB))) (by rw [lN_i]) ?_
    refine jn_iast (pc := 31) kW_putLong_d31 (kG_t hG rfl) h147 (by omega) (by omega) ?_
    refine jn_gen (fun M148 hM149 => ?_)
    have h150 : M148 at_ = some (.inl nW, [.ref lt, .int (nI (ct)), .int (sg (V t))]) := by rw [hM149, jj_up_ne _ _ (fun e => by have q1 := h146; rw [e, h147] at q1; cases q1)]; exact h146
    have h151 : M148 lt = some (.inr 0, (((T).set (0) ((nI (mg)))).set (1) ((nI (mg / BB)))).map .int) := by rw [hM149]; exact jj_up_at _ _ _
    have hval : lnat ((T.set 0 (nI mg)).set 1 (nI (mg / BB))) 2 = x.toInt.natAbs := by
      rw [show (2 : Nat) = 1 + 1 from rfl, lnat_step (by rw [List.length_set]; omega), show (1 : Nat) = 0 + 1 from rfl, lnat_step (by omega), hmg]
      show 0 + mg % 4294967296 * 4294967296 ^ 0 + mg / 4294967296 % 4294967296 * 4294967296 ^ (0 + 1) = mg
      have : mg / 4294967296 < 4294967296 := by omega
      rw [Nat.mod_eq_of_lt this]
      have e1 : (4294967296 : Nat) ^ 0 = 1 := rfl
      have e2 : (4294967296 : Nat) ^ (0 + 1) = 4294967296 := rfl
      rw [e1, e2]
      omega
    refine jj_aload_n (pc := 32) kW_putLong_d32 rfl ?_
    refine jn_iconst (pc := 33) 2 kW_putLong_d33 (by decide) ?_
    refine jj_putf (pc := 34) kW_putLong_d34 (kpW_count hG) h150 (by rfl) rfl ?_
    refine jn_gen (fun M152 hM153 => ?_)
    have h154 : M152 lt = some (.inr 0, (((T).set (0) ((nI (mg)))).set (1) ((nI (mg / BB)))).map .int) := by rw [hM153, jj_up_ne _ _ (fun e => by have q1 := h151; rw [e, h150] at q1; cases q1)]; exact h151
    have h155 : M152 at_ = some (.inl nW, [.ref lt, .int (nI (2)), .int (sg (V t))]) := by rw [hM153]; exact jj_up_at _ _ _
    refine jj_aload_n (pc := 37) kW_putLong_d37 rfl ?_
    refine jj_lload_n (pc := 38) kW_putLong_d38 rfl ?_
    refine jj_lconst (pc := 39) (v := lN 0) kW_putLong_d39 (by decide) ?_
    refine jj_lcmp (pc := 40) kW_putLong_d40 ?_
    refine jj_if_ge (pc := 41) (tgt := 48) kW_putLong_d41 (by decide) (fun c1 => ?_) (fun c1 => ?_)
    · skip
      refine jn_iconst (pc := 48) 0 kW_putLong_d48 (by decide) ?_
      refine jj_putf (pc := 49) kW_putLong_d49 (kpW_below hG) h155 (by rfl) rfl ?_
      refine jn_gen (fun M156 hM157 => ?_)
      have h158 : M156 lt = some (.inr 0, (((T).set (0) ((nI (mg)))).set (1) ((nI (mg / BB)))).map .int) := by rw [hM157, jj_up_ne _ _ (fun e => by have q1 := h154; rw [e, h155] at q1; cases q1)]; exact h154
      have h159 : M156 at_ = some (.inl nW, [.ref lt, .int (nI (2)), .int (nI (0))]) := by rw [hM157]; exact jj_up_at _ _ _
      refine jj_aload_n (pc := 52) kW_putLong_d52 rfl ?_
      refine jj_callV (pc := 53) (b := at_) (As := []) kW_putLong_d53 (kvW_W_trim hG) (kG_cl hG rfl) rfl h159 rfl rfl rfl (Nat.le_of_ble_eq_true rfl) (Nat.le_of_ble_eq_true rfl) (jj_bare0 rfl) ?_
      refine w_trim hG (by rw [List.length_set, List.length_set]; omega) 2 M156 h159 h158 (by rw [List.length_set, List.length_set]; omega) (fun M8 h81 h82 => ?_)
      show jj G kW_putLong (d + 1) Q rc rs 56 [some (.ref at_), some (.long (x)), none, some (.long (lN (mg))), none] [] M8
      have hlt8 : M8 lt = some (.inr 0, ((T.set 0 (nI mg)).set 1 (nI (mg / BB))).map .int) := by rw [h82 lt (fun e => by have q9 := h158; rw [e, h159] at q9; cases q9)]; exact h158
      have hWT : WT M M8 wa la t := fun r r1 r2 => by
        rw [eat_] at r1
        rw [elt] at r2
        rw [h82 r r1, hM157, jj_up_ne _ _ r1, hM153, jj_up_ne _ _ r1, hM149, jj_up_ne _ _ r2, hM145, jj_up_ne _ _ r2]
      have hsg : (if ltrim ((T.set 0 (nI mg)).set 1 (nI (mg / BB))) 2 = 0 then (0 : Int32) else nI 0) = sg x.toInt := sg_trim (by rw [List.length_set, List.length_set]; omega) hval (fun _ => (sg_eq0.mpr (by rw [lg_cmp_ge, Int64.le_iff_toInt_le, show (lN 0).toInt = 0 from rfl] at c1; exact c1)).symm)
      rw [hsg] at h81
      exact jj_vret (pc := 56) kW_putLong_d56 rfl (k M8 (hc.put hI ht (by rw [eat_, elt]; exact ⟨_, _, h81, hlt8, by rw [List.length_set, List.length_set]; exact hT3, ltrim_LW (by rw [List.length_set, List.length_set]; omega) hval⟩) hWT) hWT)
    · skip
      refine jn_iconst (pc := 44) 1 kW_putLong_d44 (by decide) ?_
      refine jj_goto (pc := 45) (tgt := 49) kW_putLong_d45 (by decide) ?_
      refine jj_putf (pc := 49) kW_putLong_d49 (kpW_below hG) h155 (by rfl) rfl ?_
      refine jn_gen (fun M160 hM161 => ?_)
      have h162 : M160 lt = some (.inr 0, (((T).set (0) ((nI (mg)))).set (1) ((nI (mg / BB)))).map .int) := by rw [hM161, jj_up_ne _ _ (fun e => by have q1 := h154; rw [e, h155] at q1; cases q1)]; exact h154
      have h163 : M160 at_ = some (.inl nW, [.ref lt, .int (nI (2)), .int (nI (1))]) := by rw [hM161]; exact jj_up_at _ _ _
      refine jj_aload_n (pc := 52) kW_putLong_d52 rfl ?_
      refine jj_callV (pc := 53) (b := at_) (As := []) kW_putLong_d53 (kvW_W_trim hG) (kG_cl hG rfl) rfl h163 rfl rfl rfl (Nat.le_of_ble_eq_true rfl) (Nat.le_of_ble_eq_true rfl) (jj_bare0 rfl) ?_
      refine w_trim hG (by rw [List.length_set, List.length_set]; omega) 2 M160 h163 h162 (by rw [List.length_set, List.length_set]; omega) (fun M8 h81 h82 => ?_)
      show jj G kW_putLong (d + 1) Q rc rs 56 [some (.ref at_), some (.long (x)), none, some (.long (lN (mg))), none] [] M8
      have hlt8 : M8 lt = some (.inr 0, ((T.set 0 (nI mg)).set 1 (nI (mg / BB))).map .int) := by rw [h82 lt (fun e => by have q9 := h162; rw [e, h163] at q9; cases q9)]; exact h162
      have hWT : WT M M8 wa la t := fun r r1 r2 => by
        rw [eat_] at r1
        rw [elt] at r2
        rw [h82 r r1, hM161, jj_up_ne _ _ r1, hM153, jj_up_ne _ _ r1, hM149, jj_up_ne _ _ r2, hM145, jj_up_ne _ _ r2]
      have hsg : (if ltrim ((T.set 0 (nI mg)).set 1 (nI (mg / BB))) 2 = 0 then (0 : Int32) else nI 1) = sg x.toInt := sg_trim (by rw [List.length_set, List.length_set]; omega) hval (fun _ => (sg_eq1.mpr (by rw [lg_cmp_ge, Int64.le_iff_toInt_le, show (lN 0).toInt = 0 from rfl] at c1; omega)).symm)
      rw [hsg] at h81
      exact jj_vret (pc := 56) kW_putLong_d56 rfl (k M8 (hc.put hI ht (by rw [eat_, elt]; exact ⟨_, _, h81, hlt8, by rw [List.length_set, List.length_set]; exact hT3, ltrim_LW (by rw [List.length_set, List.length_set]; omega) hval⟩) hWT) hWT)
  refine jj_if_ge (pc := 3) (tgt := 11) kW_putLong_d3 (by decide) (fun c0 => ?_) (fun c0 => ?_)
  · skip
    refine jj_lload_n (pc := 11) kW_putLong_d11 rfl ?_
    rw [lg_cmp_ge, Int64.le_iff_toInt_le, show (lN 0).toInt = 0 from rfl] at c0
    refine jn_top (.long (lN (mg))) (by rw [show x = lN mg from Int64.toInt_inj.mp (by rw [lN_big (by omega)]; omega)]) ?_
    exact k12
  · skip
    rw [lg_cmp_ge, Int64.le_iff_toInt_le, show (lN 0).toInt = 0 from rfl] at c0
    refine jj_lload_n (pc := 6) kW_putLong_d6 rfl ?_
    refine jj_lneg (pc := 7) kW_putLong_d7 ?_
    refine jj_goto (pc := 8) (tgt := 12) kW_putLong_d8 (by decide) ?_
    refine jn_top (.long (lN (mg))) (by rw [show -x = lN mg from by rw [← lZ_nat, ← lZ_of x]; unfold lZ; rw [← Int64.ofInt_neg]; congr 1; omega]) ?_
    exact k12
end W5
