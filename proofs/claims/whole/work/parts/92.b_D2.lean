/-! ===== Divider: divideByLimb (printed by wip/gen/rD2.py) ===== -/
theorem dl_step {S b r W am nb p r' A Am : Nat} (h : A = (S * b + r) * (W * BB) + (Am + am * W)) (hn : r * BB + am = nb) (hp : nb = r' + p * b) : A = ((p + S * BB) * b + r') * W + Am := by
  rw [h, ← Nat.mul_assoc, Nat.mul_right_comm, Nat.add_mul (S * b)]
  have e1 : (p + S * BB) * b + r' = S * b * BB + (r * BB + am) := by
    rw [hn, hp, Nat.add_mul, Nat.mul_right_comm S BB b]
    omega
  rw [e1, ← Nat.add_assoc (S * b * BB), Nat.add_mul _ am]
  omega
theorem dl_lt {b r am nb p r' : Nat} (hr : r < b) (ha : am < 4294967296) (hn : r * 4294967296 + am = nb) (hp : nb = r' + p * b) : p < 4294967296 := by
  have h1 : (r + 1) * 4294967296 ≤ b * 4294967296 := Nat.mul_le_mul_right _ hr
  rcases Nat.lt_or_ge p 4294967296 with g | g
  · exact g
  · exfalso
    have h2 : 4294967296 * b ≤ p * b := Nat.mul_le_mul_right _ g
    omega
section D2
variable {G : jg} {d : Nat} {Q : jq} {rc rs : Nat} {M : mheap}
theorem d_limb {dv aq lq ar lr hi lo au lp cq cr n b : Nat} {sq sr su : Int32} {T R A : List Int32} (hG : kG G) (hD : M dv = some (.inl nD, [.ref aq, .ref ar, .ref hi, .ref lo])) (hQ1 : M aq = some (.inl nW, [.ref lq, .int (nI cq), .int sq])) (hQ2 : M lq = some (.inr 0, T.map .int)) (hR1 : M ar = some (.inl nW, [.ref lr, .int (nI cr), .int sr])) (hR2 : M lr = some (.inr 0, R.map .int)) (hA1 : M au = some (.inl nW, [.ref lp, .int (nI n), .int su])) (hA2 : M lp = some (.inr 0, A.map .int)) (n1 : lq ≠ lp) (n2 : lr ≠ lp) (n3 : lq ≠ lr) (n4 : aq ≠ ar) (n5 : aq ≠ au) (n6 : ar ≠ au) (hTl : T.length < 2000) (hRl : R.length < 2000) (hAl : A.length < 2000) (hn1 : n ≤ A.length) (hn2 : n ≤ T.length) (hR0 : 1 ≤ R.length) (hb0 : 0 < b) (hb1 : b < 4294967296) (k : ∀ (M' : mheap) (T' R' : List Int32), M' aq = some (.inl nW, [.ref lq, .int (nI n), .int sq]) → M' lq = some (.inr 0, T'.map .int) → T'.length = T.length → lnat T' n = lnat A n / b → M' ar = some (.inl nW, [.ref lr, .int (nI 1), .int sr]) → M' lr = some (.inr 0, R'.map .int) → R'.length = R.length → lnat R' 1 = lnat A n % b → (∀ x, x ≠ aq → x ≠ lq → x ≠ ar → x ≠ lr → M' x = M x) → Q (.returned none) M' rc rs) : jj G kD_divideByLimb (d + 1) Q rc rs 0 (jj_ent [.ref dv, .ref au, .long (lN b)] 11) [] M := by
  have nda : dv ≠ aq := fun e => by have q9 := hD; rw [e, hQ1] at q9; cases q9
  have ndr : dv ≠ ar := fun e => by have q9 := hD; rw [e, hR1] at q9; cases q9
  show jj G kD_divideByLimb (d + 1) Q rc rs 0 [some (.ref dv), some (.ref au), some (.long (lN (b))), none, none, none, none, none, none, none, none] [] M
  refine jj_aload_n (pc := 0) kD_divideByLimb_d0 rfl ?_
  refine jj_getf (pc := 1) kD_divideByLimb_d1 (kfD_quotient hG) hD rfl ?_
  refine jj_aload_n (pc := 4) kD_divideByLimb_d4 rfl ?_
  refine jj_getf (pc := 5) kD_divideByLimb_d5 (kfD_W_count hG) hA1 rfl ?_
  refine jj_callV (pc := 8) (b := aq) (As := [.int (nI (n))]) kD_divideByLimb_d8 (kvD_W_needRoom hG) (kG_cl hG rfl) rfl hQ1 rfl rfl rfl (Nat.le_of_ble_eq_true rfl) (Nat.le_of_ble_eq_true rfl) (jj_bare0 rfl) ?_
  refine w_needRoom hG hQ1 hQ2 (by omega) (by omega) ?_
  show jj G kD_divideByLimb (d + 1) Q rc rs 11 [some (.ref dv), some (.ref au), some (.long (lN (b))), none, none, none, none, none, none, none, none] [] M
  refine jj_aload_n (pc := 11) kD_divideByLimb_d11 rfl ?_
  refine jj_getf (pc := 12) kD_divideByLimb_d12 (kfD_quotient hG) hD rfl ?_
  refine jj_aload_n (pc := 15) kD_divideByLimb_d15 rfl ?_
  refine jj_getf (pc := 16) kD_divideByLimb_d16 (kfD_W_count hG) hA1 rfl ?_
  refine jj_putf (pc := 19) kD_divideByLimb_d19 (kpD_W_count hG) hQ1 (by rfl) rfl ?_
  refine jn_gen (fun M101 hM102 => ?_)
  have h103 : M101 dv = some (.inl nD, [.ref aq, .ref ar, .ref hi, .ref lo]) := by rw [hM102, jj_up_ne _ _ nda]; exact hD
  have h104 : M101 lq = some (.inr 0, (T).map .int) := by rw [hM102, jj_up_ne _ _ (fun e => by have q1 := hQ2; rw [e, hQ1] at q1; cases q1)]; exact hQ2
  have h105 : M101 ar = some (.inl nW, [.ref lr, .int (nI (cr)), .int (sr)]) := by rw [hM102, jj_up_ne _ _ (Ne.symm n4)]; exact hR1
  have h106 : M101 lr = some (.inr 0, (R).map .int) := by rw [hM102, jj_up_ne _ _ (fun e => by have q1 := hR2; rw [e, hQ1] at q1; cases q1)]; exact hR2
  have h107 : M101 au = some (.inl nW, [.ref lp, .int (nI (n)), .int (su)]) := by rw [hM102, jj_up_ne _ _ (Ne.symm n5)]; exact hA1
  have h108 : M101 lp = some (.inr 0, (A).map .int) := by rw [hM102, jj_up_ne _ _ (fun e => by have q1 := hA2; rw [e, hQ1] at q1; cases q1)]; exact hA2
  have h109 : M101 aq = some (.inl nW, [.ref lq, .int (nI (n)), .int (sq)]) := by rw [hM102]; exact jj_up_at _ _ _
  have f0 : ∀ x, x ≠ aq → x ≠ lq → M101 x = M x := fun x h _ => by rw [hM102, jj_up_ne _ _ h]
  refine jj_lconst (pc := 22) (v := lN 0) kD_divideByLimb_d22 (by decide) ?_
  refine jj_lstore (pc := 23) kD_divideByLimb_d23 (Nat.le_of_ble_eq_true rfl) ?_
  show jj G kD_divideByLimb (d + 1) Q rc rs 25 [some (.ref dv), some (.ref au), some (.long (lN (b))), none, some (.long (lN (0))), none, none, none, none, none, none] [] M101
  refine jj_lload_n (pc := 25) kD_divideByLimb_d25 rfl ?_
  refine jj_lconst (pc := 26) (v := lN 1) kD_divideByLimb_d26 (by decide) ?_
  refine jj_lcmp (pc := 27) kD_divideByLimb_d27 ?_
  have fin : ∀ (M9 : mheap) (T9 : List Int32) (rest : Nat) (o6 : Option Value) (o7 o8 o9 o10 : Option Value), M9 aq = some (.inl nW, [.ref lq, .int (nI n), .int sq]) → M9 lq = some (.inr 0, T9.map .int) → T9.length = T.length → (∀ x, x ≠ aq → x ≠ lq → M9 x = M x) → rest < b → lnat T9 n * b + rest = lnat A n → jj G kD_divideByLimb (d + 1) Q rc rs 150 [some (.ref dv), some (.ref au), some (.long (lN (b))), none, some (.long (lN (rest))), none, (o6), (o7), (o8), (o9), (o10)] [] M9 := by
    intro M9 T9 rest o6 o7 o8 o9 o10 h91 h92 l9 f9 hr9 v9
    have h9d := (f9 dv nda (fun e => by have q9 := hD; rw [e, hQ2] at q9; cases q9)).trans hD
    have h93 := (f9 ar (Ne.symm n4) (fun e => by have q9 := hR1; rw [e, hQ2] at q9; cases q9)).trans hR1
    have h94 := (f9 lr (fun e => by have q9 := hR2; rw [e, hQ1] at q9; cases q9) (Ne.symm n3)).trans hR2
    have h95 := (f9 au (Ne.symm n5) (fun e => by have q9 := hA1; rw [e, hQ2] at q9; cases q9)).trans hA1
    have h96 := (f9 lp (fun e => by have q9 := hA2; rw [e, hQ1] at q9; cases q9) (Ne.symm n1)).trans hA2
    have hdiv : lnat A n / b = lnat T9 n ∧ lnat A n % b = rest := by
      rw [← v9, Nat.add_comm, Nat.add_mul_div_right _ _ hb0, Nat.div_eq_of_lt hr9, Nat.zero_add, Nat.add_mul_mod_self_right, Nat.mod_eq_of_lt hr9]
      exact ⟨rfl, rfl⟩
    show jj G kD_divideByLimb (d + 1) Q rc rs 150 [some (.ref dv), some (.ref au), some (.long (lN (b))), none, some (.long (lN (rest))), none, (o6), (o7), (o8), (o9), (o10)] [] M9
    refine jj_aload_n (pc := 150) kD_divideByLimb_d150 rfl ?_
    refine jj_getf (pc := 151) kD_divideByLimb_d151 (kfD_remainder hG) h9d rfl ?_
    refine jj_getf (pc := 154) kD_divideByLimb_d154 (kfD_W_limbs hG) h93 rfl ?_
    refine jn_iconst (pc := 157) 0 kD_divideByLimb_d157 (by decide) ?_
    refine jj_lload (pc := 158) kD_divideByLimb_d158 rfl ?_
    refine jj_l2i (pc := 160) kD_divideByLimb_d160 ?_
    refine jn_top (.int (nI (rest))) (by rw [lN_i]) ?_
    refine jn_iast (pc := 161) kD_divideByLimb_d161 (kG_t hG rfl) h94 (by omega) (by omega) ?_
    refine jn_gen (fun M110 hM111 => ?_)
    have h112 : M110 dv = some (.inl nD, [.ref aq, .ref ar, .ref hi, .ref lo]) := by rw [hM111, jj_up_ne _ _ (fun e => by have q1 := h9d; rw [e, h94] at q1; cases q1)]; exact h9d
    have h113 : M110 aq = some (.inl nW, [.ref lq, .int (nI (n)), .int (sq)]) := by rw [hM111, jj_up_ne _ _ (fun e => by have q1 := h91; rw [e, h94] at q1; cases q1)]; exact h91
    have h114 : M110 lq = some (.inr 0, (T9).map .int) := by rw [hM111, jj_up_ne _ _ n3]; exact h92
    have h115 : M110 ar = some (.inl nW, [.ref lr, .int (nI (cr)), .int (sr)]) := by rw [hM111, jj_up_ne _ _ (fun e => by have q1 := h93; rw [e, h94] at q1; cases q1)]; exact h93
    have h116 : M110 au = some (.inl nW, [.ref lp, .int (nI (n)), .int (su)]) := by rw [hM111, jj_up_ne _ _ (fun e => by have q1 := h95; rw [e, h94] at q1; cases q1)]; exact h95
    have h117 : M110 lp = some (.inr 0, (A).map .int) := by rw [hM111, jj_up_ne _ _ (Ne.symm n2)]; exact h96
    have h118 : M110 lr = some (.inr 0, ((R).set (0) ((nI (rest)))).map .int) := by rw [hM111]; exact jj_up_at _ _ _
    refine jj_aload_n (pc := 162) kD_divideByLimb_d162 rfl ?_
    refine jj_getf (pc := 163) kD_divideByLimb_d163 (kfD_remainder hG) h112 rfl ?_
    refine jn_iconst (pc := 166) 1 kD_divideByLimb_d166 (by decide) ?_
    refine jj_putf (pc := 167) kD_divideByLimb_d167 (kpD_W_count hG) h115 (by rfl) rfl ?_
    refine jn_gen (fun M119 hM120 => ?_)
    have h121 : M119 dv = some (.inl nD, [.ref aq, .ref ar, .ref hi, .ref lo]) := by rw [hM120, jj_up_ne _ _ ndr]; exact h112
    have h122 : M119 aq = some (.inl nW, [.ref lq, .int (nI (n)), .int (sq)]) := by rw [hM120, jj_up_ne _ _ n4]; exact h113
    have h123 : M119 lq = some (.inr 0, (T9).map .int) := by rw [hM120, jj_up_ne _ _ (fun e => by have q1 := h114; rw [e, h115] at q1; cases q1)]; exact h114
    have h124 : M119 lr = some (.inr 0, ((R).set (0) ((nI (rest)))).map .int) := by rw [hM120, jj_up_ne _ _ (fun e => by have q1 := h118; rw [e, h115] at q1; cases q1)]; exact h118
    have h125 : M119 au = some (.inl nW, [.ref lp, .int (nI (n)), .int (su)]) := by rw [hM120, jj_up_ne _ _ (Ne.symm n6)]; exact h116
    have h126 : M119 lp = some (.inr 0, (A).map .int) := by rw [hM120, jj_up_ne _ _ (fun e => by have q1 := h117; rw [e, h115] at q1; cases q1)]; exact h117
    have h127 : M119 ar = some (.inl nW, [.ref lr, .int (nI (1)), .int (sr)]) := by rw [hM120]; exact jj_up_at _ _ _
    exact jj_vret (pc := 170) kD_divideByLimb_d170 rfl (k M119 T9 _ h122 h123 l9 hdiv.1.symm h127 h124 (by rw [List.length_set]) (by rw [show (1 : Nat) = 0 + 1 from rfl, lnat_step (by omega), Nat.mod_eq_of_lt (show rest < BB from Nat.lt_trans hr9 hb1), hdiv.2, Nat.pow_zero, Nat.mul_one]; exact Nat.zero_add _) (fun x h1 h2 h3 h4 => by rw [hM120, jj_up_ne _ _ h3, hM111, jj_up_ne _ _ h4, f9 x h1 h2]))
  refine jj_if_ne (pc := 28) (tgt := 54) kD_divideByLimb_d28 (by decide) (fun c => ?_) (fun c => ?_)
  · skip
    refine jj_lload_n (pc := 54) kD_divideByLimb_d54 rfl ?_
    refine jj_lconst (pc := 55) (v := lN 1) kD_divideByLimb_d55 (by decide) ?_
    refine jj_lcmp (pc := 56) kD_divideByLimb_d56 ?_
    refine jj_if_le (pc := 57) (tgt := 150) kD_divideByLimb_d57 (by decide) (fun c2 => ?_) (fun c2 => ?_)
    · skip
      exfalso
      rw [lg_cmp_le, Int64.le_iff_toInt_le, lN_big (by omega), lN_big (by omega)] at c2
      rw [lg_cmp_eq] at c
      exact c (by rw [show b = 1 by omega])
    · skip
      have loop : ∀ m, m ≤ n → ∀ (M9 : mheap) (T9 : List Int32) (rest : Nat) (o7 o8 o9 o10 : Option Value), M9 aq = some (.inl nW, [.ref lq, .int (nI n), .int sq]) → M9 lq = some (.inr 0, T9.map .int) → T9.length = T.length → (∀ x, x ≠ aq → x ≠ lq → M9 x = M x) → rest < b → lnat A n = (lwn T9 m (n - m) * b + rest) * BB ^ m + lnat A m → jj G kD_divideByLimb (d + 1) Q rc rs 68 [some (.ref dv), some (.ref au), some (.long (lN (b))), none, some (.long (lN (rest))), none, some (.int (zI (((m : Nat) : Int) - 1))), (o7), (o8), (o9), (o10)] [] M9 := by
        intro m
        induction m with
        | zero =>
          intro hm M9 T9 rest o7 o8 o9 o10 h91 h92 l9 f9 hr9 v9
          have h9d := (f9 dv nda (fun e => by have q9 := hD; rw [e, hQ2] at q9; cases q9)).trans hD
          have h93 := (f9 ar (Ne.symm n4) (fun e => by have q9 := hR1; rw [e, hQ2] at q9; cases q9)).trans hR1
          have h94 := (f9 lr (fun e => by have q9 := hR2; rw [e, hQ1] at q9; cases q9) (Ne.symm n3)).trans hR2
          have h95 := (f9 au (Ne.symm n5) (fun e => by have q9 := hA1; rw [e, hQ2] at q9; cases q9)).trans hA1
          have h96 := (f9 lp (fun e => by have q9 := hA2; rw [e, hQ1] at q9; cases q9) (Ne.symm n1)).trans hA2
          show jj G kD_divideByLimb (d + 1) Q rc rs 68 [some (.ref dv), some (.ref au), some (.long (lN (b))), none, some (.long (lN (rest))), none, some (.int (zI (-1))), (o7), (o8), (o9), (o10)] [] M9
          refine jj_iload (pc := 68) kD_divideByLimb_d68 rfl ?_
          refine jz_if_lt (pc := 70) (tgt := 150) (a := -1) kD_divideByLimb_d70 (by decide) rfl (by omega) (by omega) (fun _ => ?_) (fun c => by exfalso; omega)
          exact fin M9 T9 rest _ o7 o8 o9 o10 h91 h92 l9 f9 hr9 (by rw [v9, lwn_0, Nat.pow_zero, Nat.mul_one, Nat.sub_zero]; rfl)
        | succ m ih =>
          intro hm M9 T9 rest o7 o8 o9 o10 h91 h92 l9 f9 hr9 v9
          have h9d := (f9 dv nda (fun e => by have q9 := hD; rw [e, hQ2] at q9; cases q9)).trans hD
          have h93 := (f9 ar (Ne.symm n4) (fun e => by have q9 := hR1; rw [e, hQ2] at q9; cases q9)).trans hR1
          have h94 := (f9 lr (fun e => by have q9 := hR2; rw [e, hQ1] at q9; cases q9) (Ne.symm n3)).trans hR2
          have h95 := (f9 au (Ne.symm n5) (fun e => by have q9 := hA1; rw [e, hQ2] at q9; cases q9)).trans hA1
          have h96 := (f9 lp (fun e => by have q9 := hA2; rw [e, hQ1] at q9; cases q9) (Ne.symm n1)).trans hA2
          have ham := lu_lt (A.getD m 0)
          obtain ⟨am, eam⟩ : ∃ am, lu (A.getD m 0) = am := ⟨_, rfl⟩
          rw [eam] at ham
          obtain ⟨nb, hnb⟩ : ∃ nb, rest * 4294967296 + am = nb := ⟨_, rfl⟩
          have hnl : nb < 18446744073709551616 := by omega
          obtain ⟨rr, d1, d2, d3, d4⟩ := half_div (x := nb) (a := b) hb0
          obtain ⟨qq, hqq⟩ : ∃ qq, nb / 2 / b = qq := ⟨_, rfl⟩
          rw [hqq] at d1 d3 d4
          refine jj_eq (L' := [some (.ref dv), some (.ref au), some (.long (lN (b))), none, some (.long (lN (rest))), none, some (.int (nI (m))), (o7), (o8), (o9), (o10)]) rfl (by rw [show ((m + 1 : Nat) : Int) - 1 = (m : Int) by omega, zI_nat]) rfl rfl ?_
          show jj G kD_divideByLimb (d + 1) Q rc rs 68 [some (.ref dv), some (.ref au), some (.long (lN (b))), none, some (.long (lN (rest))), none, some (.int (nI (m))), (o7), (o8), (o9), (o10)] [] M9
          refine jj_iload (pc := 68) kD_divideByLimb_d68 rfl ?_
          refine jz_if_lt (pc := 70) (tgt := 150) (a := ((m : Nat) : Int)) kD_divideByLimb_d70 (by decide) (zI_nat _).symm (by omega) (by omega) (fun c => by exfalso; omega) (fun _ => ?_)
          refine jj_lload (pc := 73) kD_divideByLimb_d73 rfl ?_
          refine jn_bipush (pc := 75) 32 kD_divideByLimb_d75 (by decide) ?_
          refine jj_lshl (pc := 77) kD_divideByLimb_d77 ?_
          refine jn_top (.long (lN (rest * 2 ^ 32))) (by rw [lN_shl (by omega)]) ?_
          refine jj_aload_n (pc := 78) kD_divideByLimb_d78 rfl ?_
          refine jj_getf (pc := 79) kD_divideByLimb_d79 (kfD_W_limbs hG) h95 rfl ?_
          refine jj_iload (pc := 82) kD_divideByLimb_d82 rfl ?_
          refine jn_iald (pc := 84) (v := (A.getD m 0)) kD_divideByLimb_d84 (kG_t hG rfl) h96 (by omega) (by omega) (rfl) ?_
          refine jj_i2l (pc := 85) kD_divideByLimb_d85 ?_
          refine jj_ldc2 (pc := 86) kD_divideByLimb_d86 (kcD_4294967295 hG) ?_
          refine jn_top (.long (lN (4294967295))) (rfl) ?_
          refine jj_land (pc := 89) kD_divideByLimb_d89 ?_
          refine jn_top (.long (lN (lu (A.getD m 0)))) (by rw [lu_mask]) ?_
          refine jn_top (.long (lN (am))) (by rw [eam]) ?_
          refine jj_lor (pc := 90) kD_divideByLimb_d90 ?_
          refine jn_top (.long (lN (nb))) (by rw [lN_or' (k := 32) ham]; rw [← hnb]) ?_
          refine jj_lstore (pc := 91) kD_divideByLimb_d91 (Nat.le_of_ble_eq_true rfl) ?_
          show jj G kD_divideByLimb (d + 1) Q rc rs 93 [some (.ref dv), some (.ref au), some (.long (lN (b))), none, some (.long (lN (rest))), none, some (.int (nI (m))), some (.long (lN (nb))), none, (o9), (o10)] [] M9
          refine jj_lload (pc := 93) kD_divideByLimb_d93 rfl ?_
          refine jn_iconst (pc := 95) 1 kD_divideByLimb_d95 (by decide) ?_
          refine jj_lushr (pc := 96) kD_divideByLimb_d96 ?_
          refine jn_top (.long (lN (nb / 2))) (by rw [lN_shr (by omega) (by omega), show (2 : Nat) ^ 1 = 2 from rfl]) ?_
          refine jj_lload_n (pc := 97) kD_divideByLimb_d97 rfl ?_
          refine jj_ldiv (pc := 98) kD_divideByLimb_d98 (lN_ne (by omega) (by omega)) ?_
          refine jn_top (.long (lN (qq))) (by rw [lN_divN (by omega) (by omega), hqq]) ?_
          refine jn_iconst (pc := 99) 1 kD_divideByLimb_d99 (by decide) ?_
          refine jj_lshl (pc := 100) kD_divideByLimb_d100 ?_
          refine jn_top (.long (lN (qq * 2))) (by rw [lN_shl (by omega), show (2 : Nat) ^ 1 = 2 from rfl]) ?_
          refine jj_lstore (pc := 101) kD_divideByLimb_d101 (Nat.le_of_ble_eq_true rfl) ?_
          show jj G kD_divideByLimb (d + 1) Q rc rs 103 [some (.ref dv), some (.ref au), some (.long (lN (b))), none, some (.long (lN (rest))), none, some (.int (nI (m))), some (.long (lN (nb))), none, some (.long (lN (qq * 2))), none] [] M9
          refine jj_lload (pc := 103) kD_divideByLimb_d103 rfl ?_
          refine jj_lload (pc := 105) kD_divideByLimb_d105 rfl ?_
          refine jj_lload_n (pc := 107) kD_divideByLimb_d107 rfl ?_
          refine jj_lmul (pc := 108) kD_divideByLimb_d108 ?_
          refine jn_top (.long (lN (qq * 2 * b))) (by rw [lN_mul]) ?_
          refine jj_lsub (pc := 109) kD_divideByLimb_d109 ?_
          refine jn_top (.long (lN (rr))) (by rw [lN_subN d1]) ?_
          refine jj_lstore (pc := 110) kD_divideByLimb_d110 (Nat.le_of_ble_eq_true rfl) ?_
          show jj G kD_divideByLimb (d + 1) Q rc rs 112 [some (.ref dv), some (.ref au), some (.long (lN (b))), none, some (.long (lN (rr))), none, some (.int (nI (m))), some (.long (lN (nb))), none, some (.long (lN (qq * 2))), none] [] M9
          refine jj_lload (pc := 112) kD_divideByLimb_d112 rfl ?_
          refine jj_lload_n (pc := 114) kD_divideByLimb_d114 rfl ?_
          refine jj_lcmp (pc := 115) kD_divideByLimb_d115 ?_
          have k131 : ∀ p2 r2, r2 < b → nb = r2 + p2 * b → jj G kD_divideByLimb (d + 1) Q rc rs 131 [some (.ref dv), some (.ref au), some (.long (lN (b))), none, some (.long (lN (r2))), none, some (.int (nI (m))), some (.long (lN (nb))), none, some (.long (lN (p2))), none] [] M9 := by
            intro p2 r2 hr2 hp2
            show jj G kD_divideByLimb (d + 1) Q rc rs 131 [some (.ref dv), some (.ref au), some (.long (lN (b))), none, some (.long (lN (r2))), none, some (.int (nI (m))), some (.long (lN (nb))), none, some (.long (lN (p2))), none] [] M9
            refine jj_aload_n (pc := 131) kD_divideByLimb_d131 rfl ?_
            refine jj_getf (pc := 132) kD_divideByLimb_d132 (kfD_quotient hG) h9d rfl ?_
            refine jj_getf (pc := 135) kD_divideByLimb_d135 (kfD_W_limbs hG) h91 rfl ?_
            refine jj_iload (pc := 138) kD_divideByLimb_d138 rfl ?_
            refine jj_lload (pc := 140) kD_divideByLimb_d140 rfl ?_
            refine jj_l2i (pc := 142) kD_divideByLimb_d142 ?_
            refine jn_top (.int (nI (p2))) (by rw [lN_i]) ?_
            refine jn_iast (pc := 143) kD_divideByLimb_d143 (kG_t hG rfl) h92 (by omega) (by omega) ?_
            refine jn_gen (fun M128 hM129 => ?_)
            have h130 : M128 dv = some (.inl nD, [.ref aq, .ref ar, .ref hi, .ref lo]) := by rw [hM129, jj_up_ne _ _ (fun e => by have q1 := h9d; rw [e, h92] at q1; cases q1)]; exact h9d
            have h131 : M128 aq = some (.inl nW, [.ref lq, .int (nI (n)), .int (sq)]) := by rw [hM129, jj_up_ne _ _ (fun e => by have q1 := h91; rw [e, h92] at q1; cases q1)]; exact h91
            have h132 : M128 ar = some (.inl nW, [.ref lr, .int (nI (cr)), .int (sr)]) := by rw [hM129, jj_up_ne _ _ (fun e => by have q1 := h93; rw [e, h92] at q1; cases q1)]; exact h93
            have h133 : M128 lr = some (.inr 0, (R).map .int) := by rw [hM129, jj_up_ne _ _ (Ne.symm n3)]; exact h94
            have h134 : M128 au = some (.inl nW, [.ref lp, .int (nI (n)), .int (su)]) := by rw [hM129, jj_up_ne _ _ (fun e => by have q1 := h95; rw [e, h92] at q1; cases q1)]; exact h95
            have h135 : M128 lp = some (.inr 0, (A).map .int) := by rw [hM129, jj_up_ne _ _ (Ne.symm n1)]; exact h96
            have h136 : M128 lq = some (.inr 0, ((T9).set (m) ((nI (p2)))).map .int) := by rw [hM129]; exact jj_up_at _ _ _
            refine jz_iinc (pc := 144) (((m : Nat) : Int) - 1) kD_divideByLimb_d144 rfl ((zI_nat _).symm) (by omega) ?_
            refine jj_goto (pc := 147) (tgt := 68) kD_divideByLimb_d147 (by decide) ?_
            show jj G kD_divideByLimb (d + 1) Q rc rs 68 [some (.ref dv), some (.ref au), some (.long (lN (b))), none, some (.long (lN (r2))), none, some (.int (zI (((m : Nat) : Int) - 1))), some (.long (lN (nb))), none, some (.long (lN (p2))), none] [] M128
            have hpl := dl_lt hr9 ham hnb hp2
            refine ih (by omega) M128 _ r2 _ _ _ _ h131 h136 (by rw [List.length_set]; exact l9) (fun x h1 h2 => by rw [hM129, jj_up_ne _ _ h2]; exact f9 x h1 h2) hr2 ?_
            rw [show n - m = n - (m + 1) + 1 by omega, lwn_succ, gd_set_eq (by omega), lu_nI' (show p2 < BB from hpl), lwn_congr (E := T9) (fun i hi => gd_set_ne (by omega))]
            refine dl_step (am := am) ?_ hnb hp2
            rw [v9, Nat.pow_succ, ← eam]
            rfl
          refine jj_if_lt (pc := 116) (tgt := 131) kD_divideByLimb_d116 (by decide) (fun c3 => ?_) (fun c3 => ?_)
          · skip
            rw [lg_cmp_lt, Int64.lt_iff_toInt_lt, lN_big (by omega), lN_big (by omega)] at c3
            exact k131 (qq * 2) rr (by omega) d1
          · skip
            rw [lg_cmp_lt, Int64.lt_iff_toInt_lt, lN_big (by omega), lN_big (by omega)] at c3
            refine jj_lload (pc := 119) kD_divideByLimb_d119 rfl ?_
            refine jj_lload_n (pc := 121) kD_divideByLimb_d121 rfl ?_
            refine jj_lsub (pc := 122) kD_divideByLimb_d122 ?_
            refine jn_top (.long (lN (rr - b))) (by rw [lN_subN (c := rr - b) (by omega)]) ?_
            refine jj_lstore (pc := 123) kD_divideByLimb_d123 (Nat.le_of_ble_eq_true rfl) ?_
            show jj G kD_divideByLimb (d + 1) Q rc rs 125 [some (.ref dv), some (.ref au), some (.long (lN (b))), none, some (.long (lN (rr - b))), none, some (.int (nI (m))), some (.long (lN (nb))), none, some (.long (lN (qq * 2))), none] [] M9
            refine jj_lload (pc := 125) kD_divideByLimb_d125 rfl ?_
            refine jj_lconst (pc := 127) (v := lN 1) kD_divideByLimb_d127 (by decide) ?_
            refine jj_ladd (pc := 128) kD_divideByLimb_d128 ?_
            refine jn_top (.long (lN (qq * 2 + 1))) (by rw [lN_add]) ?_
            refine jj_lstore (pc := 129) kD_divideByLimb_d129 (Nat.le_of_ble_eq_true rfl) ?_
            show jj G kD_divideByLimb (d + 1) Q rc rs 131 [some (.ref dv), some (.ref au), some (.long (lN (b))), none, some (.long (lN (rr - b))), none, some (.int (nI (m))), some (.long (lN (nb))), none, some (.long (lN (qq * 2 + 1))), none] [] M9
            show jj G kD_divideByLimb (d + 1) Q rc rs 131 [some (.ref dv), some (.ref au), some (.long (lN (b))), none, some (.long (lN (rr - b))), none, some (.int (nI (m))), some (.long (lN (nb))), none, some (.long (lN (qq * 2 + 1))), none] [] M9
            exact k131 (qq * 2 + 1) (rr - b) (by omega) (by rw [Nat.add_mul]; omega)
      refine jj_aload_n (pc := 60) kD_divideByLimb_d60 rfl ?_
      refine jj_getf (pc := 61) kD_divideByLimb_d61 (kfD_W_count hG) h107 rfl ?_
      refine jn_iconst (pc := 64) 1 kD_divideByLimb_d64 (by decide) ?_
      refine jz_isub (pc := 65) (((n : Nat) : Int) - 1) kD_divideByLimb_d65 ((zI_nat _).symm) ((zI_nat _).symm) (by omega) ?_
      refine jj_istore (pc := 66) kD_divideByLimb_d66 (Nat.le_of_ble_eq_true rfl) ?_
      show jj G kD_divideByLimb (d + 1) Q rc rs 68 [some (.ref dv), some (.ref au), some (.long (lN (b))), none, some (.long (lN (0))), none, some (.int (zI (((n : Nat) : Int) - 1))), none, none, none, none] [] M101
      show jj G kD_divideByLimb (d + 1) Q rc rs 68 [some (.ref dv), some (.ref au), some (.long (lN (b))), none, some (.long (lN (0))), none, some (.int (zI (((n : Nat) : Int) - 1))), none, none, none, none] [] M101
      exact loop n (Nat.le_refl _) M101 T 0 none none none none h109 h104 rfl f0 hb0 (by rw [Nat.sub_self]; show _ = (0 * b + 0) * _ + _; rw [Nat.zero_mul, Nat.zero_mul]; omega)
  · skip
    rw [lg_cmp_eq] at c
    have hb9 : b = 1 := by
      have q9 := congrArg Int64.toInt c
      rw [lN_big (by omega), lN_big (by omega)] at q9
      omega
    refine jj_aload_n (pc := 31) kD_divideByLimb_d31 rfl ?_
    refine jj_getf (pc := 32) kD_divideByLimb_d32 (kfD_W_limbs hG) h107 rfl ?_
    refine jn_iconst (pc := 35) 0 kD_divideByLimb_d35 (by decide) ?_
    refine jj_aload_n (pc := 36) kD_divideByLimb_d36 rfl ?_
    refine jj_getf (pc := 37) kD_divideByLimb_d37 (kfD_quotient hG) h103 rfl ?_
    refine jj_getf (pc := 40) kD_divideByLimb_d40 (kfD_W_limbs hG) h109 rfl ?_
    refine jn_iconst (pc := 43) 0 kD_divideByLimb_d43 (by decide) ?_
    refine jj_aload_n (pc := 44) kD_divideByLimb_d44 rfl ?_
    refine jj_getf (pc := 45) kD_divideByLimb_d45 (kfD_W_count hG) h107 rfl ?_
    refine jj_acopy (pc := 48) (sp := 0) (dp := 0) (n := n) kD_divideByLimb_d48 (koD_copy hG) (ka_nat hG) (ka_sta hG) (ka_ini hG) (kG_t hG rfl) h108 h104 rfl rfl rfl (by rw [List.length_map]; omega) (by rw [List.length_map]; omega) (by rw [List.length_map]; omega) (by rw [List.length_map]; omega) (fun i hi => ⟨_, by rw [Nat.zero_add]; exact gd_int (by omega)⟩) rfl (by decide +kernel) ?_
    rw [cp2_map]
    refine jn_gen (fun M137 hM138 => ?_)
    have h139 : M137 dv = some (.inl nD, [.ref aq, .ref ar, .ref hi, .ref lo]) := by rw [hM138, jj_up_ne _ _ (fun e => by have q1 := h103; rw [e, h104] at q1; cases q1)]; exact h103
    have h140 : M137 aq = some (.inl nW, [.ref lq, .int (nI (n)), .int (sq)]) := by rw [hM138, jj_up_ne _ _ (fun e => by have q1 := h109; rw [e, h104] at q1; cases q1)]; exact h109
    have h141 : M137 ar = some (.inl nW, [.ref lr, .int (nI (cr)), .int (sr)]) := by rw [hM138, jj_up_ne _ _ (fun e => by have q1 := h105; rw [e, h104] at q1; cases q1)]; exact h105
    have h142 : M137 lr = some (.inr 0, (R).map .int) := by rw [hM138, jj_up_ne _ _ (Ne.symm n3)]; exact h106
    have h143 : M137 au = some (.inl nW, [.ref lp, .int (nI (n)), .int (su)]) := by rw [hM138, jj_up_ne _ _ (fun e => by have q1 := h107; rw [e, h104] at q1; cases q1)]; exact h107
    have h144 : M137 lp = some (.inr 0, (A).map .int) := by rw [hM138, jj_up_ne _ _ (Ne.symm n1)]; exact h108
    have h145 : M137 lq = some (.inr 0, (A.take n ++ T.drop n).map .int) := by rw [hM138]; exact jj_up_at _ _ _
    refine jj_goto (pc := 51) (tgt := 150) kD_divideByLimb_d51 (by decide) ?_
    show jj G kD_divideByLimb (d + 1) Q rc rs 150 [some (.ref dv), some (.ref au), some (.long (lN (b))), none, some (.long (lN (0))), none, none, none, none, none, none] [] M137
    exact fin M137 _ 0 none none none none none h140 h145 (cp2_len (by omega) (by omega)) (fun x h1 h2 => by rw [hM138, jj_up_ne _ _ h2]; exact f0 x h1 h2) hb0 (by rw [lnat_congr (E := A) (fun i hi => cp2_at (by omega) hi), hb9, Nat.mul_one]; rfl)
end D2
