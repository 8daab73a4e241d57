/-! ===== Euclid: quotientOf, sureQuotient, widen; Math.abs of a long (printed by wip/gen/rU1.py) ===== -/
theorem div_fact {u v : Int} (hu : 0 ≤ u) (hv : 0 < v) (h1 : u < 9223372036854775808) (h2 : v < 9223372036854775808) : ∃ t : Nat, lZ u / lZ v = lN t ∧ (t : Int) * v ≤ u ∧ u < (t + 1 : Nat) * v ∧ (t : Int) ≤ u := by
  obtain ⟨m, rfl⟩ : ∃ m : Nat, u = m := ⟨u.toNat, by omega⟩
  obtain ⟨n, rfl⟩ : ∃ n : Nat, v = n := ⟨v.toNat, by omega⟩
  refine ⟨m / n, ?_, ?_, ?_, ?_⟩
  · rw [lZ_nat, lZ_nat, lN_divN (by omega) (by omega)]
  · rw [← Int.natCast_mul]
    have := Nat.div_mul_le_self m n
    omega
  · rw [← Int.natCast_mul]
    have := Nat.lt_mul_div_succ m (show 0 < n by omega)
    rw [Nat.mul_comm] at this
    omega
  · have := Nat.div_le_self m n
    omega
theorem lZ_ne0 {v : Int} (hv : 0 < v) (h2 : v < 9223372036854775808) : ¬ lZ v = 0 := fun e => by
  have := congrArg Int64.toInt e
  rw [lZ_toInt (by omega) h2, show (0 : Int64).toInt = 0 by decide] at this
  omega
theorem lZ_mul (a b : Int) : lZ a * lZ b = lZ (a * b) := by unfold lZ; rw [← Int64.ofInt_mul]
theorem lZ_neg (a : Int) : -lZ a = lZ (-a) := by unfold lZ; rw [← Int64.ofInt_neg]
section U1
variable {G : jg} {d : Nat} {Q : jq} {rc rs : Nat} {M : mheap}
theorem jm_absZ {z : Int} (h1 : -9223372036854775808 < z) (h2 : z < 9223372036854775808) (k : Q (.returned (some (.long (lN z.natAbs)))) M rc rs) : jj G kJM_abs d Q rc rs 0 (jj_ent [.long (lZ z)] 2) [] M := by
  show jj G kJM_abs (d) Q rc rs 0 [some (.long (lZ z)), none] [] M
  refine jj_lload_n (pc := 0) kJM_abs_d0 rfl ?_
  refine jj_lconst (pc := 1) (v := lN 0) kJM_abs_d1 (by decide) ?_
  refine jj_lcmp (pc := 2) kJM_abs_d2 ?_
  refine jj_if_ge (pc := 3) (tgt := 11) kJM_abs_d3 (by decide) (fun c => ?_) (fun c => ?_)
  · skip
    rw [lg_cmp_ge, Int64.le_iff_toInt_le, lZ_toInt (by omega) (by omega), show (lN 0).toInt = 0 from rfl] at c
    refine jj_lload_n (pc := 11) kJM_abs_d11 rfl ?_
    refine jn_top (.long (lN (z.natAbs))) (by rw [← lZ_nat, show ((z.natAbs : Nat) : Int) = z by omega]) ?_
    exact jj_lret (pc := 12) kJM_abs_d12 rfl k
  · skip
    rw [lg_cmp_ge, Int64.le_iff_toInt_le, lZ_toInt (by omega) (by omega), show (lN 0).toInt = 0 from rfl] at c
    refine jj_lload_n (pc := 6) kJM_abs_d6 rfl ?_
    refine jj_lneg (pc := 7) kJM_abs_d7 ?_
    refine jn_top (.long (lN (z.natAbs))) (by rw [lZ_neg, ← lZ_nat, show ((z.natAbs : Nat) : Int) = -z by omega]) ?_
    refine jj_goto (pc := 8) (tgt := 12) kJM_abs_d8 (by decide) ?_
    exact jj_lret (pc := 12) kJM_abs_d12 rfl k
theorem u_quotientOf {p q : Nat} (hG : kG G) (hp : p < 9223372036854775808) (hq : q < 9223372036854775808) (k0 : q = 0 → Q (.returned (some (.long (lN 2147483648)))) M rc rs) (k1 : 0 < q → Q (.returned (some (.long (lN (p / q))))) M rc rs) : jj G kU_quotientOf d Q rc rs 0 (jj_ent [.long (lN p), .long (lN q)] 4) [] M := by
  show jj G kU_quotientOf (d) Q rc rs 0 [some (.long (lN (p))), none, some (.long (lN (q))), none] [] M
  refine jj_lload_n (pc := 0) kU_quotientOf_d0 rfl ?_
  refine jj_lconst (pc := 1) (v := lN 0) kU_quotientOf_d1 (by decide) ?_
  refine jj_lcmp (pc := 2) kU_quotientOf_d2 ?_
  refine jj_if_le (pc := 3) (tgt := 12) kU_quotientOf_d3 (by decide) (fun c => ?_) (fun c => ?_)
  · skip
    rw [lg_cmp_le, Int64.le_iff_toInt_le, lN_big (by omega), lN_big (by omega)] at c
    refine jj_ldc2 (pc := 12) kU_quotientOf_d12 (kcU_2147483648 hG) ?_
    refine jn_top (.long (lN (2147483648))) (rfl) ?_
    exact jj_lret (pc := 15) kU_quotientOf_d15 rfl (k0 (by omega))
  · skip
    rw [lg_cmp_le, Int64.le_iff_toInt_le, lN_big (by omega), lN_big (by omega)] at c
    refine jj_lload_n (pc := 6) kU_quotientOf_d6 rfl ?_
    refine jj_lload_n (pc := 7) kU_quotientOf_d7 rfl ?_
    refine jj_ldiv (pc := 8) kU_quotientOf_d8 (lN_ne (by omega) (by omega)) ?_
    refine jn_top (.long (lN (p / q))) (by rw [lN_divN (by omega) (by omega)]) ?_
    refine jj_goto (pc := 9) (tgt := 15) kU_quotientOf_d9 (by decide) ?_
    exact jj_lret (pc := 15) kU_quotientOf_d15 rfl (k1 (by omega))
theorem u_sure {eu : Nat} {v0 v1 v2 v3 v4 v5 v6 : Value} {a b c d9 p q : Int} (hG : kG G) (hE : M eu = some (.inl nU, [v0, v1, v2, v3, v4, v5, v6, .long (lZ a), .long (lZ b), .long (lZ c), .long (lZ d9)])) (ha1 : -2147483648 < a) (ha2 : a < 2147483648) (hb1 : -2147483648 < b) (hb2 : b < 2147483648) (hc1 : -2147483648 < c) (hc2 : c < 2147483648) (hd91 : -2147483648 < d9) (hd92 : d9 < 2147483648) (hp1 : -9000000000000000000 < p) (hp2 : p < 9000000000000000000) (hq1 : -9000000000000000000 < q) (hq2 : q < 9000000000000000000) (hpa : 0 ≤ p + a) (hpb : 0 ≤ p + b) (k0 : Q (.returned (some (.long (lN 2147483648)))) M rc rs) (k1 : ∀ t : Nat, t < 9223372036854775808 → 0 < q + c → 0 < q + d9 → t * (q + c) ≤ p + a → p + a < (t + 1 : Nat) * (q + c) → t * (q + d9) ≤ p + b → p + b < (t + 1 : Nat) * (q + d9) → Q (.returned (some (.long (lN t)))) M rc rs) : jj G kU_sureQuotient d Q rc rs 0 (jj_ent [.ref eu, .long (lZ p), .long (lZ q)] 7) [] M := by
  show jj G kU_sureQuotient (d) Q rc rs 0 [some (.ref eu), some (.long (lZ p)), none, some (.long (lZ q)), none, none, none] [] M
  refine jj_lload_n (pc := 0) kU_sureQuotient_d0 rfl ?_
  refine jj_aload_n (pc := 1) kU_sureQuotient_d1 rfl ?_
  refine jj_getf (pc := 2) kU_sureQuotient_d2 (kfU_c hG) hE rfl ?_
  refine jj_ladd (pc := 5) kU_sureQuotient_d5 ?_
  refine jn_top (.long (lZ (q + c))) (by rw [lZ_add]) ?_
  refine jj_lconst (pc := 6) (v := lN 0) kU_sureQuotient_d6 (by decide) ?_
  refine jj_lcmp (pc := 7) kU_sureQuotient_d7 ?_
  refine jj_if_le (pc := 8) (tgt := 22) kU_sureQuotient_d8 (by decide) (fun c1 => ?_) (fun c1 => ?_)
  · skip
    refine jj_ldc2 (pc := 22) kU_sureQuotient_d22 (kcU_2147483648 hG) ?_
    refine jn_top (.long (lN (2147483648))) (rfl) ?_
    exact jj_lret (pc := 25) kU_sureQuotient_d25 rfl k0
  · skip
    rw [lg_cmp_le, Int64.le_iff_toInt_le, lZ_toInt (by omega) (by omega), show (lN 0).toInt = 0 from rfl] at c1
    refine jj_lload_n (pc := 11) kU_sureQuotient_d11 rfl ?_
    refine jj_aload_n (pc := 12) kU_sureQuotient_d12 rfl ?_
    refine jj_getf (pc := 13) kU_sureQuotient_d13 (kfU_d hG) hE rfl ?_
    refine jj_ladd (pc := 16) kU_sureQuotient_d16 ?_
    refine jn_top (.long (lZ (q + d9))) (by rw [lZ_add]) ?_
    refine jj_lconst (pc := 17) (v := lN 0) kU_sureQuotient_d17 (by decide) ?_
    refine jj_lcmp (pc := 18) kU_sureQuotient_d18 ?_
    refine jj_if_gt (pc := 19) (tgt := 26) kU_sureQuotient_d19 (by decide) (fun c2 => ?_) (fun c2 => ?_)
    · skip
      rw [lg_cmp_gt, Int64.lt_iff_toInt_lt, lZ_toInt (by omega) (by omega), show (lN 0).toInt = 0 from rfl] at c2
      obtain ⟨t1, x1, x2, x3, x4⟩ := div_fact (u := p + a) (v := q + c) hpa (by omega) (by omega) (by omega)
      obtain ⟨t2, y1, y2, y3, y4⟩ := div_fact (u := p + b) (v := q + d9) hpb (by omega) (by omega) (by omega)
      refine jj_lload_n (pc := 26) kU_sureQuotient_d26 rfl ?_
      refine jj_aload_n (pc := 27) kU_sureQuotient_d27 rfl ?_
      refine jj_getf (pc := 28) kU_sureQuotient_d28 (kfU_a hG) hE rfl ?_
      refine jj_ladd (pc := 31) kU_sureQuotient_d31 ?_
      refine jn_top (.long (lZ (p + a))) (by rw [lZ_add]) ?_
      refine jj_lload_n (pc := 32) kU_sureQuotient_d32 rfl ?_
      refine jj_aload_n (pc := 33) kU_sureQuotient_d33 rfl ?_
      refine jj_getf (pc := 34) kU_sureQuotient_d34 (kfU_c hG) hE rfl ?_
      refine jj_ladd (pc := 37) kU_sureQuotient_d37 ?_
      refine jn_top (.long (lZ (q + c))) (by rw [lZ_add]) ?_
      refine jj_ldiv (pc := 38) kU_sureQuotient_d38 (lZ_ne0 (by omega) (by omega)) ?_
      refine jn_top (.long (lN (t1))) (by rw [x1]) ?_
      refine jj_lstore (pc := 39) kU_sureQuotient_d39 (Nat.le_of_ble_eq_true rfl) ?_
      show jj G kU_sureQuotient (d) Q rc rs 41 [some (.ref eu), some (.long (lZ p)), none, some (.long (lZ q)), none, some (.long (lN (t1))), none] [] M
      refine jj_lload (pc := 41) kU_sureQuotient_d41 rfl ?_
      refine jj_lload_n (pc := 43) kU_sureQuotient_d43 rfl ?_
      refine jj_aload_n (pc := 44) kU_sureQuotient_d44 rfl ?_
      refine jj_getf (pc := 45) kU_sureQuotient_d45 (kfU_b hG) hE rfl ?_
      refine jj_ladd (pc := 48) kU_sureQuotient_d48 ?_
      refine jn_top (.long (lZ (p + b))) (by rw [lZ_add]) ?_
      refine jj_lload_n (pc := 49) kU_sureQuotient_d49 rfl ?_
      refine jj_aload_n (pc := 50) kU_sureQuotient_d50 rfl ?_
      refine jj_getf (pc := 51) kU_sureQuotient_d51 (kfU_d hG) hE rfl ?_
      refine jj_ladd (pc := 54) kU_sureQuotient_d54 ?_
      refine jn_top (.long (lZ (q + d9))) (by rw [lZ_add]) ?_
      refine jj_ldiv (pc := 55) kU_sureQuotient_d55 (lZ_ne0 (by omega) (by omega)) ?_
      refine jn_top (.long (lN (t2))) (by rw [y1]) ?_
      refine jj_lcmp (pc := 56) kU_sureQuotient_d56 ?_
      refine jj_if_ne (pc := 57) (tgt := 65) kU_sureQuotient_d57 (by decide) (fun c3 => ?_) (fun c3 => ?_)
      · skip
        refine jj_ldc2 (pc := 65) kU_sureQuotient_d65 (kcU_2147483648 hG) ?_
        refine jn_top (.long (lN (2147483648))) (rfl) ?_
        exact jj_lret (pc := 68) kU_sureQuotient_d68 rfl k0
      · skip
        rw [lg_cmp_eq] at c3
        have e12 : t1 = t2 := by
          have q9 := congrArg Int64.toInt c3
          rw [lN_big (by omega), lN_big (by omega)] at q9
          omega
        subst e12
        refine jj_lload (pc := 60) kU_sureQuotient_d60 rfl ?_
        refine jj_goto (pc := 62) (tgt := 68) kU_sureQuotient_d62 (by decide) ?_
        exact jj_lret (pc := 68) kU_sureQuotient_d68 rfl (k1 t1 (by omega) (by omega) (by omega) x2 x3 y2 y3)
    · skip
      refine jj_ldc2 (pc := 22) kU_sureQuotient_d22 (kcU_2147483648 hG) ?_
      refine jn_top (.long (lN (2147483648))) (rfl) ?_
      exact jj_lret (pc := 25) kU_sureQuotient_d25 rfl k0
theorem u_widen {aw lw n c : Nat} {sw : Int32} {T : List Int32} (hG : kG G) (hW : M aw = some (.inl nW, [.ref lw, .int (nI c), .int sw])) (hT : M lw = some (.inr 0, T.map .int)) (hl : T.length < 2000) (hn : n ≤ T.length) (hcn : c ≤ n) (k : ∀ (M' : mheap) (T' : List Int32), M' aw = some (.inl nW, [.ref lw, .int (nI n), .int sw]) → M' lw = some (.inr 0, T'.map .int) → T'.length = T.length → lnat T' n = lnat T c → (∀ x, x ≠ aw → x ≠ lw → M' x = M x) → Q (.returned none) M' rc rs) : jj G kU_widen (d + 1) Q rc rs 0 (jj_ent [.ref aw, .int (nI n)] 3) [] M := by
  show jj G kU_widen (d + 1) Q rc rs 0 [some (.ref aw), some (.int (nI (n))), none] [] M
  refine jj_aload_n (pc := 0) kU_widen_d0 rfl ?_
  refine jj_iload_n (pc := 1) kU_widen_d1 rfl ?_
  refine jj_callV (pc := 2) (b := aw) (As := [.int (nI (n))]) kU_widen_d2 (kvU_W_needRoom hG) (kG_cl hG rfl) rfl hW rfl rfl rfl (Nat.le_of_ble_eq_true rfl) (Nat.le_of_ble_eq_true rfl) (jj_bare0 rfl) ?_
  refine w_needRoom hG hW hT (by omega) (by omega) ?_
  show jj G kU_widen (d + 1) Q rc rs 5 [some (.ref aw), some (.int (nI (n))), none] [] M
  refine jj_aload_n (pc := 5) kU_widen_d5 rfl ?_
  refine jj_getf (pc := 6) kU_widen_d6 (kfU_W_count hG) hW rfl ?_
  refine jj_istore_n (pc := 9) kU_widen_d9 (Nat.le_of_ble_eq_true rfl) ?_
  show jj G kU_widen (d + 1) Q rc rs 10 [some (.ref aw), some (.int (nI (n))), some (.int (nI (c)))] [] M
  show jj G kU_widen (d + 1) Q rc rs 10 [some (.ref aw), some (.int (nI (n))), some (.int (nI (c)))] [] M
  have loop : ∀ mu i, n = i + mu → ∀ (M9 : mheap) (T9 : List Int32), M9 aw = some (.inl nW, [.ref lw, .int (nI c), .int sw]) → M9 lw = some (.inr 0, T9.map .int) → T9.length = T.length → lnat T9 i = lnat T c → (∀ x, x ≠ aw → x ≠ lw → M9 x = M x) → jj G kU_widen (d + 1) Q rc rs 10 [some (.ref aw), some (.int (nI (n))), some (.int (nI (i)))] [] M9 := by
    intro mu
    induction mu with
    | zero =>
      intro i hk M9 T9 h91 h92 l9 v9 f9
      have e9 : n = i := by omega
      subst e9
      refine jj_iload_n (pc := 10) kU_widen_d10 rfl ?_
      refine jj_iload_n (pc := 11) kU_widen_d11 rfl ?_
      refine jn_icmp_ge (pc := 12) (tgt := 28) kU_widen_d12 (by decide) (by omega) (by omega) (fun _ => ?_) (fun c => by exfalso; omega)
      refine jj_aload_n (pc := 28) kU_widen_d28 rfl ?_
      refine jj_iload_n (pc := 29) kU_widen_d29 rfl ?_
      refine jj_putf (pc := 30) kU_widen_d30 (kpU_W_count hG) h91 (by rfl) rfl ?_
      refine jn_gen (fun M101 hM102 => ?_)
      have h103 : M101 lw = some (.inr 0, (T9).map .int) := by rw [hM102, jj_up_ne _ _ (fun e => by have q1 := h92; rw [e, h91] at q1; cases q1)]; exact h92
      have h104 : M101 aw = some (.inl nW, [.ref lw, .int (nI (n)), .int (sw)]) := by rw [hM102]; exact jj_up_at _ _ _
      exact jj_vret (pc := 33) kU_widen_d33 rfl (k M101 T9 h104 h103 l9 v9 (fun x h1 h2 => by rw [hM102, jj_up_ne _ _ h1]; exact f9 x h1 h2))
    | succ mu ih =>
      intro i hk M9 T9 h91 h92 l9 v9 f9
      refine jj_iload_n (pc := 10) kU_widen_d10 rfl ?_
      refine jj_iload_n (pc := 11) kU_widen_d11 rfl ?_
      refine jn_icmp_ge (pc := 12) (tgt := 28) kU_widen_d12 (by decide) (by omega) (by omega) (fun c => by exfalso; omega) (fun _ => ?_)
      refine jj_aload_n (pc := 15) kU_widen_d15 rfl ?_
      refine jj_getf (pc := 16) kU_widen_d16 (kfU_W_limbs hG) h91 rfl ?_
      refine jj_iload_n (pc := 19) kU_widen_d19 rfl ?_
      refine jn_iconst (pc := 20) 0 kU_widen_d20 (by decide) ?_
      refine jn_iast (pc := 21) kU_widen_d21 (kG_t hG rfl) h92 (by omega) (by omega) ?_
      refine jn_gen (fun M105 hM106 => ?_)
      have h107 : M105 aw = some (.inl nW, [.ref lw, .int (nI (c)), .int (sw)]) := by rw [hM106, jj_up_ne _ _ (fun e => by have q1 := h91; rw [e, h92] at q1; cases q1)]; exact h91
      have h108 : M105 lw = some (.inr 0, ((T9).set (i) ((nI (0)))).map .int) := by rw [hM106]; exact jj_up_at _ _ _
      refine jn_iinc (pc := 22) (i + 1) kU_widen_d22 rfl (nI_1 _) ?_
      refine jj_goto (pc := 25) (tgt := 10) kU_widen_d25 (by decide) ?_
      show jj G kU_widen (d + 1) Q rc rs 10 [some (.ref aw), some (.int (nI (n))), some (.int (nI (i + 1)))] [] M105
      refine ih (i + 1) (by omega) M105 _ h107 h108 (by rw [List.length_set]; exact l9) ?_ (fun x h1 h2 => by rw [hM106, jj_up_ne _ _ h2]; exact f9 x h1 h2)
      rw [lnat_step (by omega), v9, Nat.zero_mod, Nat.zero_mul, Nat.add_zero]
  exact loop (n - c) c (by omega) M T hW hT rfl rfl (fun _ _ _ => rfl)
end U1
