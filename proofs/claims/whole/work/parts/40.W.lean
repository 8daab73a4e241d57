/-! ===== Whole: leaf methods ===== -/
section SW
variable {G : jg} {d : Nat} {Q : jq} {rc rs : Nat} {M : mheap}
theorem sw_putZero {a : Nat} {v0 v1 v2 : Value} (hG : kG G) (hM : M a = some (.inl nW, [v0, v1, v2])) (k : Q (.returned none) (jj_up M a (.inl nW, [v0, .int 0, .int 0])) rc rs) : jj G kW_putZero d Q rc rs 0 (jj_ent [.ref a] 1) [] M := by
  show jj G kW_putZero d Q rc rs 0 [some (.ref a)] [] M
  refine jj_aload_n (pc := 0) kW_putZero_d0 rfl ?_
  refine jj_iconst (pc := 1) (v := 0) kW_putZero_d1 rfl ?_
  refine jj_putf (pc := 2) kW_putZero_d2 (kpW_count hG) hM rfl rfl ?_
  refine jj_aload_n (pc := 5) kW_putZero_d5 rfl ?_
  refine jj_iconst (pc := 6) (v := 0) kW_putZero_d6 rfl ?_
  refine jj_putf (pc := 7) kW_putZero_d7 (kpW_below hG) (jj_up_at _ _ _) rfl rfl ?_
  rw [jj_up_up]
  exact jj_vret (pc := 10) kW_putZero_d10 rfl k
theorem sw_isOne {a b n : Nat} {s : Int32} {xs : List Int32} (hG : kG G) (hM : M a = some (.inl nW, [.ref b, .int (nI n), .int s])) (hb : M b = some (.inr 0, xs.map .int)) (hx : xs.length < 2 ^ 31) (hn : n ≤ xs.length) (k : Q (.returned (some (.int (if n = 1 ∧ xs[0]? = some 1 ∧ s = 0 then 1 else 0)))) M rc rs) : jj G kW_isOne d Q rc rs 0 (jj_ent [.ref a] 1) [] M := by
  show jj G kW_isOne d Q rc rs 0 [some (.ref a)] [] M
  have kf : ¬ (n = 1 ∧ xs[0]? = some 1 ∧ s = 0) → jj G kW_isOne d Q rc rs 29 [some (.ref a)] [] M := by
    intro h
    rw [if_neg h] at k
    refine jj_iconst (pc := 29) (v := 0) kW_isOne_d29 rfl ?_
    exact jj_iret (pc := 30) kW_isOne_d30 rfl rfl k
  refine jj_aload_n (pc := 0) kW_isOne_d0 rfl ?_
  refine jj_getf (pc := 1) kW_isOne_d1 (kfW_count hG) hM rfl ?_
  refine jj_iconst (pc := 4) (v := 1) kW_isOne_d4 rfl ?_
  refine jj_icmp_ne (pc := 5) (tgt := 29) kW_isOne_d5 (by decide) (fun c => kf fun h => c (by rw [h.1]; rfl)) (fun c => ?_)
  have hn1 : n = 1 := by
    have c1 : nI n = nI 1 := c
    exact (nI_eq (by omega) (by omega)).mp c1
  subst hn1
  obtain ⟨x0, hx0⟩ : ∃ x0, xs[0]? = some x0 := ⟨_, List.getElem?_eq_getElem (by omega)⟩
  refine jj_aload_n (pc := 8) kW_isOne_d8 rfl ?_
  refine jj_getf (pc := 9) kW_isOne_d9 (kfW_limbs hG) hM rfl ?_
  refine jj_iconst (pc := 12) (v := 0) kW_isOne_d12 rfl ?_
  refine jj_iald (pc := 13) (i := 0) (v := .int x0) kW_isOne_d13 (kG_t hG rfl) hb rfl (by rw [List.length_map]; exact hx) (by rw [List.getElem?_map, hx0]; rfl) ?_
  refine jj_iconst (pc := 14) (v := 1) kW_isOne_d14 rfl ?_
  refine jj_icmp_ne (pc := 15) (tgt := 29) kW_isOne_d15 (by decide) (fun c => kf fun h => c (Option.some.inj (hx0.symm.trans h.2.1))) (fun c => ?_)
  have hx1 : x0 = 1 := c
  refine jj_aload_n (pc := 18) kW_isOne_d18 rfl ?_
  refine jj_getf (pc := 19) kW_isOne_d19 (kfW_below hG) hM rfl ?_
  refine jj_if_ne (pc := 22) (tgt := 29) kW_isOne_d22 (by decide) (fun c => kf fun h => c h.2.2) (fun c => ?_)
  have hs : s = 0 := c
  refine jj_iconst (pc := 25) (v := 1) kW_isOne_d25 rfl ?_
  refine jj_goto (pc := 26) (tgt := 30) kW_isOne_d26 (by decide) ?_
  rw [if_pos ⟨rfl, by rw [hx0, hx1], hs⟩] at k
  exact jj_iret (pc := 30) kW_isOne_d30 rfl rfl k
theorem sw_limbAt {a b n j : Nat} {s : Int32} {xs : List Int32} (hG : kG G) (hM : M a = some (.inl nW, [.ref b, .int (nI n), .int s])) (hb : M b = some (.inr 0, xs.map .int)) (hx : xs.length < 2 ^ 31) (hn : n ≤ xs.length) (hj : j < 2 ^ 31) (k : Q (.returned (some (.int (if j < n then xs.getD j 0 else 0)))) M rc rs) : jj G kW_limbAt d Q rc rs 0 (jj_ent [.ref a, .int (nI j)] 2) [] M := by
  show jj G kW_limbAt d Q rc rs 0 [some (.ref a), some (.int (nI j))] [] M
  refine jj_iload_n (pc := 0) kW_limbAt_d0 rfl ?_
  refine jj_aload_n (pc := 1) kW_limbAt_d1 rfl ?_
  refine jj_getf (pc := 2) kW_limbAt_d2 (kfW_count hG) hM rfl ?_
  refine jj_icmp_ge (pc := 5) (tgt := 17) kW_limbAt_d5 (by decide) (fun c => ?_) (fun c => ?_)
  · have h1 : ¬ j < n := fun h => nI_ge h (by omega) c
    rw [if_neg h1] at k
    refine jj_iconst (pc := 17) (v := 0) kW_limbAt_d17 rfl ?_
    exact jj_iret (pc := 18) kW_limbAt_d18 rfl rfl k
  · have h1 : j < n := by
      rcases Nat.lt_or_ge j n with h | h
      · exact h
      · exact absurd (nI_le h hj) c
    rw [if_pos h1] at k
    have h2 : xs[j]? = some (xs.getD j 0) := by rw [List.getD_eq_getElem?_getD, List.getElem?_eq_getElem (by omega)]; rfl
    refine jj_aload_n (pc := 8) kW_limbAt_d8 rfl ?_
    refine jj_getf (pc := 9) kW_limbAt_d9 (kfW_limbs hG) hM rfl ?_
    refine jj_iload_n (pc := 12) kW_limbAt_d12 rfl ?_
    refine jj_iald (pc := 13) (i := j) (v := .int (xs.getD j 0)) kW_limbAt_d13 (kG_t hG rfl) hb rfl (by rw [List.length_map]; exact hx) (by rw [List.getElem?_map, h2]; rfl) ?_
    refine jj_goto (pc := 14) (tgt := 18) kW_limbAt_d14 (by decide) ?_
    exact jj_iret (pc := 18) kW_limbAt_d18 rfl rfl k
theorem sw_init {a : Nat} {v0 v1 v2 : Value} (hG : kG G) (hM : M a = some (.inl nW, [v0, v1, v2])) (h1 : 1 ≤ rc) (h2 : 2 ≤ rs) (k : ∀ b, M b = none → Q (.returned none) (jj_up (jj_up M b (.inr 0, [.int 0, .int 0])) a (.inl nW, [.ref b, v1, v2])) (rc - 1) (rs - 2)) : jj G kW_init (d + 1) Q rc rs 0 (jj_ent [.ref a] 1) [] M := by
  show jj G kW_init (d + 1) Q rc rs 0 [some (.ref a)] [] M
  refine jj_aload_n (pc := 0) kW_init_d0 rfl ?_
  refine jj_objInit (pc := 1) kW_init_d1 (koW_obj hG) (ko_inst hG) (ko_code hG) rfl (by decide) ?_
  refine jj_aload_n (pc := 4) kW_init_d4 rfl ?_
  refine jj_iconst (pc := 5) (v := 2) kW_init_d5 rfl ?_
  refine jj_newa (pc := 6) (j := 0) (n := 2) (ty := .int) kW_init_d6 rfl (kG_t hG rfl) (fun C h => by cases h) (ka_int hG) rfl (by decide) h1 h2 (fun b hb => ?_)
  have hne : a ≠ b := fun e => by subst e; rw [hM] at hb; cases hb
  refine jj_putf (pc := 8) kW_init_d8 (kpW_limbs hG) (by rw [jj_up_ne _ _ hne]; exact hM) rfl rfl ?_
  exact jj_vret (pc := 11) kW_init_d11 rfl (k b hb)
/-- how many limbs are left when those of 0 on top are gone -/
def wtrim (xs : List Int32) : Nat → Nat
  | 0 => 0
  | n + 1 => if xs.getD n 0 = 0 then wtrim xs n else n + 1
theorem sw_trim {a b : Nat} {s : Int32} {xs : List Int32} (hG : kG G) (hb : M b = some (.inr 0, xs.map .int)) (hx : xs.length < 2 ^ 31) (hab : a ≠ b) :
    ∀ (n : Nat) (M : mheap), M a = some (.inl nW, [.ref b, .int (nI n), .int s]) → M b = some (.inr 0, xs.map .int) → n ≤ xs.length → Q (.returned none) (jj_up M a (.inl nW, [.ref b, .int (nI (wtrim xs n)), .int (if wtrim xs n = 0 then 0 else s)])) rc rs → jj G kW_trim d Q rc rs 0 [some (.ref a)] [] M := by
  intro n
  have fin : ∀ (n : Nat) (M : mheap), M a = some (.inl nW, [.ref b, .int (nI n), .int s]) → n < 2 ^ 31 → Q (.returned none) (jj_up M a (.inl nW, [.ref b, .int (nI n), .int (if n = 0 then 0 else s)])) rc rs → jj G kW_trim d Q rc rs 34 [some (.ref a)] [] M := by
    intro n M hM hn k
    refine jj_aload_n (pc := 34) kW_trim_d34 rfl ?_
    refine jj_getf (pc := 35) kW_trim_d35 (kfW_count hG) hM rfl ?_
    refine jj_if_ne (pc := 38) (tgt := 46) kW_trim_d38 (by decide) (fun c => ?_) (fun c => ?_)
    · have h0 : ¬ n = 0 := fun h => c (by rw [h]; rfl)
      rw [if_neg h0] at k
      have e : jj_up M a (.inl nW, [.ref b, .int (nI n), .int s]) = M := by
        funext q
        by_cases hq : q = a
        · subst hq; rw [jj_up_at]; exact hM.symm
        · exact jj_up_ne _ _ hq
      rw [e] at k
      exact jj_vret (pc := 46) kW_trim_d46 rfl k
    · have h0 : n = 0 := by
        have c1 : nI n = nI 0 := c
        exact (nI_eq hn (by omega)).mp c1
      rw [if_pos h0] at k
      refine jj_aload_n (pc := 41) kW_trim_d41 rfl ?_
      refine jj_iconst (pc := 42) (v := 0) kW_trim_d42 rfl ?_
      refine jj_putf (pc := 43) kW_trim_d43 (kpW_below hG) hM rfl rfl ?_
      exact jj_vret (pc := 46) kW_trim_d46 rfl k
  induction n with
  | zero =>
    intro M hM hMb hn k
    refine jj_aload_n (pc := 0) kW_trim_d0 rfl ?_
    refine jj_getf (pc := 1) kW_trim_d1 (kfW_count hG) hM rfl ?_
    refine jj_if_le (pc := 4) (tgt := 34) kW_trim_d4 (by decide) (fun c => ?_) (fun c => ?_)
    · exact fin 0 M hM (by omega) k
    · exact absurd (by decide) c
  | succ n ih =>
    intro M hM hMb hn k
    have h2 : xs[n]? = some (xs.getD n 0) := by rw [List.getD_eq_getElem?_getD, List.getElem?_eq_getElem (by omega)]; rfl
    refine jj_aload_n (pc := 0) kW_trim_d0 rfl ?_
    refine jj_getf (pc := 1) kW_trim_d1 (kfW_count hG) hM rfl ?_
    refine jj_if_le (pc := 4) (tgt := 34) kW_trim_d4 (by decide) (fun c => absurd c (nI_nle (by omega) (by omega))) (fun c => ?_)
    refine jj_aload_n (pc := 7) kW_trim_d7 rfl ?_
    refine jj_getf (pc := 8) kW_trim_d8 (kfW_limbs hG) hM rfl ?_
    refine jj_aload_n (pc := 11) kW_trim_d11 rfl ?_
    refine jj_getf (pc := 12) kW_trim_d12 (kfW_count hG) hM rfl ?_
    refine jj_iconst (pc := 15) (v := 1) kW_trim_d15 rfl ?_
    refine jj_isub (pc := 16) kW_trim_d16 ?_
    refine jj_iald (pc := 17) (i := n) (v := .int (xs.getD n 0)) kW_trim_d17 (kG_t hG rfl) hMb (nI_pred n) (by rw [List.length_map]; exact hx) (by rw [List.getElem?_map, h2]; rfl) ?_
    refine jj_if_ne (pc := 18) (tgt := 34) kW_trim_d18 (by decide) (fun c => ?_) (fun c => ?_)
    · have e : wtrim xs (n + 1) = n + 1 := if_neg c
      rw [e] at k
      exact fin (n + 1) M hM (by omega) k
    · have e : wtrim xs (n + 1) = wtrim xs n := if_pos c
      rw [e] at k
      refine jj_aload_n (pc := 21) kW_trim_d21 rfl ?_
      refine jj_dup (pc := 22) kW_trim_d22 rfl ?_
      refine jj_getf (pc := 23) kW_trim_d23 (kfW_count hG) hM rfl ?_
      refine jj_iconst (pc := 26) (v := 1) kW_trim_d26 rfl ?_
      refine jj_isub (pc := 27) kW_trim_d27 ?_
      refine jj_putf (pc := 28) kW_trim_d28 (kpW_count hG) hM rfl rfl ?_
      refine jj_goto (pc := 31) (tgt := 0) kW_trim_d31 (by decide) ?_
      rw [nI_pred]
      refine ih _ (jj_up_at _ _ _) (by rw [jj_up_ne _ _ (Ne.symm hab)]; exact hMb) (by omega) ?_
      rw [jj_up_up]
      exact k
end SW
