/-! ===== the reference's Wholes: digit, finish, room; Math and Arrays (printed by wip/gen/rw2.py) ===== -/
theorem jj_bare0 {Y : jm} {pc : Nat} (h : Y.2.2.2.2 = []) : jj_bare Y pc := fun q hq => by rw [h] at hq; cases hq
section RW2
variable {G : jg} {d : Nat} {Q : jq} {rc rs : Nat} {M : mheap} {w dd : Nat} {v1 v2 : Value} {D : List Int32}
theorem jm_max {x y : Int32} (k : Q (.returned (some (.int (if x < y then y else x)))) M rc rs) : jj G kJM_max d Q rc rs 0 (jj_ent [.int x, .int y] 2) [] M := by
  show jj G kJM_max d Q rc rs 0 [some (.int x), some (.int y)] [] M
  refine jj_iload_n (pc := 0) kJM_max_d0 rfl ?_
  refine jj_iload_n (pc := 1) kJM_max_d1 rfl ?_
  refine jj_icmp_lt (pc := 2) (tgt := 9) kJM_max_d2 (by decide) (fun c => ?_) (fun c => ?_)
  · rw [if_pos c] at k
    refine jj_iload_n (pc := 9) kJM_max_d9 rfl ?_
    exact jj_iret (pc := 10) kJM_max_d10 rfl rfl k
  · rw [if_neg c] at k
    refine jj_iload_n (pc := 5) kJM_max_d5 rfl ?_
    refine jj_goto (pc := 6) (tgt := 10) kJM_max_d6 (by decide) ?_
    exact jj_iret (pc := 10) kJM_max_d10 rfl rfl k

theorem jm_min_1 {x y : Int32} (k : Q (.returned (some (.int (if y < x then y else x)))) M rc rs) : jj G kJM_min_1 d Q rc rs 0 (jj_ent [.int x, .int y] 2) [] M := by
  show jj G kJM_min_1 d Q rc rs 0 [some (.int x), some (.int y)] [] M
  refine jj_iload_n (pc := 0) kJM_min_1_d0 rfl ?_
  refine jj_iload_n (pc := 1) kJM_min_1_d1 rfl ?_
  refine jj_icmp_gt (pc := 2) (tgt := 9) kJM_min_1_d2 (by decide) (fun c => ?_) (fun c => ?_)
  · rw [if_pos c] at k
    refine jj_iload_n (pc := 9) kJM_min_1_d9 rfl ?_
    exact jj_iret (pc := 10) kJM_min_1_d10 rfl rfl k
  · rw [if_neg c] at k
    refine jj_iload_n (pc := 5) kJM_min_1_d5 rfl ?_
    refine jj_goto (pc := 6) (tgt := 10) kJM_min_1_d6 (by decide) ?_
    exact jj_iret (pc := 10) kJM_min_1_d10 rfl rfl k

theorem rw_digit {x j n : Nat} (hG : kG G) (hw : M w = some (.inl nRW, [.ref dd, v1, v2])) (hd : M dd = some (.inr 0, D.map .int)) (hl : D.length < 2 ^ 31) (hx : x < D.length) (hn : iabs (D.getD x 0) = nI n) (hxn : x + 1 + n ≤ D.length) (hj : j < 2 ^ 31) (k : Q (.returned (some (.int (if j < n then D.getD (x + 1 + j) 0 else 0)))) M rc rs) : jj G kRW_digit (d + 1) Q rc rs 0 (jj_ent [.ref w, .int (nI x), .int (nI j)] 3) [] M := by
  show jj G kRW_digit (d + 1) Q rc rs 0 [some (.ref w), some (.int (nI x)), some (.int (nI j))] [] M
  refine jj_iload_n (pc := 0) kRW_digit_d0 rfl ?_
  refine jj_aload_n (pc := 1) kRW_digit_d1 rfl ?_
  refine jj_iload_n (pc := 2) kRW_digit_d2 rfl ?_
  refine jj_callV (pc := 3) (b := w) (As := [.int (nI x)]) kRW_digit_d3 (kvRW_RW_digits hG) (kG_cl hG rfl) rfl hw rfl rfl rfl (Nat.le_of_ble_eq_true rfl) (Nat.le_of_ble_eq_true rfl) (jj_bare0 rfl) ?_
  refine rw_digits hG hw hd hl hx ?_
  show jj G kRW_digit (d + 1) Q rc rs 6 [some (.ref w), some (.int (nI x)), some (.int (nI j))] [.int (iabs (D.getD x 0)), .int (nI j)] M
  rw [hn]
  refine jj_icmp_ge (pc := 6) (tgt := 22) kRW_digit_d6 (by decide) (fun c => ?_) (fun c => ?_)
  · rw [if_neg (fun h : j < n => nI_ge h (by omega) c)] at k
    refine jj_iconst (pc := 22) (v := 0) kRW_digit_d22 (by decide) ?_
    exact jj_iret (pc := 23) kRW_digit_d23 rfl rfl k
  · have h1 : j < n := by
      rcases Nat.lt_or_ge j n with h | h
      · exact h
      · exact absurd (nI_le h hj) c
    rw [if_pos h1] at k
    refine jj_aload_n (pc := 9) kRW_digit_d9 rfl ?_
    refine jj_getf (pc := 10) kRW_digit_d10 (kfRW_d hG) hw rfl ?_
    refine jj_iload_n (pc := 13) kRW_digit_d13 rfl ?_
    refine jj_iconst (pc := 14) (v := 1) kRW_digit_d14 (by decide) ?_
    refine jj_iadd (pc := 15) kRW_digit_d15 ?_
    refine jj_iload_n (pc := 16) kRW_digit_d16 rfl ?_
    refine jj_iadd (pc := 17) kRW_digit_d17 ?_
    refine jj_iald (pc := 18) kRW_digit_d18 (kG_t hG rfl) hd (i := x + 1 + j) (by rw [show (1 : Int32) = nI 1 from rfl, nI_add, nI_add]) (by rw [List.length_map]; exact hl) (gd_int (by omega)) ?_
    refine jj_goto (pc := 19) (tgt := 23) kRW_digit_d19 (by decide) ?_
    exact jj_iret (pc := 23) kRW_digit_d23 rfl rfl k

/-- the number of digits left when those of 0 on top are gone -/
def rtrim (D : List Int32) (T : Nat) : Nat → Nat
  | 0 => 0
  | n + 1 => if D.getD (T + (n + 1)) 0 = 0 then rtrim D T n else n + 1
theorem rtrim_le (D : List Int32) (T : Nat) : ∀ n, rtrim D T n ≤ n
  | 0 => Nat.le_refl 0
  | n + 1 => by
    unfold rtrim
    split
    · exact Nat.le_trans (rtrim_le D T n) (Nat.le_succ n)
    · exact Nat.le_refl _
theorem rw_finish {T n : Nat} {z : Int32} {v2 : Value} (hG : kG G) (hw : M w = some (.inl nRW, [.ref dd, .int (nI T), v2])) (hd : M dd = some (.inr 0, D.map .int)) (hl : D.length < 2 ^ 31) (hwd : w ≠ dd) (hT : T + n < D.length)
    (k0 : rtrim D T n = 0 → Q (.returned (some (.int 0))) M rc rs) (k1 : ∀ r, rtrim D T n = r → 0 < r → Q (.returned (some (.int (nI T)))) (jj_up (jj_up M dd (.inr 0, (D.set T (if z = 0 then nI r else -nI r)).map .int)) w (.inl nRW, [.ref dd, .int (nI (T + r + 1)), v2])) rc rs) : jj G kRW_finish d Q rc rs 0 (jj_ent [.ref w, .int (nI n), .int z] 5) [] M := by
  show jj G kRW_finish d Q rc rs 0 [some (.ref w), some (.int (nI n)), some (.int z), none, none] [] M
  refine jj_iload_n (pc := 0) kRW_finish_d0 rfl ?_
  refine jj_istore_n (pc := 1) kRW_finish_d1 (Nat.le_of_ble_eq_true rfl) ?_
  show jj G kRW_finish d Q rc rs 2 [some (.ref w), some (.int (nI n)), some (.int z), some (.int (nI n)), none] [] M

  have tail : rtrim D T n = rtrim D T n → ∀ j, rtrim D T n = j → j ≤ n → jj G kRW_finish d Q rc rs 26 [some (.ref w), some (.int (nI n)), some (.int z), some (.int (nI j)), none] [] M := by
    intro _ j ej hj
    refine jj_iload_n (pc := 26) kRW_finish_d26 rfl ?_
    refine jj_if_ne (pc := 27) (tgt := 32) kRW_finish_d27 (by decide) (fun c => ?_) (fun c => ?_)
    · have h0 : 0 < j := by
        rcases Nat.eq_zero_or_pos j with h | h
        · exact absurd (by rw [h]; rfl) c
        · exact h
      refine jj_aload_n (pc := 32) kRW_finish_d32 rfl ?_
      refine jj_getf (pc := 33) kRW_finish_d33 (kfRW_top hG) hw rfl ?_
      refine jj_istore (pc := 36) kRW_finish_d36 (Nat.le_of_ble_eq_true rfl) ?_
      show jj G kRW_finish d Q rc rs 38 [some (.ref w), some (.int (nI n)), some (.int z), some (.int (nI j)), some (.int (nI T))] [] M
      refine jj_aload_n (pc := 38) kRW_finish_d38 rfl ?_
      refine jj_getf (pc := 39) kRW_finish_d39 (kfRW_d hG) hw rfl ?_
      refine jj_iload (pc := 42) kRW_finish_d42 rfl ?_
      refine jj_iload_n (pc := 44) kRW_finish_d44 rfl ?_
      have st : ∀ y : Int32, y = (if z = 0 then nI j else -nI j) → jj G kRW_finish d Q rc rs 54 [some (.ref w), some (.int (nI n)), some (.int z), some (.int (nI j)), some (.int (nI T))] [.int y, .int (nI T), .ref dd] M := by
        intro y hy
        subst hy
        refine jj_iast (pc := 54) kRW_finish_d54 (kG_t hG rfl) hd (i := T) rfl (by rw [List.length_map]; exact hl) (by rw [List.length_map]; omega) ?_
        rw [gd_set]
        refine jj_aload_n (pc := 55) kRW_finish_d55 rfl ?_
        refine jj_iload (pc := 56) kRW_finish_d56 rfl ?_
        refine jj_iload_n (pc := 58) kRW_finish_d58 rfl ?_
        refine jj_iadd (pc := 59) kRW_finish_d59 ?_
        refine jj_iconst (pc := 60) (v := 1) kRW_finish_d60 (by decide) ?_
        refine jj_iadd (pc := 61) kRW_finish_d61 ?_
        refine jj_putf (pc := 62) kRW_finish_d62 (kpRW_top hG) (by rw [jj_up_ne _ _ hwd]; exact hw) rfl rfl ?_
        rw [nI_add, show (1 : Int32) = nI 1 from rfl, nI_add]
        refine jj_iload (pc := 65) kRW_finish_d65 rfl ?_
        exact jj_iret (pc := 67) kRW_finish_d67 rfl rfl (k1 j ej h0)

      refine jj_if_eq (pc := 45) (tgt := 53) kRW_finish_d45 (by decide) (fun c => ?_) (fun c => ?_)
      · rw [if_pos c] at st
        refine jj_iload_n (pc := 53) kRW_finish_d53 rfl ?_
        exact st _ rfl
      · rw [if_neg c] at st
        refine jj_iload_n (pc := 48) kRW_finish_d48 rfl ?_
        refine jj_ineg (pc := 49) kRW_finish_d49 ?_
        refine jj_goto (pc := 50) (tgt := 54) kRW_finish_d50 (by decide) ?_
        exact st _ rfl
    · have h0 : j = 0 := by
        have c1 : nI j = nI 0 := c
        exact (nI_eq (by omega) (by omega)).mp c1
      refine jj_iconst (pc := 30) (v := 0) kRW_finish_d30 (by decide) ?_
      exact jj_iret (pc := 31) kRW_finish_d31 rfl rfl (k0 (ej.trans h0))

  have loop : ∀ j, j ≤ n → rtrim D T n = rtrim D T j → jj G kRW_finish d Q rc rs 2 [some (.ref w), some (.int (nI n)), some (.int z), some (.int (nI j)), none] [] M := by
    intro j
    induction j with
    | zero =>
      intro hj ej
      refine jj_iload_n (pc := 2) kRW_finish_d2 rfl ?_
      refine jj_if_le (pc := 3) (tgt := 26) kRW_finish_d3 (by decide) (fun c => ?_) (fun c => ?_)
      · exact tail rfl 0 ej (Nat.zero_le n)
      · exact absurd (by decide) c
    | succ j ih =>
      intro hj ej
      refine jj_iload_n (pc := 2) kRW_finish_d2 rfl ?_
      refine jj_if_le (pc := 3) (tgt := 26) kRW_finish_d3 (by decide) (fun c => absurd c (nI_nle (by omega) (by omega))) (fun c => ?_)
      refine jj_aload_n (pc := 6) kRW_finish_d6 rfl ?_
      refine jj_getf (pc := 7) kRW_finish_d7 (kfRW_d hG) hw rfl ?_
      refine jj_aload_n (pc := 10) kRW_finish_d10 rfl ?_
      refine jj_getf (pc := 11) kRW_finish_d11 (kfRW_top hG) hw rfl ?_
      refine jj_iload_n (pc := 14) kRW_finish_d14 rfl ?_
      refine jj_iadd (pc := 15) kRW_finish_d15 ?_
      refine jj_iald (pc := 16) kRW_finish_d16 (kG_t hG rfl) hd (i := T + (j + 1)) (nI_add _ _) (by rw [List.length_map]; exact hl) (gd_int (by omega)) ?_
      refine jj_if_ne (pc := 17) (tgt := 26) kRW_finish_d17 (by decide) (fun c => ?_) (fun c => ?_)
      · have e : rtrim D T (j + 1) = j + 1 := if_neg c
        exact tail rfl (j + 1) (ej.trans e) hj
      · have e : rtrim D T (j + 1) = rtrim D T j := if_pos c
        refine jj_iinc (pc := 20) kRW_finish_d20 rfl ?_
        refine jj_goto (pc := 23) (tgt := 2) kRW_finish_d23 (by decide) ?_
        show jj G kRW_finish d Q rc rs 2 [some (.ref w), some (.int (nI n)), some (.int z), some (.int (nI (j + 1) + Int32.ofInt (-1))), none] [] M
        rw [show nI (j + 1) + Int32.ofInt (-1) = nI j from pk_m1 j]
        exact ih (by omega) (ej.trans e)
  exact loop n (Nat.le_refl n) rfl
end RW2
