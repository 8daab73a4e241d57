/-! ===== Wholes.orderSizes, order, size (printed by wip/gen/rw6.py) ===== -/
/-- the digits at x and y compared, from the n-th down -/
def ocmp (D : List Int32) (x y : Nat) : Nat → Int32
  | 0 => 0
  | n + 1 => if D.getD (x + (n + 1)) 0 = D.getD (y + (n + 1)) 0 then ocmp D x y n else if D.getD (y + (n + 1)) 0 ≤ D.getD (x + (n + 1)) 0 then 1 else -1
def osz (D : List Int32) (x y n m : Nat) : Int32 := if n = m then ocmp D x y n else if m ≤ n then 1 else -1
def osg (v : Int32) : Int32 := if v < 0 then -1 else if 0 < v then 1 else 0
section RW6
variable {G : jg} {d : Nat} {Q : jq} {rc rs : Nat} {M : mheap} {w : Nat} {v2 : Value} {D : List Int32}
theorem rs_orderSizes {x y n m T : Nat} (hG : kG G) (hS : RW M w D T v2) (hl : D.length < 2 ^ 31) (hn : iabs (D.getD x 0) = nI n) (hm : iabs (D.getD y 0) = nI m) (hx : x + n < D.length) (hy : y + m < D.length) (k : Q (.returned (some (.int (osz D x y n m)))) M rc rs) : jj G kRW_orderSizes (d + 1) Q rc rs 0 (jj_ent [.ref w, .int (nI x), .int (nI y)] 6) [] M := by
  show jj G kRW_orderSizes (d + 1) Q rc rs 0 [some (.ref w), some (.int (nI x)), some (.int (nI y)), none, none, none] [] M
  obtain ⟨dd, hw, hd⟩ := id hS
  refine jj_aload_n (pc := 0) kRW_orderSizes_d0 rfl ?_
  refine jj_iload_n (pc := 1) kRW_orderSizes_d1 rfl ?_
  refine jj_callV (pc := 2) (b := w) (As := [.int (nI x)]) kRW_orderSizes_d2 (kvRW_RW_digits hG) (kG_cl hG rfl) rfl hw rfl rfl rfl (Nat.le_of_ble_eq_true rfl) (Nat.le_of_ble_eq_true rfl) (jj_bare0 rfl) ?_
  refine rw_digits hG hw hd hl (by omega) ?_
  show jj G kRW_orderSizes (d + 1) Q rc rs 5 [some (.ref w), some (.int (nI x)), some (.int (nI y)), none, none, none] [.int (iabs (D.getD x 0))] M
  rw [hn]
  refine jj_istore_n (pc := 5) kRW_orderSizes_d5 (Nat.le_of_ble_eq_true rfl) ?_
  show jj G kRW_orderSizes (d + 1) Q rc rs 6 [some (.ref w), some (.int (nI x)), some (.int (nI y)), some (.int (nI n)), none, none] [] M
  refine jj_aload_n (pc := 6) kRW_orderSizes_d6 rfl ?_
  refine jj_iload_n (pc := 7) kRW_orderSizes_d7 rfl ?_
  refine jj_callV (pc := 8) (b := w) (As := [.int (nI y)]) kRW_orderSizes_d8 (kvRW_RW_digits hG) (kG_cl hG rfl) rfl hw rfl rfl rfl (Nat.le_of_ble_eq_true rfl) (Nat.le_of_ble_eq_true rfl) (jj_bare0 rfl) ?_
  refine rw_digits hG hw hd hl (by omega) ?_
  show jj G kRW_orderSizes (d + 1) Q rc rs 11 [some (.ref w), some (.int (nI x)), some (.int (nI y)), some (.int (nI n)), none, none] [.int (iabs (D.getD y 0))] M
  rw [hm]
  refine jj_istore (pc := 11) kRW_orderSizes_d11 (Nat.le_of_ble_eq_true rfl) ?_
  show jj G kRW_orderSizes (d + 1) Q rc rs 13 [some (.ref w), some (.int (nI x)), some (.int (nI y)), some (.int (nI n)), some (.int (nI m)), none] [] M
  refine jj_iload_n (pc := 13) kRW_orderSizes_d13 rfl ?_
  refine jj_iload (pc := 14) kRW_orderSizes_d14 rfl ?_
  refine jj_icmp_eq (pc := 16) (tgt := 31) kRW_orderSizes_d16 (by decide) (fun c => ?_) (fun c => ?_)
  · have e : n = m := (nI_eq (by omega) (by omega)).mp c
    have ek : osz D x y n m = ocmp D x y n := if_pos e
    rw [ek] at k
    subst e
    refine jj_iload_n (pc := 31) kRW_orderSizes_d31 rfl ?_
    refine jj_istore (pc := 32) kRW_orderSizes_d32 (Nat.le_of_ble_eq_true rfl) ?_
    show jj G kRW_orderSizes (d + 1) Q rc rs 34 [some (.ref w), some (.int (nI x)), some (.int (nI y)), some (.int (nI n)), some (.int (nI n)), some (.int (nI n))] [] M
    have loop : ∀ j, j ≤ n → ocmp D x y n = ocmp D x y j → jj G kRW_orderSizes (d + 1) Q rc rs 34 [some (.ref w), some (.int (nI x)), some (.int (nI y)), some (.int (nI n)), some (.int (nI n)), some (.int (nI j))] [] M := by
      intro j
      induction j with
      | zero =>
        intro hj ej
        rw [ej] at k
        refine jj_iload (pc := 34) kRW_orderSizes_d34 rfl ?_
        refine jj_if_le (pc := 36) (tgt := 93) kRW_orderSizes_d36 (by decide) (fun c => ?_) (fun c => absurd (by decide) c)
        refine jj_iconst (pc := 93) (v := 0) kRW_orderSizes_d93 (by decide) ?_
        exact jj_iret (pc := 94) kRW_orderSizes_d94 rfl rfl k
      | succ j ih =>
        intro hj ej
        refine jj_iload (pc := 34) kRW_orderSizes_d34 rfl ?_
        refine jj_if_le (pc := 36) (tgt := 93) kRW_orderSizes_d36 (by decide) (fun c => absurd c (nI_nle (by omega) (by omega))) (fun c => ?_)
        refine jj_aload_n (pc := 39) kRW_orderSizes_d39 rfl ?_
        refine jj_getf (pc := 40) kRW_orderSizes_d40 (kfRW_d hG) hw rfl ?_
        refine jj_iload_n (pc := 43) kRW_orderSizes_d43 rfl ?_
        refine jj_iload (pc := 44) kRW_orderSizes_d44 rfl ?_
        refine jj_iadd (pc := 46) kRW_orderSizes_d46 ?_
        refine jj_iald (pc := 47) kRW_orderSizes_d47 (kG_t hG rfl) hd (i := x + (j + 1)) (nI_add _ _) (by rw [List.length_map]; exact hl) (gd_int (by omega)) ?_
        refine jj_aload_n (pc := 48) kRW_orderSizes_d48 rfl ?_
        refine jj_getf (pc := 49) kRW_orderSizes_d49 (kfRW_d hG) hw rfl ?_
        refine jj_iload_n (pc := 52) kRW_orderSizes_d52 rfl ?_
        refine jj_iload (pc := 53) kRW_orderSizes_d53 rfl ?_
        refine jj_iadd (pc := 55) kRW_orderSizes_d55 ?_
        refine jj_iald (pc := 56) kRW_orderSizes_d56 (kG_t hG rfl) hd (i := y + (j + 1)) (nI_add _ _) (by rw [List.length_map]; exact hl) (gd_int (by omega)) ?_
        refine jj_icmp_eq (pc := 57) (tgt := 87) kRW_orderSizes_d57 (by decide) (fun c => ?_) (fun c => ?_)
        · have e1 : ocmp D x y (j + 1) = ocmp D x y j := if_pos c
          refine jj_iinc (pc := 87) kRW_orderSizes_d87 rfl ?_
          refine jj_goto (pc := 90) (tgt := 34) kRW_orderSizes_d90 (by decide) ?_
          show jj G kRW_orderSizes (d + 1) Q rc rs 34 [some (.ref w), some (.int (nI x)), some (.int (nI y)), some (.int (nI n)), some (.int (nI n)), some (.int (nI (j + 1) + Int32.ofInt (-1)))] [] M
          rw [show nI (j + 1) + Int32.ofInt (-1) = nI j from pk_m1 j]
          exact ih (by omega) (ej.trans e1)
        · have e1 : ocmp D x y (j + 1) = if D.getD (y + (j + 1)) 0 ≤ D.getD (x + (j + 1)) 0 then 1 else -1 := if_neg c
          rw [ej, e1] at k
          refine jj_aload_n (pc := 60) kRW_orderSizes_d60 rfl ?_
          refine jj_getf (pc := 61) kRW_orderSizes_d61 (kfRW_d hG) hw rfl ?_
          refine jj_iload_n (pc := 64) kRW_orderSizes_d64 rfl ?_
          refine jj_iload (pc := 65) kRW_orderSizes_d65 rfl ?_
          refine jj_iadd (pc := 67) kRW_orderSizes_d67 ?_
          refine jj_iald (pc := 68) kRW_orderSizes_d68 (kG_t hG rfl) hd (i := x + (j + 1)) (nI_add _ _) (by rw [List.length_map]; exact hl) (gd_int (by omega)) ?_
          refine jj_aload_n (pc := 69) kRW_orderSizes_d69 rfl ?_
          refine jj_getf (pc := 70) kRW_orderSizes_d70 (kfRW_d hG) hw rfl ?_
          refine jj_iload_n (pc := 73) kRW_orderSizes_d73 rfl ?_
          refine jj_iload (pc := 74) kRW_orderSizes_d74 rfl ?_
          refine jj_iadd (pc := 76) kRW_orderSizes_d76 ?_
          refine jj_iald (pc := 77) kRW_orderSizes_d77 (kG_t hG rfl) hd (i := y + (j + 1)) (nI_add _ _) (by rw [List.length_map]; exact hl) (gd_int (by omega)) ?_
          refine jj_icmp_ge (pc := 78) (tgt := 85) kRW_orderSizes_d78 (by decide) (fun c => ?_) (fun c => ?_)
          · rw [if_pos c] at k
            refine jj_iconst (pc := 85) (v := 1) kRW_orderSizes_d85 (by decide) ?_
            exact jj_iret (pc := 86) kRW_orderSizes_d86 rfl rfl k
          · rw [if_neg c] at k
            refine jj_iconst (pc := 81) (v := (-1)) kRW_orderSizes_d81 (by decide) ?_
            refine jj_goto (pc := 82) (tgt := 86) kRW_orderSizes_d82 (by decide) ?_
            exact jj_iret (pc := 86) kRW_orderSizes_d86 rfl rfl k
    exact loop n (Nat.le_refl n) rfl
  · have e : ¬ n = m := fun h => c (by rw [h])
    have ek : osz D x y n m = if m ≤ n then 1 else -1 := if_neg e
    rw [ek] at k
    refine jj_iload_n (pc := 19) kRW_orderSizes_d19 rfl ?_
    refine jj_iload (pc := 20) kRW_orderSizes_d20 rfl ?_
    refine jj_icmp_ge (pc := 22) (tgt := 29) kRW_orderSizes_d22 (by decide) (fun c => ?_) (fun c => ?_)
    · have h : m ≤ n := by
        rcases Nat.lt_or_ge n m with h | h
        · exact absurd c (nI_ge h (by omega))
        · exact h
      rw [if_pos h] at k
      refine jj_iconst (pc := 29) (v := 1) kRW_orderSizes_d29 (by decide) ?_
      exact jj_iret (pc := 30) kRW_orderSizes_d30 rfl rfl k
    · have h : ¬ m ≤ n := fun h => c (nI_le h (by omega))
      rw [if_neg h] at k
      refine jj_iconst (pc := 25) (v := (-1)) kRW_orderSizes_d25 (by decide) ?_
      refine jj_goto (pc := 26) (tgt := 30) kRW_orderSizes_d26 (by decide) ?_
      exact jj_iret (pc := 30) kRW_orderSizes_d30 rfl rfl k

/-- what order answers -/
def oord (D : List Int32) (x y n m : Nat) : Int32 := if osg (D.getD x 0) = osg (D.getD y 0) then (if 0 ≤ osg (D.getD x 0) then osz D x y n m else osz D y x m n) else if osg (D.getD y 0) ≤ osg (D.getD x 0) then 1 else -1
theorem rs_order {x y n m T : Nat} (hG : kG G) (hS : RW M w D T v2) (hl : D.length < 2 ^ 31) (hn : iabs (D.getD x 0) = nI n) (hm : iabs (D.getD y 0) = nI m) (hx : x + n < D.length) (hy : y + m < D.length) (k : Q (.returned (some (.int (oord D x y n m)))) M rc rs) : jj G kRW_order (d + 2) Q rc rs 0 (jj_ent [.ref w, .int (nI x), .int (nI y)] 5) [] M := by
  show jj G kRW_order (d + 2) Q rc rs 0 [some (.ref w), some (.int (nI x)), some (.int (nI y)), none, none] [] M
  obtain ⟨dd, hw, hd⟩ := id hS
  refine jj_aload_n (pc := 0) kRW_order_d0 rfl ?_
  refine jj_iload_n (pc := 1) kRW_order_d1 rfl ?_
  refine jj_callV (pc := 2) (b := w) (As := [.int (nI x)]) kRW_order_d2 (kvRW_RW_sign hG) (kG_cl hG rfl) rfl hw rfl rfl rfl (Nat.le_of_ble_eq_true rfl) (Nat.le_of_ble_eq_true rfl) (jj_bare0 rfl) ?_
  refine rw_sign hG hw hd hl (by omega) ?_
  show jj G kRW_order (d + 2) Q rc rs 5 [some (.ref w), some (.int (nI x)), some (.int (nI y)), none, none] [.int (osg (D.getD x 0))] M
  refine jj_istore_n (pc := 5) kRW_order_d5 (Nat.le_of_ble_eq_true rfl) ?_
  show jj G kRW_order (d + 2) Q rc rs 6 [some (.ref w), some (.int (nI x)), some (.int (nI y)), some (.int (osg (D.getD x 0))), none] [] M
  refine jj_aload_n (pc := 6) kRW_order_d6 rfl ?_
  refine jj_iload_n (pc := 7) kRW_order_d7 rfl ?_
  refine jj_callV (pc := 8) (b := w) (As := [.int (nI y)]) kRW_order_d8 (kvRW_RW_sign hG) (kG_cl hG rfl) rfl hw rfl rfl rfl (Nat.le_of_ble_eq_true rfl) (Nat.le_of_ble_eq_true rfl) (jj_bare0 rfl) ?_
  refine rw_sign hG hw hd hl (by omega) ?_
  show jj G kRW_order (d + 2) Q rc rs 11 [some (.ref w), some (.int (nI x)), some (.int (nI y)), some (.int (osg (D.getD x 0))), none] [.int (osg (D.getD y 0))] M
  refine jj_istore (pc := 11) kRW_order_d11 (Nat.le_of_ble_eq_true rfl) ?_
  show jj G kRW_order (d + 2) Q rc rs 13 [some (.ref w), some (.int (nI x)), some (.int (nI y)), some (.int (osg (D.getD x 0))), some (.int (osg (D.getD y 0)))] [] M
  refine jj_iload_n (pc := 13) kRW_order_d13 rfl ?_
  refine jj_iload (pc := 14) kRW_order_d14 rfl ?_
  refine jj_icmp_eq (pc := 16) (tgt := 31) kRW_order_d16 (by decide) (fun c => ?_) (fun c => ?_)
  · have ek : oord D x y n m = if 0 ≤ osg (D.getD x 0) then osz D x y n m else osz D y x m n := if_pos c
    rw [ek] at k
    refine jj_iload_n (pc := 31) kRW_order_d31 rfl ?_
    refine jj_if_ge (pc := 32) (tgt := 44) kRW_order_d32 (by decide) (fun c => ?_) (fun c => ?_)
    · rw [if_pos (by assumption)] at k
      refine jj_aload_n (pc := 44) kRW_order_d44 rfl ?_
      refine jj_iload_n (pc := 45) kRW_order_d45 rfl ?_
      refine jj_iload_n (pc := 46) kRW_order_d46 rfl ?_
      refine jj_callV (pc := 47) (b := w) (As := [.int (nI x), .int (nI y)]) kRW_order_d47 (kvRW_RW_orderSizes hG) (kG_cl hG rfl) rfl hw rfl rfl rfl (Nat.le_of_ble_eq_true rfl) (Nat.le_of_ble_eq_true rfl) (jj_bare0 rfl) ?_
      refine rs_orderSizes hG hS hl hn hm hx hy ?_
      show jj G kRW_order (d + 2) Q rc rs 50 [some (.ref w), some (.int (nI x)), some (.int (nI y)), some (.int (osg (D.getD x 0))), some (.int (osg (D.getD y 0)))] [.int (osz D x y n m)] M
      exact jj_iret (pc := 50) kRW_order_d50 rfl rfl k
    · rw [if_neg (by assumption)] at k
      refine jj_aload_n (pc := 35) kRW_order_d35 rfl ?_
      refine jj_iload_n (pc := 36) kRW_order_d36 rfl ?_
      refine jj_iload_n (pc := 37) kRW_order_d37 rfl ?_
      refine jj_callV (pc := 38) (b := w) (As := [.int (nI y), .int (nI x)]) kRW_order_d38 (kvRW_RW_orderSizes hG) (kG_cl hG rfl) rfl hw rfl rfl rfl (Nat.le_of_ble_eq_true rfl) (Nat.le_of_ble_eq_true rfl) (jj_bare0 rfl) ?_
      refine rs_orderSizes hG hS hl hm hn hy hx ?_
      show jj G kRW_order (d + 2) Q rc rs 41 [some (.ref w), some (.int (nI x)), some (.int (nI y)), some (.int (osg (D.getD x 0))), some (.int (osg (D.getD y 0)))] [.int (osz D y x m n)] M
      refine jj_goto (pc := 41) (tgt := 50) kRW_order_d41 (by decide) ?_
      exact jj_iret (pc := 50) kRW_order_d50 rfl rfl k
  · have ek : oord D x y n m = if osg (D.getD y 0) ≤ osg (D.getD x 0) then 1 else -1 := if_neg c
    rw [ek] at k
    refine jj_iload_n (pc := 19) kRW_order_d19 rfl ?_
    refine jj_iload (pc := 20) kRW_order_d20 rfl ?_
    refine jj_icmp_ge (pc := 22) (tgt := 29) kRW_order_d22 (by decide) (fun c => ?_) (fun c => ?_)
    · rw [if_pos (by assumption)] at k
      refine jj_iconst (pc := 29) (v := 1) kRW_order_d29 (by decide) ?_
      exact jj_iret (pc := 30) kRW_order_d30 rfl rfl k
    · rw [if_neg (by assumption)] at k
      refine jj_iconst (pc := 25) (v := (-1)) kRW_order_d25 (by decide) ?_
      refine jj_goto (pc := 26) (tgt := 30) kRW_order_d26 (by decide) ?_
      exact jj_iret (pc := 30) kRW_order_d30 rfl rfl k

theorem rs_size {x n T cm X Z : Nat} (hG : kG G) (hS : RW M w D T v2) (hB : RB cm X Z rc rs D) (hN : RN D x n) (hx : x + n < T) (hTD : T ≤ D.length) (hT : T + n + 1 ≤ cm) (kn : D.getD x 0 < 0 → ∀ M' D' rc' rs', RW M' w D' (if n = 0 then T else T + n + 1) v2 → RB cm X Z rc' rs' D' → D.length ≤ D'.length → T + n + 1 ≤ D'.length → (∀ i, i < T → D'.getD i 0 = D.getD i 0) → (0 < n → D'.getD T 0 = -D.getD x 0) → (∀ i, 0 < i → i ≤ n → D'.getD (T + i) 0 = D.getD (x + i) 0) → RF M M' w → Q (.returned (some (.int (if n = 0 then 0 else nI T)))) M' rc' rs') (k : 0 ≤ D.getD x 0 → Q (.returned (some (.int (nI x)))) M rc rs) : jj G kRW_size (d + 5) Q rc rs 0 (jj_ent [.ref w, .int (nI x)] 2) [] M := by
  show jj G kRW_size (d + 5) Q rc rs 0 [some (.ref w), some (.int (nI x))] [] M
  obtain ⟨dd, hw, hd⟩ := id hS
  have hcap := hB.cap
  have hl : D.length < 2 ^ 31 := by omega
  refine jj_aload_n (pc := 0) kRW_size_d0 rfl ?_
  refine jj_getf (pc := 1) kRW_size_d1 (kfRW_d hG) hw rfl ?_
  refine jj_iload_n (pc := 4) kRW_size_d4 rfl ?_
  refine jj_iald (pc := 5) kRW_size_d5 (kG_t hG rfl) hd (i := x) rfl (by rw [List.length_map]; exact hl) (gd_int (by omega)) ?_
  refine jj_if_ge (pc := 6) (tgt := 17) kRW_size_d6 (by decide) (fun c => ?_) (fun c => ?_)
  · refine jj_iload_n (pc := 17) kRW_size_d17 rfl ?_
    exact jj_iret (pc := 18) kRW_size_d18 rfl rfl (k (by assumption))
  · refine jj_aload_n (pc := 9) kRW_size_d9 rfl ?_
    refine jj_iload_n (pc := 10) kRW_size_d10 rfl ?_
    refine jj_callV (pc := 11) (b := w) (As := [.int (nI x)]) kRW_size_d11 (kvRW_RW_negative hG) (kG_cl hG rfl) rfl hw rfl rfl rfl (Nat.le_of_ble_eq_true rfl) (Nat.le_of_ble_eq_true rfl) (jj_bare0 rfl) ?_
    refine rs_negative hG hS hB hN hx hTD hT (fun M1 D1 rc1 rs1 hS1 hB1 a1 a2 a3 a4 a5 a6 => ?_)
    have kk := kn (Int32.not_le.mp (by assumption)) M1 D1 rc1 rs1 hS1 hB1 a1 a2 a3 a4 a5 a6
    show jj G kRW_size (d + 5) Q rc1 rs1 14 [some (.ref w), some (.int (nI x))] [.int (if n = 0 then 0 else nI T)] M1
    refine jj_goto (pc := 14) (tgt := 18) kRW_size_d14 (by decide) ?_
    exact jj_iret (pc := 18) kRW_size_d18 rfl rfl kk

end RW6
