/-! ===== the reference's Wholes: leaf methods (printed by wip/gen/rw1.py) ===== -/
theorem gd_some {D : List Int32} {x : Nat} (h : x < D.length) : D[x]? = some (D.getD x 0) := by rw [List.getD_eq_getElem?_getD, List.getElem?_eq_getElem h]; rfl
theorem gd_int {D : List Int32} {x : Nat} (h : x < D.length) : (D.map Value.int)[x]? = some (.int (D.getD x 0)) := by rw [List.getElem?_map, gd_some h]; rfl
theorem gd_set {D : List Int32} {x : Nat} {v : Int32} : (D.map Value.int).set x (.int v) = (D.set x v).map Value.int := by rw [List.map_set]
def iabs (v : Int32) : Int32 := if v < 0 then -v else v
section RW1
variable {G : jg} {d : Nat} {Q : jq} {rc rs : Nat} {M : mheap} {w dd : Nat} {v1 v2 : Value} {D : List Int32}
theorem rw_digits {x : Nat} (hG : kG G) (hw : M w = some (.inl nRW, [.ref dd, v1, v2])) (hd : M dd = some (.inr 0, D.map .int)) (hl : D.length < 2 ^ 31) (hx : x < D.length) (k : Q (.returned (some (.int (iabs (D.getD x 0))))) M rc rs) : jj G kRW_digits d Q rc rs 0 (jj_ent [.ref w, .int (nI x)] 2) [] M := by
  show jj G kRW_digits d Q rc rs 0 [some (.ref w), some (.int (nI x))] [] M
  refine jj_aload_n (pc := 0) kRW_digits_d0 rfl ?_
  refine jj_getf (pc := 1) kRW_digits_d1 (kfRW_d hG) hw rfl ?_
  refine jj_iload_n (pc := 4) kRW_digits_d4 rfl ?_
  refine jj_iald (pc := 5) kRW_digits_d5 (kG_t hG rfl) hd (i := x) rfl (by rw [List.length_map]; exact hl) (gd_int hx) ?_
  refine jj_if_ge (pc := 6) (tgt := 19) kRW_digits_d6 (by decide) (fun c => ?_) (fun c => ?_)
  · have e : iabs (D.getD x 0) = D.getD x 0 := if_neg (Int32.not_lt.mpr c)
    rw [e] at k
    refine jj_aload_n (pc := 19) kRW_digits_d19 rfl ?_
    refine jj_getf (pc := 20) kRW_digits_d20 (kfRW_d hG) hw rfl ?_
    refine jj_iload_n (pc := 23) kRW_digits_d23 rfl ?_
    refine jj_iald (pc := 24) kRW_digits_d24 (kG_t hG rfl) hd (i := x) rfl (by rw [List.length_map]; exact hl) (gd_int hx) ?_
    exact jj_iret (pc := 25) kRW_digits_d25 rfl rfl k
  · have e : iabs (D.getD x 0) = -(D.getD x 0) := if_pos (Int32.not_le.mp c)
    rw [e] at k
    refine jj_aload_n (pc := 9) kRW_digits_d9 rfl ?_
    refine jj_getf (pc := 10) kRW_digits_d10 (kfRW_d hG) hw rfl ?_
    refine jj_iload_n (pc := 13) kRW_digits_d13 rfl ?_
    refine jj_iald (pc := 14) kRW_digits_d14 (kG_t hG rfl) hd (i := x) rfl (by rw [List.length_map]; exact hl) (gd_int hx) ?_
    refine jj_ineg (pc := 15) kRW_digits_d15 ?_
    refine jj_goto (pc := 16) (tgt := 25) kRW_digits_d16 (by decide) ?_
    exact jj_iret (pc := 25) kRW_digits_d25 rfl rfl k

theorem rw_sign {x : Nat} (hG : kG G) (hw : M w = some (.inl nRW, [.ref dd, v1, v2])) (hd : M dd = some (.inr 0, D.map .int)) (hl : D.length < 2 ^ 31) (hx : x < D.length) (k : Q (.returned (some (.int (if D.getD x 0 < 0 then -1 else if 0 < D.getD x 0 then 1 else 0)))) M rc rs) : jj G kRW_sign d Q rc rs 0 (jj_ent [.ref w, .int (nI x)] 2) [] M := by
  show jj G kRW_sign d Q rc rs 0 [some (.ref w), some (.int (nI x))] [] M
  refine jj_aload_n (pc := 0) kRW_sign_d0 rfl ?_
  refine jj_getf (pc := 1) kRW_sign_d1 (kfRW_d hG) hw rfl ?_
  refine jj_iload_n (pc := 4) kRW_sign_d4 rfl ?_
  refine jj_iald (pc := 5) kRW_sign_d5 (kG_t hG rfl) hd (i := x) rfl (by rw [List.length_map]; exact hl) (gd_int hx) ?_
  refine jj_if_ge (pc := 6) (tgt := 13) kRW_sign_d6 (by decide) (fun c => ?_) (fun c => ?_)
  · rw [if_neg (Int32.not_lt.mpr c)] at k
    refine jj_aload_n (pc := 13) kRW_sign_d13 rfl ?_
    refine jj_getf (pc := 14) kRW_sign_d14 (kfRW_d hG) hw rfl ?_
    refine jj_iload_n (pc := 17) kRW_sign_d17 rfl ?_
    refine jj_iald (pc := 18) kRW_sign_d18 (kG_t hG rfl) hd (i := x) rfl (by rw [List.length_map]; exact hl) (gd_int hx) ?_
    refine jj_if_le (pc := 19) (tgt := 26) kRW_sign_d19 (by decide) (fun c => ?_) (fun c => ?_)
    · rw [if_neg (Int32.not_lt.mpr c)] at k
      refine jj_iconst (pc := 26) (v := 0) kRW_sign_d26 (by decide) ?_
      exact jj_iret (pc := 27) kRW_sign_d27 rfl rfl k
    · rw [if_pos (Int32.not_le.mp c)] at k
      refine jj_iconst (pc := 22) (v := 1) kRW_sign_d22 (by decide) ?_
      refine jj_goto (pc := 23) (tgt := 27) kRW_sign_d23 (by decide) ?_
      exact jj_iret (pc := 27) kRW_sign_d27 rfl rfl k
  · rw [if_pos (Int32.not_le.mp c)] at k
    refine jj_iconst (pc := 9) (v := (-1)) kRW_sign_d9 (by decide) ?_
    refine jj_goto (pc := 10) (tgt := 27) kRW_sign_d10 (by decide) ?_
    exact jj_iret (pc := 27) kRW_sign_d27 rfl rfl k

end RW1
