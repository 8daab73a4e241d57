/-! ===== Wholes.copy (printed by wip/gen/rw4.py) ===== -/
/-- n digits stand at x, the top one not 0 -/
def RN (D : List Int32) (x n : Nat) : Prop := iabs (D.getD x 0) = nI n ∧ (0 < n → D.getD (x + n) 0 ≠ 0)
theorem gd_set_eq {D : List Int32} {i : Nat} {v : Int32} (h : i < D.length) : (D.set i v).getD i 0 = v := by simp [List.getD_eq_getElem?_getD, h]
theorem gd_set_ne {D : List Int32} {i j : Nat} {v : Int32} (h : i ≠ j) : (D.set i v).getD j 0 = D.getD j 0 := by simp [List.getD_eq_getElem?_getD, List.getElem?_set_ne h]
theorem rtrim_top {D : List Int32} {T n : Nat} (h : 0 < n → D.getD (T + n) 0 ≠ 0) : rtrim D T n = n := by
  cases n with
  | zero => rfl
  | succ n => exact if_neg (h (Nat.succ_pos n))
theorem iabs_pos {v : Int32} {n : Nat} (h : iabs v = nI n) (hn : n < 2 ^ 31) : v = if v < 0 then -nI n else nI n := by
  unfold iabs at h
  split at h
  · rename_i h1
    rw [if_pos h1, ← h, Int32.neg_neg]
  · rename_i h1
    rw [if_neg h1, ← h]
section RW4
variable {G : jg} {d : Nat} {Q : jq} {rc rs : Nat} {M : mheap} {w : Nat} {v2 : Value} {D : List Int32}
theorem rs_copy {x n T cm X Z : Nat} (hG : kG G) (hS : RW M w D T v2) (hB : RB cm X Z rc rs D) (hN : RN D x n) (hx : x + n < T) (hTD : T ≤ D.length) (hT : T + n + 1 ≤ cm)
    (k : ∀ M' D' rc' rs', RW M' w D' (if n = 0 then T else T + n + 1) v2 → RB cm X Z rc' rs' D' → D.length ≤ D'.length → T + n + 1 ≤ D'.length → (∀ i, i < T → D'.getD i 0 = D.getD i 0) → (∀ i, 0 < n → i ≤ n → D'.getD (T + i) 0 = D.getD (x + i) 0) → RF M M' w → Q (.returned (some (.int (if n = 0 then 0 else nI T)))) M' rc' rs') : jj G kRW_copy (d + 3) Q rc rs 0 (jj_ent [.ref w, .int (nI x)] 4) [] M := by
  show jj G kRW_copy (d + 3) Q rc rs 0 [some (.ref w), some (.int (nI x)), none, none] [] M
  obtain ⟨dd, hw, hd⟩ := id hS
  have hcap := hB.cap
  have hl : D.length < 2 ^ 31 := by omega
  refine jj_aload_n (pc := 0) kRW_copy_d0 rfl ?_
  refine jj_iload_n (pc := 1) kRW_copy_d1 rfl ?_
  refine jj_callV (pc := 2) (b := w) (As := [.int (nI x)]) kRW_copy_d2 (kvRW_RW_digits hG) (kG_cl hG rfl) rfl hw rfl rfl rfl (Nat.le_of_ble_eq_true rfl) (Nat.le_of_ble_eq_true rfl) (jj_bare0 rfl) ?_
  refine rw_digits hG hw hd hl (by omega) ?_
  show jj G kRW_copy (d + 3) Q rc rs 5 [some (.ref w), some (.int (nI x)), none, none] [.int (iabs (D.getD x 0))] M
  rw [hN.1]
  refine jj_istore_n (pc := 5) kRW_copy_d5 (Nat.le_of_ble_eq_true rfl) ?_
  show jj G kRW_copy (d + 3) Q rc rs 6 [some (.ref w), some (.int (nI x)), some (.int (nI n)), none] [] M
  refine jj_aload_n (pc := 6) kRW_copy_d6 rfl ?_
  refine jj_iload_n (pc := 7) kRW_copy_d7 rfl ?_
  refine jj_iconst (pc := 8) (v := 1) kRW_copy_d8 (by decide) ?_
  refine jj_iadd (pc := 9) kRW_copy_d9 ?_
  rw [show (1 : Int32) = nI 1 from rfl, nI_add]
  refine jj_callV (pc := 10) (b := w) (As := [.int (nI (n + 1))]) kRW_copy_d10 (kvRW_RW_room hG) (kG_cl hG rfl) rfl hw rfl rfl rfl (Nat.le_of_ble_eq_true rfl) (Nat.le_of_ble_eq_true rfl) (jj_bare0 rfl) ?_
  refine rs_room hG hS hB (by omega) (fun M1 D1 rc1 rs1 hS1 hB1 hl1 hx1 hf1 => ?_)
  show jj G kRW_copy (d + 3) Q rc1 rs1 13 [some (.ref w), some (.int (nI x)), some (.int (nI n)), none] [] M1
  refine jj_iconst (pc := 13) (v := 1) kRW_copy_d13 (by decide) ?_
  refine jj_istore_n (pc := 14) kRW_copy_d14 (Nat.le_of_ble_eq_true rfl) ?_
  show jj G kRW_copy (d + 3) Q rc1 rs1 15 [some (.ref w), some (.int (nI x)), some (.int (nI n)), some (.int (nI (0 + 1)))] [] M1
  have hl2 : D1.length < 2 ^ 31 := by have := hB1.cap; omega
  have loop : ∀ m i, n = i + m → ∀ (M2 : mheap) (D2 : List Int32), RW M2 w D2 T v2 → D2.length = D1.length → RF M1 M2 w → (∀ q, (q ≤ T ∨ T + i < q) → D2.getD q 0 = D1.getD q 0) → (∀ q, 1 ≤ q → q ≤ i → D2.getD (T + q) 0 = D1.getD (x + q) 0) → jj G kRW_copy (d + 3) Q rc1 rs1 15 [some (.ref w), some (.int (nI x)), some (.int (nI n)), some (.int (nI (i + 1)))] [] M2 := by
    intro m
    induction m with
    | zero =>
      intro i hi M2 D2 hS2 hlen hf2 ho hn
      obtain ⟨dd2, hw2, hd2⟩ := id hS2
      have e : i = n := by omega
      subst e
      refine jj_iload_n (pc := 15) kRW_copy_d15 rfl ?_
      refine jj_iload_n (pc := 16) kRW_copy_d16 rfl ?_
      refine jj_icmp_gt (pc := 17) (tgt := 45) kRW_copy_d17 (by decide) (fun c => ?_) (fun c => absurd (nI_lt (Nat.lt_succ_self i) (by omega)) c)
      have hl3 : D2.length < 2 ^ 31 := by omega
      refine jj_aload_n (pc := 45) kRW_copy_d45 rfl ?_
      refine jj_iload_n (pc := 46) kRW_copy_d46 rfl ?_
      refine jj_aload_n (pc := 47) kRW_copy_d47 rfl ?_
      refine jj_getf (pc := 48) kRW_copy_d48 (kfRW_d hG) hw2 rfl ?_
      refine jj_iload_n (pc := 51) kRW_copy_d51 rfl ?_
      refine jj_iald (pc := 52) kRW_copy_d52 (kG_t hG rfl) hd2 (i := x) rfl (by rw [List.length_map]; exact hl3) (gd_int (by omega)) ?_
      have hxx : D2.getD x 0 = D.getD x 0 := by rw [ho x (Or.inl (by omega)), hx1.at]
      rw [hxx]
      have fin : ∀ z : Int32, z = (if D.getD x 0 < 0 then 1 else 0) → jj G kRW_copy (d + 3) Q rc1 rs1 61 [some (.ref w), some (.int (nI x)), some (.int (nI i)), some (.int (nI (i + 1)))] [.int z, .int (nI i), .ref w] M2 := by
        intro z hz
        have htop : 0 < i → D2.getD (T + i) 0 ≠ 0 := fun h => by rw [hn i h (Nat.le_refl i), hx1.at]; exact hN.2 h
        have htr := rtrim_top htop
        refine jj_callV (pc := 61) (b := w) (As := [.int (nI i), .int z]) kRW_copy_d61 (kvRW_RW_finish hG) (kG_cl hG rfl) rfl hw2 rfl rfl rfl (Nat.le_of_ble_eq_true rfl) (Nat.le_of_ble_eq_true rfl) (jj_bare0 rfl) ?_
        refine rs_finish hG hS2 hl3 (by omega) (fun h => ?_) (fun r M3 h1 h2 hS3 hf3 => ?_)
        · have hi0 : i = 0 := by omega
          rw [if_pos hi0, if_pos hi0] at k
          show jj G kRW_copy (d + 3) Q rc1 rs1 64 [some (.ref w), some (.int (nI x)), some (.int (nI i)), some (.int (nI (i + 1)))] [.int 0] M2
          exact jj_iret (pc := 64) kRW_copy_d64 rfl rfl (k M2 D2 rc1 rs1 hS2 (hB1.same hlen) (by have := hx1.len; omega) (by omega) (fun q hq => by rw [ho q (Or.inl (by omega)), hx1.at]) (fun q h => absurd h (by omega)) (hf1.trans hf2))
        · have hr : r = i := by omega
          subst hr
          have hi0 : ¬ r = 0 := by omega
          rw [if_neg hi0, if_neg hi0] at k
          show jj G kRW_copy (d + 3) Q rc1 rs1 64 [some (.ref w), some (.int (nI x)), some (.int (nI r)), some (.int (nI (r + 1)))] [.int (nI T)] M3
          have hsg : (if z = 0 then nI r else -nI r) = D.getD x 0 := by
            have e9 := iabs_pos hN.1 (by omega)
            by_cases hneg : D.getD x 0 < 0
            · rw [if_pos hneg] at e9
              rw [hz, if_pos hneg, if_neg (by decide)]
              exact e9.symm
            · rw [if_neg hneg] at e9
              rw [hz, if_neg hneg, if_pos rfl]
              exact e9.symm
          rw [hsg] at hS3
          refine jj_iret (pc := 64) kRW_copy_d64 rfl rfl (k M3 _ rc1 rs1 hS3 ((hB1.same hlen).same (List.length_set ..)) (by rw [List.length_set]; have := hx1.len; omega) (by rw [List.length_set]; omega) (fun q hq => by rw [gd_set_ne (by omega), ho q (Or.inl (by omega)), hx1.at]) (fun q _ hq => ?_) ((hf1.trans hf2).trans hf3))
          by_cases hq0 : q = 0
          · subst hq0
            rw [Nat.add_zero, Nat.add_zero, gd_set_eq (by omega)]
          · rw [gd_set_ne (by omega), hn q (by omega) hq, hx1.at]
      refine jj_if_ge (pc := 53) (tgt := 60) kRW_copy_d53 (by decide) (fun c => ?_) (fun c => ?_)
      · refine jj_iconst (pc := 60) (v := 0) kRW_copy_d60 (by decide) ?_
        exact fin 0 (by rw [if_neg (Int32.not_lt.mpr c)])
      · refine jj_iconst (pc := 56) (v := 1) kRW_copy_d56 (by decide) ?_
        refine jj_goto (pc := 57) (tgt := 61) kRW_copy_d57 (by decide) ?_
        exact fin 1 (by rw [if_pos (Int32.not_le.mp c)])
    | succ m ih =>
      intro i hi M2 D2 hS2 hlen hf2 ho hn
      obtain ⟨dd2, hw2, hd2⟩ := id hS2
      have hwd2 : w ≠ dd2 := fun e => by subst e; rw [hw2] at hd2; cases hd2
      have hl3 : D2.length < 2 ^ 31 := by omega
      refine jj_iload_n (pc := 15) kRW_copy_d15 rfl ?_
      refine jj_iload_n (pc := 16) kRW_copy_d16 rfl ?_
      refine jj_icmp_gt (pc := 17) (tgt := 45) kRW_copy_d17 (by decide) (fun c => absurd c (nI_nlt (by omega) (by omega))) (fun c => ?_)
      refine jj_aload_n (pc := 20) kRW_copy_d20 rfl ?_
      refine jj_getf (pc := 21) kRW_copy_d21 (kfRW_d hG) hw2 rfl ?_
      refine jj_aload_n (pc := 24) kRW_copy_d24 rfl ?_
      refine jj_getf (pc := 25) kRW_copy_d25 (kfRW_top hG) hw2 rfl ?_
      refine jj_iload_n (pc := 28) kRW_copy_d28 rfl ?_
      refine jj_iadd (pc := 29) kRW_copy_d29 ?_
      refine jj_aload_n (pc := 30) kRW_copy_d30 rfl ?_
      refine jj_getf (pc := 31) kRW_copy_d31 (kfRW_d hG) hw2 rfl ?_
      refine jj_iload_n (pc := 34) kRW_copy_d34 rfl ?_
      refine jj_iload_n (pc := 35) kRW_copy_d35 rfl ?_
      refine jj_iadd (pc := 36) kRW_copy_d36 ?_
      refine jj_iald (pc := 37) kRW_copy_d37 (kG_t hG rfl) hd2 (i := x + (i + 1)) (nI_add _ _) (by rw [List.length_map]; exact hl3) (gd_int (by omega)) ?_
      refine jj_iast (pc := 38) kRW_copy_d38 (kG_t hG rfl) hd2 (i := T + (i + 1)) (nI_add _ _) (by rw [List.length_map]; exact hl3) (by rw [List.length_map]; omega) ?_
      rw [gd_set]
      refine jj_iinc (pc := 39) kRW_copy_d39 rfl ?_
      refine jj_goto (pc := 42) (tgt := 15) kRW_copy_d42 (by decide) ?_
      show jj G kRW_copy (d + 3) Q rc1 rs1 15 [some (.ref w), some (.int (nI x)), some (.int (nI n)), some (.int (nI (i + 1) + Int32.ofInt 1))] [] _
      rw [show nI (i + 1) + Int32.ofInt 1 = nI (i + 1 + 1) from nI_1 (i + 1)]
      refine ih (i + 1) (by omega) _ _ ⟨dd2, by rw [jj_up_ne _ _ hwd2]; exact hw2, jj_up_at _ _ _⟩ (by rw [List.length_set]; exact hlen) (hf2.trans (RF.put hw2 hwd2)) (fun q hq => ?_) (fun q h1 h2 => ?_)
      · rw [gd_set_ne (by omega)]
        exact ho q (by omega)
      · by_cases hq : q = i + 1
        · subst hq
          rw [gd_set_eq (by omega), ho (x + (i + 1)) (Or.inl (by omega))]
        · rw [gd_set_ne (by omega)]
          exact hn q h1 (by omega)
  exact loop n 0 (by omega) M1 D1 hS1 rfl (RF.refl M1 w) (fun q _ => rfl) (fun q h1 h2 => absurd h2 (by omega))
end RW4
