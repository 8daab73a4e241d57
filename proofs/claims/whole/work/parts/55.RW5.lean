/-! ===== Wholes.negative, size, isOne, moved (printed by wip/gen/rw5.py) ===== -/
section RW5
variable {G : jg} {d : Nat} {Q : jq} {rc rs : Nat} {M : mheap} {w : Nat} {v2 : Value} {D : List Int32}
theorem rs_negative {x n T cm X Z : Nat} (hG : kG G) (hS : RW M w D T v2) (hB : RB cm X Z rc rs D) (hN : RN D x n) (hx : x + n < T) (hTD : T ≤ D.length) (hT : T + n + 1 ≤ cm) (k : ∀ M' D' rc' rs', RW M' w D' (if n = 0 then T else T + n + 1) v2 → RB cm X Z rc' rs' D' → D.length ≤ D'.length → T + n + 1 ≤ D'.length → (∀ i, i < T → D'.getD i 0 = D.getD i 0) → (0 < n → D'.getD T 0 = -D.getD x 0) → (∀ i, 0 < i → i ≤ n → D'.getD (T + i) 0 = D.getD (x + i) 0) → RF M M' w → Q (.returned (some (.int (if n = 0 then 0 else nI T)))) M' rc' rs') : jj G kRW_negative (d + 4) Q rc rs 0 (jj_ent [.ref w, .int (nI x)] 3) [] M := by
  show jj G kRW_negative (d + 4) Q rc rs 0 [some (.ref w), some (.int (nI x)), none] [] M
  obtain ⟨dd, hw, hd⟩ := id hS
  have hcap := hB.cap
  refine jj_aload_n (pc := 0) kRW_negative_d0 rfl ?_
  refine jj_iload_n (pc := 1) kRW_negative_d1 rfl ?_
  refine jj_callV (pc := 2) (b := w) (As := [.int (nI x)]) kRW_negative_d2 (kvRW_RW_copy hG) (kG_cl hG rfl) rfl hw rfl rfl rfl (Nat.le_of_ble_eq_true rfl) (Nat.le_of_ble_eq_true rfl) (jj_bare0 rfl) ?_
  refine rs_copy hG hS hB hN hx hTD hT (fun M1 D1 rc1 rs1 hS1 hB1 hl1 hl2 ho hn hf => ?_)
  show jj G kRW_negative (d + 4) Q rc1 rs1 5 [some (.ref w), some (.int (nI x)), none] [.int (if n = 0 then 0 else nI T)] M1
  have hl3 : D1.length < 2 ^ 31 := by have := hB1.cap; omega
  refine jj_istore_n (pc := 5) kRW_negative_d5 (Nat.le_of_ble_eq_true rfl) ?_
  show jj G kRW_negative (d + 4) Q rc1 rs1 6 [some (.ref w), some (.int (nI x)), some (.int (if n = 0 then 0 else nI T))] [] M1
  by_cases h0 : n = 0
  · simp only [if_pos h0] at k hS1 ⊢
    refine jj_iload_n (pc := 6) kRW_negative_d6 rfl ?_
    refine jj_if_le (pc := 7) (tgt := 23) kRW_negative_d7 (by decide) (fun c => ?_) (fun c => absurd (by decide) c)
    refine jj_iload_n (pc := 23) kRW_negative_d23 rfl ?_
    exact jj_iret (pc := 24) kRW_negative_d24 rfl rfl (k M1 D1 rc1 rs1 hS1 hB1 hl1 hl2 ho (fun h => absurd h (by omega)) (fun i h1 h2 => absurd h2 (by omega)) hf)
  · simp only [if_neg h0] at k hS1 ⊢
    obtain ⟨dd1, hw1, hd1⟩ := id hS1
    have hwd1 : w ≠ dd1 := fun e => by subst e; rw [hw1] at hd1; cases hd1
    have hT1 : D1.getD T 0 = D.getD x 0 := by have := hn 0 (by omega) (Nat.zero_le n); simpa using this
    refine jj_iload_n (pc := 6) kRW_negative_d6 rfl ?_
    refine jj_if_le (pc := 7) (tgt := 23) kRW_negative_d7 (by decide) (fun c => absurd c (nI_nle (by omega) (by omega))) (fun c => ?_)
    refine jj_aload_n (pc := 10) kRW_negative_d10 rfl ?_
    refine jj_getf (pc := 11) kRW_negative_d11 (kfRW_d hG) hw1 rfl ?_
    refine jj_iload_n (pc := 14) kRW_negative_d14 rfl ?_
    refine jj_aload_n (pc := 15) kRW_negative_d15 rfl ?_
    refine jj_getf (pc := 16) kRW_negative_d16 (kfRW_d hG) hw1 rfl ?_
    refine jj_iload_n (pc := 19) kRW_negative_d19 rfl ?_
    refine jj_iald (pc := 20) kRW_negative_d20 (kG_t hG rfl) hd1 (i := T) rfl (by rw [List.length_map]; exact hl3) (gd_int (by omega)) ?_
    refine jj_ineg (pc := 21) kRW_negative_d21 ?_
    refine jj_iast (pc := 22) kRW_negative_d22 (kG_t hG rfl) hd1 (i := T) rfl (by rw [List.length_map]; exact hl3) (by rw [List.length_map]; omega) ?_
    rw [gd_set, hT1]
    refine jj_iload_n (pc := 23) kRW_negative_d23 rfl ?_
    exact jj_iret (pc := 24) kRW_negative_d24 rfl rfl (k _ _ rc1 rs1 ⟨dd1, by rw [jj_up_ne _ _ hwd1]; exact hw1, jj_up_at _ _ _⟩ (hB1.same (List.length_set ..)) (by rw [List.length_set]; exact hl1) (by rw [List.length_set]; exact hl2) (fun i hi => by rw [gd_set_ne (by omega)]; exact ho i hi) (fun _ => gd_set_eq (by omega)) (fun i h1 h2 => by rw [gd_set_ne (by omega)]; exact hn i (by omega) h2) (hf.trans (RF.put hw1 hwd1)))

theorem rs_isOne {x T : Nat} (hG : kG G) (hS : RW M w D T v2) (hl : D.length < 2 ^ 31) (hx : x + 1 < D.length) (k : Q (.returned (some (.int (if D.getD x 0 = 1 ∧ D.getD (x + 1) 0 = 1 then 1 else 0)))) M rc rs) : jj G kRW_isOne d Q rc rs 0 (jj_ent [.ref w, .int (nI x)] 2) [] M := by
  show jj G kRW_isOne d Q rc rs 0 [some (.ref w), some (.int (nI x))] [] M
  obtain ⟨dd, hw, hd⟩ := id hS
  refine jj_aload_n (pc := 0) kRW_isOne_d0 rfl ?_
  refine jj_getf (pc := 1) kRW_isOne_d1 (kfRW_d hG) hw rfl ?_
  refine jj_iload_n (pc := 4) kRW_isOne_d4 rfl ?_
  refine jj_iald (pc := 5) kRW_isOne_d5 (kG_t hG rfl) hd (i := x) rfl (by rw [List.length_map]; exact hl) (gd_int (by omega)) ?_
  refine jj_iconst (pc := 6) (v := 1) kRW_isOne_d6 (by decide) ?_
  have kf : ¬ (D.getD x 0 = 1 ∧ D.getD (x + 1) 0 = 1) → jj G kRW_isOne d Q rc rs 26 [some (.ref w), some (.int (nI x))] [] M := by
    intro h
    rw [if_neg h] at k
    refine jj_iconst (pc := 26) (v := 0) kRW_isOne_d26 (by decide) ?_
    exact jj_iret (pc := 27) kRW_isOne_d27 rfl rfl k
  refine jj_icmp_ne (pc := 7) (tgt := 26) kRW_isOne_d7 (by decide) (fun c => kf fun h => c h.1) (fun c => ?_)
  refine jj_aload_n (pc := 10) kRW_isOne_d10 rfl ?_
  refine jj_getf (pc := 11) kRW_isOne_d11 (kfRW_d hG) hw rfl ?_
  refine jj_iload_n (pc := 14) kRW_isOne_d14 rfl ?_
  refine jj_iconst (pc := 15) (v := 1) kRW_isOne_d15 (by decide) ?_
  refine jj_iadd (pc := 16) kRW_isOne_d16 ?_
  refine jj_iald (pc := 17) kRW_isOne_d17 (kG_t hG rfl) hd (i := x + 1) (by rw [show (1 : Int32) = nI 1 from rfl, nI_add]) (by rw [List.length_map]; exact hl) (gd_int (by omega)) ?_
  refine jj_iconst (pc := 18) (v := 1) kRW_isOne_d18 (by decide) ?_
  refine jj_icmp_ne (pc := 19) (tgt := 26) kRW_isOne_d19 (by decide) (fun c2 => kf fun h => c2 h.2) (fun c2 => ?_)
  rw [if_pos ⟨c, c2⟩] at k
  refine jj_iconst (pc := 22) (v := 1) kRW_isOne_d22 (by decide) ?_
  refine jj_goto (pc := 23) (tgt := 27) kRW_isOne_d23 (by decide) ?_
  exact jj_iret (pc := 27) kRW_isOne_d27 rfl rfl k

end RW5
