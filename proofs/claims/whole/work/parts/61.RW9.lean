/-! ===== Wholes.combine, add, subtract (printed by wip/gen/rw9.py) ===== -/
theorem RI.neg {D : List Int32} {T p : Nat} {z : Int} (h : RI D T p z) (hT : T < 2 ^ 31) : D.getD p 0 < 0 ↔ z < 0 := by
  obtain ⟨r, h1, h2, h3, h4, h5⟩ := h
  rw [h2]
  by_cases hz : z < 0
  · rw [if_pos hz]
    have hr : 0 < r := by
      rcases Nat.eq_zero_or_pos r with e | e
      · subst e
        have : (0 : Nat) = z.natAbs := h5
        omega
      · exact e
    refine ⟨fun _ => hz, fun _ => ?_⟩
    rw [Int32.lt_iff_toInt_lt, Int32.toInt_neg, nI_toInt (by omega), show (0 : Int32).toInt = 0 by decide, Int.bmod_eq_of_le (by omega) (by omega)]
    omega
  · rw [if_neg hz]
    exact ⟨fun h => absurd (nI_le (Nat.zero_le r) (by omega)) (Int32.not_le.mpr h), fun h => absurd h hz⟩
theorem cmpI_lt {a b : Nat} : cmpI a b < 0 ↔ a < b := by
  unfold cmpI
  by_cases h : a = b
  · rw [if_pos h]
    exact ⟨fun h => absurd h (by decide), fun _ => by omega⟩
  · rw [if_neg h]
    by_cases h2 : b ≤ a
    · rw [if_pos h2]
      exact ⟨fun h => absurd h (by decide), fun _ => by omega⟩
    · rw [if_neg h2]
      exact ⟨fun _ => by omega, fun _ => by decide⟩
section RW9
variable {G : jg} {d : Nat} {Q : jq} {rc rs : Nat} {M : mheap} {w : Nat} {v2 : Value} {D : List Int32}
theorem rs_combine {x y T cm X Z a : Nat} {zx zy zr : Int} {t : Int32} (hG : kG G) (hS : RS M w D T v2 cm X Z rc rs) (hx : RI D T x zx) (hy : RI D T y zy) (ha : zx.natAbs < 32768 ^ a) (hb : zy.natAbs < 32768 ^ a) (hT : T + a + 2 ≤ cm) (ht : (t = 0 ∧ zr = zx + zy) ∨ (t = 1 ∧ zr = zx - zy))
    (k : RP Q M w D T v2 cm X Z (T + a + 2) zr) : jj G kRW_combine (d + 4) Q rc rs 0 (jj_ent [.ref w, .int (nI x), .int (nI y), .int t] 6) [] M := by
  show jj G kRW_combine (d + 4) Q rc rs 0 [some (.ref w), some (.int (nI x)), some (.int (nI y)), some (.int t), none, none] [] M
  obtain ⟨hS0, hB, hTD, hz, hp⟩ := id hS
  obtain ⟨dd, hw, hd⟩ := id hS0
  obtain ⟨n, x1, x2, x3, x4, x5⟩ := id hx
  obtain ⟨m, y1, y2, y3, y4, y5⟩ := id hy
  have hcap := hB.cap
  have hl : D.length < 2 ^ 31 := by omega
  have hnx := hx.neg (by omega)
  have hny := hy.neg (by omega)
  have k' : ∀ E v, E ≤ T + a + 2 → v = zr → RP Q M w D T v2 cm X Z E v := by
    intro E v hE hv M' D' T' p rc' rs' h1 h2 h3 h4 h5 h6
    exact k M' D' T' p rc' rs' h1 h2 (by omega) h4 h5 (hv ▸ h6)
  have k41 : ∀ sa sb : Int32, (sa = 0 ∧ ¬ zx < 0 ∨ sa = 1 ∧ zx < 0) → (sb = 0 ∧ zx ≤ zr ∨ sb = 1 ∧ zr ≤ zx) → jj G kRW_combine (d + 4) Q rc rs 41 [some (.ref w), some (.int (nI x)), some (.int (nI y)), some (.int t), some (.int sa), some (.int sb)] [] M := by
    intro sa sb h1 h2
    refine jj_iload (pc := 41) kRW_combine_d41 rfl ?_
    refine jj_iload (pc := 43) kRW_combine_d43 rfl ?_
    refine jj_icmp_ne (pc := 45) (tgt := 57) kRW_combine_d45 (by decide) (fun c => ?_) (fun c => ?_)
    · have x6 := nI_iabs (by omega) x2
      have y6 := nI_iabs (by omega) y2
      refine jj_aload_n (pc := 57) kRW_combine_d57 rfl ?_
      refine jj_iload_n (pc := 58) kRW_combine_d58 rfl ?_
      refine jj_iload_n (pc := 59) kRW_combine_d59 rfl ?_
      refine jj_callV (pc := 60) (b := w) (As := [.int (nI x), .int (nI y)]) kRW_combine_d60 (kvRW_RW_orderSizes hG) (kG_cl hG rfl) rfl hw rfl rfl rfl (Nat.le_of_ble_eq_true rfl) (Nat.le_of_ble_eq_true rfl) (jj_bare0 rfl) ?_
      refine rs_orderSizes hG hS0 hl x6 y6 (by omega) (by omega) ?_
      show jj G kRW_combine (d + 4) Q rc rs 63 [some (.ref w), some (.int (nI x)), some (.int (nI y)), some (.int t), some (.int sa), some (.int sb)] [.int (osz D x y n m)] M
      rw [osz_val x3 y3 x4 y4, x5, y5]
      refine jj_if_lt (pc := 63) (tgt := 77) kRW_combine_d63 (by decide) (fun c2 => ?_) (fun c2 => ?_)
      · have c3 := cmpI_lt.mp c2
        refine jj_aload_n (pc := 77) kRW_combine_d77 rfl ?_
        refine jj_iload_n (pc := 78) kRW_combine_d78 rfl ?_
        refine jj_iload_n (pc := 79) kRW_combine_d79 rfl ?_
        refine jj_iload (pc := 80) kRW_combine_d80 rfl ?_
        refine jj_callV (pc := 82) (b := w) (As := [.int (nI y), .int (nI x), .int sb]) kRW_combine_d82 (kvRW_RW_lessSizes hG) (kG_cl hG rfl) rfl hw rfl rfl rfl (Nat.le_of_ble_eq_true rfl) (Nat.le_of_ble_eq_true rfl) (jj_bare0 rfl) ?_
        refine rs_lessSizes hG hS hy hx hb (by omega) (by omega) (fun M1 D1 T1 p rc1 rs1 h3 h4 h5 h6 h7 h8 => ?_)
        show jj G kRW_combine (d + 4) Q rc1 rs1 85 _ [.int (nI p)] M1
        have e : sgnI sb (zy.natAbs - zx.natAbs) = zr := by
          unfold sgnI
          rcases h1 with ⟨e1, g1⟩ | ⟨e1, g1⟩ <;> rcases h2 with ⟨e2, g2⟩ | ⟨e2, g2⟩ <;> subst e1 e2
          · exact absurd rfl c
          · rw [if_neg (by decide)]; rcases ht with ⟨_, g⟩ | ⟨_, g⟩ <;> omega
          · rw [if_pos rfl]; rcases ht with ⟨_, g⟩ | ⟨_, g⟩ <;> omega
          · exact absurd rfl c
        exact jj_iret (pc := 85) kRW_combine_d85 rfl rfl (k' _ _ (by omega) e M1 D1 T1 p rc1 rs1 h3 h4 h5 h6 h7 h8)
      · have c3 : ¬ zx.natAbs < zy.natAbs := fun h => c2 (cmpI_lt.mpr h)
        refine jj_aload_n (pc := 66) kRW_combine_d66 rfl ?_
        refine jj_iload_n (pc := 67) kRW_combine_d67 rfl ?_
        refine jj_iload_n (pc := 68) kRW_combine_d68 rfl ?_
        refine jj_iload (pc := 69) kRW_combine_d69 rfl ?_
        refine jj_callV (pc := 71) (b := w) (As := [.int (nI x), .int (nI y), .int sa]) kRW_combine_d71 (kvRW_RW_lessSizes hG) (kG_cl hG rfl) rfl hw rfl rfl rfl (Nat.le_of_ble_eq_true rfl) (Nat.le_of_ble_eq_true rfl) (jj_bare0 rfl) ?_
        refine rs_lessSizes hG hS hx hy ha (by omega) (by omega) (fun M1 D1 T1 p rc1 rs1 h3 h4 h5 h6 h7 h8 => ?_)
        show jj G kRW_combine (d + 4) Q rc1 rs1 74 [some (.ref w), some (.int (nI x)), some (.int (nI y)), some (.int t), some (.int sa), some (.int sb)] [.int (nI p)] M1
        have e : sgnI sa (zx.natAbs - zy.natAbs) = zr := by
          unfold sgnI
          rcases h1 with ⟨e1, g1⟩ | ⟨e1, g1⟩ <;> rcases h2 with ⟨e2, g2⟩ | ⟨e2, g2⟩ <;> subst e1 e2
          · exact absurd rfl c
          · rw [if_pos rfl]; rcases ht with ⟨_, g⟩ | ⟨_, g⟩ <;> omega
          · rw [if_neg (by decide)]; rcases ht with ⟨_, g⟩ | ⟨_, g⟩ <;> omega
          · exact absurd rfl c
        refine jj_goto (pc := 74) (tgt := 85) kRW_combine_d74 (by decide) ?_
        exact jj_iret (pc := 85) kRW_combine_d85 rfl rfl (k' _ _ (by omega) e M1 D1 T1 p rc1 rs1 h3 h4 h5 h6 h7 h8)
    · subst c
      have e : sgnI sa (zx.natAbs + zy.natAbs) = zr := by
        unfold sgnI
        rcases h1 with ⟨e1, g1⟩ | ⟨e1, g1⟩ <;> rcases h2 with ⟨e2, g2⟩ | ⟨e2, g2⟩
        · rw [if_pos e1]; rcases ht with ⟨_, g⟩ | ⟨_, g⟩ <;> omega
        · exact absurd (e1.symm.trans e2) (by decide)
        · exact absurd (e1.symm.trans e2) (by decide)
        · rw [if_neg (by rw [e1]; decide)]; rcases ht with ⟨_, g⟩ | ⟨_, g⟩ <;> omega
      refine jj_aload_n (pc := 48) kRW_combine_d48 rfl ?_
      refine jj_iload_n (pc := 49) kRW_combine_d49 rfl ?_
      refine jj_iload_n (pc := 50) kRW_combine_d50 rfl ?_
      refine jj_iload (pc := 51) kRW_combine_d51 rfl ?_
      refine jj_callV (pc := 53) (b := w) (As := [.int (nI x), .int (nI y), .int sa]) kRW_combine_d53 (kvRW_RW_sumSizes hG) (kG_cl hG rfl) rfl hw rfl rfl rfl (Nat.le_of_ble_eq_true rfl) (Nat.le_of_ble_eq_true rfl) (jj_bare0 rfl) ?_
      refine rs_sumSizes hG hS hx hy ha hb hT (fun M1 D1 T1 p rc1 rs1 h3 h4 h5 h6 h7 h8 => ?_)
      show jj G kRW_combine (d + 4) Q rc1 rs1 56 _ [.int (nI p)] M1
      exact jj_iret (pc := 56) kRW_combine_d56 rfl rfl (k' _ _ (by omega) e M1 D1 T1 p rc1 rs1 h3 h4 h5 h6 h7 h8)
  have k30 : ∀ sa s : Int32, (sa = 0 ∧ ¬ zx < 0 ∨ sa = 1 ∧ zx < 0) → (s = 0 ∧ ¬ zy < 0 ∨ s = 1 ∧ zy < 0) → jj G kRW_combine (d + 4) Q rc rs 30 [some (.ref w), some (.int (nI x)), some (.int (nI y)), some (.int t), some (.int sa), none] [.int s] M := by
    intro sa s h1 h2
    refine jj_iload_n (pc := 30) kRW_combine_d30 rfl ?_
    refine jj_icmp_eq (pc := 31) (tgt := 38) kRW_combine_d31 (by decide) (fun c => ?_) (fun c => ?_)
    · refine jj_iconst (pc := 38) (v := 0) kRW_combine_d38 (by decide) ?_
      refine jj_istore (pc := 39) kRW_combine_d39 (Nat.le_of_ble_eq_true rfl) ?_
      exact k41 sa 0 h1 (Or.inl ⟨rfl, by rcases h2 with ⟨e2, g2⟩ | ⟨e2, g2⟩ <;> rcases ht with ⟨e, g⟩ | ⟨e, g⟩ <;> first | omega | exact absurd (e2.symm.trans (c.trans e)) (by decide)⟩)
    · refine jj_iconst (pc := 34) (v := 1) kRW_combine_d34 (by decide) ?_
      refine jj_goto (pc := 35) (tgt := 39) kRW_combine_d35 (by decide) ?_
      refine jj_istore (pc := 39) kRW_combine_d39 (Nat.le_of_ble_eq_true rfl) ?_
      exact k41 sa 1 h1 (Or.inr ⟨rfl, by rcases h2 with ⟨e2, g2⟩ | ⟨e2, g2⟩ <;> rcases ht with ⟨e, g⟩ | ⟨e, g⟩ <;> first | omega | exact absurd (e2.trans e.symm) c⟩)
  have k14 : ∀ sa : Int32, (sa = 0 ∧ ¬ zx < 0 ∨ sa = 1 ∧ zx < 0) → jj G kRW_combine (d + 4) Q rc rs 14 [some (.ref w), some (.int (nI x)), some (.int (nI y)), some (.int t), none, none] [.int sa] M := by
    intro sa h1
    refine jj_istore (pc := 14) kRW_combine_d14 (Nat.le_of_ble_eq_true rfl) ?_
    show jj G kRW_combine (d + 4) Q rc rs 16 [some (.ref w), some (.int (nI x)), some (.int (nI y)), some (.int t), some (.int sa), none] [] M
    refine jj_aload_n (pc := 16) kRW_combine_d16 rfl ?_
    refine jj_getf (pc := 17) kRW_combine_d17 (kfRW_d hG) hw rfl ?_
    refine jj_iload_n (pc := 20) kRW_combine_d20 rfl ?_
    refine jj_iald (pc := 21) kRW_combine_d21 (kG_t hG rfl) hd (i := y) rfl (by rw [List.length_map]; exact hl) (gd_int (by omega)) ?_
    refine jj_if_ge (pc := 22) (tgt := 29) kRW_combine_d22 (by decide) (fun c => ?_) (fun c => ?_)
    · refine jj_iconst (pc := 29) (v := 0) kRW_combine_d29 (by decide) ?_
      exact k30 sa 0 h1 (Or.inl ⟨rfl, fun h => absurd c (Int32.not_le.mpr (hny.mpr h))⟩)
    · refine jj_iconst (pc := 25) (v := 1) kRW_combine_d25 (by decide) ?_
      refine jj_goto (pc := 26) (tgt := 30) kRW_combine_d26 (by decide) ?_
      exact k30 sa 1 h1 (Or.inr ⟨rfl, hny.mp (Int32.not_le.mp c)⟩)
  refine jj_aload_n (pc := 0) kRW_combine_d0 rfl ?_
  refine jj_getf (pc := 1) kRW_combine_d1 (kfRW_d hG) hw rfl ?_
  refine jj_iload_n (pc := 4) kRW_combine_d4 rfl ?_
  refine jj_iald (pc := 5) kRW_combine_d5 (kG_t hG rfl) hd (i := x) rfl (by rw [List.length_map]; exact hl) (gd_int (by omega)) ?_
  refine jj_if_ge (pc := 6) (tgt := 13) kRW_combine_d6 (by decide) (fun c => ?_) (fun c => ?_)
  · refine jj_iconst (pc := 13) (v := 0) kRW_combine_d13 (by decide) ?_
    exact k14 0 (Or.inl ⟨rfl, fun h => absurd c (Int32.not_le.mpr (hnx.mpr h))⟩)
  · refine jj_iconst (pc := 9) (v := 1) kRW_combine_d9 (by decide) ?_
    refine jj_goto (pc := 10) (tgt := 14) kRW_combine_d10 (by decide) ?_
    exact k14 1 (Or.inr ⟨rfl, hnx.mp (Int32.not_le.mp c)⟩)
theorem rs_add {x y T cm X Z a : Nat} {zx zy : Int} (hG : kG G) (hS : RS M w D T v2 cm X Z rc rs) (hx : RI D T x zx) (hy : RI D T y zy) (ha : zx.natAbs < 32768 ^ a) (hb : zy.natAbs < 32768 ^ a) (hT : T + a + 2 ≤ cm)
    (k : RP Q M w D T v2 cm X Z (T + a + 2) (zx + zy)) : jj G kRW_add (d + 5) Q rc rs 0 (jj_ent [.ref w, .int (nI x), .int (nI y)] 3) [] M := by
  show jj G kRW_add (d + 5) Q rc rs 0 [some (.ref w), some (.int (nI x)), some (.int (nI y))] [] M
  obtain ⟨dd, hw, hd⟩ := hS.1
  refine jj_aload_n (pc := 0) kRW_add_d0 rfl ?_
  refine jj_iload_n (pc := 1) kRW_add_d1 rfl ?_
  refine jj_iload_n (pc := 2) kRW_add_d2 rfl ?_
  refine jj_iconst (pc := 3) (v := 0) kRW_add_d3 (by decide) ?_
  refine jj_callV (pc := 4) (b := w) (As := [.int (nI x), .int (nI y), .int 0]) kRW_add_d4 (kvRW_RW_combine hG) (kG_cl hG rfl) rfl hw rfl rfl rfl (Nat.le_of_ble_eq_true rfl) (Nat.le_of_ble_eq_true rfl) (jj_bare0 rfl) ?_
  refine rs_combine hG hS hx hy ha hb hT (Or.inl ⟨rfl, rfl⟩) (fun M1 D1 T1 p rc1 rs1 h3 h4 h5 h6 h7 h8 => ?_)
  show jj G kRW_add (d + 5) Q rc1 rs1 7 _ [.int (nI p)] M1
  exact jj_iret (pc := 7) kRW_add_d7 rfl rfl (k M1 D1 T1 p rc1 rs1 h3 h4 h5 h6 h7 h8)

theorem rs_subtract {x y T cm X Z a : Nat} {zx zy : Int} (hG : kG G) (hS : RS M w D T v2 cm X Z rc rs) (hx : RI D T x zx) (hy : RI D T y zy) (ha : zx.natAbs < 32768 ^ a) (hb : zy.natAbs < 32768 ^ a) (hT : T + a + 2 ≤ cm)
    (k : RP Q M w D T v2 cm X Z (T + a + 2) (zx - zy)) : jj G kRW_subtract (d + 5) Q rc rs 0 (jj_ent [.ref w, .int (nI x), .int (nI y)] 3) [] M := by
  show jj G kRW_subtract (d + 5) Q rc rs 0 [some (.ref w), some (.int (nI x)), some (.int (nI y))] [] M
  obtain ⟨dd, hw, hd⟩ := hS.1
  refine jj_aload_n (pc := 0) kRW_subtract_d0 rfl ?_
  refine jj_iload_n (pc := 1) kRW_subtract_d1 rfl ?_
  refine jj_iload_n (pc := 2) kRW_subtract_d2 rfl ?_
  refine jj_iconst (pc := 3) (v := 1) kRW_subtract_d3 (by decide) ?_
  refine jj_callV (pc := 4) (b := w) (As := [.int (nI x), .int (nI y), .int 1]) kRW_subtract_d4 (kvRW_RW_combine hG) (kG_cl hG rfl) rfl hw rfl rfl rfl (Nat.le_of_ble_eq_true rfl) (Nat.le_of_ble_eq_true rfl) (jj_bare0 rfl) ?_
  refine rs_combine hG hS hx hy ha hb hT (Or.inr ⟨rfl, rfl⟩) (fun M1 D1 T1 p rc1 rs1 h3 h4 h5 h6 h7 h8 => ?_)
  show jj G kRW_subtract (d + 5) Q rc1 rs1 7 _ [.int (nI p)] M1
  exact jj_iret (pc := 7) kRW_subtract_d7 rfl rfl (k M1 D1 T1 p rc1 rs1 h3 h4 h5 h6 h7 h8)

end RW9
