/-! ===== Wholes.moved, leading, takes, of, length (printed by wip/gen/rw12.py) ===== -/
section RW12
variable {G : jg} {d : Nat} {Q : jq} {rc rs : Nat} {M : mheap} {w : Nat} {v2 : Value} {D : List Int32}
theorem ri_moved {x to T Tm cm X Z a : Nat} {z : Int} (hG : kG G) (hS : RS M w D T v2 cm X Z rc rs) (hx : RI D Tm x z) (hTm : Tm ≤ D.length) (hto : to ≤ x ∨ x = 0) (h0 : 0 < to) (hb : to ≤ D.length) (ha : z.natAbs < 32768 ^ a)
    (k : ∀ M' D' T' p, RS M' w D' T' v2 cm X Z rc rs → D'.length = D.length → to ≤ T' ∧ (T' = to ∨ T' ≤ Tm) → T' ≤ to + a + 1 → (∀ i, i < to ∨ to + a < i ∨ Tm ≤ i → D'.getD i 0 = D.getD i 0) → RF M M' w → RI D' T' p z → (p = 0 → T' = to) → (p ≠ 0 → p = to ∧ ∃ r, iabs (D'.getD p 0) = nI r ∧ T' = to + r + 1) → Q (.returned (some (.int (nI p)))) M' rc rs) : jj G kRW_moved (d + 1) Q rc rs 0 (jj_ent [.ref w, .int (nI x), .int (nI to)] 5) [] M := by
  obtain ⟨hS0, hB, hTD, hz, hp⟩ := id hS
  obtain ⟨dd, hw, hd⟩ := id hS0
  obtain ⟨n, x1, x2, x3, x4, x5⟩ := id hx
  have hcap := hB.cap
  have hl : D.length < 2 ^ 31 := by omega
  have hwd : w ≠ dd := fun e => by subst e; rw [hw] at hd; cases hd
  have xn := RI.len x3 x4 x5 ha
  have x6 := nI_iabs (by omega) x2
  show jj G kRW_moved (d + 1) Q rc rs 0 [some (.ref w), some (.int (nI (x))), some (.int (nI (to))), none, none] [] M
  refine jj_iload_n (pc := 0) kRW_moved_d0 rfl ?_
  refine jn_if_ne (pc := 1) (tgt := 11) kRW_moved_d1 (by decide) (by omega) (fun c => ?_) (fun c => ?_)
  · skip
    refine jj_aload_n (pc := 11) kRW_moved_d11 rfl ?_
    refine jj_iload_n (pc := 12) kRW_moved_d12 rfl ?_
    refine jj_callV (pc := 13) (b := w) (As := [.int (nI (x))]) kRW_moved_d13 (kvRW_RW_digits hG) (kG_cl hG rfl) rfl hw rfl rfl rfl (Nat.le_of_ble_eq_true rfl) (Nat.le_of_ble_eq_true rfl) (jj_bare0 rfl) ?_
    refine rw_digits hG hw hd hl (by omega) ?_
    show jj G kRW_moved (d + 1) Q rc rs 16 [some (.ref w), some (.int (nI (x))), some (.int (nI (to))), none, none] [.int (iabs (D.getD x 0))] M
    refine jn_top (.int (nI (n))) (by rw [x6]) ?_
    refine jj_istore_n (pc := 16) kRW_moved_d16 (Nat.le_of_ble_eq_true rfl) ?_
    refine jn_iconst (pc := 17) 0 kRW_moved_d17 (by decide) ?_
    refine jj_istore (pc := 18) kRW_moved_d18 (Nat.le_of_ble_eq_true rfl) ?_
    show jj G kRW_moved (d + 1) Q rc rs 20 [some (.ref w), some (.int (nI (x))), some (.int (nI (to))), some (.int (nI (n))), some (.int (nI (0)))] [] M
    have loop : ∀ j k, n + 1 = k + j → ∀ (M2 : mheap) (D2 : List Int32), RW M2 w D2 T v2 → D2.length = D.length → RF M M2 w → (∀ i, i < k → D2.getD (to + i) 0 = D.getD (x + i) 0) → (∀ i, i < to ∨ to + k ≤ i → D2.getD i 0 = D.getD i 0) → jj G kRW_moved (d + 1) Q rc rs 20 [some (.ref w), some (.int (nI (x))), some (.int (nI (to))), some (.int (nI (n))), some (.int (nI (k)))] [] M2 := by
      intro j
      induction j with
      | zero =>
        intro k' hk M2 D2 hS2 hlen hf2 hc ho
        obtain ⟨dd2, hw2, hd2⟩ := id hS2
        have hwd2 : w ≠ dd2 := fun e => by subst e; rw [hw2] at hd2; cases hd2
        have hl2 : D2.length < 2 ^ 31 := by omega
        have e : k' = n + 1 := by omega
        subst e
        refine jj_iload (pc := 20) kRW_moved_d20 rfl ?_
        refine jj_iload_n (pc := 22) kRW_moved_d22 rfl ?_
        refine jn_icmp_gt (pc := 23) (tgt := 50) kRW_moved_d23 (by decide) (by omega) (by omega) (fun _ => ?_) (fun c => by exfalso; omega)
        refine jj_aload_n (pc := 50) kRW_moved_d50 rfl ?_
        refine jj_iload_n (pc := 51) kRW_moved_d51 rfl ?_
        refine jj_iload_n (pc := 52) kRW_moved_d52 rfl ?_
        refine jn_iadd (pc := 53) (to + n) kRW_moved_d53 (by omega) ?_
        refine jn_iconst (pc := 54) 1 kRW_moved_d54 (by decide) ?_
        refine jn_iadd (pc := 55) (to + n + 1) kRW_moved_d55 (by omega) ?_
        refine jj_putf (pc := 56) kRW_moved_d56 (kpRW_top hG) hw2 (by rfl) rfl ?_
        refine jn_gen (fun M101 hM102 => ?_)
        have h103 : M101 dd2 = some (.inr 0, (D2).map .int) := by rw [hM102, jj_up_ne _ _ (Ne.symm hwd2)]; exact hd2
        have h104 : M101 w = some (.inl nRW, [.ref dd2, .int (nI (to + n + 1)), v2]) := by rw [hM102]; exact jj_up_at _ _ _
        have hF105 : RF M M101 w := by rw [hM102]; exact hf2.trans (RF.top hw2)
        refine jj_iload_n (pc := 59) kRW_moved_d59 rfl ?_
        have hz2 : ∀ i, i < to ∨ to + a < i ∨ Tm ≤ i → D2.getD i 0 = D.getD i 0 := fun i hi => ho i (by omega)
        have hn0 : 0 < n := by omega
        have hz0 : z ≠ 0 := fun e => by have := (rnat_eq0 x3 x4).mp (by rw [x5, e]; rfl); omega
        have hd0 : D2.getD to 0 = D.getD x 0 := by have := hc 0 (by omega); rw [Nat.add_zero, Nat.add_zero] at this; exact this
        refine jj_iret (pc := 60) kRW_moved_d60 rfl (by rfl) (k _ D2 (to + n + 1) to ⟨⟨dd2, h104, h103⟩, hB.same hlen, by omega, by rw [ho 0 (by omega)]; exact hz, by omega⟩ hlen (by omega) (by omega) hz2 hF105 (RI.moved hn0 x3 x4 x5 (fun i g1 g2 => hc i (by omega)) rfl (by rw [hd0]; exact x2)) (fun e => by omega) (fun _ => ⟨rfl, n, by rw [hd0]; exact x6, by omega⟩))
      | succ j ih =>
        intro k hk M2 D2 hS2 hlen hf2 hc ho
        obtain ⟨dd2, hw2, hd2⟩ := id hS2
        have hwd2 : w ≠ dd2 := fun e => by subst e; rw [hw2] at hd2; cases hd2
        have hl2 : D2.length < 2 ^ 31 := by omega
        have hv : D2.getD (x + k) 0 = D.getD (x + k) 0 := ho _ (by omega)
        refine jj_iload (pc := 20) kRW_moved_d20 rfl ?_
        refine jj_iload_n (pc := 22) kRW_moved_d22 rfl ?_
        refine jn_icmp_gt (pc := 23) (tgt := 50) kRW_moved_d23 (by decide) (by omega) (by omega) (fun c => by exfalso; omega) (fun _ => ?_)
        refine jj_aload_n (pc := 26) kRW_moved_d26 rfl ?_
        refine jj_getf (pc := 27) kRW_moved_d27 (kfRW_d hG) hw2 rfl ?_
        refine jj_iload_n (pc := 30) kRW_moved_d30 rfl ?_
        refine jj_iload (pc := 31) kRW_moved_d31 rfl ?_
        refine jn_iadd (pc := 33) (to + k) kRW_moved_d33 (by omega) ?_
        refine jj_aload_n (pc := 34) kRW_moved_d34 rfl ?_
        refine jj_getf (pc := 35) kRW_moved_d35 (kfRW_d hG) hw2 rfl ?_
        refine jj_iload_n (pc := 38) kRW_moved_d38 rfl ?_
        refine jj_iload (pc := 39) kRW_moved_d39 rfl ?_
        refine jn_iadd (pc := 41) (x + k) kRW_moved_d41 (by omega) ?_
        refine jn_iald (pc := 42) (v := (D.getD (x + k) 0)) kRW_moved_d42 (kG_t hG rfl) hd2 hl2 (by omega) (hv) ?_
        refine jn_iast (pc := 43) kRW_moved_d43 (kG_t hG rfl) hd2 hl2 (by omega) ?_
        refine jn_gen (fun M106 hM107 => ?_)
        have h108 : M106 w = some (.inl nRW, [.ref dd2, .int (nI (T)), v2]) := by rw [hM107, jj_up_ne _ _ hwd2]; exact hw2
        have h109 : M106 dd2 = some (.inr 0, ((D2).set (to + k) ((D.getD (x + k) 0))).map .int) := by rw [hM107]; exact jj_up_at _ _ _
        have hF110 : RF M M106 w := by rw [hM107]; exact hf2.trans (RF.put hw2 hwd2)
        refine jn_iinc (pc := 44) (k + 1) kRW_moved_d44 rfl (nI_1 _) ?_
        refine jj_goto (pc := 47) (tgt := 20) kRW_moved_d47 (by decide) ?_
        show jj G kRW_moved (d + 1) Q rc rs 20 [some (.ref w), some (.int (nI (x))), some (.int (nI (to))), some (.int (nI (n))), some (.int (nI (k + 1)))] [] M106
        exact ih (k + 1) (by omega) _ (D2.set (to + k) (D.getD (x + k) 0)) ⟨dd2, h108, h109⟩ (by rw [List.length_set]; exact hlen) hF110 (fun i hi => by
          by_cases e : i = k
          · subst e; exact gd_set_eq (by omega)
          · rw [gd_set_ne (by omega)]; exact hc i (by omega)) (fun i hi => by rw [gd_set_ne (by omega)]; exact ho i (by omega))
    exact loop (n + 1) 0 (by omega) M D hS0 rfl (RF.refl M w) (fun i hi => by omega) (fun i _ => rfl)
  · skip
    subst c
    refine jj_aload_n (pc := 4) kRW_moved_d4 rfl ?_
    refine jj_iload_n (pc := 5) kRW_moved_d5 rfl ?_
    refine jj_putf (pc := 6) kRW_moved_d6 (kpRW_top hG) hw (by rfl) rfl ?_
    refine jn_gen (fun M111 hM112 => ?_)
    have h113 : M111 dd = some (.inr 0, (D).map .int) := by rw [hM112, jj_up_ne _ _ (Ne.symm hwd)]; exact hd
    have h114 : M111 w = some (.inl nRW, [.ref dd, .int (nI (to)), v2]) := by rw [hM112]; exact jj_up_at _ _ _
    have hF115 : RF M M111 w := by rw [hM112]; exact (RF.refl M w).trans (RF.top hw)
    refine jn_iconst (pc := 9) 0 kRW_moved_d9 (by decide) ?_
    have e0 : n = 0 := by
      rw [hz] at x6
      exact nI_inj (by omega) (by decide) (x6.symm.trans (show iabs 0 = nI 0 by decide))
    have ez : z = 0 := by rw [e0] at x5; have : (0 : Nat) = z.natAbs := x5; omega
    subst ez
    refine jj_iret (pc := 10) kRW_moved_d10 rfl (by rfl) (k _ D to 0 ⟨⟨dd, h114, h113⟩, hB, hb, hz, h0⟩ rfl (by omega) (by omega) (fun _ _ => rfl) hF115 (RI.zero hz h0) (fun _ => rfl) (fun h => absurd rfl h))
theorem rw_leading {r n m T : Nat} (hG : kG G) (hS : RW M w D T v2) (hl : D.length < 2 ^ 31) (hm : 0 < m) (hr : r + m + 1 < D.length) (hD : RD D r m) (hn : n = m ∨ n = m + 1 ∧ ∃ v, v < 32768 ∧ D.getD (r + (m + 1)) 0 = nI v)
    (k : ∀ L, lead3 m (rnat D r m + (if n = m then 0 else dv D (r + (m + 1))) * 32768 ^ m) L → L < 32768 ^ 4 → Q (.returned (some (.long (lN L)))) M rc rs) : jj G kRW_leading d Q rc rs 0 (jj_ent [.ref w, .int (nI (r + 1)), .int (nI n), .int (nI m)] 7) [] M := by
  obtain ⟨dd, hw, hd⟩ := id hS
  have hv : (if n = m then 0 else dv D (r + (m + 1))) < 32768 := by
    split
    · decide
    · rcases hn with h | ⟨-, v, h1, h2⟩
      · omega
      · rw [dv_nI h2 (by omega)]; exact h1
  have k1 := k (leadv D r m (if n = m then 0 else dv D (r + (m + 1)))) (leadv_val _ hD hm) (leadv_lt hD hm hv)
  have hdr : ∀ j, j < m → D.getD (r + 1 + j) 0 = nI (dv D (r + 1 + j)) ∧ dv D (r + 1 + j) < 32768 := fun j hj => by
    have := hD.dv (i := j + 1) (by omega) (by omega)
    rw [show r + 1 + j = r + (j + 1) by omega]
    exact ⟨this.2, this.1⟩
  generalize hV : (if n = m then 0 else dv D (r + (m + 1))) = V at hv k1
  have turn : ∀ (k v g : Nat) (z : Int), v < 32768 ^ 3 → -10 < z → z < m → (m : Int) - 3 ≤ z → (z < 0 → g = 0) → (0 ≤ z → g = dv D (r + 1 + z.toNat)) → jj G kRW_leading d Q rc rs 25 [some (.ref w), some (.int (nI (r + 1))), some (.int (nI n)), some (.int (nI m)), some (.long (lN (v * 32768 + g))), none, some (.int (zI (z - 1)))] [] M → jj G kRW_leading d Q rc rs 25 [some (.ref w), some (.int (nI (r + 1))), some (.int (nI n)), some (.int (nI m)), some (.long (lN v)), none, some (.int (zI z))] [] M := by
    intro k v g z hv3 z1 z2 z3 g0 g1 kk
    refine jj_iload (pc := 25) kRW_leading_d25 rfl ?_
    refine jj_iload_n (pc := 27) kRW_leading_d27 rfl ?_
    refine jn_iconst (pc := 28) 3 kRW_leading_d28 (by decide) ?_
    refine jz_isub (pc := 29) ((m : Int) - 3) kRW_leading_d29 (zI_nat m).symm (zI_nat 3).symm rfl ?_
    refine jz_icmp_lt (pc := 30) (tgt := 67) (a := z) (b := (m : Int) - 3) kRW_leading_d30 (by decide) rfl rfl (by omega) (by omega) (by omega) (by omega) (fun c => by exfalso; omega) (fun _ => ?_)
    refine jj_lload (pc := 33) kRW_leading_d33 rfl ?_
    refine jj_ldc2 (pc := 35) kRW_leading_d35 (kcRW_32768 hG) ?_
    refine jj_lmul (pc := 38) kRW_leading_d38 ?_
    refine jn_top (.long (lN (v * 32768))) (congrArg Value.long (by rw [show (32768 : Int64) = lN 32768 from rfl, lN_mul])) ?_
    have k58 : jj G kRW_leading d Q rc rs 58 [some (.ref w), some (.int (nI (r + 1))), some (.int (nI n)), some (.int (nI m)), some (.long (lN v)), none, some (.int (zI z))] [.long (lN g), .long (lN (v * 32768))] M := by
      refine jj_ladd (pc := 58) kRW_leading_d58 ?_
      refine jn_top (.long (lN (v * 32768 + g))) (congrArg Value.long (lN_add ..)) ?_
      refine jj_lstore (pc := 59) kRW_leading_d59 (Nat.le_of_ble_eq_true rfl) ?_
      refine jz_iinc (pc := 61) (z - 1) kRW_leading_d61 rfl rfl (by omega) ?_
      refine jj_goto (pc := 64) (tgt := 25) kRW_leading_d64 (by decide) ?_
      exact kk
    refine jj_iload (pc := 39) kRW_leading_d39 rfl ?_
    refine jz_if_lt (pc := 41) (tgt := 57) (a := z) kRW_leading_d41 (by decide) rfl (by omega) (by omega) (fun c => ?_) (fun c => ?_)
    · refine jj_lconst (pc := 57) (v := lN 0) kRW_leading_d57 (by decide) ?_
      rw [g0 c] at k58
      exact k58
    · obtain ⟨j, rfl⟩ : ∃ j : Nat, z = (j : Int) := ⟨z.toNat, by omega⟩
      have e := g1 c
      rw [Int.toNat_natCast] at e
      obtain ⟨q1, q2⟩ := hdr j (by omega)
      refine jj_aload_n (pc := 44) kRW_leading_d44 rfl ?_
      refine jj_getf (pc := 45) kRW_leading_d45 (kfRW_d hG) hw rfl ?_
      refine jj_iload_n (pc := 48) kRW_leading_d48 rfl ?_
      refine jj_iload (pc := 49) kRW_leading_d49 rfl ?_
      refine jn_top (.int (nI j)) (congrArg Value.int (zI_nat j)) ?_
      refine jn_iadd (pc := 51) (r + 1 + j) kRW_leading_d51 rfl ?_
      refine jn_iald (pc := 52) (v := nI g) kRW_leading_d52 (kG_t hG rfl) hd hl (by omega) (by rw [e]; exact q1) ?_
      refine jj_i2l (pc := 53) kRW_leading_d53 ?_
      refine jn_top (.long (lN g)) (congrArg Value.long (nI_l (by omega))) ?_
      refine jj_goto (pc := 54) (tgt := 58) kRW_leading_d54 (by decide) ?_
      exact k58
  have k18 : jj G kRW_leading d Q rc rs 18 [some (.ref w), some (.int (nI (r + 1))), some (.int (nI n)), some (.int (nI m)), none, none, none] [.long (lN V)] M := by
    refine jj_lstore (pc := 18) kRW_leading_d18 (Nat.le_of_ble_eq_true rfl) ?_
    refine jj_iload_n (pc := 20) kRW_leading_d20 rfl ?_
    refine jn_iconst (pc := 21) 1 kRW_leading_d21 (by decide) ?_
    refine jz_isub (pc := 22) ((m : Int) - 1) kRW_leading_d22 (zI_nat m).symm (zI_nat 1).symm rfl ?_
    refine jj_istore (pc := 23) kRW_leading_d23 (Nat.le_of_ble_eq_true rfl) ?_
    have b1 := (hdr (m - 1) (by omega)).2
    have f1 : r + 1 + (m - 1) = r + m := by omega
    rw [f1] at b1
    have b2 : (if 2 ≤ m then dv D (r + m - 1) else 0) < 32768 := by
      split
      · have := (hdr (m - 2) (by omega)).2
        rw [show r + 1 + (m - 2) = r + m - 1 by omega] at this
        exact this
      · decide
    refine turn 0 V (dv D (r + m)) ((m : Int) - 1) (by omega) (by omega) (by omega) (by omega) (fun c => by omega) (fun _ => by rw [show ((m : Int) - 1).toNat = m - 1 by omega, f1]) ?_
    refine turn 0 (V * 32768 + dv D (r + m)) (if 2 ≤ m then dv D (r + m - 1) else 0) ((m : Int) - 1 - 1) (by omega) (by omega) (by omega) (by omega) (fun c => if_neg (by omega)) (fun _ => by rw [if_pos (by omega), show ((m : Int) - 1 - 1).toNat = m - 2 by omega, show r + 1 + (m - 2) = r + m - 1 by omega]) ?_
    refine turn 0 ((V * 32768 + dv D (r + m)) * 32768 + (if 2 ≤ m then dv D (r + m - 1) else 0)) (if 3 ≤ m then dv D (r + m - 2) else 0) ((m : Int) - 1 - 1 - 1) (by omega) (by omega) (by omega) (by omega) (fun c => if_neg (by omega)) (fun _ => by rw [if_pos (by omega), show ((m : Int) - 1 - 1 - 1).toNat = m - 3 by omega, show r + 1 + (m - 3) = r + m - 2 by omega]) ?_
    refine jj_iload (pc := 25) kRW_leading_d25 rfl ?_
    refine jj_iload_n (pc := 27) kRW_leading_d27 rfl ?_
    refine jn_iconst (pc := 28) 3 kRW_leading_d28 (by decide) ?_
    refine jz_isub (pc := 29) ((m : Int) - 3) kRW_leading_d29 (zI_nat m).symm (zI_nat 3).symm rfl ?_
    refine jz_icmp_lt (pc := 30) (tgt := 67) (a := (m : Int) - 1 - 1 - 1 - 1) (b := (m : Int) - 3) kRW_leading_d30 (by decide) rfl rfl (by omega) (by omega) (by omega) (by omega) (fun c => ?_) (fun _ => by exfalso; omega)
    refine jj_lload (pc := 67) kRW_leading_d67 rfl ?_
    exact jj_lret (pc := 69) kRW_leading_d69 rfl k1
  show jj G kRW_leading d Q rc rs 0 [some (.ref w), some (.int (nI (r + 1))), some (.int (nI n)), some (.int (nI m)), none, none, none] [] M
  refine jj_iload_n (pc := 0) kRW_leading_d0 rfl ?_
  refine jj_iload_n (pc := 1) kRW_leading_d1 rfl ?_
  refine jn_icmp_le (pc := 2) (tgt := 17) kRW_leading_d2 (by decide) (by omega) (by omega) (fun c => ?_) (fun c => ?_)
  · refine jj_lconst (pc := 17) (v := lN 0) kRW_leading_d17 (by decide) ?_
    rw [if_pos (by omega)] at hV
    rw [hV]
    exact k18
  · rcases hn with h | ⟨h, v, h1, h2⟩
    · omega
    · rw [if_neg (by omega), dv_nI h2 (by omega)] at hV
      subst hV
      refine jj_aload_n (pc := 5) kRW_leading_d5 rfl ?_
      refine jj_getf (pc := 6) kRW_leading_d6 (kfRW_d hG) hw rfl ?_
      refine jj_iload_n (pc := 9) kRW_leading_d9 rfl ?_
      refine jj_iload_n (pc := 10) kRW_leading_d10 rfl ?_
      refine jn_iadd (pc := 11) (r + (m + 1)) kRW_leading_d11 (by omega) ?_
      refine jn_iald (pc := 12) (v := nI v) kRW_leading_d12 (kG_t hG rfl) hd hl (by omega) h2 ?_
      refine jj_i2l (pc := 13) kRW_leading_d13 ?_
      refine jn_top (.long (lN v)) (congrArg Value.long (nI_l (by omega))) ?_
      refine jj_goto (pc := 14) (tgt := 18) kRW_leading_d14 (by decide) ?_
      exact k18
theorem rw_takes {r y m f T : Nat} (hG : kG G) (hS : RW M w D T v2) (hl : D.length < 2 ^ 31) (hy : y + m ≤ r) (hr : r + m + 1 < D.length) (hA : RD D r (m + 1)) (hY : RD D y m) (hf : f < 32768)
    (k1 : f * rnat D y m ≤ rnat D r (m + 1) → ∀ M' D', RW M' w D' T v2 → D'.length = D.length → RF M M' w → (∀ i, i ≤ r ∨ r + m + 1 < i → D'.getD i 0 = D.getD i 0) → RD D' r (m + 1) → rnat D' r (m + 1) + f * rnat D y m = rnat D r (m + 1) → Q (.returned (some (.int (nI 1)))) M' rc rs)
    (k0 : rnat D r (m + 1) < f * rnat D y m → ∀ M' D', RW M' w D' T v2 → D'.length = D.length → RF M M' w → (∀ i, D'.getD i 0 = D.getD i 0) → Q (.returned (some (.int (nI 0)))) M' rc rs) : jj G kRW_takes d Q rc rs 0 (jj_ent [.ref w, .int (nI (r + 1)), .int (nI y), .int (nI m), .int (nI f)] 9) [] M := by
  have hmin : ∀ k, rnat D y (min (k + 1) m) = rnat D y (min k m) + (if k < m then dv D (y + (k + 1)) else 0) * 32768 ^ k := fun k => rnat_min
  have give : ∀ j k, m + 1 = k + j → ∀ (b c : Nat) (E : List Int32) (M2 : mheap) (D2 : List Int32) (b5 : Nat) (o8 : Option Value), RW M2 w D2 T v2 → D2.length = D.length → RF M M2 w → RD E r (m + 1) → (∀ i, i ≤ r ∨ r + k < i → D2.getD i 0 = E.getD i 0) → (∀ i, i ≤ r ∨ r + m + 1 < i → E.getD i 0 = D.getD i 0) → RD D2 r k → c < 32768 → rnat D2 r k + c * 32768 ^ k = rnat E r k + f * rnat D y (min k m) → rnat E r (m + 1) + f * rnat D y m = rnat D r (m + 1) + b * 32768 ^ (m + 1) → 0 < b → jj G kRW_takes d Q rc rs 99 [some (.ref w), some (.int (nI (r + 1))), some (.int (nI (y))), some (.int (nI (m))), some (.int (nI (f))), some (.int (nI (b5))), some (.int (nI (c))), some (.int (nI (k))), (o8)] [] M2 := by
    intro j
    induction j with
    | zero =>
      intro k hk b c E M2 D2 b5 o8 hS2 hlen hf2 hE ho hoE hD2 hc hr2 hb hb0
      have e : k = m + 1 := by omega
      subst e
      have em : min (m + 1) m = m := Nat.min_eq_right (by omega)
      rw [em] at hr2
      have l1 := rnat_lt hD2
      have l2 := rnat_lt hA
      have l3 := rnat_lt hE
      have hq : rnat D2 r (m + 1) = rnat D r (m + 1) := by
        have e3 : rnat D2 r (m + 1) + c * 32768 ^ (m + 1) = rnat D r (m + 1) + b * 32768 ^ (m + 1) := by omega
        have e4 := congrArg (· % 32768 ^ (m + 1)) e3
        simp only [Nat.add_mul_mod_self_right] at e4
        rw [Nat.mod_eq_of_lt l1, Nat.mod_eq_of_lt l2] at e4
        exact e4
      have hlt : rnat D r (m + 1) < f * rnat D y m := by
        have : 32768 ^ (m + 1) ≤ b * 32768 ^ (m + 1) := Nat.le_mul_of_pos_left _ hb0
        omega
      refine jj_iload (pc := 99) kRW_takes_d99 rfl ?_
      refine jj_iload_n (pc := 101) kRW_takes_d101 rfl ?_
      refine jn_icmp_gt (pc := 102) (tgt := 172) kRW_takes_d102 (by decide) (by omega) (by omega) (fun _ => ?_) (fun c => by exfalso; omega)
      refine jn_iconst (pc := 172) 0 kRW_takes_d172 (by decide) ?_
      exact jj_iret (pc := 173) kRW_takes_d173 rfl (by rfl) (k0 hlt M2 D2 hS2 hlen hf2 (fun i => by
              rcases Nat.lt_or_ge r i with h | h
              · rcases Nat.lt_or_ge (r + m + 1) i with h2 | h2
                · rw [ho i (by omega), hoE i (by omega)]
                · have := rnat_inj hD2 hA hq (i - r) (by omega) (by omega)
                  rw [show r + (i - r) = i by omega] at this
                  exact this
              · rw [ho i (by omega), hoE i (by omega)]))
    | succ j ih =>
      intro k hk b c E M2 D2 b5 o8 hS2 hlen hf2 hE ho hoE hD2 hc hr2 hb hb0
      obtain ⟨dd2, hw2, hd2⟩ := id hS2
      have hwd2 : w ≠ dd2 := fun e => by subst e; rw [hw2] at hd2; cases hd2
      have hl2 : D2.length < 2 ^ 31 := by omega
      obtain ⟨e1, e2⟩ := hE.dv (i := k + 1) (by omega) (by omega)
      have hEk : rnat E r (k + 1) = rnat E r k + dv E (r + (k + 1)) * 32768 ^ k := rfl
      revert e1 e2 hEk
      generalize dv E (r + (k + 1)) = e0
      intro e1 e2 hEk
      have hmk := hmin k
      have k140 : ∀ p : Nat, p ≤ 32767 * 32767 → p = f * (if k < m then dv D (y + (k + 1)) else 0) → jj G kRW_takes (d) Q rc rs 140 [some (.ref w), some (.int (nI (r + 1))), some (.int (nI (y))), some (.int (nI (m))), some (.int (nI (f))), some (.int (nI (b5))), some (.int (nI (c))), some (.int (nI (k))), (o8)] [.int (nI (p)), .int (nI (e0)), .int (nI (c))] M2 := by
        intro p hp he
        refine jn_iadd (pc := 140) (e0 + p) kRW_takes_d140 (by omega) ?_
        refine jn_iadd (pc := 141) (c + e0 + p) kRW_takes_d141 (by omega) ?_
        obtain ⟨s, hs⟩ : ∃ s, c + e0 + p = s := ⟨_, rfl⟩
        refine jn_top (.int (nI (s))) (by rw [hs]) ?_
        refine jj_istore (pc := 142) kRW_takes_d142 (Nat.le_of_ble_eq_true rfl) ?_
        refine jj_aload_n (pc := 144) kRW_takes_d144 rfl ?_
        refine jj_getf (pc := 145) kRW_takes_d145 (kfRW_d hG) hw2 rfl ?_
        refine jj_iload_n (pc := 148) kRW_takes_d148 rfl ?_
        refine jj_iload (pc := 149) kRW_takes_d149 rfl ?_
        refine jn_iadd (pc := 151) (r + k + 1) kRW_takes_d151 (by omega) ?_
        refine jj_iload (pc := 152) kRW_takes_d152 rfl ?_
        refine jn_sipush (pc := 154) 32767 kRW_takes_d154 (by decide) ?_
        refine jj_iand (pc := 157) kRW_takes_d157 ?_
        refine jn_top (.int (nI (s % 32768))) (congrArg Value.int (give_low (by omega))) ?_
        refine jn_iast (pc := 158) kRW_takes_d158 (kG_t hG rfl) hd2 hl2 (by omega) ?_
        refine jn_gen (fun M116 hM117 => ?_)
        have h118 : M116 w = some (.inl nRW, [.ref dd2, .int (nI (T)), v2]) := by rw [hM117, jj_up_ne _ _ hwd2]; exact hw2
        have h119 : M116 dd2 = some (.inr 0, ((D2).set (r + k + 1) ((nI (s % 32768)))).map .int) := by rw [hM117]; exact jj_up_at _ _ _
        have hF120 : RF M M116 w := by rw [hM117]; exact hf2.trans (RF.put hw2 hwd2)
        refine jj_iload (pc := 159) kRW_takes_d159 rfl ?_
        refine jn_bipush (pc := 161) 15 kRW_takes_d161 (by decide) ?_
        refine jj_ishr (pc := 163) kRW_takes_d163 ?_
        refine jn_top (.int (nI (s / 32768))) (congrArg Value.int (i32_shr15 (by omega))) ?_
        refine jj_istore (pc := 164) kRW_takes_d164 (Nat.le_of_ble_eq_true rfl) ?_
        refine jn_iinc (pc := 166) (k + 1) kRW_takes_d166 rfl (nI_1 _) ?_
        refine jj_goto (pc := 169) (tgt := 99) kRW_takes_d169 (by decide) ?_
        show jj G kRW_takes (d) Q rc rs 99 [some (.ref w), some (.int (nI (r + 1))), some (.int (nI (y))), some (.int (nI (m))), some (.int (nI (f))), some (.int (nI (b5))), some (.int (nI (s / 32768))), some (.int (nI (k + 1))), (o8)] [] M116
        have hm2 : s % 32768 < 32768 := Nat.mod_lt _ (by decide)
        refine ih (k + 1) (by omega) b (s / 32768) E _ (D2.set (r + (k + 1)) (nI (s % 32768))) b5 o8 ⟨dd2, h118, h119⟩ (by rw [List.length_set]; exact hlen) hF120 hE (fun i hi => by rw [gd_set_ne (by omega)]; exact ho i (by omega)) hoE (hD2.put (by omega) hm2) (by omega) ?_ hb hb0
        rw [rnat_put (by omega) hm2, hEk, hmk, Nat.mul_add, ← Nat.mul_assoc, ← he, Nat.pow_succ]
        exact give_step hr2 hs
      refine jj_iload (pc := 99) kRW_takes_d99 rfl ?_
      refine jj_iload_n (pc := 101) kRW_takes_d101 rfl ?_
      refine jn_icmp_gt (pc := 102) (tgt := 172) kRW_takes_d102 (by decide) (by omega) (by omega) (fun c => by exfalso; omega) (fun _ => ?_)
      refine jj_iload (pc := 105) kRW_takes_d105 rfl ?_
      refine jj_aload_n (pc := 107) kRW_takes_d107 rfl ?_
      refine jj_getf (pc := 108) kRW_takes_d108 (kfRW_d hG) hw2 rfl ?_
      refine jj_iload_n (pc := 111) kRW_takes_d111 rfl ?_
      refine jj_iload (pc := 112) kRW_takes_d112 rfl ?_
      refine jn_iadd (pc := 114) (r + k + 1) kRW_takes_d114 (by omega) ?_
      refine jn_iald (pc := 115) (v := (nI (e0))) kRW_takes_d115 (kG_t hG rfl) hd2 hl2 (by omega) ((ho _ (by omega)).trans e2) ?_
      refine jj_iload (pc := 116) kRW_takes_d116 rfl ?_
      refine jj_iload_n (pc := 118) kRW_takes_d118 rfl ?_
      refine jn_icmp_ge (pc := 119) (tgt := 139) kRW_takes_d119 (by decide) (by omega) (by omega) (fun c => ?_) (fun c => ?_)
      · skip
        refine jn_iconst (pc := 139) 0 kRW_takes_d139 (by decide) ?_
        exact k140 0 (by omega) (by rw [if_neg (by omega), Nat.mul_zero])
      · skip
        obtain ⟨g1, g2⟩ := hY.dv (i := k + 1) (by omega) (by omega)
        rw [if_pos (show k < m by omega)] at k140
        revert g1 g2 k140
        generalize dv D (y + (k + 1)) = g
        intro k140 g1 g2
        refine jj_iload (pc := 122) kRW_takes_d122 rfl ?_
        refine jj_aload_n (pc := 124) kRW_takes_d124 rfl ?_
        refine jj_getf (pc := 125) kRW_takes_d125 (kfRW_d hG) hw2 rfl ?_
        refine jj_iload_n (pc := 128) kRW_takes_d128 rfl ?_
        refine jn_iconst (pc := 129) 1 kRW_takes_d129 (by decide) ?_
        refine jn_iadd (pc := 130) (y + 1) kRW_takes_d130 (by omega) ?_
        refine jj_iload (pc := 131) kRW_takes_d131 rfl ?_
        refine jn_iadd (pc := 133) (y + k + 1) kRW_takes_d133 (by omega) ?_
        refine jn_iald (pc := 134) (v := (nI (g))) kRW_takes_d134 (kG_t hG rfl) hd2 hl2 (by omega) (((ho _ (by omega)).trans (hoE _ (by omega))).trans g2) ?_
        refine jn_imul (pc := 135) (f * g) kRW_takes_d135 rfl ?_
        refine jj_goto (pc := 136) (tgt := 140) kRW_takes_d136 (by decide) ?_
        exact k140 (f * g) (prod_lt hf g1) rfl
  have take : ∀ j k, m + 1 = k + j → ∀ (b : Nat) (M2 : mheap) (D2 : List Int32) (o7 o8 : Option Value), RW M2 w D2 T v2 → D2.length = D.length → RF M M2 w → (∀ i, i ≤ r ∨ r + k < i → D2.getD i 0 = D.getD i 0) → RD D2 r k → b < 32768 → rnat D2 r k + f * rnat D y (min k m) = rnat D r k + b * 32768 ^ k → jj G kRW_takes d Q rc rs 6 [some (.ref w), some (.int (nI (r + 1))), some (.int (nI (y))), some (.int (nI (m))), some (.int (nI (f))), some (.int (nI (b))), some (.int (nI (k))), (o7), (o8)] [] M2 := by
    intro j
    induction j with
    | zero =>
      intro k hk b M2 D2 o7 o8 hS2 hlen hf2 ho hD2 hb hr2
      have e : k = m + 1 := by omega
      subst e
      have em : min (m + 1) m = m := Nat.min_eq_right (by omega)
      rw [em] at hr2
      have l1 := rnat_lt hD2
      refine jj_iload (pc := 6) kRW_takes_d6 rfl ?_
      refine jj_iload_n (pc := 8) kRW_takes_d8 rfl ?_
      refine jn_icmp_gt (pc := 9) (tgt := 86) kRW_takes_d9 (by decide) (by omega) (by omega) (fun _ => ?_) (fun c => by exfalso; omega)
      refine jj_iload (pc := 86) kRW_takes_d86 rfl ?_
      refine jn_if_ne (pc := 88) (tgt := 93) kRW_takes_d88 (by decide) (by omega) (fun c => ?_) (fun c => ?_)
      · skip
        refine jn_iconst (pc := 93) 0 kRW_takes_d93 (by decide) ?_
        refine jj_istore (pc := 94) kRW_takes_d94 (Nat.le_of_ble_eq_true rfl) ?_
        refine jn_iconst (pc := 96) 0 kRW_takes_d96 (by decide) ?_
        refine jj_istore (pc := 97) kRW_takes_d97 (Nat.le_of_ble_eq_true rfl) ?_
        exact give (m + 1) 0 (by omega) b 0 D2 M2 D2 b o8 hS2 hlen hf2 hD2 (fun i _ => rfl) ho (fun i h1 h2 => by omega) (by decide) (by rw [Nat.zero_mul]; show 0 = 0 + f * rnat D y (min 0 m); rw [Nat.zero_min]; rfl) hr2 c
      · skip
        refine jn_iconst (pc := 91) 1 kRW_takes_d91 (by decide) ?_
        have hr3 : rnat D2 r (m + 1) + f * rnat D y m = rnat D r (m + 1) := by rw [hr2, c, Nat.zero_mul, Nat.add_zero]
        exact jj_iret (pc := 92) kRW_takes_d92 rfl (by rfl) (k1 (by omega) M2 D2 hS2 hlen hf2 ho hD2 hr3)
    | succ j ih =>
      intro k hk b M2 D2 o7 o8 hS2 hlen hf2 ho hD2 hb hr2
      obtain ⟨dd2, hw2, hd2⟩ := id hS2
      have hwd2 : w ≠ dd2 := fun e => by subst e; rw [hw2] at hd2; cases hd2
      have hl2 : D2.length < 2 ^ 31 := by omega
      obtain ⟨e1, e2⟩ := hA.dv (i := k + 1) (by omega) (by omega)
      have hEk : rnat D r (k + 1) = rnat D r k + dv D (r + (k + 1)) * 32768 ^ k := rfl
      revert e1 e2 hEk
      generalize dv D (r + (k + 1)) = e0
      intro e1 e2 hEk
      have hmk := hmin k
      have k48 : ∀ p : Nat, p ≤ 32767 * 32767 → p = f * (if k < m then dv D (y + (k + 1)) else 0) → jj G kRW_takes (d) Q rc rs 48 [some (.ref w), some (.int (nI (r + 1))), some (.int (nI (y))), some (.int (nI (m))), some (.int (nI (f))), some (.int (nI (b))), some (.int (nI (k))), (o7), (o8)] [.int (nI (p)), .int (zI (((e0 : Nat) : Int) - ((b : Nat) : Int)))] M2 := by
        intro p hp he
        obtain ⟨l, b2, l1, b3, q1, q2, q3⟩ := take_ok e1 hb hp
        refine jz_isub (pc := 48) (((e0 : Nat) : Int) - ((b : Nat) : Int) - ((p : Nat) : Int)) kRW_takes_d48 (rfl) ((zI_nat _).symm) (by omega) ?_
        refine jj_istore (pc := 49) kRW_takes_d49 (Nat.le_of_ble_eq_true rfl) ?_
        refine jj_iload (pc := 51) kRW_takes_d51 rfl ?_
        refine jn_sipush (pc := 53) 32767 kRW_takes_d53 (by decide) ?_
        refine jj_iand (pc := 56) kRW_takes_d56 ?_
        refine jn_top (.int (nI (l))) (congrArg Value.int (zI_low (by omega) (by omega) (by omega))) ?_
        refine jj_istore (pc := 57) kRW_takes_d57 (Nat.le_of_ble_eq_true rfl) ?_
        refine jj_iload (pc := 59) kRW_takes_d59 rfl ?_
        refine jj_iload (pc := 61) kRW_takes_d61 rfl ?_
        refine jz_isub (pc := 63) (((l : Nat) : Int) - ((e0 : Nat) : Int) + ((b : Nat) : Int) + ((p : Nat) : Int)) kRW_takes_d63 ((zI_nat _).symm) (rfl) (by omega) ?_
        refine jn_bipush (pc := 64) 15 kRW_takes_d64 (by decide) ?_
        refine jj_ishr (pc := 66) kRW_takes_d66 ?_
        refine jn_top (.int (nI (b2))) (congrArg Value.int (zI_shr (by omega) (by omega))) ?_
        refine jj_istore (pc := 67) kRW_takes_d67 (Nat.le_of_ble_eq_true rfl) ?_
        refine jj_aload_n (pc := 69) kRW_takes_d69 rfl ?_
        refine jj_getf (pc := 70) kRW_takes_d70 (kfRW_d hG) hw2 rfl ?_
        refine jj_iload_n (pc := 73) kRW_takes_d73 rfl ?_
        refine jj_iload (pc := 74) kRW_takes_d74 rfl ?_
        refine jn_iadd (pc := 76) (r + k + 1) kRW_takes_d76 (by omega) ?_
        refine jj_iload (pc := 77) kRW_takes_d77 rfl ?_
        refine jn_iast (pc := 79) kRW_takes_d79 (kG_t hG rfl) hd2 hl2 (by omega) ?_
        refine jn_gen (fun M121 hM122 => ?_)
        have h123 : M121 w = some (.inl nRW, [.ref dd2, .int (nI (T)), v2]) := by rw [hM122, jj_up_ne _ _ hwd2]; exact hw2
        have h124 : M121 dd2 = some (.inr 0, ((D2).set (r + k + 1) ((nI (l)))).map .int) := by rw [hM122]; exact jj_up_at _ _ _
        have hF125 : RF M M121 w := by rw [hM122]; exact hf2.trans (RF.put hw2 hwd2)
        refine jn_iinc (pc := 80) (k + 1) kRW_takes_d80 rfl (nI_1 _) ?_
        refine jj_goto (pc := 83) (tgt := 6) kRW_takes_d83 (by decide) ?_
        show jj G kRW_takes (d) Q rc rs 6 [some (.ref w), some (.int (nI (r + 1))), some (.int (nI (y))), some (.int (nI (m))), some (.int (nI (f))), some (.int (nI (b2))), some (.int (nI (k + 1))), some (.int (zI (((e0 : Nat) : Int) - ((b : Nat) : Int) - ((p : Nat) : Int)))), some (.int (nI (l)))] [] M121
        refine ih (k + 1) (by omega) b2 _ (D2.set (r + (k + 1)) (nI l)) _ _ ⟨dd2, h123, h124⟩ (by rw [List.length_set]; exact hlen) hF125 (fun i hi => by rw [gd_set_ne (by omega)]; exact ho i (by omega)) (hD2.put (by omega) l1) b3 ?_
        rw [rnat_put (by omega) l1, hEk, hmk, Nat.mul_add, ← Nat.mul_assoc, ← he, Nat.pow_succ]
        exact take_step hr2 q3
      refine jj_iload (pc := 6) kRW_takes_d6 rfl ?_
      refine jj_iload_n (pc := 8) kRW_takes_d8 rfl ?_
      refine jn_icmp_gt (pc := 9) (tgt := 86) kRW_takes_d9 (by decide) (by omega) (by omega) (fun c => by exfalso; omega) (fun _ => ?_)
      refine jj_aload_n (pc := 12) kRW_takes_d12 rfl ?_
      refine jj_getf (pc := 13) kRW_takes_d13 (kfRW_d hG) hw2 rfl ?_
      refine jj_iload_n (pc := 16) kRW_takes_d16 rfl ?_
      refine jj_iload (pc := 17) kRW_takes_d17 rfl ?_
      refine jn_iadd (pc := 19) (r + k + 1) kRW_takes_d19 (by omega) ?_
      refine jn_iald (pc := 20) (v := (nI (e0))) kRW_takes_d20 (kG_t hG rfl) hd2 hl2 (by omega) ((ho _ (by omega)).trans e2) ?_
      refine jj_iload (pc := 21) kRW_takes_d21 rfl ?_
      refine jz_isub (pc := 23) (((e0 : Nat) : Int) - ((b : Nat) : Int)) kRW_takes_d23 ((zI_nat _).symm) ((zI_nat _).symm) (by omega) ?_
      refine jj_iload (pc := 24) kRW_takes_d24 rfl ?_
      refine jj_iload_n (pc := 26) kRW_takes_d26 rfl ?_
      refine jn_icmp_ge (pc := 27) (tgt := 47) kRW_takes_d27 (by decide) (by omega) (by omega) (fun c => ?_) (fun c => ?_)
      · skip
        refine jn_iconst (pc := 47) 0 kRW_takes_d47 (by decide) ?_
        exact k48 0 (by omega) (by rw [if_neg (by omega), Nat.mul_zero])
      · skip
        obtain ⟨g1, g2⟩ := hY.dv (i := k + 1) (by omega) (by omega)
        rw [if_pos (show k < m by omega)] at k48
        revert g1 g2 k48
        generalize dv D (y + (k + 1)) = g
        intro k48 g1 g2
        refine jj_iload (pc := 30) kRW_takes_d30 rfl ?_
        refine jj_aload_n (pc := 32) kRW_takes_d32 rfl ?_
        refine jj_getf (pc := 33) kRW_takes_d33 (kfRW_d hG) hw2 rfl ?_
        refine jj_iload_n (pc := 36) kRW_takes_d36 rfl ?_
        refine jn_iconst (pc := 37) 1 kRW_takes_d37 (by decide) ?_
        refine jn_iadd (pc := 38) (y + 1) kRW_takes_d38 (by omega) ?_
        refine jj_iload (pc := 39) kRW_takes_d39 rfl ?_
        refine jn_iadd (pc := 41) (y + k + 1) kRW_takes_d41 (by omega) ?_
        refine jn_iald (pc := 42) (v := (nI (g))) kRW_takes_d42 (kG_t hG rfl) hd2 hl2 (by omega) ((ho _ (by omega)).trans g2) ?_
        refine jn_imul (pc := 43) (f * g) kRW_takes_d43 rfl ?_
        refine jj_goto (pc := 44) (tgt := 48) kRW_takes_d44 (by decide) ?_
        exact k48 (f * g) (prod_lt hf g1) rfl
  show jj G kRW_takes (d) Q rc rs 0 [some (.ref w), some (.int (nI (r + 1))), some (.int (nI (y))), some (.int (nI (m))), some (.int (nI (f))), none, none, none, none] [] M
  refine jn_iconst (pc := 0) 0 kRW_takes_d0 (by decide) ?_
  refine jj_istore (pc := 1) kRW_takes_d1 (Nat.le_of_ble_eq_true rfl) ?_
  refine jn_iconst (pc := 3) 0 kRW_takes_d3 (by decide) ?_
  refine jj_istore (pc := 4) kRW_takes_d4 (Nat.le_of_ble_eq_true rfl) ?_
  show jj G kRW_takes (d) Q rc rs 6 [some (.ref w), some (.int (nI (r + 1))), some (.int (nI (y))), some (.int (nI (m))), some (.int (nI (f))), some (.int (nI (0))), some (.int (nI (0))), none, none] [] M
  exact take (m + 1) 0 (by omega) 0 M D none none hS rfl (RF.refl M w) (fun i _ => rfl) (fun i h1 h2 => by omega) (by decide) (by rw [Nat.zero_mul]; show 0 + f * rnat D y (min 0 m) = 0; rw [Nat.zero_min]; rfl)
end RW12
