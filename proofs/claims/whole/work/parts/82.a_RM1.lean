/-! ===== the reference: across (printed by wip/gen/rm1.py) ===== -/
section RM1
variable {G : jg} {d : Nat} {Q : jq} {rc rs : Nat} {M : mheap} {w u de : Nat} {v2 v3 : Value} {D E : List Int32}
theorem rm_across {x T cm X Z a TE : Nat} {z : Int} (hG : kG G) (hS : RS M w D T v2 cm X Z rc rs) (hu : M u = some (.inl nRW, [.ref de, .int (nI TE), v3])) (he : M de = some (.inr 0, E.map .int)) (hnu : ¬ RO M w u) (hne : ¬ RO M w de) (hE : E.length < 2 ^ 31) (hTE : TE ≤ E.length) (hx : RI E TE x z) (ha : z.natAbs < 32768 ^ a) (hT : T + a + 1 ≤ cm)
    (K : RP Q M w D T v2 cm X Z (T + a + 1) z) : jj G kR_across (d + 3) Q rc rs 0 (jj_ent [.ref w, .ref u, .int (nI x)] 5) [] M := by
  obtain ⟨hS0, hB, hTD, hz, hp⟩ := id hS
  obtain ⟨dd, hw, hd⟩ := id hS0
  obtain ⟨n, x1, x2, x3, x4, x5⟩ := id hx
  have hcap := hB.cap
  have hl : D.length < 2 ^ 31 := by omega
  have xn := RI.len x3 x4 x5 ha
  have x6 := nI_iabs (by omega) x2
  have hwd : w ≠ dd := fun e => by subst e; rw [hw] at hd; cases hd
  show jj G kR_across (d + 3) Q rc rs 0 [some (.ref w), some (.ref u), some (.int (nI (x))), none, none] [] M
  refine jj_aload_n (pc := 0) kR_across_d0 rfl ?_
  refine jj_iload_n (pc := 1) kR_across_d1 rfl ?_
  refine jj_callV (pc := 2) (b := u) (As := [.int (nI (x))]) kR_across_d2 (kvR_RW_digits hG) (kG_cl hG rfl) rfl hu rfl rfl rfl (Nat.le_of_ble_eq_true rfl) (Nat.le_of_ble_eq_true rfl) (jj_bare0 rfl) ?_
  refine rw_digits hG hu he hE (by omega) ?_
  show jj G kR_across (d + 3) Q rc rs 5 [some (.ref w), some (.ref u), some (.int (nI (x))), none, none] [.int (iabs (E.getD x 0))] M
  refine jn_top (.int (nI (n))) (by rw [x6]) ?_
  refine jj_istore_n (pc := 5) kR_across_d5 (Nat.le_of_ble_eq_true rfl) ?_
  refine jj_aload_n (pc := 6) kR_across_d6 rfl ?_
  refine jj_iload_n (pc := 7) kR_across_d7 rfl ?_
  refine jn_iconst (pc := 8) 1 kR_across_d8 (by decide) ?_
  refine jn_iadd (pc := 9) (n + 1) kR_across_d9 (by omega) ?_
  refine jj_callV (pc := 10) (b := w) (As := [.int (nI (n + 1))]) kR_across_d10 (kvR_RW_room hG) (kG_cl hG rfl) rfl hw rfl rfl rfl (Nat.le_of_ble_eq_true rfl) (Nat.le_of_ble_eq_true rfl) (jj_bare0 rfl) ?_
  refine rs_room hG hS0 hB (by omega) (fun M1 D1 rc1 rs1 hS1 hB1 hl1 hx1 hf1 => ?_)
  show jj G kR_across (d + 3) Q rc1 rs1 13 [some (.ref w), some (.ref u), some (.int (nI (x))), some (.int (nI (n))), none] [] M1
  obtain ⟨dd1, hw1, hd1⟩ := id hS1
  have hl11 : D1.length < 2 ^ 31 := by have := hB1.cap; omega
  have hwd1 : w ≠ dd1 := fun e => by subst e; rw [hw1] at hd1; cases hd1
  obtain ⟨hu1e, hnu1⟩ := hf1 u (by rw [hu]; exact fun e => by cases e) hnu
  obtain ⟨he1e, hne1⟩ := hf1 de (by rw [he]; exact fun e => by cases e) hne
  have hu1 : M1 u = some (.inl nRW, [.ref de, .int (nI TE), v3]) := hu1e.trans hu
  have he1 : M1 de = some (.inr 0, E.map .int) := he1e.trans he
  have hdu : dd1 ≠ u := fun e => hnu1 (Or.inr ⟨_, by rw [← e]; exact hw1⟩)
  have hdd : dd1 ≠ de := fun e => hne1 (Or.inr ⟨_, by rw [← e]; exact hw1⟩)
  have hx1' := hx1.len
  refine jn_iconst (pc := 13) 1 kR_across_d13 (by decide) ?_
  refine jj_istore (pc := 14) kR_across_d14 (Nat.le_of_ble_eq_true rfl) ?_
  show jj G kR_across (d + 3) Q rc1 rs1 16 [some (.ref w), some (.ref u), some (.int (nI (x))), some (.int (nI (n))), some (.int (nI (1)))] [] M1
  have loop : ∀ mu k, n + 1 = k + mu → 1 ≤ k → ∀ (M2 : mheap) (D2 : List Int32), M2 w = some (.inl nRW, [.ref dd1, .int (nI T), v2]) → M2 dd1 = some (.inr 0, D2.map .int) → M2 u = some (.inl nRW, [.ref de, .int (nI TE), v3]) → M2 de = some (.inr 0, E.map .int) → D2.length = D1.length → RF M1 M2 w → (∀ q, q ≤ T → D2.getD q 0 = D1.getD q 0) → (∀ i, 0 < i → i < k → D2.getD (T + i) 0 = E.getD (x + i) 0) → jj G kR_across (d + 3) Q rc1 rs1 16 [some (.ref w), some (.ref u), some (.int (nI (x))), some (.int (nI (n))), some (.int (nI (k)))] [] M2 := by
    intro mu
    induction mu with
    | zero =>
      intro k hk hk1 M2 D2 hw2 hd2 hu2 he2 hlen2 hf2 hq2 hk2
      have hl2 : D2.length < 2 ^ 31 := by omega
      have e9 : n + 1 = k := by omega
      subst e9
      refine jj_iload (pc := 16) kR_across_d16 rfl ?_
      refine jj_iload_n (pc := 18) kR_across_d18 rfl ?_
      refine jn_icmp_gt (pc := 19) (tgt := 49) kR_across_d19 (by decide) (by omega) (by omega) (fun _ => ?_) (fun c => by exfalso; omega)
      refine jj_aload_n (pc := 49) kR_across_d49 rfl ?_
      refine jj_iload_n (pc := 50) kR_across_d50 rfl ?_
      refine jj_aload_n (pc := 51) kR_across_d51 rfl ?_
      refine jj_getf (pc := 52) kR_across_d52 (kfR_RW_d hG) hu2 rfl ?_
      refine jj_iload_n (pc := 55) kR_across_d55 rfl ?_
      refine jn_iald (pc := 56) (v := (E.getD x 0)) kR_across_d56 (kG_t hG rfl) he2 hE (by omega) (rfl) ?_
      have hneg := hx.neg (by omega)
      refine jj_if_ge (pc := 57) (tgt := 64) kR_across_d57 (by decide) (fun c0 => ?_) (fun c0 => ?_)
      · skip
        refine jn_iconst (pc := 64) 0 kR_across_d64 (by decide) ?_
        refine jj_callV (pc := 65) (b := w) (As := [.int (nI (n)), .int (nI (0))]) kR_across_d65 (kvR_RW_finish hG) (kG_cl hG rfl) rfl hw2 rfl rfl rfl (Nat.le_of_ble_eq_true rfl) (Nat.le_of_ble_eq_true rfl) (jj_bare0 rfl) ?_
        refine rs_finish (z := 0) hG ⟨dd1, hw2, hd2⟩ hl2 (by omega) (fun h0 => ?_) (fun r M3 h0 hr hS3 hf3 => ?_)
        · skip
          show jj G kR_across (d + 3) Q rc1 rs1 68 [some (.ref w), some (.ref u), some (.int (nI (x))), some (.int (nI (n))), some (.int (nI (n + 1)))] [.int (0)] M2
          have hD2 : RD D2 T n := x3.congr (fun i h1 h2 => hk2 i h1 (by omega))
          have hn0 : n = 0 := by
            rcases Nat.eq_zero_or_pos n with e | e
            · exact e
            · exfalso
              have h9 := rtrim_top (D := D2) (T := T) (n := n) (fun e => by rw [hk2 n e (by omega)]; exact x4 e)
              omega
          have ez : z = 0 := by rw [hn0] at x5; have : (0 : Nat) = z.natAbs := x5; omega
          subst ez
          have hz2 : D2.getD 0 0 = 0 := by rw [hq2 0 (by omega), hx1.at]; exact hz
          exact jj_iret (pc := 68) kR_across_d68 rfl (by rfl) (K M2 D2 T 0 rc1 rs1 ⟨⟨dd1, hw2, hd2⟩, hB1.same hlen2, by omega, hz2, hp⟩ ⟨Nat.le_refl T, Or.inl rfl⟩ (by omega) (fun i hi => by rw [hq2 i (by omega), hx1.at]) (hf1.trans hf2) (RI.zero hz2 hp))
        · skip
          show jj G kR_across (d + 3) Q rc1 rs1 68 [some (.ref w), some (.ref u), some (.int (nI (x))), some (.int (nI (n))), some (.int (nI (n + 1)))] [.int (nI (T))] M3
          have hn0 : 0 < n := by
            rcases Nat.eq_zero_or_pos n with e | e
            · rw [e] at h0; have : rtrim D2 T 0 = 0 := rfl; omega
            · exact e
          have hrn : r = n := by
            have h9 := rtrim_top (D := D2) (T := T) (n := n) (fun e => by rw [hk2 n e (by omega)]; exact x4 e)
            omega
          subst hrn
          have hz0 : z ≠ 0 := fun e => by rw [e] at x5; have := (rnat_eq0 x3 x4).mp x5; omega
          have hnn : ¬ z < 0 := fun h => absurd (hneg.mpr h) (Int32.not_lt.mpr c0)
          exact jj_iret (pc := 68) kR_across_d68 rfl (by rfl) (K M3 _ (T + r + 1) T rc1 rs1 ⟨hS3, hB1.same (by rw [List.length_set]; exact hlen2), by rw [List.length_set]; omega, by rw [gd_set_ne (by omega), hq2 0 (by omega), hx1.at]; exact hz, by omega⟩ ⟨by omega, Or.inr (Nat.le_refl _)⟩ (by omega) (fun i hi => by rw [gd_set_ne (by omega), hq2 i (by omega), hx1.at]) ((hf1.trans hf2).trans hf3) (RI.moved (by omega) x3 x4 x5 (fun i h1 h2 => by rw [gd_set_ne (by omega)]; exact hk2 i h1 (by omega)) rfl (by rw [gd_set_eq (by omega), if_pos rfl, if_neg hnn])))
      · skip
        refine jn_iconst (pc := 60) 1 kR_across_d60 (by decide) ?_
        refine jj_goto (pc := 61) (tgt := 65) kR_across_d61 (by decide) ?_
        refine jj_callV (pc := 65) (b := w) (As := [.int (nI (n)), .int (nI (1))]) kR_across_d65 (kvR_RW_finish hG) (kG_cl hG rfl) rfl hw2 rfl rfl rfl (Nat.le_of_ble_eq_true rfl) (Nat.le_of_ble_eq_true rfl) (jj_bare0 rfl) ?_
        refine rs_finish (z := 1) hG ⟨dd1, hw2, hd2⟩ hl2 (by omega) (fun h0 => ?_) (fun r M3 h0 hr hS3 hf3 => ?_)
        · skip
          show jj G kR_across (d + 3) Q rc1 rs1 68 [some (.ref w), some (.ref u), some (.int (nI (x))), some (.int (nI (n))), some (.int (nI (n + 1)))] [.int (0)] M2
          have hD2 : RD D2 T n := x3.congr (fun i h1 h2 => hk2 i h1 (by omega))
          have hn0 : n = 0 := by
            rcases Nat.eq_zero_or_pos n with e | e
            · exact e
            · exfalso
              have h9 := rtrim_top (D := D2) (T := T) (n := n) (fun e => by rw [hk2 n e (by omega)]; exact x4 e)
              omega
          have ez : z = 0 := by rw [hn0] at x5; have : (0 : Nat) = z.natAbs := x5; omega
          subst ez
          have hz2 : D2.getD 0 0 = 0 := by rw [hq2 0 (by omega), hx1.at]; exact hz
          exact jj_iret (pc := 68) kR_across_d68 rfl (by rfl) (K M2 D2 T 0 rc1 rs1 ⟨⟨dd1, hw2, hd2⟩, hB1.same hlen2, by omega, hz2, hp⟩ ⟨Nat.le_refl T, Or.inl rfl⟩ (by omega) (fun i hi => by rw [hq2 i (by omega), hx1.at]) (hf1.trans hf2) (RI.zero hz2 hp))
        · skip
          show jj G kR_across (d + 3) Q rc1 rs1 68 [some (.ref w), some (.ref u), some (.int (nI (x))), some (.int (nI (n))), some (.int (nI (n + 1)))] [.int (nI (T))] M3
          have hn0 : 0 < n := by
            rcases Nat.eq_zero_or_pos n with e | e
            · rw [e] at h0; have : rtrim D2 T 0 = 0 := rfl; omega
            · exact e
          have hrn : r = n := by
            have h9 := rtrim_top (D := D2) (T := T) (n := n) (fun e => by rw [hk2 n e (by omega)]; exact x4 e)
            omega
          subst hrn
          have hz0 : z ≠ 0 := fun e => by rw [e] at x5; have := (rnat_eq0 x3 x4).mp x5; omega
          have hnn : z < 0 := hneg.mp (by revert c0; generalize E.getD x 0 = y; intro c0; exact Int32.not_le.mp c0)
          exact jj_iret (pc := 68) kR_across_d68 rfl (by rfl) (K M3 _ (T + r + 1) T rc1 rs1 ⟨hS3, hB1.same (by rw [List.length_set]; exact hlen2), by rw [List.length_set]; omega, by rw [gd_set_ne (by omega), hq2 0 (by omega), hx1.at]; exact hz, by omega⟩ ⟨by omega, Or.inr (Nat.le_refl _)⟩ (by omega) (fun i hi => by rw [gd_set_ne (by omega), hq2 i (by omega), hx1.at]) ((hf1.trans hf2).trans hf3) (RI.moved (by omega) x3 x4 x5 (fun i h1 h2 => by rw [gd_set_ne (by omega)]; exact hk2 i h1 (by omega)) rfl (by rw [gd_set_eq (by omega), if_neg (by decide), if_pos hnn])))
    | succ mu ih =>
      intro k hk hk1 M2 D2 hw2 hd2 hu2 he2 hlen2 hf2 hq2 hk2
      have hl2 : D2.length < 2 ^ 31 := by omega
      refine jj_iload (pc := 16) kR_across_d16 rfl ?_
      refine jj_iload_n (pc := 18) kR_across_d18 rfl ?_
      refine jn_icmp_gt (pc := 19) (tgt := 49) kR_across_d19 (by decide) (by omega) (by omega) (fun c => by exfalso; omega) (fun _ => ?_)
      refine jj_aload_n (pc := 22) kR_across_d22 rfl ?_
      refine jj_getf (pc := 23) kR_across_d23 (kfR_RW_d hG) hw2 rfl ?_
      refine jj_aload_n (pc := 26) kR_across_d26 rfl ?_
      refine jj_getf (pc := 27) kR_across_d27 (kfR_RW_top hG) hw2 rfl ?_
      refine jj_iload (pc := 30) kR_across_d30 rfl ?_
      refine jn_iadd (pc := 32) (T + k) kR_across_d32 (by omega) ?_
      refine jj_aload_n (pc := 33) kR_across_d33 rfl ?_
      refine jj_getf (pc := 34) kR_across_d34 (kfR_RW_d hG) hu2 rfl ?_
      refine jj_iload_n (pc := 37) kR_across_d37 rfl ?_
      refine jj_iload (pc := 38) kR_across_d38 rfl ?_
      refine jn_iadd (pc := 40) (x + k) kR_across_d40 (by omega) ?_
      refine jn_iald (pc := 41) (v := ((E).getD (x + k) 0)) kR_across_d41 (kG_t hG rfl) he2 hE (by omega) (rfl) ?_
      refine jn_iast (pc := 42) kR_across_d42 (kG_t hG rfl) hd2 hl2 (by omega) ?_
      refine jn_gen (fun M101 hM102 => ?_)
      have h103 : M101 w = some (.inl nRW, [.ref dd1, .int (nI (T)), v2]) := by rw [hM102, jj_up_ne _ _ hwd1]; exact hw2
      have h104 : M101 u = some (.inl nRW, [.ref de, .int (nI (TE)), v3]) := by rw [hM102, jj_up_ne _ _ (Ne.symm hdu)]; exact hu2
      have h105 : M101 de = some (.inr 0, (E).map .int) := by rw [hM102, jj_up_ne _ _ (Ne.symm hdd)]; exact he2
      have h106 : M101 dd1 = some (.inr 0, ((D2).set (T + k) (((E).getD (x + k) 0))).map .int) := by rw [hM102]; exact jj_up_at _ _ _
      have hF107 : RF M1 M101 w := by rw [hM102]; exact hf2.trans (RF.put hw2 hwd1)
      refine jn_iinc (pc := 43) (k + 1) kR_across_d43 rfl (nI_1 _) ?_
      refine jj_goto (pc := 46) (tgt := 16) kR_across_d46 (by decide) ?_
      show jj G kR_across (d + 3) Q rc1 rs1 16 [some (.ref w), some (.ref u), some (.int (nI (x))), some (.int (nI (n))), some (.int (nI (k + 1)))] [] M101
      refine ih (k + 1) (by omega) (by omega) M101 _ h103 h106 h104 h105 (by rw [List.length_set]; exact hlen2) hF107 (fun q hq => by rw [gd_set_ne (by omega)]; exact hq2 q hq) (fun i h1 h2 => ?_)
      by_cases e : i = k
      · rw [e, gd_set_eq (by omega)]
      · rw [gd_set_ne (by omega)]; exact hk2 i h1 (by omega)
  exact loop n 1 (by omega) (by omega) M1 D1 hw1 hd1 hu1 he1 rfl (RF.refl M1 w) (fun _ _ => rfl) (fun i h1 h2 => by omega)
end RM1
