/-! ===== Wholes.divide (printed by wip/gen/rw16.py) ===== -/
theorem lN_divN {a b : Nat} (ha : a < 2 ^ 63) (hb : b < 2 ^ 63) : lN a / lN b = lN (a / b) := Int64.toInt_inj.mp (by
  have h : a / b ≤ a := Nat.div_le_self a b
  rw [Int64.toInt_div, lN_big ha, lN_big hb, lN_big (show a / b < 2 ^ 63 by omega), Int.tdiv_eq_ediv_of_nonneg (by omega), ← Int.natCast_ediv]
  generalize a / b = q at h ⊢
  rw [Int.bmod_eq_of_le (by omega) (by omega)])
theorem lN_ne {b : Nat} (hb : b < 2 ^ 63) (h0 : 0 < b) : ¬ lN b = 0 := fun e => by
  have := congrArg Int64.toInt e
  rw [lN_big hb, show (0 : Int64).toInt = 0 by decide] at this
  omega
theorem lN_min {a b : Nat} (ha : a < 2 ^ 63) (hb : b < 2 ^ 63) : (if lN b < lN a then lN b else lN a) = lN (min a b) := by
  have e : lN b < lN a ↔ b < a := by rw [Int64.lt_iff_toInt_lt, lN_big ha, lN_big hb]; omega
  by_cases h : b < a
  · rw [if_pos (e.mpr h), Nat.min_eq_right (by omega)]
  · rw [if_neg (fun c => h (e.mp c)), Nat.min_eq_left (by omega)]
theorem rnat_topz {D : List Int32} {T m : Nat} (h : RD D T (m + 1)) (hl : rnat D T (m + 1) < 32768 ^ m) : rnat D T (m + 1) = rnat D T m := by
  have e : rnat D T (m + 1) = rnat D T m + dv D (T + (m + 1)) * 32768 ^ m := rfl
  have h0 : dv D (T + (m + 1)) = 0 := by
    rcases Nat.eq_zero_or_pos (dv D (T + (m + 1))) with h1 | h1
    · exact h1
    · have : 32768 ^ m ≤ dv D (T + (m + 1)) * 32768 ^ m := Nat.le_mul_of_pos_left _ h1
      omega
  rw [e, h0, Nat.zero_mul, Nat.add_zero]
theorem rnat_zeros {D : List Int32} {x : Nat} : ∀ {n : Nat}, (∀ i, 0 < i → i ≤ n → D.getD (x + i) 0 = nI 0) → rnat D x n = 0
  | 0, _ => rfl
  | n + 1, h => by
    show rnat D x n + dv D (x + (n + 1)) * 32768 ^ n = 0
    rw [rnat_zeros (fun i h1 h2 => h i h1 (by omega)), dv_nI (h (n + 1) (by omega) (Nat.le_refl _)) (by decide), Nat.zero_mul]
theorem RD.zeros {D : List Int32} {x n : Nat} (h : ∀ i, 0 < i → i ≤ n → D.getD (x + i) 0 = nI 0) : RD D x n := fun i h1 h2 => ⟨0, by decide, h i h1 h2⟩
theorem rnat_pad {D : List Int32} {x u : Nat} : ∀ {n : Nat}, u ≤ n → (∀ i, u < i → i ≤ n → D.getD (x + i) 0 = nI 0) → rnat D x n = rnat D x u
  | 0, hu, _ => by rw [Nat.le_zero.mp hu]
  | n + 1, hu, h => by
    by_cases e : u = n + 1
    · rw [e]
    · rw [rnat_zero (h (n + 1) (by omega) (Nat.le_refl _))]
      exact rnat_pad (by omega) (fun i h1 h2 => h i h1 (by omega))
section RW16
variable {G : jg} {d : Nat} {Q : jq} {rc rs : Nat} {M : mheap} {w : Nat} {v2 : Value} {D : List Int32}
theorem jm_minL {x y : Int64} (k : Q (.returned (some (.long (if y < x then y else x)))) M rc rs) : jj G kJM_min_2 d Q rc rs 0 (jj_ent [.long x, .long y] 4) [] M := by
  show jj G kJM_min_2 (d) Q rc rs 0 [some (.long (x)), none, some (.long (y)), none] [] M
  refine jj_lload_n (pc := 0) kJM_min_2_d0 rfl ?_
  refine jj_lload_n (pc := 1) kJM_min_2_d1 rfl ?_
  refine jj_lcmp (pc := 2) kJM_min_2_d2 ?_
  refine jj_if_gt (pc := 3) (tgt := 10) kJM_min_2_d3 (by decide) (fun c => ?_) (fun c => ?_)
  · skip
    rw [lg_cmp_gt] at c
    rw [if_pos c] at k
    refine jj_lload_n (pc := 10) kJM_min_2_d10 rfl ?_
    exact jj_lret (pc := 11) kJM_min_2_d11 rfl k
  · skip
    rw [lg_cmp_gt] at c
    rw [if_neg c] at k
    refine jj_lload_n (pc := 6) kJM_min_2_d6 rfl ?_
    refine jj_goto (pc := 7) (tgt := 11) kJM_min_2_d7 (by decide) ?_
    exact jj_lret (pc := 11) kJM_min_2_d11 rfl k
theorem ri_divide {x y T cm X Z a b : Nat} {zx zy : Int} (hG : kG G) (hS : RS M w D T v2 cm X Z rc rs) (hx : RI D T x zx) (hy : RI D T y zy) (hy0 : 0 < zy) (ha : zx.natAbs < 32768 ^ a) (hb : zy.natAbs < 32768 ^ b) (hT : T + 3 * a + 3 * b + 40 ≤ cm)
    (K : DVK Q M w D T cm X Z (T + a + b + 3) (zx / zy) (zx % zy)) : jj G kRW_divide (d + 6) Q rc rs 0 (jj_ent [.ref w, .int (nI x), .int (nI y)] 24) [] M := by
  obtain ⟨hS0, hB, hTD, hz, hp⟩ := id hS
  obtain ⟨dd, hw, hd⟩ := id hS0
  obtain ⟨n, x1, x2, x3, x4, x5⟩ := id hx
  obtain ⟨m, y1, y2, y3, y4, y5⟩ := id hy
  have hcap := hB.cap
  have hl : D.length < 2 ^ 31 := by omega
  have xn := RI.len x3 x4 x5 ha
  have yn := RI.len y3 y4 y5 hb
  have x6 := nI_iabs (by omega) x2
  have y6 := nI_iabs (by omega) y2
  have hneg := hx.neg (by omega)
  have hm : 0 < m := by
    rcases Nat.eq_zero_or_pos m with e | e
    · have := (rnat_eq0 y3 y4).mpr e; omega
    · exact e
  obtain ⟨mp, hmp⟩ : ∃ mp, m = mp + 1 := ⟨m - 1, by omega⟩
  obtain ⟨q, hq⟩ : ∃ q, q = T + m + 4 := ⟨_, rfl⟩
  obtain ⟨Y, hY⟩ : ∃ Y, rnat D y m = Y := ⟨_, rfl⟩
  have hYz : zy.natAbs = Y := by rw [← y5, hY]
  have hY0 : 0 < Y := by omega
  have hYm : Y < 32768 ^ m := by rw [← hY]; exact rnat_lt y3
  have hYl : 32768 ^ mp ≤ Y := by
    have := rnat_ge (D := D) (x := y) (n := mp) (by rw [← hmp]; exact y3) (by rw [← hmp]; exact y4 hm)
    rw [← hmp, hY] at this
    exact this
  have K' : DVK Q M w D T cm X Z (T + (n + 1) + m + 2) (zx / zy) (zx % zy) := fun M' D' T' p s rc' rs' h1 h2 h3 => K M' D' T' p s rc' rs' h1 h2 (by omega)
  have k14 : ∀ s : Int32, (s = 0 ∧ 0 ≤ zx ∨ s = 1 ∧ zx < 0) → jj G kRW_divide (d + 6) Q rc rs 14 [some (.ref w), some (.int (nI (x))), some (.int (nI (y))), none, none, none, none, none, none, none, none, none, none, none, none, none, none, none, none, none, none, none, none, none] [.int (s)] M := by
    intro s hs
    refine jj_istore_n (pc := 14) kRW_divide_d14 (Nat.le_of_ble_eq_true rfl) ?_
    refine jj_aload_n (pc := 15) kRW_divide_d15 rfl ?_
    refine jj_iload_n (pc := 16) kRW_divide_d16 rfl ?_
    refine jj_callV (pc := 17) (b := w) (As := [.int (nI (x))]) kRW_divide_d17 (kvRW_RW_digits hG) (kG_cl hG rfl) rfl hw rfl rfl rfl (Nat.le_of_ble_eq_true rfl) (Nat.le_of_ble_eq_true rfl) (jj_bare0 rfl) ?_
    refine rw_digits hG hw hd hl (by omega) ?_
    show jj G kRW_divide (d + 6) Q rc rs 20 [some (.ref w), some (.int (nI (x))), some (.int (nI (y))), some (.int (s)), none, none, none, none, none, none, none, none, none, none, none, none, none, none, none, none, none, none, none, none] [.int (iabs (D.getD x 0))] M
    refine jn_top (.int (nI (n))) (by rw [x6]) ?_
    refine jj_istore (pc := 20) kRW_divide_d20 (Nat.le_of_ble_eq_true rfl) ?_
    refine jj_aload_n (pc := 22) kRW_divide_d22 rfl ?_
    refine jj_iload_n (pc := 23) kRW_divide_d23 rfl ?_
    refine jj_callV (pc := 24) (b := w) (As := [.int (nI (y))]) kRW_divide_d24 (kvRW_RW_digits hG) (kG_cl hG rfl) rfl hw rfl rfl rfl (Nat.le_of_ble_eq_true rfl) (Nat.le_of_ble_eq_true rfl) (jj_bare0 rfl) ?_
    refine rw_digits hG hw hd hl (by omega) ?_
    show jj G kRW_divide (d + 6) Q rc rs 27 [some (.ref w), some (.int (nI (x))), some (.int (nI (y))), some (.int (s)), some (.int (nI (n))), none, none, none, none, none, none, none, none, none, none, none, none, none, none, none, none, none, none, none] [.int (iabs (D.getD y 0))] M
    refine jn_top (.int (nI (m))) (by rw [y6]) ?_
    refine jj_istore (pc := 27) kRW_divide_d27 (Nat.le_of_ble_eq_true rfl) ?_
    refine jj_aload_n (pc := 29) kRW_divide_d29 rfl ?_
    refine jn_iconst (pc := 30) 2 kRW_divide_d30 (by decide) ?_
    refine jj_iload (pc := 31) kRW_divide_d31 rfl ?_
    refine jn_imul (pc := 33) (2 * n) kRW_divide_d33 (by omega) ?_
    refine jj_iload (pc := 34) kRW_divide_d34 rfl ?_
    refine jn_iadd (pc := 36) (2 * n + m) kRW_divide_d36 (by omega) ?_
    refine jn_bipush (pc := 37) 16 kRW_divide_d37 (by decide) ?_
    refine jn_iadd (pc := 39) (2 * n + m + 16) kRW_divide_d39 (by omega) ?_
    refine jj_callV (pc := 40) (b := w) (As := [.int (nI (2 * n + m + 16))]) kRW_divide_d40 (kvRW_RW_room hG) (kG_cl hG rfl) rfl hw rfl rfl rfl (Nat.le_of_ble_eq_true rfl) (Nat.le_of_ble_eq_true rfl) (jj_bare0 rfl) ?_
    refine rs_room hG hS0 hB (by omega) (fun M1 D1 rc1 rs1 hS1 hB1 hl1' hx1 hf1 => ?_)
    show jj G kRW_divide (d + 6) Q rc1 rs1 43 [some (.ref w), some (.int (nI (x))), some (.int (nI (y))), some (.int (s)), some (.int (nI (n))), some (.int (nI (m))), none, none, none, none, none, none, none, none, none, none, none, none, none, none, none, none, none, none] [] M1
    obtain ⟨dd1, hw1, hd1⟩ := id hS1
    have hl1 : D1.length < 2 ^ 31 := by have := hB1.cap; omega
    have hwd1 : w ≠ dd1 := fun e => by subst e; rw [hw1] at hd1; cases hd1
    refine jj_aload_n (pc := 43) kRW_divide_d43 rfl ?_
    refine jj_getf (pc := 44) kRW_divide_d44 (kfRW_top hG) hw1 rfl ?_
    refine jj_istore (pc := 47) kRW_divide_d47 (Nat.le_of_ble_eq_true rfl) ?_
    refine jj_iload (pc := 49) kRW_divide_d49 rfl ?_
    refine jj_iload (pc := 51) kRW_divide_d51 rfl ?_
    refine jn_iadd (pc := 53) (T + m) kRW_divide_d53 (by omega) ?_
    refine jn_iconst (pc := 54) 4 kRW_divide_d54 (by decide) ?_
    refine jn_iadd (pc := 55) (T + m + 4) kRW_divide_d55 (by omega) ?_
    refine jn_top (.int (nI (q))) (by rw [hq]) ?_
    refine jj_istore (pc := 56) kRW_divide_d56 (Nat.le_of_ble_eq_true rfl) ?_
    refine jn_iconst (pc := 58) 0 kRW_divide_d58 (by decide) ?_
    refine jj_istore (pc := 59) kRW_divide_d59 (Nat.le_of_ble_eq_true rfl) ?_
    show jj G kRW_divide (d + 6) Q rc1 rs1 61 [some (.ref w), some (.int (nI (x))), some (.int (nI (y))), some (.int (s)), some (.int (nI (n))), some (.int (nI (m))), some (.int (nI (T))), some (.int (nI (q))), some (.int (nI (0))), none, none, none, none, none, none, none, none, none, none, none, none, none, none, none] [] M1
    have main : ∀ (U L : Nat), lead3 m Y L → L < 32768 ^ 4 → ∀ (i c : Nat) (o12 o13 o14 : Option Value) (M2 : mheap) (D2 : List Int32), n = i + c → RW M2 w D2 T v2 → D2.length = D1.length → RF M M2 w → (∀ j, j < T → D2.getD j 0 = D.getD j 0) → RD D2 T (m + 1) → rnat D2 T (m + 1) < Y → RD D2 (q + i) c → rnat D (x + i) c = rnat D2 (q + i) c * Y + rnat D2 T (m + 1) → jj G kRW_divide (d + 6) Q rc1 rs1 185 [some (.ref w), some (.int (nI (x))), some (.int (nI (y))), some (.int (s)), some (.int (nI (n))), some (.int (nI (m))), some (.int (nI (T))), some (.int (nI (q))), some (.int (nI (U))), some (.long (lN (L))), none, some (.int (nI (i))), (o12), (o13), (o14), none, none, none, none, none, none, none, none, none] [] M2 := by
      intro U L hL hL4
      have hL0 : 0 < L := lead3_pos hL (by rw [hmp, Nat.add_sub_cancel]; exact hYl) hm
      intro i
      induction i with
      | zero =>
        intro c o12 o13 o14 M2 D2 hn hS2 hlen2 hf2 ho2 hR2 hlt2 hQ2 hv2
        have e : n = c := by omega
        subst e
        refine jj_iload (pc := 185) kRW_divide_d185 rfl ?_
        refine jn_if_le (pc := 187) (tgt := 318) kRW_divide_d187 (by decide) (by omega) (fun _ => ?_) (fun c => by exfalso; omega)
        rw [Nat.add_zero] at hQ2 hv2
        rw [Nat.add_zero] at hv2
        have ht := rnat_topz hR2 (by omega)
        rw [ht] at hv2 hlt2
        exact dv_mid (Qv := rnat D2 q n) (Rv := rnat D2 T m) hG hS2 (hB1.same hlen2) (by omega) (by rw [ho2 0 hp]; exact hz) hp hq (hy.congr (Nat.le_refl _) ho2) hQ2 (hR2.less (by omega)) rfl rfl hy0 (by omega) (by omega) hs (by rw [← x5, hv2, hYz]) (by omega) (K'.from hf2 ho2)
      | succ i ih =>
        intro c o12 o13 o14 M2 D2 hn hS2 hlen2 hf2 ho2 hR2 hlt2 hQ2 hv2
        have ht := rnat_topz hR2 (by omega)
        rw [ht] at hv2 hlt2
        obtain ⟨v1, v3⟩ := x3.dv (i := i + 1) (by omega) (by omega)
        have hxi : rnat D (x + i) (c + 1) = dv D (x + i + 1) + 32768 * rnat D (x + i + 1) c := rnat_head
        have hxe : dv D (x + i + 1) = dv D (x + (i + 1)) := rfl
        rw [hxe, show x + i + 1 = x + (i + 1) from rfl, hv2] at hxi
        revert v1 v3 hxi
        generalize dv D (x + (i + 1)) = xi
        intro v1 v3 hxi
        refine jj_iload (pc := 185) kRW_divide_d185 rfl ?_
        refine jn_if_le (pc := 187) (tgt := 318) kRW_divide_d187 (by decide) (by omega) (fun c => by exfalso; omega) (fun _ => ?_)
        refine jj_iload (pc := 190) kRW_divide_d190 rfl ?_
        refine jn_iconst (pc := 192) 1 kRW_divide_d192 (by decide) ?_
        refine jn_iadd (pc := 193) (m + 1) kRW_divide_d193 (by omega) ?_
        refine jj_istore (pc := 194) kRW_divide_d194 (Nat.le_of_ble_eq_true rfl) ?_
        show jj G kRW_divide (d + 6) Q rc1 rs1 196 [some (.ref w), some (.int (nI (x))), some (.int (nI (y))), some (.int (s)), some (.int (nI (n))), some (.int (nI (m))), some (.int (nI (T))), some (.int (nI (q))), some (.int (nI (U))), some (.long (lN (L))), none, some (.int (nI (i + 1))), some (.int (nI (m + 1))), (o13), (o14), none, none, none, none, none, none, none, none, none] [] M2
        have shift : ∀ k, k ≤ m → ∀ (M3 : mheap) (D3 : List Int32), RW M3 w D3 T v2 → D3.length = D1.length → RF M2 M3 w → (∀ j, k < j → j ≤ m → D3.getD (T + j + 1) 0 = D2.getD (T + j) 0) → (∀ j, j ≤ T + k + 1 ∨ T + m + 1 < j → D3.getD j 0 = D2.getD j 0) → jj G kRW_divide (d + 6) Q rc1 rs1 196 [some (.ref w), some (.int (nI (x))), some (.int (nI (y))), some (.int (s)), some (.int (nI (n))), some (.int (nI (m))), some (.int (nI (T))), some (.int (nI (q))), some (.int (nI (U))), some (.long (lN (L))), none, some (.int (nI (i + 1))), some (.int (nI (k + 1))), (o13), (o14), none, none, none, none, none, none, none, none, none] [] M3 := by
          intro k
          induction k with
          | zero =>
            intro hk M3 D3 hS3 hlen3 hf3 hc3 ho3
            obtain ⟨dd3, hw3, hd3⟩ := id hS3
            have hwd3 : w ≠ dd3 := fun e => by subst e; rw [hw3] at hd3; cases hd3
            have hl3 : D3.length < 2 ^ 31 := by omega
            refine jj_iload (pc := 196) kRW_divide_d196 rfl ?_
            refine jn_iconst (pc := 198) 1 kRW_divide_d198 (by decide) ?_
            refine jn_icmp_le (pc := 199) (tgt := 230) kRW_divide_d199 (by decide) (by omega) (by omega) (fun _ => ?_) (fun c => by exfalso; omega)
            refine jj_aload_n (pc := 230) kRW_divide_d230 rfl ?_
            refine jj_getf (pc := 231) kRW_divide_d231 (kfRW_d hG) hw3 rfl ?_
            refine jj_iload (pc := 234) kRW_divide_d234 rfl ?_
            refine jn_iconst (pc := 236) 1 kRW_divide_d236 (by decide) ?_
            refine jn_iadd (pc := 237) (T + 1) kRW_divide_d237 (by omega) ?_
            refine jj_aload_n (pc := 238) kRW_divide_d238 rfl ?_
            refine jj_getf (pc := 239) kRW_divide_d239 (kfRW_d hG) hw3 rfl ?_
            refine jj_iload_n (pc := 242) kRW_divide_d242 rfl ?_
            refine jj_iload (pc := 243) kRW_divide_d243 rfl ?_
            refine jn_iadd (pc := 245) (x + i + 1) kRW_divide_d245 (by omega) ?_
            have hxv : D3.getD (x + i + 1) 0 = nI xi := (ho3 _ (by omega)).trans ((ho2 _ (by omega)).trans v3)
            refine jn_iald (pc := 246) (v := (nI (xi))) kRW_divide_d246 (kG_t hG rfl) hd3 hl3 (by omega) (hxv) ?_
            refine jn_iast (pc := 247) kRW_divide_d247 (kG_t hG rfl) hd3 hl3 (by omega) ?_
            refine jn_gen (fun M101 hM102 => ?_)
            have h103 : M101 w = some (.inl nRW, [.ref dd3, .int (nI (T)), v2]) := by rw [hM102, jj_up_ne _ _ hwd3]; exact hw3
            have h104 : M101 dd3 = some (.inr 0, ((D3).set (T + 1) ((nI (xi)))).map .int) := by rw [hM102]; exact jj_up_at _ _ _
            have hF105 : RF M2 M101 w := by rw [hM102]; exact hf3.trans (RF.put hw3 hwd3)
            have hA4 : rnat (D3.set (T + 1) (nI xi)) T (m + 1) = xi + 32768 * rnat D2 T m := rnat_shift (gd_set_eq (by omega)) v1 (fun j h1 h2 => by rw [gd_set_ne (by omega), show T + 1 + j = T + j + 1 by omega]; exact hc3 j h1 h2)
            have hR4 : RD (D3.set (T + 1) (nI xi)) T (m + 1) := fun j h1 h2 => by
              by_cases e : j = 1
              · exact ⟨xi, v1, by rw [e]; exact gd_set_eq (by omega)⟩
              · obtain ⟨jj, rfl⟩ : ∃ jj, j = jj + 1 := ⟨j - 1, by omega⟩
                obtain ⟨vv, q1, q2⟩ := hR2 jj (by omega) (by omega)
                exact ⟨vv, q1, by rw [gd_set_ne (by omega), show T + (jj + 1) = T + jj + 1 from rfl, hc3 jj (by omega) (by omega)]; exact q2⟩
            have ho4 : ∀ j, j ≤ T ∨ T + m + 1 < j → (D3.set (T + 1) (nI xi)).getD j 0 = D2.getD j 0 := fun j hj => by rw [gd_set_ne (by omega)]; exact ho3 j (by omega)
            have hlen4 : (D3.set (T + 1) (nI xi)).length = D1.length := by rw [List.length_set]; exact hlen3
            have hS4 : RW M101 w (D3.set (T + 1) (nI xi)) T v2 := ⟨dd3, h103, h104⟩
            have hf4 : RF M2 M101 w := hF105
            revert hA4 hR4 ho4 hlen4 hS4
            generalize D3.set (T + 1) (nI xi) = D4
            intro hA4 hR4 ho4 hlen4 hS4
            have hA5 : rnat D4 T (m + 1) < 32768 * Y := by rw [hA4]; exact div_small hlt2 v1
            have hl4 : D4.length < 2 ^ 31 := by omega
            have y34 : RD D4 y m := y3.congr (fun j h1 h2 => by rw [ho4 _ (by omega), ho2 _ (by omega)])
            have hY4 : rnat D4 y m = Y := by rw [← hY]; exact rnat_congr (fun j h1 h2 => by rw [ho4 _ (by omega), ho2 _ (by omega)])
            obtain ⟨dd4, hw4, hd4⟩ := id hS4
            refine jj_aload_n (pc := 248) kRW_divide_d248 rfl ?_
            refine jj_iload (pc := 249) kRW_divide_d249 rfl ?_
            refine jn_iconst (pc := 251) 1 kRW_divide_d251 (by decide) ?_
            refine jn_iadd (pc := 252) (T + 1) kRW_divide_d252 (by omega) ?_
            refine jj_iload (pc := 253) kRW_divide_d253 rfl ?_
            refine jn_iconst (pc := 255) 1 kRW_divide_d255 (by decide) ?_
            refine jn_iadd (pc := 256) (m + 1) kRW_divide_d256 (by omega) ?_
            refine jj_iload (pc := 257) kRW_divide_d257 rfl ?_
            refine jj_callV (pc := 259) (b := w) (As := [.int (nI (T + 1)), .int (nI (m + 1)), .int (nI (m))]) kRW_divide_d259 (kvRW_RW_leading hG) (kG_cl hG rfl) rfl hw4 rfl rfl rfl (Nat.le_of_ble_eq_true rfl) (Nat.le_of_ble_eq_true rfl) (jj_bare0 rfl) ?_
            refine rw_leading (r := T) hG hS4 hl4 hm (by omega) (hR4.less (by omega)) (Or.inr ⟨rfl, hR4 (m + 1) (by omega) (Nat.le_refl _)⟩) (fun H hH hH4 => ?_)
            show jj G kRW_divide (d + 6) Q rc1 rs1 262 [some (.ref w), some (.int (nI (x))), some (.int (nI (y))), some (.int (s)), some (.int (nI (n))), some (.int (nI (m))), some (.int (nI (T))), some (.int (nI (q))), some (.int (nI (U))), some (.long (lN (L))), none, some (.int (nI (i + 1))), some (.int (nI (1))), (o13), (o14), none, none, none, none, none, none, none, none, none] [.long (lN (H))] M101
            rw [if_neg (by omega), show rnat D4 T m + dv D4 (T + (m + 1)) * 32768 ^ m = rnat D4 T (m + 1) from rfl] at hH
            refine jj_lstore (pc := 262) kRW_divide_d262 (Nat.le_of_ble_eq_true rfl) ?_
            refine jj_lload (pc := 264) kRW_divide_d264 rfl ?_
            refine jj_lload (pc := 266) kRW_divide_d266 rfl ?_
            refine jj_ldiv (pc := 268) kRW_divide_d268 (lN_ne (by omega) hL0) ?_
            refine jn_top (.long (lN (H / L))) (congrArg Value.long (lN_divN (by omega) (by omega))) ?_
            have hHL : H / L ≤ H := Nat.div_le_self _ _
            refine jj_ldc2 (pc := 269) kRW_divide_d269 (kcRW_32767 hG) ?_
            refine jn_top (.long (lN (32767))) (rfl) ?_
            refine jj_callS (pc := 272) (As := [.long (lN (H / L)), .long (lN (32767))]) kRW_divide_d272 (kvRW_JM_min_2 hG) rfl rfl rfl (Nat.le_of_ble_eq_true rfl) (Nat.le_of_ble_eq_true rfl) (jj_bare0 rfl) ?_
            refine jm_minL ?_
            show jj G kRW_divide (d + 6) Q rc1 rs1 275 [some (.ref w), some (.int (nI (x))), some (.int (nI (y))), some (.int (s)), some (.int (nI (n))), some (.int (nI (m))), some (.int (nI (T))), some (.int (nI (q))), some (.int (nI (U))), some (.long (lN (L))), none, some (.int (nI (i + 1))), some (.long (lN (H))), none, (o14), none, none, none, none, none, none, none, none, none] [.long (if lN (32767) < lN (H / L) then lN (32767) else lN (H / L))] M101
            obtain ⟨f0, hf0⟩ : ∃ f0, min (H / L) 32767 = f0 := ⟨_, rfl⟩
            refine jn_top (.long (lN (f0))) (congrArg Value.long (by rw [lN_min (by omega) (by omega), hf0])) ?_
            refine jj_l2i (pc := 275) kRW_divide_d275 ?_
            refine jn_top (.int (nI (f0))) (congrArg Value.int (lN_i _)) ?_
            refine jj_istore (pc := 276) kRW_divide_d276 (Nat.le_of_ble_eq_true rfl) ?_
            show jj G kRW_divide (d + 6) Q rc1 rs1 278 [some (.ref w), some (.int (nI (x))), some (.int (nI (y))), some (.int (s)), some (.int (nI (n))), some (.int (nI (m))), some (.int (nI (T))), some (.int (nI (q))), some (.int (nI (U))), some (.long (lN (L))), none, some (.int (nI (i + 1))), some (.long (lN (H))), none, some (.int (nI (f0))), none, none, none, none, none, none, none, none, none] [] M101
            have hguess : rnat D4 T (m + 1) / Y ≤ f0 := by
              have g1 := lead3_guess hL hH (Nat.div_mul_le_self (rnat D4 T (m + 1)) Y) hL0
              have g2 := div_quot hA5
              omega
            have tries : ∀ f, rnat D4 T (m + 1) / Y ≤ f → f < 32768 → ∀ (M7 : mheap) (D7 : List Int32), RW M7 w D7 T v2 → D7.length = D4.length → RF M101 M7 w → (∀ j, D7.getD j 0 = D4.getD j 0) → jj G kRW_divide (d + 6) Q rc1 rs1 278 [some (.ref w), some (.int (nI (x))), some (.int (nI (y))), some (.int (s)), some (.int (nI (n))), some (.int (nI (m))), some (.int (nI (T))), some (.int (nI (q))), some (.int (nI (U))), some (.long (lN (L))), none, some (.int (nI (i + 1))), some (.long (lN (H))), none, some (.int (nI (f))), none, none, none, none, none, none, none, none, none] [] M7 := by
              intro f
              induction f with
              | zero =>
                intro hf1 hf2' M7 D7 hS7 hlen7 hf7 ho7
                obtain ⟨dd7, hw7, hd7⟩ := id hS7
                have hwd7 : w ≠ dd7 := fun e => by subst e; rw [hw7] at hd7; cases hd7
                have hl7 : D7.length < 2 ^ 31 := by omega
                have hR7 : RD D7 T (m + 1) := hR4.congr (fun j h1 h2 => ho7 _)
                have hA7 : rnat D7 T (m + 1) = rnat D4 T (m + 1) := rnat_congr (fun j h1 h2 => ho7 _)
                have y37 : RD D7 y m := y34.congr (fun j h1 h2 => ho7 _)
                have hY7 : rnat D7 y m = Y := by rw [← hY4]; exact rnat_congr (fun j h1 h2 => ho7 _)
                refine jj_aload_n (pc := 278) kRW_divide_d278 rfl ?_
                refine jj_iload (pc := 279) kRW_divide_d279 rfl ?_
                refine jn_iconst (pc := 281) 1 kRW_divide_d281 (by decide) ?_
                refine jn_iadd (pc := 282) (T + 1) kRW_divide_d282 (by omega) ?_
                refine jj_iload_n (pc := 283) kRW_divide_d283 rfl ?_
                refine jj_iload (pc := 284) kRW_divide_d284 rfl ?_
                refine jj_iload (pc := 286) kRW_divide_d286 rfl ?_
                refine jj_callV (pc := 288) (b := w) (As := [.int (nI (T + 1)), .int (nI (y)), .int (nI (m)), .int (nI (0))]) kRW_divide_d288 (kvRW_RW_takes hG) (kG_cl hG rfl) rfl hw7 rfl rfl rfl (Nat.le_of_ble_eq_true rfl) (Nat.le_of_ble_eq_true rfl) (jj_bare0 rfl) ?_
                refine rw_takes (r := T) hG hS7 hl7 (by omega) (by omega) hR7 y37 hf2' (fun hle M8 D8 hS8 hlen8 hf8 ho8 hR8 hv8 => ?_) (fun hlt M8 D8 hS8 hlen8 hf8 ho8 => ?_)
                · skip
                  show jj G kRW_divide (d + 6) Q rc1 rs1 291 [some (.ref w), some (.int (nI (x))), some (.int (nI (y))), some (.int (s)), some (.int (nI (n))), some (.int (nI (m))), some (.int (nI (T))), some (.int (nI (q))), some (.int (nI (U))), some (.long (lN (L))), none, some (.int (nI (i + 1))), some (.long (lN (H))), none, some (.int (nI (0))), none, none, none, none, none, none, none, none, none] [.int (nI (1))] M8
                  rw [hY7, hA7] at hle hv8
                  obtain ⟨dd8, hw8, hd8⟩ := id hS8
                  have hwd8 : w ≠ dd8 := fun e => by subst e; rw [hw8] at hd8; cases hd8
                  have hl8 : D8.length < 2 ^ 31 := by omega
                  have hfq : rnat D4 T (m + 1) / Y = 0 := by
                    have := (Nat.le_div_iff_mul_le hY0).mpr hle
                    omega
                  have hrem : rnat D8 T (m + 1) < Y := by
                    have e1 := Nat.div_add_mod (rnat D4 T (m + 1)) Y
                    have e2 := Nat.mod_lt (rnat D4 T (m + 1)) hY0
                    rw [hfq, Nat.mul_comm] at e1
                    omega
                  refine jn_if_ne (pc := 291) (tgt := 300) kRW_divide_d291 (by decide) (by omega) (fun _ => ?_) (fun c => by exfalso; omega)
                  refine jj_aload_n (pc := 300) kRW_divide_d300 rfl ?_
                  refine jj_getf (pc := 301) kRW_divide_d301 (kfRW_d hG) hw8 rfl ?_
                  refine jj_iload (pc := 304) kRW_divide_d304 rfl ?_
                  refine jj_iload (pc := 306) kRW_divide_d306 rfl ?_
                  refine jn_iadd (pc := 308) (q + i + 1) kRW_divide_d308 (by omega) ?_
                  refine jj_iload (pc := 309) kRW_divide_d309 rfl ?_
                  refine jn_iast (pc := 311) kRW_divide_d311 (kG_t hG rfl) hd8 hl8 (by omega) ?_
                  refine jn_gen (fun M106 hM107 => ?_)
                  have h108 : M106 w = some (.inl nRW, [.ref dd8, .int (nI (T)), v2]) := by rw [hM107, jj_up_ne _ _ hwd8]; exact hw8
                  have h109 : M106 dd8 = some (.inr 0, ((D8).set (q + i + 1) ((nI (0)))).map .int) := by rw [hM107]; exact jj_up_at _ _ _
                  have hF110 : RF M8 M106 w := by rw [hM107]; exact (RF.refl M8 w).trans (RF.put hw8 hwd8)
                  refine jn_iinc (pc := 312) (i) kRW_divide_d312 rfl (nI_m1 (by omega)) ?_
                  refine jj_goto (pc := 315) (tgt := 185) kRW_divide_d315 (by decide) ?_
                  show jj G kRW_divide (d + 6) Q rc1 rs1 185 [some (.ref w), some (.int (nI (x))), some (.int (nI (y))), some (.int (s)), some (.int (nI (n))), some (.int (nI (m))), some (.int (nI (T))), some (.int (nI (q))), some (.int (nI (U))), some (.long (lN (L))), none, some (.int (nI (i))), some (.long (lN (H))), none, some (.int (nI (0))), none, none, none, none, none, none, none, none, none] [] M106
                  have ho9 : ∀ j, j < T → (D8.set (q + i + 1) (nI (0))).getD j 0 = D.getD j 0 := fun j hj => by rw [gd_set_ne (by omega), ho8 j (by omega), ho7 j, ho4 j (by omega), ho2 j hj]
                  have hc9 : ∀ j, 0 < j → j ≤ m + 1 → (D8.set (q + i + 1) (nI (0))).getD (T + j) 0 = D8.getD (T + j) 0 := fun j h1 h2 => gd_set_ne (by omega)
                  have hq9 : ∀ j, 0 < j → j ≤ c → (D8.set (q + i + 1) (nI (0))).getD (q + i + 1 + j) 0 = D2.getD (q + (i + 1) + j) 0 := fun j h1 h2 => by rw [gd_set_ne (by omega), ho8 _ (by omega), ho7, ho4 _ (by omega)]; rfl
                  have hh9 : (D8.set (q + i + 1) (nI (0))).getD (q + i + 1) 0 = nI (0) := gd_set_eq (by omega)
                  refine ih (c + 1) _ _ _ _ (D8.set (q + i + 1) (nI (0))) (by omega) ⟨dd8, h108, h109⟩ (by rw [List.length_set]; omega) ((((hf2.trans hf4).trans hf7).trans hf8).trans hF110) ho9 (hR8.congr hc9) (by rw [rnat_congr hc9]; exact hrem) (fun j h1 h2 => ?_) ?_
                  · by_cases e : j = 1
                    · exact ⟨0, hf2', by rw [e]; exact hh9⟩
                    · obtain ⟨jj, rfl⟩ : ∃ jj, j = jj + 1 := ⟨j - 1, by omega⟩
                      obtain ⟨vv, q1, q2⟩ := hQ2 jj (by omega) (by omega)
                      refine ⟨vv, q1, ?_⟩
                      have := hq9 jj (by omega) (by omega)
                      rw [show q + i + 1 + jj = q + i + (jj + 1) by omega] at this
                      rw [this]
                      exact q2
                  · rw [hxi, rnat_head, dv_nI hh9 (by omega), rnat_congr (D' := D2) (y := q + (i + 1)) hq9, rnat_congr hc9, Nat.add_mul, Nat.mul_add, Nat.mul_assoc]
                    rw [hA4] at hv8
                    omega
                · skip
                  show jj G kRW_divide (d + 6) Q rc1 rs1 291 [some (.ref w), some (.int (nI (x))), some (.int (nI (y))), some (.int (s)), some (.int (nI (n))), some (.int (nI (m))), some (.int (nI (T))), some (.int (nI (q))), some (.int (nI (U))), some (.long (lN (L))), none, some (.int (nI (i + 1))), some (.long (lN (H))), none, some (.int (nI (0))), none, none, none, none, none, none, none, none, none] [.int (nI (0))] M8
                  rw [hY7, hA7] at hlt
                  exfalso
                  omega
              | succ f ihf =>
                intro hf1 hf2' M7 D7 hS7 hlen7 hf7 ho7
                obtain ⟨dd7, hw7, hd7⟩ := id hS7
                have hwd7 : w ≠ dd7 := fun e => by subst e; rw [hw7] at hd7; cases hd7
                have hl7 : D7.length < 2 ^ 31 := by omega
                have hR7 : RD D7 T (m + 1) := hR4.congr (fun j h1 h2 => ho7 _)
                have hA7 : rnat D7 T (m + 1) = rnat D4 T (m + 1) := rnat_congr (fun j h1 h2 => ho7 _)
                have y37 : RD D7 y m := y34.congr (fun j h1 h2 => ho7 _)
                have hY7 : rnat D7 y m = Y := by rw [← hY4]; exact rnat_congr (fun j h1 h2 => ho7 _)
                refine jj_aload_n (pc := 278) kRW_divide_d278 rfl ?_
                refine jj_iload (pc := 279) kRW_divide_d279 rfl ?_
                refine jn_iconst (pc := 281) 1 kRW_divide_d281 (by decide) ?_
                refine jn_iadd (pc := 282) (T + 1) kRW_divide_d282 (by omega) ?_
                refine jj_iload_n (pc := 283) kRW_divide_d283 rfl ?_
                refine jj_iload (pc := 284) kRW_divide_d284 rfl ?_
                refine jj_iload (pc := 286) kRW_divide_d286 rfl ?_
                refine jj_callV (pc := 288) (b := w) (As := [.int (nI (T + 1)), .int (nI (y)), .int (nI (m)), .int (nI (f + 1))]) kRW_divide_d288 (kvRW_RW_takes hG) (kG_cl hG rfl) rfl hw7 rfl rfl rfl (Nat.le_of_ble_eq_true rfl) (Nat.le_of_ble_eq_true rfl) (jj_bare0 rfl) ?_
                refine rw_takes (r := T) hG hS7 hl7 (by omega) (by omega) hR7 y37 hf2' (fun hle M8 D8 hS8 hlen8 hf8 ho8 hR8 hv8 => ?_) (fun hlt M8 D8 hS8 hlen8 hf8 ho8 => ?_)
                · skip
                  show jj G kRW_divide (d + 6) Q rc1 rs1 291 [some (.ref w), some (.int (nI (x))), some (.int (nI (y))), some (.int (s)), some (.int (nI (n))), some (.int (nI (m))), some (.int (nI (T))), some (.int (nI (q))), some (.int (nI (U))), some (.long (lN (L))), none, some (.int (nI (i + 1))), some (.long (lN (H))), none, some (.int (nI (f + 1))), none, none, none, none, none, none, none, none, none] [.int (nI (1))] M8
                  rw [hY7, hA7] at hle hv8
                  obtain ⟨dd8, hw8, hd8⟩ := id hS8
                  have hwd8 : w ≠ dd8 := fun e => by subst e; rw [hw8] at hd8; cases hd8
                  have hl8 : D8.length < 2 ^ 31 := by omega
                  have hfq : rnat D4 T (m + 1) / Y = f + 1 := by
                    have := (Nat.le_div_iff_mul_le hY0).mpr hle
                    omega
                  have hrem : rnat D8 T (m + 1) < Y := by
                    have e1 := Nat.div_add_mod (rnat D4 T (m + 1)) Y
                    have e2 := Nat.mod_lt (rnat D4 T (m + 1)) hY0
                    rw [hfq, Nat.mul_comm] at e1
                    omega
                  refine jn_if_ne (pc := 291) (tgt := 300) kRW_divide_d291 (by decide) (by omega) (fun _ => ?_) (fun c => by exfalso; omega)
                  refine jj_aload_n (pc := 300) kRW_divide_d300 rfl ?_
                  refine jj_getf (pc := 301) kRW_divide_d301 (kfRW_d hG) hw8 rfl ?_
                  refine jj_iload (pc := 304) kRW_divide_d304 rfl ?_
                  refine jj_iload (pc := 306) kRW_divide_d306 rfl ?_
                  refine jn_iadd (pc := 308) (q + i + 1) kRW_divide_d308 (by omega) ?_
                  refine jj_iload (pc := 309) kRW_divide_d309 rfl ?_
                  refine jn_iast (pc := 311) kRW_divide_d311 (kG_t hG rfl) hd8 hl8 (by omega) ?_
                  refine jn_gen (fun M111 hM112 => ?_)
                  have h113 : M111 w = some (.inl nRW, [.ref dd8, .int (nI (T)), v2]) := by rw [hM112, jj_up_ne _ _ hwd8]; exact hw8
                  have h114 : M111 dd8 = some (.inr 0, ((D8).set (q + i + 1) ((nI (f + 1)))).map .int) := by rw [hM112]; exact jj_up_at _ _ _
                  have hF115 : RF M8 M111 w := by rw [hM112]; exact (RF.refl M8 w).trans (RF.put hw8 hwd8)
                  refine jn_iinc (pc := 312) (i) kRW_divide_d312 rfl (nI_m1 (by omega)) ?_
                  refine jj_goto (pc := 315) (tgt := 185) kRW_divide_d315 (by decide) ?_
                  show jj G kRW_divide (d + 6) Q rc1 rs1 185 [some (.ref w), some (.int (nI (x))), some (.int (nI (y))), some (.int (s)), some (.int (nI (n))), some (.int (nI (m))), some (.int (nI (T))), some (.int (nI (q))), some (.int (nI (U))), some (.long (lN (L))), none, some (.int (nI (i))), some (.long (lN (H))), none, some (.int (nI (f + 1))), none, none, none, none, none, none, none, none, none] [] M111
                  have ho9 : ∀ j, j < T → (D8.set (q + i + 1) (nI (f + 1))).getD j 0 = D.getD j 0 := fun j hj => by rw [gd_set_ne (by omega), ho8 j (by omega), ho7 j, ho4 j (by omega), ho2 j hj]
                  have hc9 : ∀ j, 0 < j → j ≤ m + 1 → (D8.set (q + i + 1) (nI (f + 1))).getD (T + j) 0 = D8.getD (T + j) 0 := fun j h1 h2 => gd_set_ne (by omega)
                  have hq9 : ∀ j, 0 < j → j ≤ c → (D8.set (q + i + 1) (nI (f + 1))).getD (q + i + 1 + j) 0 = D2.getD (q + (i + 1) + j) 0 := fun j h1 h2 => by rw [gd_set_ne (by omega), ho8 _ (by omega), ho7, ho4 _ (by omega)]; rfl
                  have hh9 : (D8.set (q + i + 1) (nI (f + 1))).getD (q + i + 1) 0 = nI (f + 1) := gd_set_eq (by omega)
                  refine ih (c + 1) _ _ _ _ (D8.set (q + i + 1) (nI (f + 1))) (by omega) ⟨dd8, h113, h114⟩ (by rw [List.length_set]; omega) ((((hf2.trans hf4).trans hf7).trans hf8).trans hF115) ho9 (hR8.congr hc9) (by rw [rnat_congr hc9]; exact hrem) (fun j h1 h2 => ?_) ?_
                  · by_cases e : j = 1
                    · exact ⟨f + 1, hf2', by rw [e]; exact hh9⟩
                    · obtain ⟨jj, rfl⟩ : ∃ jj, j = jj + 1 := ⟨j - 1, by omega⟩
                      obtain ⟨vv, q1, q2⟩ := hQ2 jj (by omega) (by omega)
                      refine ⟨vv, q1, ?_⟩
                      have := hq9 jj (by omega) (by omega)
                      rw [show q + i + 1 + jj = q + i + (jj + 1) by omega] at this
                      rw [this]
                      exact q2
                  · rw [hxi, rnat_head, dv_nI hh9 (by omega), rnat_congr (D' := D2) (y := q + (i + 1)) hq9, rnat_congr hc9, Nat.add_mul, Nat.mul_add, Nat.mul_assoc]
                    rw [hA4] at hv8
                    omega
                · skip
                  show jj G kRW_divide (d + 6) Q rc1 rs1 291 [some (.ref w), some (.int (nI (x))), some (.int (nI (y))), some (.int (s)), some (.int (nI (n))), some (.int (nI (m))), some (.int (nI (T))), some (.int (nI (q))), some (.int (nI (U))), some (.long (lN (L))), none, some (.int (nI (i + 1))), some (.long (lN (H))), none, some (.int (nI (f + 1))), none, none, none, none, none, none, none, none, none] [.int (nI (0))] M8
                  rw [hY7, hA7] at hlt
                  refine jn_if_ne (pc := 291) (tgt := 300) kRW_divide_d291 (by decide) (by omega) (fun c => by exfalso; omega) (fun _ => ?_)
                  refine jn_iinc (pc := 294) (f) kRW_divide_d294 rfl (nI_m1 (by omega)) ?_
                  refine jj_goto (pc := 297) (tgt := 278) kRW_divide_d297 (by decide) ?_
                  show jj G kRW_divide (d + 6) Q rc1 rs1 278 [some (.ref w), some (.int (nI (x))), some (.int (nI (y))), some (.int (s)), some (.int (nI (n))), some (.int (nI (m))), some (.int (nI (T))), some (.int (nI (q))), some (.int (nI (U))), some (.long (lN (L))), none, some (.int (nI (i + 1))), some (.long (lN (H))), none, some (.int (nI (f))), none, none, none, none, none, none, none, none, none] [] M8
                  have hlt2' : rnat D4 T (m + 1) / Y < f + 1 := (Nat.div_lt_iff_lt_mul hY0).mpr hlt
                  exact ihf (by omega) (by omega) M8 D8 hS8 (by omega) (hf7.trans hf8) (fun j => by rw [ho8 j, ho7 j])
            exact tries f0 hguess (by omega) M101 D4 hS4 rfl (RF.refl _ w) (fun j => rfl)
          | succ k ihk =>
            intro hk M3 D3 hS3 hlen3 hf3 hc3 ho3
            obtain ⟨dd3, hw3, hd3⟩ := id hS3
            have hwd3 : w ≠ dd3 := fun e => by subst e; rw [hw3] at hd3; cases hd3
            have hl3 : D3.length < 2 ^ 31 := by omega
            refine jj_iload (pc := 196) kRW_divide_d196 rfl ?_
            refine jn_iconst (pc := 198) 1 kRW_divide_d198 (by decide) ?_
            refine jn_icmp_le (pc := 199) (tgt := 230) kRW_divide_d199 (by decide) (by omega) (by omega) (fun c => by exfalso; omega) (fun _ => ?_)
            refine jj_aload_n (pc := 202) kRW_divide_d202 rfl ?_
            refine jj_getf (pc := 203) kRW_divide_d203 (kfRW_d hG) hw3 rfl ?_
            refine jj_iload (pc := 206) kRW_divide_d206 rfl ?_
            refine jj_iload (pc := 208) kRW_divide_d208 rfl ?_
            refine jn_iadd (pc := 210) (T + k + 2) kRW_divide_d210 (by omega) ?_
            refine jj_aload_n (pc := 211) kRW_divide_d211 rfl ?_
            refine jj_getf (pc := 212) kRW_divide_d212 (kfRW_d hG) hw3 rfl ?_
            refine jj_iload (pc := 215) kRW_divide_d215 rfl ?_
            refine jj_iload (pc := 217) kRW_divide_d217 rfl ?_
            refine jn_iadd (pc := 219) (T + k + 2) kRW_divide_d219 (by omega) ?_
            refine jn_iconst (pc := 220) 1 kRW_divide_d220 (by decide) ?_
            refine jn_isub (pc := 221) (T + k + 1) kRW_divide_d221 (by omega) ?_
            refine jn_iald (pc := 222) (v := (D2.getD (T + k + 1) 0)) kRW_divide_d222 (kG_t hG rfl) hd3 hl3 (by omega) (ho3 _ (by omega)) ?_
            refine jn_iast (pc := 223) kRW_divide_d223 (kG_t hG rfl) hd3 hl3 (by omega) ?_
            refine jn_gen (fun M116 hM117 => ?_)
            have h118 : M116 w = some (.inl nRW, [.ref dd3, .int (nI (T)), v2]) := by rw [hM117, jj_up_ne _ _ hwd3]; exact hw3
            have h119 : M116 dd3 = some (.inr 0, ((D3).set (T + k + 2) ((D2.getD (T + k + 1) 0))).map .int) := by rw [hM117]; exact jj_up_at _ _ _
            have hF120 : RF M2 M116 w := by rw [hM117]; exact hf3.trans (RF.put hw3 hwd3)
            refine jn_iinc (pc := 224) (k + 1) kRW_divide_d224 rfl (nI_m1 (by omega)) ?_
            refine jj_goto (pc := 227) (tgt := 196) kRW_divide_d227 (by decide) ?_
            show jj G kRW_divide (d + 6) Q rc1 rs1 196 [some (.ref w), some (.int (nI (x))), some (.int (nI (y))), some (.int (s)), some (.int (nI (n))), some (.int (nI (m))), some (.int (nI (T))), some (.int (nI (q))), some (.int (nI (U))), some (.long (lN (L))), none, some (.int (nI (i + 1))), some (.int (nI (k + 1))), (o13), (o14), none, none, none, none, none, none, none, none, none] [] M116
            exact ihk (by omega) _ (D3.set (T + k + 2) (D2.getD (T + k + 1) 0)) ⟨dd3, h118, h119⟩ (by rw [List.length_set]; exact hlen3) hF120 (fun j h1 h2 => by
              by_cases e : j = k + 1
              · rw [e, show T + (k + 1) + 1 = T + k + 2 from rfl]; exact gd_set_eq (by omega)
              · rw [gd_set_ne (by omega)]; exact hc3 j (by omega) h2) (fun j hj => by rw [gd_set_ne (by omega)]; exact ho3 j (by omega))
        exact shift m (Nat.le_refl m) M2 D2 hS2 hlen2 (RF.refl _ w) (fun j h1 h2 => by omega) (fun j _ => rfl)
    have k105 : ∀ (U : Nat) (o8 : Option Value) (M5 : mheap) (D5 : List Int32), (U = n ∧ n < mp ∨ U = mp ∧ mp ≤ n) → RW M5 w D5 T v2 → D5.length = D1.length → RF M1 M5 w → (∀ i, i ≤ m + 2 → D5.getD (T + i) 0 = nI 0) → (∀ i, i < T ∨ T + m + 3 ≤ i → D5.getD i 0 = D.getD i 0) → jj G kRW_divide (d + 6) Q rc1 rs1 105 [some (.ref w), some (.int (nI (x))), some (.int (nI (y))), some (.int (s)), some (.int (nI (n))), some (.int (nI (m))), some (.int (nI (T))), some (.int (nI (q))), (o8), none, none, none, none, none, none, none, none, none, none, none, none, none, none, none] [.int (nI (U))] M5 := by
      intro U o8 M5 D5 hU hS5 hlen5 hf5 hc5 ho5
      obtain ⟨V, hV⟩ : ∃ V, n = V + U := ⟨n - U, by omega⟩
      refine jj_istore (pc := 105) kRW_divide_d105 (Nat.le_of_ble_eq_true rfl) ?_
      refine jn_iconst (pc := 107) 1 kRW_divide_d107 (by decide) ?_
      refine jj_istore (pc := 108) kRW_divide_d108 (Nat.le_of_ble_eq_true rfl) ?_
      show jj G kRW_divide (d + 6) Q rc1 rs1 110 [some (.ref w), some (.int (nI (x))), some (.int (nI (y))), some (.int (s)), some (.int (nI (n))), some (.int (nI (m))), some (.int (nI (T))), some (.int (nI (q))), some (.int (nI (U))), some (.int (nI (1))), none, none, none, none, none, none, none, none, none, none, none, none, none, none] [] M5
      have k165 : ∀ (M6 : mheap) (D6 : List Int32), RW M6 w D6 T v2 → D6.length = D1.length → RF M1 M6 w → (∀ i, 0 < i → i < (U + 1) → D6.getD (T + i) 0 = D.getD (x + V + i) 0 ∧ D6.getD (q + V + i) 0 = nI 0) → (∀ i, (i ≤ T ∨ T + (U + 1) ≤ i) → (i ≤ q + V ∨ q + V + (U + 1) ≤ i) → D6.getD i 0 = D5.getD i 0) → jj G kRW_divide (d + 6) Q rc1 rs1 165 [some (.ref w), some (.int (nI (x))), some (.int (nI (y))), some (.int (s)), some (.int (nI (n))), some (.int (nI (m))), some (.int (nI (T))), some (.int (nI (q))), some (.int (nI (U))), some (.int (nI (U + 1))), none, none, none, none, none, none, none, none, none, none, none, none, none, none] [] M6 := by
        intro M6 D6 hS6 hlen6 hf6 hc6 ho6
        obtain ⟨dd6, hw6, hd6⟩ := id hS6
        have hwd6 : w ≠ dd6 := fun e => by subst e; rw [hw6] at hd6; cases hd6
        have hl6 : D6.length < 2 ^ 31 := by omega
        have ho7 : ∀ i, i < T → D6.getD i 0 = D.getD i 0 := fun i hi => by rw [ho6 i (by omega) (by omega), ho5 i (by omega)]
        have y36 : RD D6 y m := y3.congr (fun j h1 h2 => ho7 _ (by omega))
        have hY6 : rnat D6 y m = Y := by rw [← hY]; exact rnat_congr (fun j h1 h2 => ho7 _ (by omega))
        have hz6 : ∀ i, U < i → i ≤ m + 1 → D6.getD (T + i) 0 = nI 0 := fun i h1 h2 => by rw [ho6 _ (by omega) (by omega), hc5 i (by omega)]
        have hcp : ∀ i, 0 < i → i ≤ U → D6.getD (T + i) 0 = D.getD (x + V + i) 0 := fun i h1 h2 => (hc6 i h1 (by omega)).1
        have hxU : RD D (x + V) U := fun i h1 h2 => by have := x3 (V + i) (by omega) (by omega); rw [← Nat.add_assoc] at this; exact this
        have hR6 : RD D6 T (m + 1) := fun i h1 h2 => by
          by_cases e : i ≤ U
          · rw [hcp i h1 e]; exact hxU i h1 e
          · exact ⟨0, by decide, hz6 i (by omega) h2⟩
        have hr6 : rnat D6 T (m + 1) = rnat D (x + V) U := by
          rw [rnat_pad (u := U) (by omega) (fun i h1 h2 => hz6 i h1 h2)]
          exact rnat_congr hcp
        have hlt6 : rnat D6 T (m + 1) < Y := by
          rw [hr6]
          have := rnat_lt hxU
          have : 32768 ^ U ≤ 32768 ^ mp := Nat.pow_le_pow_right (by decide) (by omega)
          omega
        have hq6 : ∀ i, 0 < i → i ≤ U → D6.getD (q + V + i) 0 = nI 0 := fun i h1 h2 => (hc6 i h1 (by omega)).2
        refine jj_aload_n (pc := 165) kRW_divide_d165 rfl ?_
        refine jj_iload_n (pc := 166) kRW_divide_d166 rfl ?_
        refine jn_iconst (pc := 167) 1 kRW_divide_d167 (by decide) ?_
        refine jn_iadd (pc := 168) (y + 1) kRW_divide_d168 (by omega) ?_
        refine jj_iload (pc := 169) kRW_divide_d169 rfl ?_
        refine jj_iload (pc := 171) kRW_divide_d171 rfl ?_
        refine jj_callV (pc := 173) (b := w) (As := [.int (nI (y + 1)), .int (nI (m)), .int (nI (m))]) kRW_divide_d173 (kvRW_RW_leading hG) (kG_cl hG rfl) rfl hw6 rfl rfl rfl (Nat.le_of_ble_eq_true rfl) (Nat.le_of_ble_eq_true rfl) (jj_bare0 rfl) ?_
        refine rw_leading (r := y) hG hS6 hl6 hm (by omega) y36 (Or.inl rfl) (fun L hL hL4 => ?_)
        show jj G kRW_divide (d + 6) Q rc1 rs1 176 [some (.ref w), some (.int (nI (x))), some (.int (nI (y))), some (.int (s)), some (.int (nI (n))), some (.int (nI (m))), some (.int (nI (T))), some (.int (nI (q))), some (.int (nI (U))), some (.int (nI (U + 1))), none, none, none, none, none, none, none, none, none, none, none, none, none, none] [.long (lN (L))] M6
        rw [if_pos rfl, Nat.zero_mul, Nat.add_zero, hY6] at hL
        refine jj_lstore (pc := 176) kRW_divide_d176 (Nat.le_of_ble_eq_true rfl) ?_
        refine jj_iload (pc := 178) kRW_divide_d178 rfl ?_
        refine jj_iload (pc := 180) kRW_divide_d180 rfl ?_
        refine jn_isub (pc := 182) (V) kRW_divide_d182 (by omega) ?_
        refine jj_istore (pc := 183) kRW_divide_d183 (Nat.le_of_ble_eq_true rfl) ?_
        show jj G kRW_divide (d + 6) Q rc1 rs1 185 [some (.ref w), some (.int (nI (x))), some (.int (nI (y))), some (.int (s)), some (.int (nI (n))), some (.int (nI (m))), some (.int (nI (T))), some (.int (nI (q))), some (.int (nI (U))), some (.long (lN (L))), none, some (.int (nI (V))), none, none, none, none, none, none, none, none, none, none, none, none] [] M6
        exact main U L hL hL4 V U _ _ _ M6 D6 hV hS6 hlen6 (hf1.trans hf6) ho7 hR6 hlt6 (RD.zeros hq6) (by rw [rnat_zeros hq6, Nat.zero_mul, Nat.zero_add, hr6])
      have two : ∀ j k, U + 1 = k + j → 0 < k → ∀ (M6 : mheap) (D6 : List Int32), RW M6 w D6 T v2 → D6.length = D1.length → RF M1 M6 w → (∀ i, 0 < i → i < k → D6.getD (T + i) 0 = D.getD (x + V + i) 0 ∧ D6.getD (q + V + i) 0 = nI 0) → (∀ i, (i ≤ T ∨ T + k ≤ i) → (i ≤ q + V ∨ q + V + k ≤ i) → D6.getD i 0 = D5.getD i 0) → jj G kRW_divide (d + 6) Q rc1 rs1 110 [some (.ref w), some (.int (nI (x))), some (.int (nI (y))), some (.int (s)), some (.int (nI (n))), some (.int (nI (m))), some (.int (nI (T))), some (.int (nI (q))), some (.int (nI (U))), some (.int (nI (k))), none, none, none, none, none, none, none, none, none, none, none, none, none, none] [] M6 := by
        intro j
        induction j with
        | zero =>
          intro k hk hk0 M6 D6 hS6 hlen6 hf6 hc6 ho6
          have e : U + 1 = k := by omega
          subst e
          refine jj_iload (pc := 110) kRW_divide_d110 rfl ?_
          refine jj_iload (pc := 112) kRW_divide_d112 rfl ?_
          refine jn_icmp_gt (pc := 114) (tgt := 165) kRW_divide_d114 (by decide) (by omega) (by omega) (fun _ => ?_) (fun c => by exfalso; omega)
          exact k165 M6 D6 hS6 hlen6 hf6 hc6 ho6
        | succ j ih =>
          intro k hk hk0 M6 D6 hS6 hlen6 hf6 hc6 ho6
          obtain ⟨dd6, hw6, hd6⟩ := id hS6
          have hwd6 : w ≠ dd6 := fun e => by subst e; rw [hw6] at hd6; cases hd6
          have hl6 : D6.length < 2 ^ 31 := by omega
          refine jj_iload (pc := 110) kRW_divide_d110 rfl ?_
          refine jj_iload (pc := 112) kRW_divide_d112 rfl ?_
          refine jn_icmp_gt (pc := 114) (tgt := 165) kRW_divide_d114 (by decide) (by omega) (by omega) (fun c => by exfalso; omega) (fun _ => ?_)
          refine jj_aload_n (pc := 117) kRW_divide_d117 rfl ?_
          refine jj_getf (pc := 118) kRW_divide_d118 (kfRW_d hG) hw6 rfl ?_
          refine jj_iload (pc := 121) kRW_divide_d121 rfl ?_
          refine jj_iload (pc := 123) kRW_divide_d123 rfl ?_
          refine jn_iadd (pc := 125) (T + k) kRW_divide_d125 (by omega) ?_
          refine jj_aload_n (pc := 126) kRW_divide_d126 rfl ?_
          refine jj_getf (pc := 127) kRW_divide_d127 (kfRW_d hG) hw6 rfl ?_
          refine jj_iload_n (pc := 130) kRW_divide_d130 rfl ?_
          refine jj_iload (pc := 131) kRW_divide_d131 rfl ?_
          refine jn_iadd (pc := 133) (x + n) kRW_divide_d133 (by omega) ?_
          refine jj_iload (pc := 134) kRW_divide_d134 rfl ?_
          refine jn_isub (pc := 136) (x + V) kRW_divide_d136 (by omega) ?_
          refine jj_iload (pc := 137) kRW_divide_d137 rfl ?_
          refine jn_iadd (pc := 139) (x + V + k) kRW_divide_d139 (by omega) ?_
          have hv6 : D6.getD (x + V + k) 0 = D.getD (x + V + k) 0 := by rw [ho6 _ (by omega) (by omega), ho5 _ (by omega)]
          refine jn_iald (pc := 140) (v := (D.getD (x + V + k) 0)) kRW_divide_d140 (kG_t hG rfl) hd6 hl6 (by omega) (hv6) ?_
          refine jn_iast (pc := 141) kRW_divide_d141 (kG_t hG rfl) hd6 hl6 (by omega) ?_
          refine jn_gen (fun M121 hM122 => ?_)
          have h123 : M121 w = some (.inl nRW, [.ref dd6, .int (nI (T)), v2]) := by rw [hM122, jj_up_ne _ _ hwd6]; exact hw6
          have h124 : M121 dd6 = some (.inr 0, ((D6).set (T + k) ((D.getD (x + V + k) 0))).map .int) := by rw [hM122]; exact jj_up_at _ _ _
          have hF125 : RF M1 M121 w := by rw [hM122]; exact hf6.trans (RF.put hw6 hwd6)
          have hl6b : (D6.set (T + k) (D.getD (x + V + k) 0)).length < 2 ^ 31 := by rw [List.length_set]; exact hl6
          have hlb : (D6.set (T + k) (D.getD (x + V + k) 0)).length = D6.length := List.length_set ..
          refine jj_aload_n (pc := 142) kRW_divide_d142 rfl ?_
          refine jj_getf (pc := 143) kRW_divide_d143 (kfRW_d hG) h123 rfl ?_
          refine jj_iload (pc := 146) kRW_divide_d146 rfl ?_
          refine jj_iload (pc := 148) kRW_divide_d148 rfl ?_
          refine jn_iadd (pc := 150) (q + n) kRW_divide_d150 (by omega) ?_
          refine jj_iload (pc := 151) kRW_divide_d151 rfl ?_
          refine jn_isub (pc := 153) (q + V) kRW_divide_d153 (by omega) ?_
          refine jj_iload (pc := 154) kRW_divide_d154 rfl ?_
          refine jn_iadd (pc := 156) (q + V + k) kRW_divide_d156 (by omega) ?_
          refine jn_iconst (pc := 157) 0 kRW_divide_d157 (by decide) ?_
          refine jn_iast (pc := 158) kRW_divide_d158 (kG_t hG rfl) h124 hl6b (by omega) ?_
          refine jn_gen (fun M126 hM127 => ?_)
          have h128 : M126 w = some (.inl nRW, [.ref dd6, .int (nI (T)), v2]) := by rw [hM127, jj_up_ne _ _ hwd6]; exact h123
          have h129 : M126 dd6 = some (.inr 0, (((D6).set (T + k) ((D.getD (x + V + k) 0))).set (q + V + k) ((nI (0)))).map .int) := by rw [hM127]; exact jj_up_at _ _ _
          have hF130 : RF M1 M126 w := by rw [hM127]; exact hF125.trans (RF.put h123 hwd6)
          refine jn_iinc (pc := 159) (k + 1) kRW_divide_d159 rfl (nI_1 _) ?_
          refine jj_goto (pc := 162) (tgt := 110) kRW_divide_d162 (by decide) ?_
          show jj G kRW_divide (d + 6) Q rc1 rs1 110 [some (.ref w), some (.int (nI (x))), some (.int (nI (y))), some (.int (s)), some (.int (nI (n))), some (.int (nI (m))), some (.int (nI (T))), some (.int (nI (q))), some (.int (nI (U))), some (.int (nI (k + 1))), none, none, none, none, none, none, none, none, none, none, none, none, none, none] [] M126
          refine ih (k + 1) (by omega) (by omega) _ ((D6.set (T + k) (D.getD (x + V + k) 0)).set (q + V + k) (nI 0)) ⟨dd6, h128, h129⟩ (by rw [List.length_set, List.length_set]; exact hlen6) hF130 (fun i h1 h2 => ?_) (fun i h1 h2 => by rw [gd_set_ne (by omega), gd_set_ne (by omega)]; exact ho6 i (by omega) (by omega))
          by_cases e : i = k
          · subst e
            exact ⟨by rw [gd_set_ne (by omega)]; exact gd_set_eq (by omega), gd_set_eq (by rw [List.length_set]; omega)⟩
          · rw [gd_set_ne (by omega), gd_set_ne (by omega), gd_set_ne (by omega), gd_set_ne (by omega)]
            exact hc6 i h1 (by omega)
      exact two U 1 (by omega) (by decide) M5 D5 hS5 hlen5 hf5 (fun i h1 h2 => by omega) (fun i _ _ => rfl)
    have zeros : ∀ j k, m + 3 = k + j → ∀ (M5 : mheap) (D5 : List Int32), RW M5 w D5 T v2 → D5.length = D1.length → RF M1 M5 w → (∀ i, i < k → D5.getD (T + i) 0 = nI 0) → (∀ i, i < T ∨ T + k ≤ i → D5.getD i 0 = D1.getD i 0) → jj G kRW_divide (d + 6) Q rc1 rs1 61 [some (.ref w), some (.int (nI (x))), some (.int (nI (y))), some (.int (s)), some (.int (nI (n))), some (.int (nI (m))), some (.int (nI (T))), some (.int (nI (q))), some (.int (nI (k))), none, none, none, none, none, none, none, none, none, none, none, none, none, none, none] [] M5 := by
      intro j
      induction j with
      | zero =>
        intro k hk M5 D5 hS5 hlen5 hf5 hc5 ho5
        have e : m + 3 = k := by omega
        subst e
        refine jj_iload (pc := 61) kRW_divide_d61 rfl ?_
        refine jj_iload (pc := 63) kRW_divide_d63 rfl ?_
        refine jn_iconst (pc := 65) 2 kRW_divide_d65 (by decide) ?_
        refine jn_iadd (pc := 66) (m + 2) kRW_divide_d66 (by omega) ?_
        refine jn_icmp_gt (pc := 67) (tgt := 87) kRW_divide_d67 (by decide) (by omega) (by omega) (fun _ => ?_) (fun c => by exfalso; omega)
        refine jj_iload (pc := 87) kRW_divide_d87 rfl ?_
        refine jj_iload (pc := 89) kRW_divide_d89 rfl ?_
        refine jn_iconst (pc := 91) 1 kRW_divide_d91 (by decide) ?_
        refine jn_isub (pc := 92) (mp) kRW_divide_d92 (by omega) ?_
        refine jn_icmp_ge (pc := 93) (tgt := 101) kRW_divide_d93 (by decide) (by omega) (by omega) (fun c => ?_) (fun c => ?_)
        · skip
          refine jj_iload (pc := 101) kRW_divide_d101 rfl ?_
          refine jn_iconst (pc := 103) 1 kRW_divide_d103 (by decide) ?_
          refine jn_isub (pc := 104) (mp) kRW_divide_d104 (by omega) ?_
          exact k105 mp _ M5 D5 (Or.inr ⟨rfl, c⟩) hS5 hlen5 hf5 (fun i hi => hc5 i (by omega)) (fun i hi => by rw [ho5 i (by omega), hx1.at])
        · skip
          refine jj_iload (pc := 96) kRW_divide_d96 rfl ?_
          refine jj_goto (pc := 98) (tgt := 105) kRW_divide_d98 (by decide) ?_
          exact k105 n _ M5 D5 (Or.inl ⟨rfl, c⟩) hS5 hlen5 hf5 (fun i hi => hc5 i (by omega)) (fun i hi => by rw [ho5 i (by omega), hx1.at])
      | succ j ih =>
        intro k hk M5 D5 hS5 hlen5 hf5 hc5 ho5
        obtain ⟨dd5, hw5, hd5⟩ := id hS5
        have hwd5 : w ≠ dd5 := fun e => by subst e; rw [hw5] at hd5; cases hd5
        have hl5 : D5.length < 2 ^ 31 := by omega
        refine jj_iload (pc := 61) kRW_divide_d61 rfl ?_
        refine jj_iload (pc := 63) kRW_divide_d63 rfl ?_
        refine jn_iconst (pc := 65) 2 kRW_divide_d65 (by decide) ?_
        refine jn_iadd (pc := 66) (m + 2) kRW_divide_d66 (by omega) ?_
        refine jn_icmp_gt (pc := 67) (tgt := 87) kRW_divide_d67 (by decide) (by omega) (by omega) (fun c => by exfalso; omega) (fun _ => ?_)
        refine jj_aload_n (pc := 70) kRW_divide_d70 rfl ?_
        refine jj_getf (pc := 71) kRW_divide_d71 (kfRW_d hG) hw5 rfl ?_
        refine jj_iload (pc := 74) kRW_divide_d74 rfl ?_
        refine jj_iload (pc := 76) kRW_divide_d76 rfl ?_
        refine jn_iadd (pc := 78) (T + k) kRW_divide_d78 (by omega) ?_
        refine jn_iconst (pc := 79) 0 kRW_divide_d79 (by decide) ?_
        refine jn_iast (pc := 80) kRW_divide_d80 (kG_t hG rfl) hd5 hl5 (by omega) ?_
        refine jn_gen (fun M131 hM132 => ?_)
        have h133 : M131 w = some (.inl nRW, [.ref dd5, .int (nI (T)), v2]) := by rw [hM132, jj_up_ne _ _ hwd5]; exact hw5
        have h134 : M131 dd5 = some (.inr 0, ((D5).set (T + k) ((nI (0)))).map .int) := by rw [hM132]; exact jj_up_at _ _ _
        have hF135 : RF M1 M131 w := by rw [hM132]; exact hf5.trans (RF.put hw5 hwd5)
        refine jn_iinc (pc := 81) (k + 1) kRW_divide_d81 rfl (nI_1 _) ?_
        refine jj_goto (pc := 84) (tgt := 61) kRW_divide_d84 (by decide) ?_
        show jj G kRW_divide (d + 6) Q rc1 rs1 61 [some (.ref w), some (.int (nI (x))), some (.int (nI (y))), some (.int (s)), some (.int (nI (n))), some (.int (nI (m))), some (.int (nI (T))), some (.int (nI (q))), some (.int (nI (k + 1))), none, none, none, none, none, none, none, none, none, none, none, none, none, none, none] [] M131
        refine ih (k + 1) (by omega) _ (D5.set (T + k) (nI 0)) ⟨dd5, h133, h134⟩ (by rw [List.length_set]; exact hlen5) hF135 (fun i h => ?_) (fun i hi => by rw [gd_set_ne (by omega)]; exact ho5 i (by omega))
        by_cases e : i = k
        · rw [e]; exact gd_set_eq (by omega)
        · rw [gd_set_ne (by omega)]; exact hc5 i (by omega)
    exact zeros (m + 3) 0 (by omega) M1 D1 hS1 rfl (RF.refl _ w) (fun i h => by omega) (fun i _ => rfl)
  show jj G kRW_divide (d + 6) Q rc rs 0 [some (.ref w), some (.int (nI (x))), some (.int (nI (y))), none, none, none, none, none, none, none, none, none, none, none, none, none, none, none, none, none, none, none, none, none] [] M
  refine jj_aload_n (pc := 0) kRW_divide_d0 rfl ?_
  refine jj_getf (pc := 1) kRW_divide_d1 (kfRW_d hG) hw rfl ?_
  refine jj_iload_n (pc := 4) kRW_divide_d4 rfl ?_
  refine jn_iald (pc := 5) (v := ((D).getD (x) 0)) kRW_divide_d5 (kG_t hG rfl) hd hl (by omega) (rfl) ?_
  refine jj_if_ge (pc := 6) (tgt := 13) kRW_divide_d6 (by decide) (fun c => ?_) (fun c => ?_)
  · skip
    refine jn_iconst (pc := 13) 0 kRW_divide_d13 (by decide) ?_
    exact k14 0 (Or.inl ⟨rfl, by have : ¬ zx < 0 := fun h => absurd c (Int32.not_le.mpr (hneg.mpr h)); omega⟩)
  · skip
    refine jn_iconst (pc := 9) 1 kRW_divide_d9 (by decide) ?_
    refine jj_goto (pc := 10) (tgt := 14) kRW_divide_d10 (by decide) ?_
    exact k14 1 (Or.inr ⟨rfl, hneg.mp (Int32.not_le.mp c)⟩)
end RW16
