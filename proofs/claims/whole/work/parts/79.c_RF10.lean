/-! ===== Fractions: isWhole, isSame (printed by wip/gen/rf10.py) ===== -/
theorem and_1 {z : Nat} (h : z ≤ 1) : nI z &&& nI 1 = nI z := by
  rcases (show z = 0 ∨ z = 1 by omega) with e | e <;> subst e <;> decide
theorem and_0 {z : Nat} (h : z ≤ 1) : nI z &&& nI 0 = nI 0 := by
  rcases (show z = 0 ∨ z = 1 by omega) with e | e <;> subst e <;> decide
theorem cmpZ_eq {x y : Int} : cmpZ x y = 0 ↔ x = y := by
  unfold cmpZ
  by_cases e : x = y
  · rw [if_pos e]; exact ⟨fun _ => e, fun _ => rfl⟩
  · rw [if_neg e]
    refine ⟨fun h => ?_, fun h => absurd h e⟩
    split at h <;> exact absurd h (by decide)
section RF10
variable {G : jg} {d : Nat} {Q : jq} {rc rs : Nat} {M : mheap} {f w vv pv : Nat} {v2 : Value} {D V P : List Int32} {t : Nat} {up low rk : Int32}
theorem rf_isWhole {a r c lo T cm X Z : Nat} {q : Nat → Rat} (hG : kG G) (hC : FC M f w vv pv V t up low P rk) (hS : RS M w D T v2 cm X Z rc rs) (h1 : RI D T 1 1) (hV : V.length < 2 ^ 31) (htV : t ≤ V.length) (hm : MX D T V t a r c lo q) (hrc : r * c < 2 ^ 24)
    (k1 : (∀ k, k < r * c → (q k).den = 1) → Q (.returned (some (.int (nI 1)))) M rc rs) (k0 : ¬ (∀ k, k < r * c → (q k).den = 1) → Q (.returned (some (.int (nI 0)))) M rc rs) : jj G kRF_isWhole (d + 1) Q rc rs 0 (jj_ent [.ref f, .int (nI a)] 4) [] M := by
  obtain ⟨hm1, hm2, hm3, hm4⟩ := id hm
  have hcap := hS.2.1.cap
  have hTD := hS.2.2.1
  have loop : ∀ m k, r * c = k + m → ∀ z : Nat, (z = 1 ∧ (∀ j, j < k → (q j).den = 1) ∨ z = 0 ∧ ¬ (∀ j, j < r * c → (q j).den = 1)) → jj G kRF_isWhole (d + 1) Q rc rs 4 [some (.ref f), some (.int (nI (a))), some (.int (nI (z))), some (.int (nI (k)))] [] M := by
    intro m
    induction m with
    | zero =>
      intro k hk z hz
      have e : r * c = k := by omega
      subst e
      refine jj_iload_n (pc := 4) kRF_isWhole_d4 rfl ?_
      refine jj_aload_n (pc := 5) kRF_isWhole_d5 rfl ?_
      refine jj_iload_n (pc := 6) kRF_isWhole_d6 rfl ?_
      refine jj_callV (pc := 7) (b := f) (As := [.int (nI (a))]) kRF_isWhole_d7 (kvRF_RF_cells hG) (kG_cl hG rfl) rfl hC.1 rfl rfl rfl (Nat.le_of_ble_eq_true rfl) (Nat.le_of_ble_eq_true rfl) (jj_bare0 rfl) ?_
      refine rf_cells (r := r) (c := c) hG hC (by omega) (by omega) hm2 hm3 ?_
      show jj G kRF_isWhole (d + 1) Q rc rs 10 [some (.ref f), some (.int (nI (a))), some (.int (nI (z))), some (.int (nI (r * c)))] [.int (nI (r * c)), .int (nI (r * c))] M
      refine jn_icmp_ge (pc := 10) (tgt := 37) kRF_isWhole_d10 (by decide) (by omega) (by omega) (fun _ => ?_) (fun c => by exfalso; omega)
      refine jj_iload_n (pc := 37) kRF_isWhole_d37 rfl ?_
      rcases hz with ⟨e, h⟩ | ⟨e, h⟩
      · subst e
        exact jj_iret (pc := 38) kRF_isWhole_d38 rfl (by rfl) (k1 h)
      · subst e
        exact jj_iret (pc := 38) kRF_isWhole_d38 rfl (by rfl) (k0 h)
    | succ m ih =>
      intro k hk z hz
      have hz1 : z ≤ 1 := by rcases hz with ⟨e, -⟩ | ⟨e, -⟩ <;> omega
      obtain ⟨p, l, g1, g2, g3, g4, g5⟩ := hm4 k (by omega)
      have bl := g3.2.1.lt
      refine jj_iload_n (pc := 4) kRF_isWhole_d4 rfl ?_
      refine jj_aload_n (pc := 5) kRF_isWhole_d5 rfl ?_
      refine jj_iload_n (pc := 6) kRF_isWhole_d6 rfl ?_
      refine jj_callV (pc := 7) (b := f) (As := [.int (nI (a))]) kRF_isWhole_d7 (kvRF_RF_cells hG) (kG_cl hG rfl) rfl hC.1 rfl rfl rfl (Nat.le_of_ble_eq_true rfl) (Nat.le_of_ble_eq_true rfl) (jj_bare0 rfl) ?_
      refine rf_cells (r := r) (c := c) hG hC (by omega) (by omega) hm2 hm3 ?_
      show jj G kRF_isWhole (d + 1) Q rc rs 10 [some (.ref f), some (.int (nI (a))), some (.int (nI (z))), some (.int (nI (k)))] [.int (nI (r * c)), .int (nI (k))] M
      refine jn_icmp_ge (pc := 10) (tgt := 37) kRF_isWhole_d10 (by decide) (by omega) (by omega) (fun c => by exfalso; omega) (fun _ => ?_)
      refine jj_iload_n (pc := 13) kRF_isWhole_d13 rfl ?_
      refine jj_aload_n (pc := 14) kRF_isWhole_d14 rfl ?_
      refine jj_iload_n (pc := 15) kRF_isWhole_d15 rfl ?_
      refine jj_iload_n (pc := 16) kRF_isWhole_d16 rfl ?_
      refine jj_callV (pc := 17) (b := f) (As := [.int (nI (a)), .int (nI (k))]) kRF_isWhole_d17 (kvRF_RF_lower hG) (kG_cl hG rfl) rfl hC.1 rfl rfl rfl (Nat.le_of_ble_eq_true rfl) (Nat.le_of_ble_eq_true rfl) (jj_bare0 rfl) ?_
      refine rf_lower hG hC (by omega) (by omega) ?_
      show jj G kRF_isWhole (d + 1) Q rc rs 20 [some (.ref f), some (.int (nI (a))), some (.int (nI (z))), some (.int (nI (k)))] [.int (V.getD (a + 3 + 2 * k) 0), .int (nI (z))] M
      refine jn_top (.int (nI (l))) (by rw [g2]) ?_
      refine jn_iconst (pc := 20) 1 kRF_isWhole_d20 (by decide) ?_
      refine jn_icmp_ne (pc := 21) (tgt := 28) kRF_isWhole_d21 (by decide) (by omega) (by omega) (fun c1 => ?_) (fun c1 => ?_)
      · skip
        have hd : (q k).den ≠ 1 := fun e => c1 (g3.2.2 e)
        refine jn_iconst (pc := 28) 0 kRF_isWhole_d28 (by decide) ?_
        refine jj_iand (pc := 29) kRF_isWhole_d29 ?_
        refine jn_top (.int (nI (0))) (congrArg Value.int (and_0 hz1)) ?_
        refine jj_istore_n (pc := 30) kRF_isWhole_d30 (Nat.le_of_ble_eq_true rfl) ?_
        refine jn_iinc (pc := 31) (k + 1) kRF_isWhole_d31 rfl (nI_1 _) ?_
        refine jj_goto (pc := 34) (tgt := 4) kRF_isWhole_d34 (by decide) ?_
        show jj G kRF_isWhole (d + 1) Q rc rs 4 [some (.ref f), some (.int (nI (a))), some (.int (nI (0))), some (.int (nI (k + 1)))] [] M
        exact ih (k + 1) (by omega) 0 (Or.inr ⟨rfl, fun h => hd (h k (by omega))⟩)
      · skip
        have hd : (q k).den = 1 := by rw [c1] at g3; exact g3.den1 h1 (by omega)
        refine jn_iconst (pc := 24) 1 kRF_isWhole_d24 (by decide) ?_
        refine jj_goto (pc := 25) (tgt := 29) kRF_isWhole_d25 (by decide) ?_
        refine jj_iand (pc := 29) kRF_isWhole_d29 ?_
        refine jn_top (.int (nI (z))) (congrArg Value.int (and_1 hz1)) ?_
        refine jj_istore_n (pc := 30) kRF_isWhole_d30 (Nat.le_of_ble_eq_true rfl) ?_
        refine jn_iinc (pc := 31) (k + 1) kRF_isWhole_d31 rfl (nI_1 _) ?_
        refine jj_goto (pc := 34) (tgt := 4) kRF_isWhole_d34 (by decide) ?_
        show jj G kRF_isWhole (d + 1) Q rc rs 4 [some (.ref f), some (.int (nI (a))), some (.int (nI (z))), some (.int (nI (k + 1)))] [] M
        refine ih (k + 1) (by omega) z ?_
        rcases hz with ⟨e, h⟩ | ⟨e, h⟩
        · exact Or.inl ⟨e, fun j hj => by
            by_cases g : j = k
            · rw [g]; exact hd
            · exact h j (by omega)⟩
        · exact Or.inr ⟨e, h⟩
  show jj G kRF_isWhole (d + 1) Q rc rs 0 [some (.ref f), some (.int (nI (a))), none, none] [] M
  refine jn_iconst (pc := 0) 1 kRF_isWhole_d0 (by decide) ?_
  refine jj_istore_n (pc := 1) kRF_isWhole_d1 (Nat.le_of_ble_eq_true rfl) ?_
  refine jn_iconst (pc := 2) 0 kRF_isWhole_d2 (by decide) ?_
  refine jj_istore_n (pc := 3) kRF_isWhole_d3 (Nat.le_of_ble_eq_true rfl) ?_
  exact loop (r * c) 0 (by omega) 1 (Or.inl ⟨rfl, fun j hj => by omega⟩)
theorem rf_isSame {a b r c r2 c2 loa lob T cm X Z : Nat} {qa qb : Nat → Rat} (hG : kG G) (hC : FC M f w vv pv V t up low P rk) (hS : RS M w D T v2 cm X Z rc rs) (hV : V.length < 2 ^ 31) (htV : t ≤ V.length) (ha : MX D T V t a r c loa qa) (hb : MX D T V t b r2 c2 lob qb) (hrc : r * c < 2 ^ 24) (hr : r < 2 ^ 31) (hc : c < 2 ^ 31) (hr2 : r2 < 2 ^ 31) (hc2 : c2 < 2 ^ 31)
    (k1 : (r = r2 ∧ c = c2 ∧ ∀ k, k < r * c → qa k = qb k) → Q (.returned (some (.int (nI 1)))) M rc rs) (k0 : ¬ (r = r2 ∧ c = c2 ∧ ∀ k, k < r * c → qa k = qb k) → Q (.returned (some (.int (nI 0)))) M rc rs) : jj G kRF_isSame (d + 3) Q rc rs 0 (jj_ent [.ref f, .int (nI a), .int (nI b)] 5) [] M := by
  obtain ⟨a1, a2, a3, a4⟩ := id ha
  obtain ⟨b1, b2, b3, b4⟩ := id hb
  obtain ⟨hW101, hB101, hTD101, hz101, hp101⟩ := id hS
  obtain ⟨dd101, hw101, hd101⟩ := id hW101
  have hcap101 := hB101.cap
  have no_ : ∀ k : Nat, ¬ (r = r2 ∧ c = c2 ∧ ∀ k, k < r * c → qa k = qb k) → jj G kRF_isSame (d + 3) Q rc rs 35 [some (.ref f), some (.int (nI (a))), some (.int (nI (b))), some (.int (nI (0))), some (.int (nI (k)))] [] M := by
    intro k h
    refine jj_iload_n (pc := 35) kRF_isSame_d35 rfl ?_
    refine jn_if_eq (pc := 36) (tgt := 109) kRF_isSame_d36 (by decide) (by omega) (fun _ => ?_) (fun c => by exfalso; omega)
    refine jj_iload_n (pc := 109) kRF_isSame_d109 rfl ?_
    exact jj_iret (pc := 110) kRF_isSame_d110 rfl (by rfl) (k0 h)
  have loop : ∀ m k, r * c = k + m → r = r2 → c = c2 → (∀ j, j < k → qa j = qb j) → jj G kRF_isSame (d + 3) Q rc rs 35 [some (.ref f), some (.int (nI (a))), some (.int (nI (b))), some (.int (nI (1))), some (.int (nI (k)))] [] M := by
    intro m
    induction m with
    | zero =>
      intro k hk e1 e2 h
      have e : r * c = k := by omega
      subst e
      refine jj_iload_n (pc := 35) kRF_isSame_d35 rfl ?_
      refine jn_if_eq (pc := 36) (tgt := 109) kRF_isSame_d36 (by decide) (by omega) (fun c => by exfalso; omega) (fun _ => ?_)
      refine jj_iload (pc := 39) kRF_isSame_d39 rfl ?_
      refine jj_aload_n (pc := 41) kRF_isSame_d41 rfl ?_
      refine jj_iload_n (pc := 42) kRF_isSame_d42 rfl ?_
      refine jj_callV (pc := 43) (b := f) (As := [.int (nI (a))]) kRF_isSame_d43 (kvRF_RF_cells hG) (kG_cl hG rfl) rfl hC.1 rfl rfl rfl (Nat.le_of_ble_eq_true rfl) (Nat.le_of_ble_eq_true rfl) (jj_bare0 rfl) ?_
      refine rf_cells (r := r) (c := c) hG hC (by omega) (by omega) a2 a3 ?_
      show jj G kRF_isSame (d + 3) Q rc rs 46 [some (.ref f), some (.int (nI (a))), some (.int (nI (b))), some (.int (nI (1))), some (.int (nI (r * c)))] [.int (nI (r * c)), .int (nI (r * c))] M
      refine jn_icmp_ge (pc := 46) (tgt := 109) kRF_isSame_d46 (by decide) (by omega) (by omega) (fun _ => ?_) (fun c => by exfalso; omega)
      refine jj_iload_n (pc := 109) kRF_isSame_d109 rfl ?_
      exact jj_iret (pc := 110) kRF_isSame_d110 rfl (by rfl) (k1 ⟨e1, e2, h⟩)
    | succ m ih =>
      intro k hk e1 e2 h
      obtain ⟨p1, l1, g1, g2, g3, -⟩ := a4 k (by omega)
      obtain ⟨p2, l2, g4, g5, g6, -⟩ := b4 k (by rw [← e1, ← e2]; omega)
      have hk2 : k < r2 * c2 := by rw [← e1, ← e2]; omega
      refine jj_iload_n (pc := 35) kRF_isSame_d35 rfl ?_
      refine jn_if_eq (pc := 36) (tgt := 109) kRF_isSame_d36 (by decide) (by omega) (fun c => by exfalso; omega) (fun _ => ?_)
      refine jj_iload (pc := 39) kRF_isSame_d39 rfl ?_
      refine jj_aload_n (pc := 41) kRF_isSame_d41 rfl ?_
      refine jj_iload_n (pc := 42) kRF_isSame_d42 rfl ?_
      refine jj_callV (pc := 43) (b := f) (As := [.int (nI (a))]) kRF_isSame_d43 (kvRF_RF_cells hG) (kG_cl hG rfl) rfl hC.1 rfl rfl rfl (Nat.le_of_ble_eq_true rfl) (Nat.le_of_ble_eq_true rfl) (jj_bare0 rfl) ?_
      refine rf_cells (r := r) (c := c) hG hC (by omega) (by omega) a2 a3 ?_
      show jj G kRF_isSame (d + 3) Q rc rs 46 [some (.ref f), some (.int (nI (a))), some (.int (nI (b))), some (.int (nI (1))), some (.int (nI (k)))] [.int (nI (r * c)), .int (nI (k))] M
      refine jn_icmp_ge (pc := 46) (tgt := 109) kRF_isSame_d46 (by decide) (by omega) (by omega) (fun c => by exfalso; omega) (fun _ => ?_)
      refine jj_aload_n (pc := 49) kRF_isSame_d49 rfl ?_
      refine jj_getf (pc := 50) kRF_isSame_d50 (kfRF_w hG) hC.1 rfl ?_
      refine jj_aload_n (pc := 53) kRF_isSame_d53 rfl ?_
      refine jj_iload_n (pc := 54) kRF_isSame_d54 rfl ?_
      refine jj_iload (pc := 55) kRF_isSame_d55 rfl ?_
      refine jj_callV (pc := 57) (b := f) (As := [.int (nI (a)), .int (nI (k))]) kRF_isSame_d57 (kvRF_RF_upper hG) (kG_cl hG rfl) rfl hC.1 rfl rfl rfl (Nat.le_of_ble_eq_true rfl) (Nat.le_of_ble_eq_true rfl) (jj_bare0 rfl) ?_
      refine rf_upper hG hC (by omega) (by omega) ?_
      show jj G kRF_isSame (d + 3) Q rc rs 60 [some (.ref f), some (.int (nI (a))), some (.int (nI (b))), some (.int (nI (1))), some (.int (nI (k)))] [.int (V.getD (a + 2 + 2 * k) 0), .ref w] M
      refine jn_top (.int (nI (p1))) (by rw [g1]) ?_
      refine jj_aload_n (pc := 60) kRF_isSame_d60 rfl ?_
      refine jj_iload_n (pc := 61) kRF_isSame_d61 rfl ?_
      refine jj_iload (pc := 62) kRF_isSame_d62 rfl ?_
      refine jj_callV (pc := 64) (b := f) (As := [.int (nI (b)), .int (nI (k))]) kRF_isSame_d64 (kvRF_RF_upper hG) (kG_cl hG rfl) rfl hC.1 rfl rfl rfl (Nat.le_of_ble_eq_true rfl) (Nat.le_of_ble_eq_true rfl) (jj_bare0 rfl) ?_
      refine rf_upper hG hC (by omega) (by omega) ?_
      show jj G kRF_isSame (d + 3) Q rc rs 67 [some (.ref f), some (.int (nI (a))), some (.int (nI (b))), some (.int (nI (1))), some (.int (nI (k)))] [.int (V.getD (b + 2 + 2 * k) 0), .int (nI (p1)), .ref w] M
      refine jn_top (.int (nI (p2))) (by rw [g4]) ?_
      refine jj_callV (pc := 67) (b := w) (As := [.int (nI (p1)), .int (nI (p2))]) kRF_isSame_d67 (kvRF_RW_order hG) (kG_cl hG rfl) rfl hw101 rfl rfl rfl (Nat.le_of_ble_eq_true rfl) (Nat.le_of_ble_eq_true rfl) (jj_bare0 rfl) ?_
      refine ri_order hG hS g3.1 g6.1 ?_
      show jj G kRF_isSame (d + 3) Q rc rs 70 [some (.ref f), some (.int (nI (a))), some (.int (nI (b))), some (.int (nI (1))), some (.int (nI (k)))] [.int (cmpZ (qa k).num (qb k).num)] M
      refine jj_if_ne (pc := 70) (tgt := 101) kRF_isSame_d70 (by decide) (fun c1 => ?_) (fun c1 => ?_)
      · skip
        refine jn_iconst (pc := 101) 0 kRF_isSame_d101 (by decide) ?_
        refine jj_istore_n (pc := 102) kRF_isSame_d102 (Nat.le_of_ble_eq_true rfl) ?_
        refine jn_iinc (pc := 103) (k + 1) kRF_isSame_d103 rfl (nI_1 _) ?_
        refine jj_goto (pc := 106) (tgt := 35) kRF_isSame_d106 (by decide) ?_
        show jj G kRF_isSame (d + 3) Q rc rs 35 [some (.ref f), some (.int (nI (a))), some (.int (nI (b))), some (.int (nI (0))), some (.int (nI (k + 1)))] [] M
        exact no_ (k + 1) (fun hh => c1 (cmpZ_eq.mpr (by rw [hh.2.2 k (by omega)])))
      · skip
        refine jj_aload_n (pc := 73) kRF_isSame_d73 rfl ?_
        refine jj_getf (pc := 74) kRF_isSame_d74 (kfRF_w hG) hC.1 rfl ?_
        refine jj_aload_n (pc := 77) kRF_isSame_d77 rfl ?_
        refine jj_iload_n (pc := 78) kRF_isSame_d78 rfl ?_
        refine jj_iload (pc := 79) kRF_isSame_d79 rfl ?_
        refine jj_callV (pc := 81) (b := f) (As := [.int (nI (a)), .int (nI (k))]) kRF_isSame_d81 (kvRF_RF_lower hG) (kG_cl hG rfl) rfl hC.1 rfl rfl rfl (Nat.le_of_ble_eq_true rfl) (Nat.le_of_ble_eq_true rfl) (jj_bare0 rfl) ?_
        refine rf_lower hG hC (by omega) (by omega) ?_
        show jj G kRF_isSame (d + 3) Q rc rs 84 [some (.ref f), some (.int (nI (a))), some (.int (nI (b))), some (.int (nI (1))), some (.int (nI (k)))] [.int (V.getD (a + 3 + 2 * k) 0), .ref w] M
        refine jn_top (.int (nI (l1))) (by rw [g2]) ?_
        refine jj_aload_n (pc := 84) kRF_isSame_d84 rfl ?_
        refine jj_iload_n (pc := 85) kRF_isSame_d85 rfl ?_
        refine jj_iload (pc := 86) kRF_isSame_d86 rfl ?_
        refine jj_callV (pc := 88) (b := f) (As := [.int (nI (b)), .int (nI (k))]) kRF_isSame_d88 (kvRF_RF_lower hG) (kG_cl hG rfl) rfl hC.1 rfl rfl rfl (Nat.le_of_ble_eq_true rfl) (Nat.le_of_ble_eq_true rfl) (jj_bare0 rfl) ?_
        refine rf_lower hG hC (by omega) (by omega) ?_
        show jj G kRF_isSame (d + 3) Q rc rs 91 [some (.ref f), some (.int (nI (a))), some (.int (nI (b))), some (.int (nI (1))), some (.int (nI (k)))] [.int (V.getD (b + 3 + 2 * k) 0), .int (nI (l1)), .ref w] M
        refine jn_top (.int (nI (l2))) (by rw [g5]) ?_
        refine jj_callV (pc := 91) (b := w) (As := [.int (nI (l1)), .int (nI (l2))]) kRF_isSame_d91 (kvRF_RW_order hG) (kG_cl hG rfl) rfl hw101 rfl rfl rfl (Nat.le_of_ble_eq_true rfl) (Nat.le_of_ble_eq_true rfl) (jj_bare0 rfl) ?_
        refine ri_order hG hS g3.2.1 g6.2.1 ?_
        show jj G kRF_isSame (d + 3) Q rc rs 94 [some (.ref f), some (.int (nI (a))), some (.int (nI (b))), some (.int (nI (1))), some (.int (nI (k)))] [.int (cmpZ ((qa k).den : Int) ((qb k).den : Int))] M
        refine jj_if_ne (pc := 94) (tgt := 101) kRF_isSame_d94 (by decide) (fun c3 => ?_) (fun c3 => ?_)
        · skip
          refine jn_iconst (pc := 101) 0 kRF_isSame_d101 (by decide) ?_
          refine jj_istore_n (pc := 102) kRF_isSame_d102 (Nat.le_of_ble_eq_true rfl) ?_
          refine jn_iinc (pc := 103) (k + 1) kRF_isSame_d103 rfl (nI_1 _) ?_
          refine jj_goto (pc := 106) (tgt := 35) kRF_isSame_d106 (by decide) ?_
          show jj G kRF_isSame (d + 3) Q rc rs 35 [some (.ref f), some (.int (nI (a))), some (.int (nI (b))), some (.int (nI (0))), some (.int (nI (k + 1)))] [] M
          exact no_ (k + 1) (fun hh => c3 (cmpZ_eq.mpr (by rw [hh.2.2 k (by omega)])))
        · skip
          refine jn_iconst (pc := 97) 1 kRF_isSame_d97 (by decide) ?_
          refine jj_goto (pc := 98) (tgt := 102) kRF_isSame_d98 (by decide) ?_
          refine jj_istore_n (pc := 102) kRF_isSame_d102 (Nat.le_of_ble_eq_true rfl) ?_
          refine jn_iinc (pc := 103) (k + 1) kRF_isSame_d103 rfl (nI_1 _) ?_
          refine jj_goto (pc := 106) (tgt := 35) kRF_isSame_d106 (by decide) ?_
          show jj G kRF_isSame (d + 3) Q rc rs 35 [some (.ref f), some (.int (nI (a))), some (.int (nI (b))), some (.int (nI (1))), some (.int (nI (k + 1)))] [] M
          have e3 : qa k = qb k := Rat.ext (cmpZ_eq.mp c1) (by have := cmpZ_eq.mp c3; omega)
          exact ih (k + 1) (by omega) e1 e2 (fun j hj => by
            by_cases g : j = k
            · rw [g]; exact e3
            · exact h j (by omega))
  show jj G kRF_isSame (d + 3) Q rc rs 0 [some (.ref f), some (.int (nI (a))), some (.int (nI (b))), none, none] [] M
  refine jj_aload_n (pc := 0) kRF_isSame_d0 rfl ?_
  refine jj_iload_n (pc := 1) kRF_isSame_d1 rfl ?_
  refine jj_callV (pc := 2) (b := f) (As := [.int (nI (a))]) kRF_isSame_d2 (kvRF_RF_rows hG) (kG_cl hG rfl) rfl hC.1 rfl rfl rfl (Nat.le_of_ble_eq_true rfl) (Nat.le_of_ble_eq_true rfl) (jj_bare0 rfl) ?_
  refine rf_rows hG hC (by omega) (by omega) ?_
  show jj G kRF_isSame (d + 3) Q rc rs 5 [some (.ref f), some (.int (nI (a))), some (.int (nI (b))), none, none] [.int (V.getD a 0)] M
  refine jn_top (.int (nI (r))) (by rw [a2]) ?_
  refine jj_aload_n (pc := 5) kRF_isSame_d5 rfl ?_
  refine jj_iload_n (pc := 6) kRF_isSame_d6 rfl ?_
  refine jj_callV (pc := 7) (b := f) (As := [.int (nI (b))]) kRF_isSame_d7 (kvRF_RF_rows hG) (kG_cl hG rfl) rfl hC.1 rfl rfl rfl (Nat.le_of_ble_eq_true rfl) (Nat.le_of_ble_eq_true rfl) (jj_bare0 rfl) ?_
  refine rf_rows hG hC (by omega) (by omega) ?_
  show jj G kRF_isSame (d + 3) Q rc rs 10 [some (.ref f), some (.int (nI (a))), some (.int (nI (b))), none, none] [.int (V.getD b 0), .int (nI (r))] M
  refine jn_top (.int (nI (r2))) (by rw [b2]) ?_
  refine jn_icmp_ne (pc := 10) (tgt := 30) kRF_isSame_d10 (by decide) (by omega) (by omega) (fun c1 => ?_) (fun c1 => ?_)
  · skip
    refine jn_iconst (pc := 30) 0 kRF_isSame_d30 (by decide) ?_
    refine jj_istore_n (pc := 31) kRF_isSame_d31 (Nat.le_of_ble_eq_true rfl) ?_
    refine jn_iconst (pc := 32) 0 kRF_isSame_d32 (by decide) ?_
    refine jj_istore (pc := 33) kRF_isSame_d33 (Nat.le_of_ble_eq_true rfl) ?_
    show jj G kRF_isSame (d + 3) Q rc rs 35 [some (.ref f), some (.int (nI (a))), some (.int (nI (b))), some (.int (nI (0))), some (.int (nI (0)))] [] M
    exact no_ 0 (fun h => c1 h.1)
  · skip
    refine jj_aload_n (pc := 13) kRF_isSame_d13 rfl ?_
    refine jj_iload_n (pc := 14) kRF_isSame_d14 rfl ?_
    refine jj_callV (pc := 15) (b := f) (As := [.int (nI (a))]) kRF_isSame_d15 (kvRF_RF_columns hG) (kG_cl hG rfl) rfl hC.1 rfl rfl rfl (Nat.le_of_ble_eq_true rfl) (Nat.le_of_ble_eq_true rfl) (jj_bare0 rfl) ?_
    refine rf_columns hG hC (by omega) (by omega) ?_
    show jj G kRF_isSame (d + 3) Q rc rs 18 [some (.ref f), some (.int (nI (a))), some (.int (nI (b))), none, none] [.int (V.getD (a + 1) 0)] M
    refine jn_top (.int (nI (c))) (by rw [a3]) ?_
    refine jj_aload_n (pc := 18) kRF_isSame_d18 rfl ?_
    refine jj_iload_n (pc := 19) kRF_isSame_d19 rfl ?_
    refine jj_callV (pc := 20) (b := f) (As := [.int (nI (b))]) kRF_isSame_d20 (kvRF_RF_columns hG) (kG_cl hG rfl) rfl hC.1 rfl rfl rfl (Nat.le_of_ble_eq_true rfl) (Nat.le_of_ble_eq_true rfl) (jj_bare0 rfl) ?_
    refine rf_columns hG hC (by omega) (by omega) ?_
    show jj G kRF_isSame (d + 3) Q rc rs 23 [some (.ref f), some (.int (nI (a))), some (.int (nI (b))), none, none] [.int (V.getD (b + 1) 0), .int (nI (c))] M
    refine jn_top (.int (nI (c2))) (by rw [b3]) ?_
    refine jn_icmp_ne (pc := 23) (tgt := 30) kRF_isSame_d23 (by decide) (by omega) (by omega) (fun c4 => ?_) (fun c4 => ?_)
    · skip
      refine jn_iconst (pc := 30) 0 kRF_isSame_d30 (by decide) ?_
      refine jj_istore_n (pc := 31) kRF_isSame_d31 (Nat.le_of_ble_eq_true rfl) ?_
      refine jn_iconst (pc := 32) 0 kRF_isSame_d32 (by decide) ?_
      refine jj_istore (pc := 33) kRF_isSame_d33 (Nat.le_of_ble_eq_true rfl) ?_
      show jj G kRF_isSame (d + 3) Q rc rs 35 [some (.ref f), some (.int (nI (a))), some (.int (nI (b))), some (.int (nI (0))), some (.int (nI (0)))] [] M
      exact no_ 0 (fun h => c4 h.2.1)
    · skip
      refine jn_iconst (pc := 26) 1 kRF_isSame_d26 (by decide) ?_
      refine jj_goto (pc := 27) (tgt := 31) kRF_isSame_d27 (by decide) ?_
      refine jj_istore_n (pc := 31) kRF_isSame_d31 (Nat.le_of_ble_eq_true rfl) ?_
      refine jn_iconst (pc := 32) 0 kRF_isSame_d32 (by decide) ?_
      refine jj_istore (pc := 33) kRF_isSame_d33 (Nat.le_of_ble_eq_true rfl) ?_
      show jj G kRF_isSame (d + 3) Q rc rs 35 [some (.ref f), some (.int (nI (a))), some (.int (nI (b))), some (.int (nI (1))), some (.int (nI (0)))] [] M
      exact loop (r * c) 0 (by omega) c1 c4 (fun j hj => by omega)
end RF10
