/-! ===== Matrix: isTooLong (printed by wip/gen/rM8.py) ===== -/
/-- lengths or limbs of the matrix at b are beyond their bounds -/
def LNG (V : Nat → Int) (b r c : Nat) : Prop := 4000 < blen (V (b + 256)) ∨ (∃ i j, i < r ∧ j < c ∧ 4000 < blen (V (b + (16 * i + j)))) ∨ 20000 < lc (V (b + 256)) + nsum (fun i => nsum (fun j => lc (V (b + (16 * i + j)))) c) r
theorem CW.lc {M : mheap} {wa la cap : Nat → Nat} {N p : Nat} {V : Nat → Int} (h : CW M wa la cap N V) (hp : p < N) : lc (V p) ≤ cap p := lc_le (h.wide hp)
theorem or_flag1 {f : Nat} (h : f ≤ 1) : nI f ||| nI 1 = nI 1 := by
  rcases (show f = 0 ∨ f = 1 by omega) with e | e <;> rw [e] <;> decide
theorem or_flag0 {f : Nat} (h : f ≤ 1) : nI f ||| nI 0 = nI f := by
  rcases (show f = 0 ∨ f = 1 by omega) with e | e <;> rw [e] <;> decide
section M8
variable {G : jg} {d : Nat} {Q : jq} {rc rs : Nat} {M : mheap} {wa la cap : Nat → Nat} {N : Nat} {V : Nat → Int}
theorem m_isTooLong {mx ar b r c : Nat} (hG : kG G) (hI : CI wa la cap N) (hc : CW M wa la cap N V) (hM : MXT M wa mx ar b r c) (hb : b + 256 < N) (hr : r ≤ 16) (hcc : c ≤ 16) (k1 : LNG V b r c → Q (.returned (some (.int (nI 1)))) M rc rs) (k0 : ¬ LNG V b r c → Q (.returned (some (.int (nI 0)))) M rc rs) : jj G kM_isTooLong (d + 2) Q rc rs 0 (jj_ent [.ref mx] 5) [] M := by
  have hm := hM.1
  have hb1 : ∀ p, p < N → blen (V p) < 2 ^ 31 ∧ lc (V p) ≤ 2000 := fun p hp => by
    have h1 := hc.lc hp
    have h2 := hI.2.2 p hp
    refine ⟨?_, by omega⟩
    have h3 : (blen (V p) + 31) / 32 ≤ cap p := h1
    omega
  have hB := hb1 (b + 256) hb
  obtain ⟨T1, t1, hT1, _, _, hL1⟩ := hc (b + 256) hb
  have et1 := hL1.cnt
  subst et1
  show jj G kM_isTooLong (d + 2) Q rc rs 0 [some (.ref mx), none, none, none, none] [] M
  have outer : ∀ mu i, r = i + mu → ∀ (oj : Option Value) (f n : Nat), f ≤ 1 → (f = 1 ↔ 4000 < blen (V (b + 256)) ∨ ∃ i' j', thru c i 0 i' j' ∧ 4000 < blen (V (b + (16 * i' + j')))) → n = lc (V (b + 256)) + nsum (fun i => nsum (fun j => lc (V (b + (16 * i + j)))) c) i + nsum (fun j' => lc (V (b + (16 * i + j')))) 0 → n ≤ 2000 * (16 * i + 0 + 1) → jj G kM_isTooLong (d + 2) Q rc rs 29 [some (.ref mx), some (.int (nI (f))), some (.int (nI (n))), some (.int (nI (i))), (oj)] [] M := by
    intro mu
    induction mu with
    | zero =>
      intro i hk oj f n hf hfi hn hn2
      have e9 : r = i := by omega
      subst e9
      refine jj_iload_n (pc := 29) kM_isTooLong_d29 rfl ?_
      refine jj_aload_n (pc := 30) kM_isTooLong_d30 rfl ?_
      refine jj_getf (pc := 31) kM_isTooLong_d31 (kfM_rows hG) hm rfl ?_
      refine jn_icmp_ge (pc := 34) (tgt := 98) kM_isTooLong_d34 (by decide) (by omega) (by omega) (fun _ => ?_) (fun c => by exfalso; omega)
      have hs : LNG V b r c ↔ f = 1 ∨ 20000 < n := by
        rw [hfi, hn]
        constructor
        · rintro (h | ⟨i, j, h1, h2, h3⟩ | h)
          · exact Or.inl (Or.inl h)
          · exact Or.inl (Or.inr ⟨i, j, ⟨h2, Or.inl h1⟩, h3⟩)
          · exact Or.inr h
        · rintro ((h | ⟨i, j, ⟨h1, h2⟩, h3⟩) | h)
          · exact Or.inl h
          · exact Or.inr (Or.inl ⟨i, j, by omega, h1, h3⟩)
          · exact Or.inr (Or.inr h)
      refine jj_iload_n (pc := 98) kM_isTooLong_d98 rfl ?_
      refine jn_if_ne (pc := 99) (tgt := 109) kM_isTooLong_d99 (by decide) (by omega) (fun cf => ?_) (fun cf => ?_)
      · skip
        refine jn_iconst (pc := 109) 1 kM_isTooLong_d109 (by decide) ?_
        refine jj_goto (pc := 110) (tgt := 114) kM_isTooLong_d110 (by decide) ?_
        exact jj_iret (pc := 114) kM_isTooLong_d114 rfl (by rfl) (k1 (hs.2 (Or.inl (by omega))))
      · skip
        refine jj_iload_n (pc := 102) kM_isTooLong_d102 rfl ?_
        refine jn_sipush (pc := 103) 20000 kM_isTooLong_d103 (by decide) ?_
        refine jn_icmp_le (pc := 106) (tgt := 113) kM_isTooLong_d106 (by decide) (by omega) (by omega) (fun cn => ?_) (fun cn => ?_)
        · skip
          refine jn_iconst (pc := 113) 0 kM_isTooLong_d113 (by decide) ?_
          exact jj_iret (pc := 114) kM_isTooLong_d114 rfl (by rfl) (k0 (fun h => by have := hs.1 h; omega))
        · skip
          refine jn_iconst (pc := 109) 1 kM_isTooLong_d109 (by decide) ?_
          refine jj_goto (pc := 110) (tgt := 114) kM_isTooLong_d110 (by decide) ?_
          exact jj_iret (pc := 114) kM_isTooLong_d114 rfl (by rfl) (k1 (hs.2 (Or.inr (by omega))))
    | succ mu ih =>
      intro i hk oj f n hf hfi hn hn2
      refine jj_iload_n (pc := 29) kM_isTooLong_d29 rfl ?_
      refine jj_aload_n (pc := 30) kM_isTooLong_d30 rfl ?_
      refine jj_getf (pc := 31) kM_isTooLong_d31 (kfM_rows hG) hm rfl ?_
      refine jn_icmp_ge (pc := 34) (tgt := 98) kM_isTooLong_d34 (by decide) (by omega) (by omega) (fun c => by exfalso; omega) (fun _ => ?_)
      refine jn_iconst (pc := 37) 0 kM_isTooLong_d37 (by decide) ?_
      refine jj_istore (pc := 38) kM_isTooLong_d38 (Nat.le_of_ble_eq_true rfl) ?_
      show jj G kM_isTooLong (d + 2) Q rc rs 40 [some (.ref mx), some (.int (nI (f))), some (.int (nI (n))), some (.int (nI (i))), some (.int (nI (0)))] [] M
      show jj G kM_isTooLong (d + 2) Q rc rs 40 [some (.ref mx), some (.int (nI (f))), some (.int (nI (n))), some (.int (nI (i))), some (.int (nI (0)))] [] M
      have inner : ∀ mu2 j, c = j + mu2 → ∀ (f n : Nat), f ≤ 1 → (f = 1 ↔ 4000 < blen (V (b + 256)) ∨ ∃ i' j', thru c i j i' j' ∧ 4000 < blen (V (b + (16 * i' + j')))) → n = lc (V (b + 256)) + nsum (fun i => nsum (fun j => lc (V (b + (16 * i + j)))) c) i + nsum (fun j' => lc (V (b + (16 * i + j')))) j → n ≤ 2000 * (16 * i + j + 1) → jj G kM_isTooLong (d + 2) Q rc rs 40 [some (.ref mx), some (.int (nI (f))), some (.int (nI (n))), some (.int (nI (i))), some (.int (nI (j)))] [] M := by
        intro mu2
        induction mu2 with
        | zero =>
          intro j hk2 f n hf hfi hn hn2
          have e9 : c = j := by omega
          subst e9
          refine jj_iload (pc := 40) kM_isTooLong_d40 rfl ?_
          refine jj_aload_n (pc := 42) kM_isTooLong_d42 rfl ?_
          refine jj_getf (pc := 43) kM_isTooLong_d43 (kfM_columns hG) hm rfl ?_
          refine jn_icmp_ge (pc := 46) (tgt := 92) kM_isTooLong_d46 (by decide) (by omega) (by omega) (fun _ => ?_) (fun c => by exfalso; omega)
          refine jn_iinc (pc := 92) (i + 1) kM_isTooLong_d92 rfl (nI_1 _) ?_
          refine jj_goto (pc := 95) (tgt := 29) kM_isTooLong_d95 (by decide) ?_
          show jj G kM_isTooLong (d + 2) Q rc rs 29 [some (.ref mx), some (.int (nI (f))), some (.int (nI (n))), some (.int (nI (i + 1))), some (.int (nI (c)))] [] M
          refine ih (i + 1) (by omega) _ f n hf (hfi.trans ?_) (hn.trans ?_) (by omega)
          · refine or_congr_right ?_
            constructor
            · rintro ⟨i', j', ⟨h1, h2⟩, h3⟩; exact ⟨i', j', ⟨h1, by omega⟩, h3⟩
            · rintro ⟨i', j', ⟨h1, h2⟩, h3⟩; exact ⟨i', j', ⟨h1, by omega⟩, h3⟩
          · show _ = lc (V (b + 256)) + (nsum (fun i => nsum (fun j => lc (V (b + (16 * i + j)))) c) i + nsum (fun j => lc (V (b + (16 * i + j)))) c) + 0
            omega
        | succ mu2 ih2 =>
          intro j hk2 f n hf hfi hn hn2
          have hp : (b + (16 * i + j)) < N := by omega
          have hB9 := hb1 _ hp
          obtain ⟨T9, t9, hT9, _, _, hL9⟩ := hc (b + (16 * i + j)) hp
          have et9 := hL9.cnt
          subst et9
          refine jj_iload (pc := 40) kM_isTooLong_d40 rfl ?_
          refine jj_aload_n (pc := 42) kM_isTooLong_d42 rfl ?_
          refine jj_getf (pc := 43) kM_isTooLong_d43 (kfM_columns hG) hm rfl ?_
          refine jn_icmp_ge (pc := 46) (tgt := 92) kM_isTooLong_d46 (by decide) (by omega) (by omega) (fun c => by exfalso; omega) (fun _ => ?_)
          refine jj_iload_n (pc := 49) kM_isTooLong_d49 rfl ?_
          refine jj_aload_n (pc := 50) kM_isTooLong_d50 rfl ?_
          refine jj_iload_n (pc := 51) kM_isTooLong_d51 rfl ?_
          refine jj_iload (pc := 52) kM_isTooLong_d52 rfl ?_
          refine jj_callV (pc := 54) (b := mx) (As := [.int (nI (i)), .int (nI (j))]) kM_isTooLong_d54 (kvM_M_at hG) (kG_cl hG rfl) rfl hm rfl rfl rfl (Nat.le_of_ble_eq_true rfl) (Nat.le_of_ble_eq_true rfl) (jj_bare0 rfl) ?_
          refine m_at hG hM (by omega) (by omega) ?_
          show jj G kM_isTooLong (d + 2) Q rc rs 57 [some (.ref mx), some (.int (nI (f))), some (.int (nI (n))), some (.int (nI (i))), some (.int (nI (j)))] [.ref (wa (b + (16 * i + j))), .int (nI (f))] M
          refine jj_callV (pc := 57) (b := (wa (b + (16 * i + j)))) (As := []) kM_isTooLong_d57 (kvM_W_bits hG) (kG_cl hG rfl) rfl hT9 rfl rfl rfl (Nat.le_of_ble_eq_true rfl) (Nat.le_of_ble_eq_true rfl) (jj_bare0 rfl) ?_
          refine w_bits hG hI hc hp ?_
          show jj G kM_isTooLong (d + 2) Q rc rs 60 [some (.ref mx), some (.int (nI (f))), some (.int (nI (n))), some (.int (nI (i))), some (.int (nI (j)))] [.int (nI (blen (V (b + (16 * i + j))))), .int (nI (f))] M
          refine jn_sipush (pc := 60) 4000 kM_isTooLong_d60 (by decide) ?_
          refine jn_icmp_le (pc := 63) (tgt := 70) kM_isTooLong_d63 (by decide) (by omega) (by omega) (fun cb => ?_) (fun cb => ?_)
          · skip
            refine jn_iconst (pc := 70) 0 kM_isTooLong_d70 (by decide) ?_
            refine jj_ior (pc := 71) kM_isTooLong_d71 ?_
            refine jn_top (.int (nI (f))) (congrArg Value.int (or_flag0 hf)) ?_
            refine jj_istore_n (pc := 72) kM_isTooLong_d72 (Nat.le_of_ble_eq_true rfl) ?_
            show jj G kM_isTooLong (d + 2) Q rc rs 73 [some (.ref mx), some (.int (nI (f))), some (.int (nI (n))), some (.int (nI (i))), some (.int (nI (j)))] [] M
            refine jj_iload_n (pc := 73) kM_isTooLong_d73 rfl ?_
            refine jj_aload_n (pc := 74) kM_isTooLong_d74 rfl ?_
            refine jj_iload_n (pc := 75) kM_isTooLong_d75 rfl ?_
            refine jj_iload (pc := 76) kM_isTooLong_d76 rfl ?_
            refine jj_callV (pc := 78) (b := mx) (As := [.int (nI (i)), .int (nI (j))]) kM_isTooLong_d78 (kvM_M_at hG) (kG_cl hG rfl) rfl hm rfl rfl rfl (Nat.le_of_ble_eq_true rfl) (Nat.le_of_ble_eq_true rfl) (jj_bare0 rfl) ?_
            refine m_at hG hM (by omega) (by omega) ?_
            show jj G kM_isTooLong (d + 2) Q rc rs 81 [some (.ref mx), some (.int (nI (f))), some (.int (nI (n))), some (.int (nI (i))), some (.int (nI (j)))] [.ref (wa (b + (16 * i + j))), .int (nI (n))] M
            refine jj_getf (pc := 81) kM_isTooLong_d81 (kfM_W_count hG) hT9 rfl ?_
            refine jn_iadd (pc := 84) (n + lc (V (b + (16 * i + j)))) kM_isTooLong_d84 (by omega) ?_
            refine jj_istore_n (pc := 85) kM_isTooLong_d85 (Nat.le_of_ble_eq_true rfl) ?_
            show jj G kM_isTooLong (d + 2) Q rc rs 86 [some (.ref mx), some (.int (nI (f))), some (.int (nI (n + lc (V (b + (16 * i + j)))))), some (.int (nI (i))), some (.int (nI (j)))] [] M
            refine jn_iinc (pc := 86) (j + 1) kM_isTooLong_d86 rfl (nI_1 _) ?_
            refine jj_goto (pc := 89) (tgt := 40) kM_isTooLong_d89 (by decide) ?_
            show jj G kM_isTooLong (d + 2) Q rc rs 40 [some (.ref mx), some (.int (nI (f))), some (.int (nI (n + lc (V (b + (16 * i + j)))))), some (.int (nI (i))), some (.int (nI (j + 1)))] [] M
            refine ih2 (j + 1) (by omega) f _ hf ?_ ?_ (by omega)
            · rw [hfi]
              constructor
              · rintro (h | ⟨i', j', ⟨h1, h2⟩, h3⟩)
                · exact Or.inl h
                · exact Or.inr ⟨i', j', ⟨h1, by omega⟩, h3⟩
              · rintro (h | ⟨i', j', ⟨h1, h2⟩, h3⟩)
                · exact Or.inl h
                · by_cases e : i' = i ∧ j' = j
                  · rw [e.1, e.2] at h3; omega
                  · exact Or.inr ⟨i', j', ⟨h1, by omega⟩, h3⟩
            · rw [nsum, hn, Nat.add_assoc]
          · skip
            refine jn_iconst (pc := 66) 1 kM_isTooLong_d66 (by decide) ?_
            refine jj_goto (pc := 67) (tgt := 71) kM_isTooLong_d67 (by decide) ?_
            refine jj_ior (pc := 71) kM_isTooLong_d71 ?_
            refine jn_top (.int (nI (1))) (congrArg Value.int (or_flag1 hf)) ?_
            refine jj_istore_n (pc := 72) kM_isTooLong_d72 (Nat.le_of_ble_eq_true rfl) ?_
            show jj G kM_isTooLong (d + 2) Q rc rs 73 [some (.ref mx), some (.int (nI (1))), some (.int (nI (n))), some (.int (nI (i))), some (.int (nI (j)))] [] M
            refine jj_iload_n (pc := 73) kM_isTooLong_d73 rfl ?_
            refine jj_aload_n (pc := 74) kM_isTooLong_d74 rfl ?_
            refine jj_iload_n (pc := 75) kM_isTooLong_d75 rfl ?_
            refine jj_iload (pc := 76) kM_isTooLong_d76 rfl ?_
            refine jj_callV (pc := 78) (b := mx) (As := [.int (nI (i)), .int (nI (j))]) kM_isTooLong_d78 (kvM_M_at hG) (kG_cl hG rfl) rfl hm rfl rfl rfl (Nat.le_of_ble_eq_true rfl) (Nat.le_of_ble_eq_true rfl) (jj_bare0 rfl) ?_
            refine m_at hG hM (by omega) (by omega) ?_
            show jj G kM_isTooLong (d + 2) Q rc rs 81 [some (.ref mx), some (.int (nI (1))), some (.int (nI (n))), some (.int (nI (i))), some (.int (nI (j)))] [.ref (wa (b + (16 * i + j))), .int (nI (n))] M
            refine jj_getf (pc := 81) kM_isTooLong_d81 (kfM_W_count hG) hT9 rfl ?_
            refine jn_iadd (pc := 84) (n + lc (V (b + (16 * i + j)))) kM_isTooLong_d84 (by omega) ?_
            refine jj_istore_n (pc := 85) kM_isTooLong_d85 (Nat.le_of_ble_eq_true rfl) ?_
            show jj G kM_isTooLong (d + 2) Q rc rs 86 [some (.ref mx), some (.int (nI (1))), some (.int (nI (n + lc (V (b + (16 * i + j)))))), some (.int (nI (i))), some (.int (nI (j)))] [] M
            refine jn_iinc (pc := 86) (j + 1) kM_isTooLong_d86 rfl (nI_1 _) ?_
            refine jj_goto (pc := 89) (tgt := 40) kM_isTooLong_d89 (by decide) ?_
            show jj G kM_isTooLong (d + 2) Q rc rs 40 [some (.ref mx), some (.int (nI (1))), some (.int (nI (n + lc (V (b + (16 * i + j)))))), some (.int (nI (i))), some (.int (nI (j + 1)))] [] M
            refine ih2 (j + 1) (by omega) 1 _ (Nat.le_refl 1) ⟨fun _ => Or.inr ⟨i, j, ⟨by omega, Or.inr ⟨rfl, by omega⟩⟩, by omega⟩, fun _ => rfl⟩ ?_ (by omega)
            rw [nsum, hn, Nat.add_assoc]
      exact inner c 0 (by omega) f n hf hfi hn hn2
  refine jj_aload_n (pc := 0) kM_isTooLong_d0 rfl ?_
  refine jj_getf (pc := 1) kM_isTooLong_d1 (kfM_common hG) hm rfl ?_
  refine jj_callV (pc := 4) (b := (wa (b + 256))) (As := []) kM_isTooLong_d4 (kvM_W_bits hG) (kG_cl hG rfl) rfl hT1 rfl rfl rfl (Nat.le_of_ble_eq_true rfl) (Nat.le_of_ble_eq_true rfl) (jj_bare0 rfl) ?_
  refine w_bits hG hI hc hb ?_
  show jj G kM_isTooLong (d + 2) Q rc rs 7 [some (.ref mx), none, none, none, none] [.int (nI (blen (V (b + 256))))] M
  refine jn_sipush (pc := 7) 4000 kM_isTooLong_d7 (by decide) ?_
  refine jn_icmp_le (pc := 10) (tgt := 17) kM_isTooLong_d10 (by decide) (by omega) (by omega) (fun cb => ?_) (fun cb => ?_)
  · skip
    refine jn_iconst (pc := 17) 0 kM_isTooLong_d17 (by decide) ?_
    refine jj_istore_n (pc := 18) kM_isTooLong_d18 (Nat.le_of_ble_eq_true rfl) ?_
    show jj G kM_isTooLong (d + 2) Q rc rs 19 [some (.ref mx), some (.int (nI (0))), none, none, none] [] M
    refine jj_aload_n (pc := 19) kM_isTooLong_d19 rfl ?_
    refine jj_getf (pc := 20) kM_isTooLong_d20 (kfM_common hG) hm rfl ?_
    refine jj_getf (pc := 23) kM_isTooLong_d23 (kfM_W_count hG) hT1 rfl ?_
    refine jj_istore_n (pc := 26) kM_isTooLong_d26 (Nat.le_of_ble_eq_true rfl) ?_
    show jj G kM_isTooLong (d + 2) Q rc rs 27 [some (.ref mx), some (.int (nI (0))), some (.int (nI (lc (V (b + 256))))), none, none] [] M
    refine jn_iconst (pc := 27) 0 kM_isTooLong_d27 (by decide) ?_
    refine jj_istore_n (pc := 28) kM_isTooLong_d28 (Nat.le_of_ble_eq_true rfl) ?_
    show jj G kM_isTooLong (d + 2) Q rc rs 29 [some (.ref mx), some (.int (nI (0))), some (.int (nI (lc (V (b + 256))))), some (.int (nI (0))), none] [] M
    show jj G kM_isTooLong (d + 2) Q rc rs 29 [some (.ref mx), some (.int (nI (0))), some (.int (nI (lc (V (b + 256))))), some (.int (nI (0))), none] [] M
    refine outer r 0 (by omega) _ 0 _ (by omega) ⟨fun h => absurd h (by omega), fun h => by rcases h with h | ⟨i, j, ⟨h1, h2⟩, _⟩ <;> omega⟩ (by show _ = _ + 0 + 0; omega) (by omega)
  · skip
    refine jn_iconst (pc := 13) 1 kM_isTooLong_d13 (by decide) ?_
    refine jj_goto (pc := 14) (tgt := 18) kM_isTooLong_d14 (by decide) ?_
    refine jj_istore_n (pc := 18) kM_isTooLong_d18 (Nat.le_of_ble_eq_true rfl) ?_
    show jj G kM_isTooLong (d + 2) Q rc rs 19 [some (.ref mx), some (.int (nI (1))), none, none, none] [] M
    refine jj_aload_n (pc := 19) kM_isTooLong_d19 rfl ?_
    refine jj_getf (pc := 20) kM_isTooLong_d20 (kfM_common hG) hm rfl ?_
    refine jj_getf (pc := 23) kM_isTooLong_d23 (kfM_W_count hG) hT1 rfl ?_
    refine jj_istore_n (pc := 26) kM_isTooLong_d26 (Nat.le_of_ble_eq_true rfl) ?_
    show jj G kM_isTooLong (d + 2) Q rc rs 27 [some (.ref mx), some (.int (nI (1))), some (.int (nI (lc (V (b + 256))))), none, none] [] M
    refine jn_iconst (pc := 27) 0 kM_isTooLong_d27 (by decide) ?_
    refine jj_istore_n (pc := 28) kM_isTooLong_d28 (Nat.le_of_ble_eq_true rfl) ?_
    show jj G kM_isTooLong (d + 2) Q rc rs 29 [some (.ref mx), some (.int (nI (1))), some (.int (nI (lc (V (b + 256))))), some (.int (nI (0))), none] [] M
    show jj G kM_isTooLong (d + 2) Q rc rs 29 [some (.ref mx), some (.int (nI (1))), some (.int (nI (lc (V (b + 256))))), some (.int (nI (0))), none] [] M
    refine outer r 0 (by omega) _ 1 _ (by omega) ⟨fun _ => Or.inl (by omega), fun _ => rfl⟩ (by show _ = _ + 0 + 0; omega) (by omega)
end M8
