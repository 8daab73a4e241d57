/-! ===== Fractions.make (printed by wip/gen/rf5.py) ===== -/
/-- what f's heads V may still make while they stay within cv, besides X' and Z' -/
def FXB (cv : Nat) (V : List Int32) (X Z X' Z' : Nat) : Prop := ∃ j, cv = V.length * 2 ^ j ∧ cv < 16777216 ∧ 0 < V.length ∧ Z = j + Z' ∧ X = rpot cv V.length + X'
theorem FXB.cap {cv X Z X' Z' : Nat} {V : List Int32} (h : FXB cv V X Z X' Z') : V.length ≤ cv ∧ cv < 16777216 := by
  obtain ⟨j, h1, h2, h3, -⟩ := h
  exact ⟨by rw [h1]; exact Nat.le_mul_of_pos_right _ (Nat.pow_pos (by decide)), h2⟩
theorem FXB.same {cv X Z X' Z' : Nat} {V V' : List Int32} (h : FXB cv V X Z X' Z') (e : V'.length = V.length) : FXB cv V' X Z X' Z' := by
  obtain ⟨j, h1, h2, h3, h4, h5⟩ := h
  exact ⟨j, by rw [e]; exact h1, h2, by omega, h4, by rw [e]; exact h5⟩
section RF5
variable {G : jg} {d : Nat} {Q : jq} {rc rs : Nat} {M : mheap} {f w vv pv : Nat} {v2 : Value} {D V P : List Int32} {t : Nat} {up low rk : Int32}
theorem RW.fresh {T b : Nat} (h : RW M w D T v2) (hb : M b = none) : ¬ RO M w b := by
  obtain ⟨dd, h1, h2⟩ := h
  rintro (e | ⟨l, e⟩)
  · rw [e, h1] at hb; cases hb
  · rw [h1] at e
    simp only [Option.some.injEq, Prod.mk.injEq, List.cons.injEq, Value.ref.injEq] at e
    obtain ⟨-, e, -⟩ := e
    rw [← e, h2] at hb; cases hb
theorem FC.grow (h : FC M f w vv pv V t up low P rk) {T b : Nat} (hw : RW M w D T v2) (hb : M b = none) {V' : List Int32} : FC (jj_up (jj_up M b (.inr 0, V'.map .int)) f (.inl nRF, [.ref w, .ref b, .int (nI t), .int up, .int low, .ref pv, .int rk])) f w b pv V' t up low P rk ∧ FF M (jj_up (jj_up M b (.inr 0, V'.map .int)) f (.inl nRF, [.ref w, .ref b, .int (nI t), .int up, .int low, .ref pv, .int rk])) f := by
  have hf := hw.fresh hb
  obtain ⟨h1, h2, h3, h4, h5, h6, h7⟩ := id h
  have fb : f ≠ b := fun e => by rw [e, hb] at h1; cases h1
  have pb : pv ≠ b := fun e => by rw [e, hb] at h3; cases h3
  have pf : pv ≠ f := fun e => by rw [e, h1] at h3; cases h3
  have bw : b ≠ w := fun e => hf (Or.inl e)
  have fw : f ≠ w := fun e => h5 (Or.inl e)
  have ro : ∀ q, RO (jj_up (jj_up M b (.inr 0, V'.map .int)) f (.inl nRF, [.ref w, .ref b, .int (nI t), .int up, .int low, .ref pv, .int rk])) w q ↔ RO M w q := fun q => (RO.upd fw).trans (RO.upd bw)
  have hC : FC (jj_up (jj_up M b (.inr 0, V'.map .int)) f (.inl nRF, [.ref w, .ref b, .int (nI t), .int up, .int low, .ref pv, .int rk])) f w b pv V' t up low P rk := ⟨jj_up_at _ _ _, by rw [jj_up_ne _ _ (Ne.symm fb)]; exact jj_up_at _ _ _, by rw [jj_up_ne _ _ pf, jj_up_ne _ _ pb]; exact h3, Ne.symm pb, fun g => h5 ((ro f).mp g), fun g => hf ((ro b).mp g), fun g => h7 ((ro pv).mp g)⟩
  refine ⟨hC, fun q hq ho => ?_⟩
  have ho' := fun g => ho ((FO.of h).mpr g)
  have qb : q ≠ b := fun e => hq (by rw [e]; exact hb)
  have qf : q ≠ f := fun e => ho' (Or.inl e)
  refine ⟨by rw [jj_up_ne _ _ qf, jj_up_ne _ _ qb], fun g => ?_⟩
  rcases (FO.of hC).mp g with g | g | g | g
  · exact qf g
  · exact ho' (Or.inr (Or.inl ((ro q).mp g)))
  · exact qb g
  · exact ho' (Or.inr (Or.inr (Or.inr g)))
theorem rf_make {r c T cm cv X Z X' Z' : Nat} (hG : kG G) (hC : FC M f w vv pv V t up low P rk) (hS : RS M w D T v2 cm X Z rc rs) (hX : FXB cv V X Z X' Z') (htV : t ≤ V.length) (hr : r < 65536) (hc : c < 65536) (ht : t + 2 + 2 * (r * c) ≤ cv)
    (k : ∀ M' vv' V' X1 Z1 rc' rs', FC M' f w vv' pv V' (t + 2 + 2 * (r * c)) up low P rk → RS M' w D T v2 cm X1 Z1 rc' rs' → FXB cv V' X1 Z1 X' Z' → t + 2 + 2 * (r * c) ≤ V'.length → V'.getD t 0 = nI r → V'.getD (t + 1) 0 = nI c → (∀ i, i < t → V'.getD i 0 = V.getD i 0) → FF M M' f → Q (.returned (some (.int (nI t)))) M' rc' rs') : jj G kRF_make (d + 2) Q rc rs 0 (jj_ent [.ref f, .int (nI r), .int (nI c)] 6) [] M := by
  have hcap := hX.cap
  obtain ⟨m, hm⟩ : ∃ m, r * c = m := ⟨_, rfl⟩
  rw [hm] at ht k
  have fin : ∀ (o4 : Int32) (vv9 : Nat) (M9 : mheap) (V9 : List Int32) (X9 Z9 rc9 rs9 : Nat), FC M9 f w vv9 pv V9 t up low P rk → RS M9 w D T v2 cm X9 Z9 rc9 rs9 → FXB cv V9 X9 Z9 X' Z' → t + 2 * m + 2 ≤ V9.length → (∀ i, i < t → V9.getD i 0 = V.getD i 0) → FF M M9 f → jj G kRF_make (d + 2) Q rc9 rs9 58 [some (.ref f), some (.int (nI (r))), some (.int (nI (c))), some (.int (nI (2 * m + 2))), some (.int o4), none] [] M9 := by
    intro o4 vv M9 V9 X9 Z9 rc9 rs9 hC9 hS9 hX9 hl9 ho9 hF9
    have hcap9 := hX9.cap
    show jj G kRF_make (d + 2) Q rc9 rs9 58 [some (.ref f), some (.int (nI (r))), some (.int (nI (c))), some (.int (nI (2 * m + 2))), some (.int (o4)), none] [] M9
    refine jj_aload_n (pc := 58) kRF_make_d58 rfl ?_
    refine jj_getf (pc := 59) kRF_make_d59 (kfRF_top hG) hC9.1 rfl ?_
    refine jj_istore (pc := 62) kRF_make_d62 (Nat.le_of_ble_eq_true rfl) ?_
    refine jj_aload_n (pc := 64) kRF_make_d64 rfl ?_
    refine jj_dup (pc := 65) kRF_make_d65 rfl ?_
    refine jj_getf (pc := 66) kRF_make_d66 (kfRF_top hG) hC9.1 rfl ?_
    refine jj_iload_n (pc := 69) kRF_make_d69 rfl ?_
    refine jn_iadd (pc := 70) (t + 2 * m + 2) kRF_make_d70 (by omega) ?_
    refine jj_putf (pc := 71) kRF_make_d71 (kpRF_top hG) hC9.1 (by rfl) rfl ?_
    refine jn_gen (fun M101 hM102 => ?_)
    have hC103 : FC M101 f w vv pv V9 (t + 2 * m + 2) (up) (low) P (rk) := by rw [hM102]; exact hC9.putf
    have hF103 : FF M M101 f := by rw [hM102]; exact hF9.trans (FF.putf hC9)
    have hS103 : RS M101 w D (T) v2 cm X9 Z9 rc9 rs9 := by rw [hM102]; exact hS9.other hC9.2.2.2.2.1
    refine jj_aload_n (pc := 74) kRF_make_d74 rfl ?_
    refine jj_getf (pc := 75) kRF_make_d75 (kfRF_v hG) hC103.1 rfl ?_
    refine jj_iload (pc := 78) kRF_make_d78 rfl ?_
    refine jj_iload_n (pc := 80) kRF_make_d80 rfl ?_
    refine jn_iast (pc := 81) kRF_make_d81 (kG_t hG rfl) hC103.2.1 (by omega) (by omega) ?_
    refine jn_gen (fun M104 hM105 => ?_)
    have hC106 : FC M104 f w vv pv ((V9).set (t) ((nI (r)))) (t + 2 * m + 2) (up) (low) P (rk) := by rw [hM105]; exact hC103.putv
    have hF106 : FF M M104 f := by rw [hM105]; exact hF103.trans (FF.putv hC103)
    have hS106 : RS M104 w D (T) v2 cm X9 Z9 rc9 rs9 := by rw [hM105]; exact hS103.other hC103.2.2.2.2.2.1
    have hl91 : (V9.set t (nI (r))).length < 2 ^ 31 := by rw [List.length_set]; omega
    have hl92 : (V9.set t (nI (r))).length = V9.length := List.length_set ..
    refine jj_aload_n (pc := 82) kRF_make_d82 rfl ?_
    refine jj_getf (pc := 83) kRF_make_d83 (kfRF_v hG) hC106.1 rfl ?_
    refine jj_iload (pc := 86) kRF_make_d86 rfl ?_
    refine jn_iconst (pc := 88) 1 kRF_make_d88 (by decide) ?_
    refine jn_iadd (pc := 89) (t + 1) kRF_make_d89 (by omega) ?_
    refine jj_iload_n (pc := 90) kRF_make_d90 rfl ?_
    refine jn_iast (pc := 91) kRF_make_d91 (kG_t hG rfl) hC106.2.1 (by omega) (by omega) ?_
    refine jn_gen (fun M107 hM108 => ?_)
    have hC109 : FC M107 f w vv pv (((V9).set (t) ((nI (r)))).set (t + 1) ((nI (c)))) (t + 2 * m + 2) (up) (low) P (rk) := by rw [hM108]; exact hC106.putv
    have hF109 : FF M M107 f := by rw [hM108]; exact hF106.trans (FF.putv hC106)
    have hS109 : RS M107 w D (T) v2 cm X9 Z9 rc9 rs9 := by rw [hM108]; exact hS106.other hC106.2.2.2.2.2.1
    refine jj_iload (pc := 92) kRF_make_d92 rfl ?_
    have hlen : ((V9.set t (nI r)).set (t + 1) (nI c)).length = V9.length := by rw [List.length_set, List.length_set]
    rw [show t + 2 * m + 2 = t + 2 + 2 * m by omega] at hC109
    exact jj_iret (pc := 94) kRF_make_d94 rfl (by rfl) (k _ _ _ _ _ _ _ hC109 hS109 (hX9.same hlen) (by omega) (by rw [gd_set_ne (by omega)]; exact gd_set_eq (by omega)) (gd_set_eq (by omega)) (fun i hi => by rw [gd_set_ne (by omega), gd_set_ne (by omega)]; exact ho9 i hi) hF109)
  obtain ⟨j, b1, b2, b3, b4, b5⟩ := id hX
  have k35 : ∀ i, i ≤ j → t + 2 * m + 2 ≤ V.length * 2 ^ i → (i = 0 ∨ V.length < t + 2 * m + 2) → jj G kRF_make (d + 2) Q rc rs 35 [some (.ref f), some (.int (nI (r))), some (.int (nI (c))), some (.int (nI (2 * m + 2))), some (.int (nI (V.length * 2 ^ i))), none] [] M := by
    intro i hi hti hor
    have hib : V.length * 2 ^ i ≤ cv := by rw [b1]; exact Nat.mul_le_mul_left _ (Nat.pow_le_pow_right (by decide) hi)
    obtain ⟨hW, hB, hTD, hz, hp⟩ := id hS
    obtain ⟨jd, c1, c2, c3, c4, c5⟩ := id hB
    refine jj_iload (pc := 35) kRF_make_d35 rfl ?_
    refine jj_aload_n (pc := 37) kRF_make_d37 rfl ?_
    refine jj_getf (pc := 38) kRF_make_d38 (kfRF_v hG) hC.1 rfl ?_
    refine jn_alen (pc := 41) kRF_make_d41 hC.2.1 ?_
    refine jn_icmp_le (pc := 42) (tgt := 58) kRF_make_d42 (by decide) (by omega) (by omega) (fun c0 => ?_) (fun c0 => ?_)
    · skip
      exact fin _ _ M V X Z rc rs hC hS hX (by omega) (fun _ _ => rfl) (FF.refl M f)
    · skip
      cases i with
      | zero => simp at c0
      | succ i =>
        have h4 : V.length < t + 2 * m + 2 := by rcases hor with h | h; cases h; exact h
        have h5 : 2 * V.length ≤ V.length * 2 ^ (i + 1) := by
          rw [Nat.pow_succ, ← Nat.mul_assoc, Nat.mul_comm _ 2]
          exact Nat.mul_le_mul_left 2 (Nat.le_mul_of_pos_right _ (Nat.pow_pos (by decide)))
        have h6 : rpot cv (V.length * 2 ^ (i + 1)) + X' + rpot cm D.length ≤ rs - V.length * 2 ^ (i + 1) ∧ V.length * 2 ^ (i + 1) ≤ rs := by
          unfold rpot at b5 c5 ⊢
          omega
        show jj G kRF_make (d + 2) Q rc rs 45 [some (.ref f), some (.int (nI (r))), some (.int (nI (c))), some (.int (nI (2 * m + 2))), some (.int (nI (V.length * 2 ^ (i + 1)))), none] [] M
        refine jj_aload_n (pc := 45) kRF_make_d45 rfl ?_
        refine jj_aload_n (pc := 46) kRF_make_d46 rfl ?_
        refine jj_getf (pc := 47) kRF_make_d47 (kfRF_v hG) hC.1 rfl ?_
        refine jj_iload (pc := 50) kRF_make_d50 rfl ?_
        refine jj_callS (pc := 52) (As := [.ref vv, .int (nI (V.length * 2 ^ (i + 1)))]) kRF_make_d52 (kvRF_JA_copyOf_2 hG) rfl rfl rfl (Nat.le_of_ble_eq_true rfl) (Nat.le_of_ble_eq_true rfl) (jj_bare0 rfl) ?_
        refine ja_copyOf hG hC.2.1 c0 (by omega) (by omega) h6.2 (fun b hb => ?_)
        show jj G kRF_make (d + 2) Q (rc - 1) (rs - V.length * 2 ^ (i + 1)) 55 [some (.ref f), some (.int (nI (r))), some (.int (nI (c))), some (.int (nI (2 * m + 2))), some (.int (nI (V.length * 2 ^ (i + 1)))), none] [.ref b, .ref f] _
        have hfb : f ≠ b := fun e => by have q1 := hC.1; rw [e, hb] at q1; cases q1
        refine jj_putf (pc := 55) kRF_make_d55 (kpRF_v hG) (by rw [jj_up_ne _ _ hfb]; exact hC.1) (by rfl) rfl ?_
        obtain ⟨g1, g2⟩ := hC.grow hW hb (V' := V ++ List.replicate (V.length * 2 ^ (i + 1) - V.length) 0)
        have hlen : (V ++ List.replicate (V.length * 2 ^ (i + 1) - V.length) (0 : Int32)).length = V.length * 2 ^ (i + 1) := by simp; omega
        have hfw : ¬ RO (jj_up M b (.inr 0, (V ++ List.replicate (V.length * 2 ^ (i + 1) - V.length) 0).map .int)) w f := fun q => hC.2.2.2.2.1 ((RO.upd (fun e => hW.fresh hb (Or.inl e))).mp q)
        refine fin _ _ _ _ (rpot cv (V.length * 2 ^ (i + 1)) + X') (j - (i + 1) + Z') _ _ g1 ⟨(hW.other (hW.fresh hb)).other hfw, ⟨jd, c1, c2, c3, by omega, by omega⟩, hTD, hz, hp⟩ ⟨j - (i + 1), by rw [hlen, Nat.mul_assoc, ← Nat.pow_add, show i + 1 + (j - (i + 1)) = j by omega]; exact b1, b2, by omega, rfl, by rw [hlen]⟩ (by omega) (fun q hq => ?_) g2
        exact RX.at ⟨_, rfl⟩ q
  have loop : ∀ q i, j ≤ i + q → i ≤ j → (i = 0 ∨ V.length < t + 2 * m + 2) → jj G kRF_make (d + 2) Q rc rs 15 [some (.ref f), some (.int (nI (r))), some (.int (nI (c))), some (.int (nI (2 * m + 2))), some (.int (nI (V.length * 2 ^ i))), none] [] M := by
    intro q
    induction q with
    | zero =>
      intro i hji hi hor
      have hib : V.length * 2 ^ i ≤ cv := by rw [b1]; exact Nat.mul_le_mul_left _ (Nat.pow_le_pow_right (by decide) hi)
      have e : i = j := by omega
      subst e
      refine jj_aload_n (pc := 15) kRF_make_d15 rfl ?_
      refine jj_getf (pc := 16) kRF_make_d16 (kfRF_top hG) hC.1 rfl ?_
      refine jj_iload_n (pc := 19) kRF_make_d19 rfl ?_
      refine jn_iadd (pc := 20) (t + 2 * m + 2) kRF_make_d20 (by omega) ?_
      refine jj_iload (pc := 21) kRF_make_d21 rfl ?_
      refine jn_icmp_le (pc := 23) (tgt := 35) kRF_make_d23 (by decide) (by omega) (by omega) (fun c0 => ?_) (fun c0 => ?_)
      · skip
        exact k35 i hi (by omega) hor
      · skip
        exfalso
        omega
    | succ q ih =>
      intro i hji hi hor
      have hib : V.length * 2 ^ i ≤ cv := by rw [b1]; exact Nat.mul_le_mul_left _ (Nat.pow_le_pow_right (by decide) hi)
      refine jj_aload_n (pc := 15) kRF_make_d15 rfl ?_
      refine jj_getf (pc := 16) kRF_make_d16 (kfRF_top hG) hC.1 rfl ?_
      refine jj_iload_n (pc := 19) kRF_make_d19 rfl ?_
      refine jn_iadd (pc := 20) (t + 2 * m + 2) kRF_make_d20 (by omega) ?_
      refine jj_iload (pc := 21) kRF_make_d21 rfl ?_
      refine jn_icmp_le (pc := 23) (tgt := 35) kRF_make_d23 (by decide) (by omega) (by omega) (fun c0 => ?_) (fun c0 => ?_)
      · skip
        exact k35 i hi (by omega) hor
      · skip
        have hij : i < j := by
          rcases Nat.lt_or_ge i j with h | h
          · exact h
          · have e : i = j := by omega
            subst e
            omega
        have hDl : V.length ≤ V.length * 2 ^ i := Nat.le_mul_of_pos_right _ (Nat.pow_pos (by decide))
        refine jn_iconst (pc := 26) 2 kRF_make_d26 (by decide) ?_
        refine jj_iload (pc := 27) kRF_make_d27 rfl ?_
        refine jn_imul (pc := 29) (V.length * 2 ^ (i + 1)) kRF_make_d29 (by rw [Nat.pow_succ, Nat.mul_left_comm, Nat.mul_comm 2]) ?_
        refine jj_istore (pc := 30) kRF_make_d30 (Nat.le_of_ble_eq_true rfl) ?_
        refine jj_goto (pc := 32) (tgt := 15) kRF_make_d32 (by decide) ?_
        show jj G kRF_make (d + 2) Q rc rs 15 [some (.ref f), some (.int (nI (r))), some (.int (nI (c))), some (.int (nI (2 * m + 2))), some (.int (nI (V.length * 2 ^ (i + 1)))), none] [] M
        exact ih (i + 1) (by omega) hij (Or.inr (by omega))
  show jj G kRF_make (d + 2) Q rc rs 0 [some (.ref f), some (.int (nI (r))), some (.int (nI (c))), none, none, none] [] M
  refine jn_iconst (pc := 0) 2 kRF_make_d0 (by decide) ?_
  refine jn_iconst (pc := 1) 2 kRF_make_d1 (by decide) ?_
  refine jj_iload_n (pc := 2) kRF_make_d2 rfl ?_
  refine jn_imul (pc := 3) (2 * r) kRF_make_d3 (by omega) ?_
  refine jj_iload_n (pc := 4) kRF_make_d4 rfl ?_
  refine jn_imul (pc := 5) (2 * m) kRF_make_d5 (by rw [Nat.mul_assoc, hm]) ?_
  refine jn_iadd (pc := 6) (2 * m + 2) kRF_make_d6 (by omega) ?_
  refine jj_istore_n (pc := 7) kRF_make_d7 (Nat.le_of_ble_eq_true rfl) ?_
  refine jj_aload_n (pc := 8) kRF_make_d8 rfl ?_
  refine jj_getf (pc := 9) kRF_make_d9 (kfRF_v hG) hC.1 rfl ?_
  refine jn_alen (pc := 12) kRF_make_d12 hC.2.1 ?_
  refine jj_istore (pc := 13) kRF_make_d13 (Nat.le_of_ble_eq_true rfl) ?_
  have h0 := loop j 0 (by omega) (Nat.zero_le j) (Or.inl rfl)
  rw [Nat.pow_zero, Nat.mul_one] at h0
  exact h0
end RF5
