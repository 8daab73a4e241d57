/-! ===== the reference: refuses, isRegister, begin, load, isCell, half (printed by wip/gen/rm8.py) ===== -/
/-- a cell of a register -/
def isCel (σ : rst) (x y z : Int32) : Prop := ∃ k i j, k < 8 ∧ x = nI k ∧ i < σ.1 k ∧ y = nI i ∧ j < σ.2.1 k ∧ z = nI j
theorem nI_small {x : Int32} {n : Nat} (hn : n < 2 ^ 31) (h0 : ¬ x < 0) (h8 : ¬ nI n ≤ x) : ∃ i, i < n ∧ x = nI i := by
  obtain ⟨i, hi, e⟩ := nI_of h0
  refine ⟨i, ?_, e⟩
  rcases Nat.lt_or_ge i n with g | g
  · exact g
  · exact absurd (by rw [e]; exact nI_le g hi) h8
/-- digits of a number, what a register's cells take in the work area -/
def dz (z : Int) : Nat := (blen z + 14) / 15
theorem dz_ZB (z : Int) : ZB (dz z) z := by
  unfold ZB
  have h1 : z.natAbs < 2 ^ blen z := by
    unfold blen
    by_cases e : z = 0
    · rw [e]; exact Nat.pow_pos (by decide)
    · rw [if_neg e]; exact (Nat.log2_lt (by omega)).mp (Nat.lt_succ_self _)
  refine Nat.lt_of_lt_of_le h1 ?_
  rw [show (32768 : Nat) = 2 ^ 15 from rfl, ← Nat.pow_mul]
  exact Nat.pow_le_pow_right (by decide) (by unfold dz; omega)
theorem dz_le {z : Int} {s : Nat} (h : ZB s z) : dz z ≤ s := by
  have := blen_lt h
  unfold dz; omega
def ldC (q : Rat) : Nat := dz q.num + 1 + (if q.den = 1 then 0 else dz (q.den : Int) + 1)
def ldS (q : Nat → Rat) (n : Nat) : Nat := nsum (fun j => ldC (q j)) n
theorem nsum_bound {f : Nat → Nat} {b : Nat} : ∀ {n : Nat}, (∀ j, j < n → f j ≤ b) → nsum f n ≤ n * b
  | 0, _ => by show (0 : Nat) ≤ _; omega
  | n + 1, h => by
    have h1 := nsum_bound (n := n) (fun j hj => h j (by omega))
    have h2 := h n (by omega)
    show nsum f n + f n ≤ _
    rw [Nat.succ_mul]; omega
theorem ldS_fit {q : Nat → Rat} {n : Nat} (h : fitC q n) (hn : n ≤ 256) : ldS q n ≤ 137216 := by
  have h1 : ldS q n ≤ n * 536 := nsum_bound (fun j hj => by
    obtain ⟨a, b, -⟩ := fit_sizes h hj
    have := dz_le a
    have := dz_le b
    show ldC (q j) ≤ 536
    unfold ldC
    split <;> omega)
  omega
theorem ldS_whole {q : Nat → Rat} {n s : Nat} (h : ∀ j, j < n → (q j).den = 1 ∧ ZB s (q j).num) : ldS q n ≤ n * (s + 1) := nsum_bound (fun j hj => by
  obtain ⟨a, b⟩ := h j hj
  have := dz_le b
  show ldC (q j) ≤ s + 1
  unfold ldC
  rw [if_pos a]
  omega)
section RM8
variable {G : jg} {d : Nat} {Q : jq} {rc rs : Nat} {M : mheap} {F : Nat → Nat} {r o f st w vv pv ca ra : Nat} {v2 : Value} {D V P CA RA : List Int32} {t : Nat} {up low rk fi se code : Int32} {σ : rst} {pt zt : Nat → Nat}
theorem rm_refuses {c : Nat} (hG : kG G) (hM : M r = some (.inl nR, [.int code, .ref f, .ref o, .ref st])) (hc : c < 2 ^ 31) (k1 : 0 < c → Q (.returned (some (.int (nI 1)))) (jj_up M r (.inl nR, [.int (nI c), .ref f, .ref o, .ref st])) rc rs) (k0 : c = 0 → Q (.returned (some (.int (nI 0)))) (jj_up M r (.inl nR, [.int (nI c), .ref f, .ref o, .ref st])) rc rs) : jj G kR_refuses d Q rc rs 0 (jj_ent [.ref r, .int (nI c)] 2) [] M := by
  show jj G kR_refuses (d) Q rc rs 0 [some (.ref r), some (.int (nI (c)))] [] M
  refine jj_aload_n (pc := 0) kR_refuses_d0 rfl ?_
  refine jj_iload_n (pc := 1) kR_refuses_d1 rfl ?_
  refine jj_putf (pc := 2) kR_refuses_d2 (kpR_code hG) hM (by rfl) rfl ?_
  refine jn_gen (fun M101 hM102 => ?_)
  have h103 : M101 r = some (.inl nR, [.int (nI (c)), .ref f, .ref o, .ref st]) := by rw [hM102]; exact jj_up_at _ _ _
  refine jj_iload_n (pc := 5) kR_refuses_d5 rfl ?_
  refine jn_if_le (pc := 6) (tgt := 13) kR_refuses_d6 (by decide) (by omega) (fun c0 => ?_) (fun c0 => ?_)
  · skip
    refine jn_iconst (pc := 13) 0 kR_refuses_d13 (by decide) ?_
    exact jj_iret (pc := 14) kR_refuses_d14 rfl (by rfl) (by rw [hM102]; exact k0 c0)
  · skip
    refine jn_iconst (pc := 9) 1 kR_refuses_d9 (by decide) ?_
    refine jj_goto (pc := 10) (tgt := 14) kR_refuses_d10 (by decide) ?_
    exact jj_iret (pc := 14) kR_refuses_d14 rfl (by rfl) (by rw [hM102]; exact k1 c0)
theorem rm_isRegister {x : Int32} (k1 : ∀ n, n < 8 → x = nI n → Q (.returned (some (.int (nI 1)))) M rc rs) (k0 : ¬ isReg x → Q (.returned (some (.int (nI 0)))) M rc rs) : jj G kR_isRegister d Q rc rs 0 (jj_ent [.int x] 1) [] M := by
  show jj G kR_isRegister (d) Q rc rs 0 [some (.int (x))] [] M
  refine jj_iload_n (pc := 0) kR_isRegister_d0 rfl ?_
  refine jj_if_lt (pc := 1) (tgt := 14) kR_isRegister_d1 (by decide) (fun c0 => ?_) (fun c0 => ?_)
  · skip
    refine jn_iconst (pc := 14) 0 kR_isRegister_d14 (by decide) ?_
    exact jj_iret (pc := 15) kR_isRegister_d15 rfl (by rfl) (k0 (isReg_not (Or.inl c0)))
  · skip
    refine jj_iload_n (pc := 4) kR_isRegister_d4 rfl ?_
    refine jn_bipush (pc := 5) 8 kR_isRegister_d5 (by decide) ?_
    refine jj_icmp_ge (pc := 7) (tgt := 14) kR_isRegister_d7 (by decide) (fun c1 => ?_) (fun c1 => ?_)
    · skip
      refine jn_iconst (pc := 14) 0 kR_isRegister_d14 (by decide) ?_
      exact jj_iret (pc := 15) kR_isRegister_d15 rfl (by rfl) (k0 (isReg_not (Or.inr c1)))
    · skip
      obtain ⟨n, hn, en⟩ := isReg_of c0 c1
      refine jn_iconst (pc := 10) 1 kR_isRegister_d10 (by decide) ?_
      refine jj_goto (pc := 11) (tgt := 15) kR_isRegister_d11 (by decide) ?_
      exact jj_iret (pc := 15) kR_isRegister_d15 rfl (by rfl) (k1 n hn en)
theorem rm_begin {T cm X Z : Nat} (hG : kG G) (e0 : F 0 = f) (e9 : F 9 = r) (e10 : F 10 = o) (e11 : F 11 = st) (hP : RPX M F code 0 pt zt (SA σ)) (hC : FC M f w vv pv V t up low P rk) (hS : RS M w D T v2 cm X Z rc rs) (hT3 : 3 ≤ T)
    (K : ∀ M', FC M' f w vv pv V 0 up low P rk → RS M' w D 3 v2 cm X Z rc rs → FF M M' f → Q (.returned none) M' rc rs) : jj G kR_begin d Q rc rs 0 (jj_ent [.ref r] 1) [] M := by
  obtain ⟨hW104, hB104, hTD104, hz104, hp104⟩ := id hS
  obtain ⟨dd104, hw104, hd104⟩ := id hW104
  have hcap104 := hB104.cap
  show jj G kR_begin (d) Q rc rs 0 [some (.ref r)] [] M
  refine jj_aload_n (pc := 0) kR_begin_d0 rfl ?_
  refine jj_getf (pc := 1) kR_begin_d1 (kfR_f hG) (RPX.rr e0 e9 e10 e11 hP) rfl ?_
  refine jj_getf (pc := 4) kR_begin_d4 (kfR_RF_w hG) hC.1 rfl ?_
  refine jn_iconst (pc := 7) 3 kR_begin_d7 (by decide) ?_
  refine jj_putf (pc := 8) kR_begin_d8 (kpR_RW_top hG) hw104 (by rfl) rfl ?_
  refine jn_gen (fun M105 hM106 => ?_)
  have hf107 : RF M M105 w := by rw [hM106]; exact RF.top hw104
  have hS107 : RS M105 w D (3) v2 cm X Z rc rs := ⟨⟨dd104, by rw [hM106]; exact jj_up_at _ _ _, by rw [hM106, jj_up_ne _ _ (fun e => by have q1 := hd104; rw [e, hw104] at q1; cases q1)]; exact hd104⟩, hB104, by omega, hz104, by omega⟩
  have hC107 := hC.rf hf107
  have hF107 := (FF.refl M f).trans (FF.ofRF hC hf107)
  obtain ⟨hW108, hB108, hTD108, hz108, hp108⟩ := id hS107
  obtain ⟨dd108, hw108, hd108⟩ := id hW108
  have hcap108 := hB108.cap
  refine jj_aload_n (pc := 11) kR_begin_d11 rfl ?_
  refine jj_getf (pc := 12) kR_begin_d12 (kfR_f hG) (RPX.rr e0 e9 e10 e11 (hP.ffe e0 hF107)) rfl ?_
  refine jn_iconst (pc := 15) 0 kR_begin_d15 (by decide) ?_
  refine jj_putf (pc := 16) kR_begin_d16 (kpR_RF_top hG) hC107.1 (by rfl) rfl ?_
  refine jn_gen (fun M109 hM110 => ?_)
  have hC111 : FC M109 f w vv pv V (0) (up) (low) P (rk) := by rw [hM110]; exact hC107.putf
  have hF111 : FF M M109 f := by rw [hM110]; exact hF107.trans (FF.putf hC107)
  have hS111 : RS M109 w D (3) v2 cm X Z rc rs := by rw [hM110]; exact hS107.other hC107.2.2.2.2.1
  obtain ⟨hW112, hB112, hTD112, hz112, hp112⟩ := id hS111
  obtain ⟨dd112, hw112, hd112⟩ := id hW112
  have hcap112 := hB112.cap
  exact jj_vret (pc := 19) kR_begin_d19 rfl (K M109 hC111 hS111 hF111)
theorem rm_load {T X Z XX ZZ k : Nat} (hG : kG G) (e0 : F 0 = f) (e9 : F 9 = r) (e10 : F 10 = o) (e11 : F 11 = st) (hP : RPX M F code 0 pt zt (SA σ)) (hC : FC M f w vv pv V t up low P rk) (hS : RS M w D T v2 2097152 X Z rc rs) (hX : FXB 8192 V X Z XX ZZ) (htV : t ≤ V.length) (h1 : RI D 3 1 1) (hT3 : 3 ≤ T) (hL : LG σ) (hk : k < 8) (hT : T + 137216 ≤ 2097152) (ht : t + 514 ≤ 8192)
    (K : MKP Q M f w pv D V t P rk T 2097152 8192 XX ZZ (σ.1 k) (σ.2.1 k) (T + ldS (σ.2.2 k) (σ.1 k * σ.2.1 k)) (σ.2.2 k)) : jj G kR_load (d + 6) Q rc rs 0 (jj_ent [.ref r, .int (nI k)] 2) [] M := by
  obtain ⟨g, eg⟩ : ∃ g, F (k + 1) = g := ⟨_, rfl⟩
  obtain ⟨u, vg, pg, de, E, TE, v3, Vg, tg, upg, lowg, Pg, rkg, hg, g1, g2, g3, g4, g5, g6, g7, g8⟩ := hP.fg (by decide) (show k + 1 < 9 by omega) (by omega)
  rw [e0, eg] at hg
  have hm : MX E TE Vg tg 0 (σ.1 k) (σ.2.1 k) 3 (σ.2.2 k) := by
    rcases g8 with e | e
    · omega
    · rw [show k + 1 - 1 = k by omega] at e; exact e
  obtain ⟨l1, l2, l3, l4, l5, l6⟩ := hL k hk
  have hrc : σ.1 k * σ.2.1 k ≤ 16 * 16 := Nat.mul_le_mul l3 l4
  have hrS := ldS_fit l5 (by omega)
  show jj G kR_load (d + 6) Q rc rs 0 [some (.ref r), some (.int (nI (k)))] [] M
  refine jj_aload_n (pc := 0) kR_load_d0 rfl ?_
  refine jj_getf (pc := 1) kR_load_d1 (kfR_f hG) (RPX.rr e0 e9 e10 e11 hP) rfl ?_
  refine jj_aload_n (pc := 4) kR_load_d4 rfl ?_
  refine jj_getf (pc := 5) kR_load_d5 (kfR_store hG) (RPX.rr e0 e9 e10 e11 hP) rfl ?_
  refine jj_iload_n (pc := 8) kR_load_d8 rfl ?_
  refine jj_aald (pc := 9) kR_load_d9 (kG_t hG rfl) (RPX.ss e11 hP) rfl (by rw [List.length_map, List.length_range]; decide) (by rw [st_at hk, eg]) ?_
  show jj G kR_load (d + 6) Q rc rs 10 [some (.ref r), some (.int (nI (k)))] [.ref g, .ref f] M
  refine jn_iconst (pc := 10) 0 kR_load_d10 (by decide) ?_
  refine jj_callS (pc := 11) (As := [.ref f, .ref g, .int (nI (0))]) kR_load_d11 (kvR_R_move hG) rfl rfl rfl (Nat.le_of_ble_eq_true rfl) (Nat.le_of_ble_eq_true rfl) (jj_bare0 rfl) ?_
  refine rm_move (sn := fun j => dz (σ.2.2 k j).num) (sd := fun j => dz ((σ.2.2 k j).den : Int)) (Sf := fun j => ldC (σ.2.2 k j)) (q := σ.2.2 k) hG hC hg hS hX htV (h1.congr hT3 (fun _ _ => rfl)) hT3 (by omega) g1 (by omega) g4 (g6.congr g5 (fun _ _ => rfl)) hm (by omega) (by omega) (fun j hj => ⟨dz_ZB _, by
      unfold ldC
      by_cases c : (σ.2.2 k j).den = 1
      · rw [if_pos c]; exact Or.inl ⟨c, Nat.le_refl _⟩
      · rw [if_neg c]; exact Or.inr ⟨dz_ZB _, by omega⟩⟩) (by omega) (by show T + ldS (σ.2.2 k) (σ.1 k * σ.2.1 k) ≤ _; omega) (MKP.mono (E' := T + ldS (σ.2.2 k) (σ.1 k * σ.2.1 k)) ?_ (Nat.le_refl _))
  intro M1 vv D1 T1 V1 up1 low1 X1 Z1 v1 rc1 rs1 hC1 hS1 hX1 t1 u1 ho1 hv1 hl1 hF1 hm1
  show jj G kR_load (d + 6) Q rc1 rs1 14 [some (.ref r), some (.int (nI (k)))] [.int (nI (t))] M1
  exact jj_iret (pc := 14) kR_load_d14 rfl (by rfl) (K M1 vv D1 T1 V1 up1 low1 X1 Z1 v1 rc1 rs1 hC1 hS1 hX1 t1 u1 ho1 hv1 hl1 hF1 hm1)
theorem rm_isCell {x y z : Int32} (hG : kG G) (e0 : F 0 = f) (e9 : F 9 = r) (e10 : F 10 = o) (e11 : F 11 = st) (hP : RPX M F code 0 pt zt (SA σ)) (hC : FC M f w vv pv V t up low P rk) (hL : LG σ)
    (k1 : ∀ k i j, k < 8 → x = nI k → i < σ.1 k → y = nI i → j < σ.2.1 k → z = nI j → Q (.returned (some (.int (nI 1)))) M rc rs) (k0 : ¬ isCel σ x y z → Q (.returned (some (.int (nI 0)))) M rc rs) : jj G kR_isCell (d + 1) Q rc rs 0 (jj_ent [.ref r, .int x, .int y, .int z] 4) [] M := by
  show jj G kR_isCell (d + 1) Q rc rs 0 [some (.ref r), some (.int (x)), some (.int (y)), some (.int (z))] [] M
  refine jj_iload_n (pc := 0) kR_isCell_d0 rfl ?_
  refine jj_callS (pc := 1) (As := [.int (x)]) kR_isCell_d1 (kvR_R_isRegister hG) rfl rfl rfl (Nat.le_of_ble_eq_true rfl) (Nat.le_of_ble_eq_true rfl) (jj_bare0 rfl) ?_
  refine rm_isRegister (fun k hk en => ?_) (fun hn => ?_)
  · skip
    subst en
    obtain ⟨g, eg⟩ : ∃ g, F (k + 1) = g := ⟨_, rfl⟩
    obtain ⟨u, vg, pg, de, E, TE, v3, Vg, tg, upg, lowg, Pg, rkg, hg, g1, g2, g3, g4, g5, g6, g7, g8⟩ := hP.fg (by decide) (show k + 1 < 9 by omega) (by omega)
    rw [e0, eg] at hg
    have hm : MX E TE Vg tg 0 (σ.1 k) (σ.2.1 k) 3 (σ.2.2 k) := by
      rcases g8 with e | e
      · omega
      · rw [show k + 1 - 1 = k by omega] at e; exact e
    obtain ⟨hm1, hm2, hm3, hm4⟩ := id hm
    obtain ⟨l1, l2, l3, l4, l5, l6⟩ := hL k hk
    show jj G kR_isCell (d + 1) Q rc rs 4 [some (.ref r), some (.int (nI (k))), some (.int (y)), some (.int (z))] [.int (nI (1))] M
    refine jn_if_eq (pc := 4) (tgt := 47) kR_isCell_d4 (by decide) (by omega) (fun c => by exfalso; omega) (fun _ => ?_)
    refine jj_iload_n (pc := 7) kR_isCell_d7 rfl ?_
    refine jj_if_lt (pc := 8) (tgt := 47) kR_isCell_d8 (by decide) (fun c1 => ?_) (fun c1 => ?_)
    · skip
      refine jn_iconst (pc := 47) 0 kR_isCell_d47 (by decide) ?_
      exact jj_iret (pc := 48) kR_isCell_d48 rfl (by rfl) (k0 (fun ⟨k2, i, j, c2, c3, c4, c5, _⟩ => by have hk2 := nI_inj (by omega) (by omega) c3; subst hk2; rw [c5] at c1; exact nI_pos (by omega) c1))
    · skip
      refine jj_iload_n (pc := 11) kR_isCell_d11 rfl ?_
      refine jj_aload_n (pc := 12) kR_isCell_d12 rfl ?_
      refine jj_getf (pc := 13) kR_isCell_d13 (kfR_store hG) (RPX.rr e0 e9 e10 e11 hP) rfl ?_
      refine jj_iload_n (pc := 16) kR_isCell_d16 rfl ?_
      refine jj_aald (pc := 17) kR_isCell_d17 (kG_t hG rfl) (RPX.ss e11 hP) rfl (by rw [List.length_map, List.length_range]; decide) (by rw [st_at hk, eg]) ?_
      show jj G kR_isCell (d + 1) Q rc rs 18 [some (.ref r), some (.int (nI (k))), some (.int (y)), some (.int (z))] [.ref g, .int (y)] M
      refine jn_iconst (pc := 18) 0 kR_isCell_d18 (by decide) ?_
      refine jj_callV (pc := 19) (b := g) (As := [.int (nI (0))]) kR_isCell_d19 (kvR_RF_rows hG) (kG_cl hG rfl) rfl hg.1.1 rfl rfl rfl (Nat.le_of_ble_eq_true rfl) (Nat.le_of_ble_eq_true rfl) (jj_bare0 rfl) ?_
      refine rf_rows hG hg.1 (by omega) (by omega) ?_
      show jj G kR_isCell (d + 1) Q rc rs 22 [some (.ref r), some (.int (nI (k))), some (.int (y)), some (.int (z))] [.int (Vg.getD 0 0), .int (y)] M
      refine jn_top (.int (nI (σ.1 k))) (by rw [hm2]) ?_
      refine jj_icmp_ge (pc := 22) (tgt := 47) kR_isCell_d22 (by decide) (fun c2 => ?_) (fun c2 => ?_)
      · skip
        refine jn_iconst (pc := 47) 0 kR_isCell_d47 (by decide) ?_
        exact jj_iret (pc := 48) kR_isCell_d48 rfl (by rfl) (k0 (fun ⟨k2, i, j, c3, c4, c5, c6, _⟩ => by have hk2 := nI_inj (by omega) (by omega) c4; subst hk2; rw [c6] at c2; exact nI_ge c5 (by omega) c2))
      · skip
        obtain ⟨i, hi, ei⟩ := nI_small (by omega) c1 c2
        refine jj_iload_n (pc := 25) kR_isCell_d25 rfl ?_
        refine jj_if_lt (pc := 26) (tgt := 47) kR_isCell_d26 (by decide) (fun c3 => ?_) (fun c3 => ?_)
        · skip
          refine jn_iconst (pc := 47) 0 kR_isCell_d47 (by decide) ?_
          exact jj_iret (pc := 48) kR_isCell_d48 rfl (by rfl) (k0 (fun ⟨k2, i, j, c4, c5, c6, c7, c8, c9⟩ => by have hk2 := nI_inj (by omega) (by omega) c5; subst hk2; rw [c9] at c3; exact nI_pos (by omega) c3))
        · skip
          refine jj_iload_n (pc := 29) kR_isCell_d29 rfl ?_
          refine jj_aload_n (pc := 30) kR_isCell_d30 rfl ?_
          refine jj_getf (pc := 31) kR_isCell_d31 (kfR_store hG) (RPX.rr e0 e9 e10 e11 hP) rfl ?_
          refine jj_iload_n (pc := 34) kR_isCell_d34 rfl ?_
          refine jj_aald (pc := 35) kR_isCell_d35 (kG_t hG rfl) (RPX.ss e11 hP) rfl (by rw [List.length_map, List.length_range]; decide) (by rw [st_at hk, eg]) ?_
          show jj G kR_isCell (d + 1) Q rc rs 36 [some (.ref r), some (.int (nI (k))), some (.int (y)), some (.int (z))] [.ref g, .int (z)] M
          refine jn_iconst (pc := 36) 0 kR_isCell_d36 (by decide) ?_
          refine jj_callV (pc := 37) (b := g) (As := [.int (nI (0))]) kR_isCell_d37 (kvR_RF_columns hG) (kG_cl hG rfl) rfl hg.1.1 rfl rfl rfl (Nat.le_of_ble_eq_true rfl) (Nat.le_of_ble_eq_true rfl) (jj_bare0 rfl) ?_
          refine rf_columns hG hg.1 (by omega) (by omega) ?_
          show jj G kR_isCell (d + 1) Q rc rs 40 [some (.ref r), some (.int (nI (k))), some (.int (y)), some (.int (z))] [.int (Vg.getD (0 + 1) 0), .int (z)] M
          refine jn_top (.int (nI (σ.2.1 k))) (by rw [hm3]) ?_
          refine jj_icmp_ge (pc := 40) (tgt := 47) kR_isCell_d40 (by decide) (fun c4 => ?_) (fun c4 => ?_)
          · skip
            refine jn_iconst (pc := 47) 0 kR_isCell_d47 (by decide) ?_
            exact jj_iret (pc := 48) kR_isCell_d48 rfl (by rfl) (k0 (fun ⟨k2, i, j, c5, c6, c7, c8, c9, c10⟩ => by have hk2 := nI_inj (by omega) (by omega) c6; subst hk2; rw [c10] at c4; exact nI_ge c9 (by omega) c4))
          · skip
            obtain ⟨j, hj, ej⟩ := nI_small (by omega) c3 c4
            refine jn_iconst (pc := 43) 1 kR_isCell_d43 (by decide) ?_
            refine jj_goto (pc := 44) (tgt := 48) kR_isCell_d44 (by decide) ?_
            exact jj_iret (pc := 48) kR_isCell_d48 rfl (by rfl) (k1 k i j hk rfl hi ei hj ej)
  · skip
    show jj G kR_isCell (d + 1) Q rc rs 4 [some (.ref r), some (.int (x)), some (.int (y)), some (.int (z))] [.int (nI (0))] M
    refine jn_if_eq (pc := 4) (tgt := 47) kR_isCell_d4 (by decide) (by omega) (fun _ => ?_) (fun c => by exfalso; omega)
    refine jn_iconst (pc := 47) 0 kR_isCell_d47 (by decide) ?_
    exact jj_iret (pc := 48) kR_isCell_d48 rfl (by rfl) (k0 (fun ⟨k, i, j, c1, c2, _⟩ => hn ⟨k, c1, c2⟩))
theorem rm_halfU {k i j : Nat} {lo : Int32} (hG : kG G) (e0 : F 0 = f) (e9 : F 9 = r) (e10 : F 10 = o) (e11 : F 11 = st) (hP : RPX M F code 0 pt zt (SA σ)) (hC : FC M f w vv pv V t up low P rk) (hL : LG σ) (hk : k < 8) (hi : i < σ.1 k) (hj : j < σ.2.1 k) (hlo : lo = 0)
    (K : ∀ (g u vg pg de : Nat) (E : List Int32) (TE : Nat) (v3 : Value) (Vg : List Int32) (tg : Nat) (upg lowg : Int32) (Pg : List Int32) (rkg : Int32) (p : Nat), F (k + 1) = g → FG M f g u vg pg de E TE v3 Vg tg upg lowg Pg rkg → TE ≤ E.length → E.length < 16777216 → E.getD 0 0 = 0 → RI E TE p (σ.2.2 k (i * σ.2.1 k + j)).num → Q (.returned (some (.int (nI p)))) M rc rs) : jj G kR_half (d + 1) Q rc rs 0 (jj_ent [.ref r, .int (nI k), .int (nI i), .int (nI j), .int lo] 6) [] M := by
  obtain ⟨g, eg⟩ : ∃ g, F (k + 1) = g := ⟨_, rfl⟩
  obtain ⟨u, vg, pg, de, E, TE, v3, Vg, tg, upg, lowg, Pg, rkg, hg, g1, g2, g3, g4, g5, g6, g7, g8⟩ := hP.fg (by decide) (show k + 1 < 9 by omega) (by omega)
  rw [e0, eg] at hg
  have hm : MX E TE Vg tg 0 (σ.1 k) (σ.2.1 k) 3 (σ.2.2 k) := by
    rcases g8 with e | e
    · omega
    · rw [show k + 1 - 1 = k by omega] at e; exact e
  obtain ⟨hm1, hm2, hm3, hm4⟩ := id hm
  obtain ⟨l1, l2, l3, l4, l5, l6⟩ := hL k hk
  obtain ⟨cc, hcc⟩ : ∃ cc, σ.2.1 k = cc := ⟨_, rfl⟩
  rw [hcc] at hm1 hm3 hm4 hj l4 K
  obtain ⟨ix, hix⟩ : ∃ ix, i * cc + j = ix := ⟨_, rfl⟩
  have hil : ix < σ.1 k * cc := by rw [← hix]; exact cell_lt hi hj
  obtain ⟨ic, hic⟩ : ∃ ic, i * cc = ic := ⟨_, rfl⟩
  rw [hic] at hix
  have hrc : σ.1 k * cc ≤ 16 * 16 := Nat.mul_le_mul l3 l4
  obtain ⟨p1, p2, a1, a2, a3, -⟩ := hm4 ix hil
  obtain ⟨b1, b2, b3⟩ := id a3
  have lb1 := b1.lt
  have lb2 := b2.lt
  rw [show i * cc + j = ix by omega] at K
  show jj G kR_half (d + 1) Q rc rs 0 [some (.ref r), some (.int (nI (k))), some (.int (nI (i))), some (.int (nI (j))), some (.int (lo)), none] [] M
  refine jj_iload_n (pc := 0) kR_half_d0 rfl ?_
  refine jj_aload_n (pc := 1) kR_half_d1 rfl ?_
  refine jj_getf (pc := 2) kR_half_d2 (kfR_store hG) (RPX.rr e0 e9 e10 e11 hP) rfl ?_
  refine jj_iload_n (pc := 5) kR_half_d5 rfl ?_
  refine jj_aald (pc := 6) kR_half_d6 (kG_t hG rfl) (RPX.ss e11 hP) rfl (by rw [List.length_map, List.length_range]; decide) (by rw [st_at hk, eg]) ?_
  show jj G kR_half (d + 1) Q rc rs 7 [some (.ref r), some (.int (nI (k))), some (.int (nI (i))), some (.int (nI (j))), some (.int (lo)), none] [.ref g, .int (nI (i))] M
  refine jn_iconst (pc := 7) 0 kR_half_d7 (by decide) ?_
  refine jj_callV (pc := 8) (b := g) (As := [.int (nI (0))]) kR_half_d8 (kvR_RF_columns hG) (kG_cl hG rfl) rfl hg.1.1 rfl rfl rfl (Nat.le_of_ble_eq_true rfl) (Nat.le_of_ble_eq_true rfl) (jj_bare0 rfl) ?_
  refine rf_columns hG hg.1 (by omega) (by omega) ?_
  show jj G kR_half (d + 1) Q rc rs 11 [some (.ref r), some (.int (nI (k))), some (.int (nI (i))), some (.int (nI (j))), some (.int (lo)), none] [.int (Vg.getD (0 + 1) 0), .int (nI (i))] M
  refine jn_top (.int (nI (cc))) (by rw [hm3]) ?_
  refine jn_imul (pc := 11) (ic) kR_half_d11 hic ?_
  refine jj_iload_n (pc := 12) kR_half_d12 rfl ?_
  refine jn_iadd (pc := 13) (ix) kR_half_d13 hix ?_
  refine jj_istore (pc := 14) kR_half_d14 (Nat.le_of_ble_eq_true rfl) ?_
  refine jj_iload (pc := 16) kR_half_d16 rfl ?_
  refine jj_if_eq (pc := 18) (tgt := 36) kR_half_d18 (by decide) (fun _ => ?_) (fun c => absurd c (fun h => h hlo))
  refine jj_aload_n (pc := 36) kR_half_d36 rfl ?_
  refine jj_getf (pc := 37) kR_half_d37 (kfR_store hG) (RPX.rr e0 e9 e10 e11 hP) rfl ?_
  refine jj_iload_n (pc := 40) kR_half_d40 rfl ?_
  refine jj_aald (pc := 41) kR_half_d41 (kG_t hG rfl) (RPX.ss e11 hP) rfl (by rw [List.length_map, List.length_range]; decide) (by rw [st_at hk, eg]) ?_
  show jj G kR_half (d + 1) Q rc rs 42 [some (.ref r), some (.int (nI (k))), some (.int (nI (i))), some (.int (nI (j))), some (.int (lo)), some (.int (nI (ix)))] [.ref g] M
  refine jn_iconst (pc := 42) 0 kR_half_d42 (by decide) ?_
  refine jj_iload (pc := 43) kR_half_d43 rfl ?_
  refine jj_callV (pc := 45) (b := g) (As := [.int (nI (0)), .int (nI (ix))]) kR_half_d45 (kvR_RF_upper hG) (kG_cl hG rfl) rfl hg.1.1 rfl rfl rfl (Nat.le_of_ble_eq_true rfl) (Nat.le_of_ble_eq_true rfl) (jj_bare0 rfl) ?_
  refine rf_upper hG hg.1 (by omega) (by omega) ?_
  show jj G kR_half (d + 1) Q rc rs 48 [some (.ref r), some (.int (nI (k))), some (.int (nI (i))), some (.int (nI (j))), some (.int (lo)), some (.int (nI (ix)))] [.int (Vg.getD (0 + 2 + 2 * ix) 0)] M
  refine jn_top (.int (nI (p1))) (by rw [a1]) ?_
  exact jj_iret (pc := 48) kR_half_d48 rfl (by rfl) (K g u vg pg de E TE v3 Vg tg upg lowg Pg rkg p1 eg hg g1 g2 g7 b1)
theorem rm_halfL {k i j : Nat} {lo : Int32} (hG : kG G) (e0 : F 0 = f) (e9 : F 9 = r) (e10 : F 10 = o) (e11 : F 11 = st) (hP : RPX M F code 0 pt zt (SA σ)) (hC : FC M f w vv pv V t up low P rk) (hL : LG σ) (hk : k < 8) (hi : i < σ.1 k) (hj : j < σ.2.1 k) (hlo : lo ≠ 0)
    (K : ∀ (g u vg pg de : Nat) (E : List Int32) (TE : Nat) (v3 : Value) (Vg : List Int32) (tg : Nat) (upg lowg : Int32) (Pg : List Int32) (rkg : Int32) (p : Nat), F (k + 1) = g → FG M f g u vg pg de E TE v3 Vg tg upg lowg Pg rkg → TE ≤ E.length → E.length < 16777216 → E.getD 0 0 = 0 → RI E TE p ((σ.2.2 k (i * σ.2.1 k + j)).den : Int) → Q (.returned (some (.int (nI p)))) M rc rs) : jj G kR_half (d + 1) Q rc rs 0 (jj_ent [.ref r, .int (nI k), .int (nI i), .int (nI j), .int lo] 6) [] M := by
  obtain ⟨g, eg⟩ : ∃ g, F (k + 1) = g := ⟨_, rfl⟩
  obtain ⟨u, vg, pg, de, E, TE, v3, Vg, tg, upg, lowg, Pg, rkg, hg, g1, g2, g3, g4, g5, g6, g7, g8⟩ := hP.fg (by decide) (show k + 1 < 9 by omega) (by omega)
  rw [e0, eg] at hg
  have hm : MX E TE Vg tg 0 (σ.1 k) (σ.2.1 k) 3 (σ.2.2 k) := by
    rcases g8 with e | e
    · omega
    · rw [show k + 1 - 1 = k by omega] at e; exact e
  obtain ⟨hm1, hm2, hm3, hm4⟩ := id hm
  obtain ⟨l1, l2, l3, l4, l5, l6⟩ := hL k hk
  obtain ⟨cc, hcc⟩ : ∃ cc, σ.2.1 k = cc := ⟨_, rfl⟩
  rw [hcc] at hm1 hm3 hm4 hj l4 K
  obtain ⟨ix, hix⟩ : ∃ ix, i * cc + j = ix := ⟨_, rfl⟩
  have hil : ix < σ.1 k * cc := by rw [← hix]; exact cell_lt hi hj
  obtain ⟨ic, hic⟩ : ∃ ic, i * cc = ic := ⟨_, rfl⟩
  rw [hic] at hix
  have hrc : σ.1 k * cc ≤ 16 * 16 := Nat.mul_le_mul l3 l4
  obtain ⟨p1, p2, a1, a2, a3, -⟩ := hm4 ix hil
  obtain ⟨b1, b2, b3⟩ := id a3
  have lb1 := b1.lt
  have lb2 := b2.lt
  rw [show i * cc + j = ix by omega] at K
  show jj G kR_half (d + 1) Q rc rs 0 [some (.ref r), some (.int (nI (k))), some (.int (nI (i))), some (.int (nI (j))), some (.int (lo)), none] [] M
  refine jj_iload_n (pc := 0) kR_half_d0 rfl ?_
  refine jj_aload_n (pc := 1) kR_half_d1 rfl ?_
  refine jj_getf (pc := 2) kR_half_d2 (kfR_store hG) (RPX.rr e0 e9 e10 e11 hP) rfl ?_
  refine jj_iload_n (pc := 5) kR_half_d5 rfl ?_
  refine jj_aald (pc := 6) kR_half_d6 (kG_t hG rfl) (RPX.ss e11 hP) rfl (by rw [List.length_map, List.length_range]; decide) (by rw [st_at hk, eg]) ?_
  show jj G kR_half (d + 1) Q rc rs 7 [some (.ref r), some (.int (nI (k))), some (.int (nI (i))), some (.int (nI (j))), some (.int (lo)), none] [.ref g, .int (nI (i))] M
  refine jn_iconst (pc := 7) 0 kR_half_d7 (by decide) ?_
  refine jj_callV (pc := 8) (b := g) (As := [.int (nI (0))]) kR_half_d8 (kvR_RF_columns hG) (kG_cl hG rfl) rfl hg.1.1 rfl rfl rfl (Nat.le_of_ble_eq_true rfl) (Nat.le_of_ble_eq_true rfl) (jj_bare0 rfl) ?_
  refine rf_columns hG hg.1 (by omega) (by omega) ?_
  show jj G kR_half (d + 1) Q rc rs 11 [some (.ref r), some (.int (nI (k))), some (.int (nI (i))), some (.int (nI (j))), some (.int (lo)), none] [.int (Vg.getD (0 + 1) 0), .int (nI (i))] M
  refine jn_top (.int (nI (cc))) (by rw [hm3]) ?_
  refine jn_imul (pc := 11) (ic) kR_half_d11 hic ?_
  refine jj_iload_n (pc := 12) kR_half_d12 rfl ?_
  refine jn_iadd (pc := 13) (ix) kR_half_d13 hix ?_
  refine jj_istore (pc := 14) kR_half_d14 (Nat.le_of_ble_eq_true rfl) ?_
  refine jj_iload (pc := 16) kR_half_d16 rfl ?_
  refine jj_if_eq (pc := 18) (tgt := 36) kR_half_d18 (by decide) (fun c => absurd c (hlo)) (fun _ => ?_)
  refine jj_aload_n (pc := 21) kR_half_d21 rfl ?_
  refine jj_getf (pc := 22) kR_half_d22 (kfR_store hG) (RPX.rr e0 e9 e10 e11 hP) rfl ?_
  refine jj_iload_n (pc := 25) kR_half_d25 rfl ?_
  refine jj_aald (pc := 26) kR_half_d26 (kG_t hG rfl) (RPX.ss e11 hP) rfl (by rw [List.length_map, List.length_range]; decide) (by rw [st_at hk, eg]) ?_
  show jj G kR_half (d + 1) Q rc rs 27 [some (.ref r), some (.int (nI (k))), some (.int (nI (i))), some (.int (nI (j))), some (.int (lo)), some (.int (nI (ix)))] [.ref g] M
  refine jn_iconst (pc := 27) 0 kR_half_d27 (by decide) ?_
  refine jj_iload (pc := 28) kR_half_d28 rfl ?_
  refine jj_callV (pc := 30) (b := g) (As := [.int (nI (0)), .int (nI (ix))]) kR_half_d30 (kvR_RF_lower hG) (kG_cl hG rfl) rfl hg.1.1 rfl rfl rfl (Nat.le_of_ble_eq_true rfl) (Nat.le_of_ble_eq_true rfl) (jj_bare0 rfl) ?_
  refine rf_lower hG hg.1 (by omega) (by omega) ?_
  show jj G kR_half (d + 1) Q rc rs 33 [some (.ref r), some (.int (nI (k))), some (.int (nI (i))), some (.int (nI (j))), some (.int (lo)), some (.int (nI (ix)))] [.int (Vg.getD (0 + 3 + 2 * ix) 0)] M
  refine jn_top (.int (nI (p2))) (by rw [a2]) ?_
  refine jj_goto (pc := 33) (tgt := 48) kR_half_d33 (by decide) ?_
  exact jj_iret (pc := 48) kR_half_d48 rfl (by rfl) (K g u vg pg de E TE v3 Vg tg upg lowg Pg rkg p2 eg hg g1 g2 g7 b2)
end RM8
