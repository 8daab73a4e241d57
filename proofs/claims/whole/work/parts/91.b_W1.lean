/-! ===== Whole: needRoom, putZero, putOne, trim, copy, negate, isOne, limbAt (printed by wip/gen/rW1.py) ===== -/
theorem LW.nil (D : List Int32) : LW D 0 0 := ⟨Nat.zero_le _, rfl, fun h => absurd h (Nat.lt_irrefl 0)⟩
theorem sg_trim {D : List Int32} {n : Nat} {z : Int} {s : Int32} (hn : n ≤ D.length) (h : lnat D n = z.natAbs) (hs : z ≠ 0 → s = sg z) : (if ltrim D n = 0 then (0 : Int32) else s) = sg z := by
  have h1 := (ltrim_LW hn h).zero
  by_cases c : ltrim D n = 0
  · rw [if_pos c, h1.mp c]; rfl
  · rw [if_neg c]; exact hs (fun e => c (h1.mpr e))
theorem sg_nonneg {z : Int} (h : 0 ≤ z) : sg z = 0 := if_neg (by omega)
theorem sg_eq1 {z : Int} : sg z = 1 ↔ z < 0 := by
  unfold sg
  by_cases c : z < 0
  · simp [c]
  · simp [c]
theorem sg_eq0 {z : Int} : sg z = 0 ↔ 0 ≤ z := by
  unfold sg
  by_cases c : z < 0
  · simp [c]
  · simp [c]; omega
section W1
variable {G : jg} {d : Nat} {Q : jq} {rc rs : Nat} {M : mheap} {wa la cap : Nat → Nat} {N : Nat} {V : Nat → Int}
theorem w_needRoom {a l n : Nat} {D : List Int32} {v1 v2 : Value} (hG : kG G) (hM : M a = some (.inl nW, [.ref l, v1, v2])) (hl : M l = some (.inr 0, D.map .int)) (hD : D.length < 2 ^ 31) (hn : n ≤ D.length) (k : Q (.returned none) M rc rs) : jj G kW_needRoom d Q rc rs 0 (jj_ent [.ref a, .int (nI n)] 2) [] M := by
  show jj G kW_needRoom (d) Q rc rs 0 [some (.ref a), some (.int (nI (n)))] [] M
  refine jj_iload_n (pc := 0) kW_needRoom_d0 rfl ?_
  refine jj_aload_n (pc := 1) kW_needRoom_d1 rfl ?_
  refine jj_getf (pc := 2) kW_needRoom_d2 (kfW_limbs hG) hM rfl ?_
  refine jn_alen (pc := 5) kW_needRoom_d5 hl ?_
  refine jn_icmp_le (pc := 6) (tgt := 19) kW_needRoom_d6 (by decide) (by omega) (by omega) (fun _ => ?_) (fun c => by exfalso; omega)
  exact jj_vret (pc := 19) kW_needRoom_d19 rfl k
theorem w_trim {a l : Nat} {D : List Int32} {s : Int32} (hG : kG G) (hl : D.length < 2 ^ 31) : ∀ (n : Nat) (M : mheap), M a = some (.inl nW, [.ref l, .int (nI n), .int s]) → M l = some (.inr 0, D.map .int) → n ≤ D.length → (∀ M', M' a = some (.inl nW, [.ref l, .int (nI (ltrim D n)), .int (if ltrim D n = 0 then 0 else s)]) → (∀ q, q ≠ a → M' q = M q) → Q (.returned none) M' rc rs) → jj G kW_trim d Q rc rs 0 (jj_ent [.ref a] 1) [] M := by
  intro n
  induction n with
  | zero =>
    intro M hM hD hn k
    show jj G kW_trim (d) Q rc rs 0 [some (.ref a)] [] M
    refine jj_aload_n (pc := 0) kW_trim_d0 rfl ?_
    refine jj_getf (pc := 1) kW_trim_d1 (kfW_count hG) hM rfl ?_
    refine jn_if_le (pc := 4) (tgt := 34) kW_trim_d4 (by decide) (by omega) (fun _ => ?_) (fun c => by exfalso; omega)
    refine jj_aload_n (pc := 34) kW_trim_d34 rfl ?_
    refine jj_getf (pc := 35) kW_trim_d35 (kfW_count hG) hM rfl ?_
    refine jn_if_ne (pc := 38) (tgt := 46) kW_trim_d38 (by decide) (by omega) (fun c => by exfalso; omega) (fun _ => ?_)
    refine jj_aload_n (pc := 41) kW_trim_d41 rfl ?_
    refine jn_iconst (pc := 42) 0 kW_trim_d42 (by decide) ?_
    refine jj_putf (pc := 43) kW_trim_d43 (kpW_below hG) hM (by rfl) rfl ?_
    refine jn_gen (fun M101 hM102 => ?_)
    have h103 : M101 l = some (.inr 0, (D).map .int) := by rw [hM102, jj_up_ne _ _ (fun e => by have q1 := hD; rw [e, hM] at q1; cases q1)]; exact hD
    have h104 : M101 a = some (.inl nW, [.ref l, .int (nI (0)), .int (nI (0))]) := by rw [hM102]; exact jj_up_at _ _ _
    exact jj_vret (pc := 46) kW_trim_d46 rfl (k M101 (by rw [hM102, jj_up_at]; rfl) (fun q hq => by rw [hM102, jj_up_ne _ _ hq]))
  | succ n ih =>
    intro M hM hD hn k
    have e9 : ltrim D (n + 1) = if D.getD n 0 = 0 then ltrim D n else n + 1 := rfl
    show jj G kW_trim (d) Q rc rs 0 [some (.ref a)] [] M
    refine jj_aload_n (pc := 0) kW_trim_d0 rfl ?_
    refine jj_getf (pc := 1) kW_trim_d1 (kfW_count hG) hM rfl ?_
    refine jn_if_le (pc := 4) (tgt := 34) kW_trim_d4 (by decide) (by omega) (fun c => by exfalso; omega) (fun _ => ?_)
    refine jj_aload_n (pc := 7) kW_trim_d7 rfl ?_
    refine jj_getf (pc := 8) kW_trim_d8 (kfW_limbs hG) hM rfl ?_
    refine jj_aload_n (pc := 11) kW_trim_d11 rfl ?_
    refine jj_getf (pc := 12) kW_trim_d12 (kfW_count hG) hM rfl ?_
    refine jn_iconst (pc := 15) 1 kW_trim_d15 (by decide) ?_
    refine jn_isub (pc := 16) (n) kW_trim_d16 (by omega) ?_
    refine jn_iald (pc := 17) (v := (D.getD n 0)) kW_trim_d17 (kG_t hG rfl) hD hl (by omega) (rfl) ?_
    refine jj_if_ne (pc := 18) (tgt := 34) kW_trim_d18 (by decide) (fun c0 => ?_) (fun c0 => ?_)
    · skip
      rw [if_neg c0] at e9
      refine jj_aload_n (pc := 34) kW_trim_d34 rfl ?_
      refine jj_getf (pc := 35) kW_trim_d35 (kfW_count hG) hM rfl ?_
      refine jn_if_ne (pc := 38) (tgt := 46) kW_trim_d38 (by decide) (by omega) (fun _ => ?_) (fun c => by exfalso; omega)
      exact jj_vret (pc := 46) kW_trim_d46 rfl (k M (by rw [e9, if_neg (by omega)]; exact hM) (fun _ _ => rfl))
    · skip
      rw [if_pos c0] at e9
      refine jj_aload_n (pc := 21) kW_trim_d21 rfl ?_
      refine jj_dup (pc := 22) kW_trim_d22 rfl ?_
      refine jj_getf (pc := 23) kW_trim_d23 (kfW_count hG) hM rfl ?_
      refine jn_iconst (pc := 26) 1 kW_trim_d26 (by decide) ?_
      refine jn_isub (pc := 27) (n) kW_trim_d27 (by omega) ?_
      refine jj_putf (pc := 28) kW_trim_d28 (kpW_count hG) hM (by rfl) rfl ?_
      refine jn_gen (fun M105 hM106 => ?_)
      have h107 : M105 l = some (.inr 0, (D).map .int) := by rw [hM106, jj_up_ne _ _ (fun e => by have q1 := hD; rw [e, hM] at q1; cases q1)]; exact hD
      have h108 : M105 a = some (.inl nW, [.ref l, .int (nI (n)), .int (s)]) := by rw [hM106]; exact jj_up_at _ _ _
      refine jj_goto (pc := 31) (tgt := 0) kW_trim_d31 (by decide) ?_
      show jj G kW_trim (d) Q rc rs 0 [some (.ref a)] [] M105
      exact ih M105 h108 h107 (by omega) (fun M' h1 h2 => k M' (by rw [e9]; exact h1) (fun q hq => by rw [h2 q hq, hM106, jj_up_ne _ _ hq]))
theorem w_putZero {t : Nat} (hG : kG G) (hI : CI wa la cap N) (hc : CW M wa la cap N V) (ht : t < N) (k : ∀ M', CW M' wa la cap N (vup V t 0) → WT M M' wa la t → Q (.returned none) M' rc rs) : jj G kW_putZero d Q rc rs 0 (jj_ent [.ref (wa t)] 1) [] M := by
  obtain ⟨D, c, hD1, hD2, hD3, hD4⟩ := hc t ht
  obtain ⟨at_, eat_⟩ : ∃ at_, wa t = at_ := ⟨_, rfl⟩
  obtain ⟨lt, elt⟩ : ∃ lt, la t = lt := ⟨_, rfl⟩
  have hcapt := hI.2.2 t ht
  have hleD := hD4.1
  rw [eat_, elt] at hD1
  rw [elt] at hD2
  rw [eat_]
  show jj G kW_putZero (d) Q rc rs 0 [some (.ref at_)] [] M
  refine jj_aload_n (pc := 0) kW_putZero_d0 rfl ?_
  refine jn_iconst (pc := 1) 0 kW_putZero_d1 (by decide) ?_
  refine jj_putf (pc := 2) kW_putZero_d2 (kpW_count hG) hD1 (by rfl) rfl ?_
  refine jn_gen (fun M109 hM110 => ?_)
  have h111 : M109 lt = some (.inr 0, (D).map .int) := by rw [hM110, jj_up_ne _ _ (fun e => by have q1 := hD2; rw [e, hD1] at q1; cases q1)]; exact hD2
  have h112 : M109 at_ = some (.inl nW, [.ref lt, .int (nI (0)), .int (sg (V t))]) := by rw [hM110]; exact jj_up_at _ _ _
  refine jj_aload_n (pc := 5) kW_putZero_d5 rfl ?_
  refine jn_iconst (pc := 6) 0 kW_putZero_d6 (by decide) ?_
  refine jj_putf (pc := 7) kW_putZero_d7 (kpW_below hG) h112 (by rfl) rfl ?_
  refine jn_gen (fun M113 hM114 => ?_)
  have h115 : M113 lt = some (.inr 0, (D).map .int) := by rw [hM114, jj_up_ne _ _ (fun e => by have q1 := h111; rw [e, h112] at q1; cases q1)]; exact h111
  have h116 : M113 at_ = some (.inl nW, [.ref lt, .int (nI (0)), .int (nI (0))]) := by rw [hM114]; exact jj_up_at _ _ _
  have hWT : WT M M113 wa la t := fun q h1 h2 => by rw [hM114, jj_up_ne _ _ (by rw [← eat_]; exact h1), hM110, jj_up_ne _ _ (by rw [← eat_]; exact h1)]
  exact jj_vret (pc := 10) kW_putZero_d10 rfl (k M113 (hc.put hI ht (by rw [eat_, elt]; exact ⟨D, 0, h116, h115, hD3, LW.nil D⟩) hWT) hWT)
theorem w_putOne {t : Nat} (hG : kG G) (hI : CI wa la cap N) (hc : CW M wa la cap N V) (ht : t < N) (h1 : 1 ≤ cap t) (k : ∀ M', CW M' wa la cap N (vup V t 1) → WT M M' wa la t → Q (.returned none) M' rc rs) : jj G kW_putOne d Q rc rs 0 (jj_ent [.ref (wa t)] 1) [] M := by
  obtain ⟨D, c, hD1, hD2, hD3, hD4⟩ := hc t ht
  obtain ⟨at_, eat_⟩ : ∃ at_, wa t = at_ := ⟨_, rfl⟩
  obtain ⟨lt, elt⟩ : ∃ lt, la t = lt := ⟨_, rfl⟩
  have hcapt := hI.2.2 t ht
  have hleD := hD4.1
  rw [eat_, elt] at hD1
  rw [elt] at hD2
  rw [eat_]
  show jj G kW_putOne (d) Q rc rs 0 [some (.ref at_)] [] M
  refine jj_aload_n (pc := 0) kW_putOne_d0 rfl ?_
  refine jj_getf (pc := 1) kW_putOne_d1 (kfW_limbs hG) hD1 rfl ?_
  refine jn_iconst (pc := 4) 0 kW_putOne_d4 (by decide) ?_
  refine jn_iconst (pc := 5) 1 kW_putOne_d5 (by decide) ?_
  refine jn_iast (pc := 6) kW_putOne_d6 (kG_t hG rfl) hD2 (by omega) (by omega) ?_
  refine jn_gen (fun M117 hM118 => ?_)
  have h119 : M117 at_ = some (.inl nW, [.ref lt, .int (nI (c)), .int (sg (V t))]) := by rw [hM118, jj_up_ne _ _ (fun e => by have q1 := hD1; rw [e, hD2] at q1; cases q1)]; exact hD1
  have h120 : M117 lt = some (.inr 0, ((D).set (0) ((nI (1)))).map .int) := by rw [hM118]; exact jj_up_at _ _ _
  refine jj_aload_n (pc := 7) kW_putOne_d7 rfl ?_
  refine jn_iconst (pc := 8) 1 kW_putOne_d8 (by decide) ?_
  refine jj_putf (pc := 9) kW_putOne_d9 (kpW_count hG) h119 (by rfl) rfl ?_
  refine jn_gen (fun M121 hM122 => ?_)
  have h123 : M121 lt = some (.inr 0, ((D).set (0) ((nI (1)))).map .int) := by rw [hM122, jj_up_ne _ _ (fun e => by have q1 := h120; rw [e, h119] at q1; cases q1)]; exact h120
  have h124 : M121 at_ = some (.inl nW, [.ref lt, .int (nI (1)), .int (sg (V t))]) := by rw [hM122]; exact jj_up_at _ _ _
  refine jj_aload_n (pc := 12) kW_putOne_d12 rfl ?_
  refine jn_iconst (pc := 13) 0 kW_putOne_d13 (by decide) ?_
  refine jj_putf (pc := 14) kW_putOne_d14 (kpW_below hG) h124 (by rfl) rfl ?_
  refine jn_gen (fun M125 hM126 => ?_)
  have h127 : M125 lt = some (.inr 0, ((D).set (0) ((nI (1)))).map .int) := by rw [hM126, jj_up_ne _ _ (fun e => by have q1 := h123; rw [e, h124] at q1; cases q1)]; exact h123
  have h128 : M125 at_ = some (.inl nW, [.ref lt, .int (nI (1)), .int (nI (0))]) := by rw [hM126]; exact jj_up_at _ _ _
  have hWT : WT M M125 wa la t := fun q h1 h2 => by
    rw [eat_] at h1
    rw [elt] at h2
    rw [hM126, jj_up_ne _ _ h1, hM122, jj_up_ne _ _ h1, hM118, jj_up_ne _ _ h2]
  have hLW : LW (D.set 0 (nI 1)) 1 1 := ⟨by rw [List.length_set]; omega, by rw [show (1 : Nat) = 0 + 1 from rfl, lnat_step (by omega)]; rfl, fun _ => by rw [show 1 - 1 = 0 from rfl, gd_set_eq (by omega)]; decide⟩
  exact jj_vret (pc := 17) kW_putOne_d17 rfl (k M125 (hc.put hI ht (by rw [eat_, elt]; exact ⟨_, 1, h128, h127, by rw [List.length_set]; exact hD3, hLW⟩) hWT) hWT)
theorem w_negate {t : Nat} (hG : kG G) (hI : CI wa la cap N) (hc : CW M wa la cap N V) (ht : t < N) (k : ∀ M', CW M' wa la cap N (vup V t (-V t)) → WT M M' wa la t → Q (.returned none) M' rc rs) : jj G kW_negate d Q rc rs 0 (jj_ent [.ref (wa t)] 1) [] M := by
  obtain ⟨D, c, hD1, hD2, hD3, hD4⟩ := hc t ht
  obtain ⟨at_, eat_⟩ : ∃ at_, wa t = at_ := ⟨_, rfl⟩
  obtain ⟨lt, elt⟩ : ∃ lt, la t = lt := ⟨_, rfl⟩
  have hcapt := hI.2.2 t ht
  have hleD := hD4.1
  rw [eat_, elt] at hD1
  rw [elt] at hD2
  rw [eat_]
  have hz0 := hD4.zero
  show jj G kW_negate (d) Q rc rs 0 [some (.ref at_)] [] M
  refine jj_aload_n (pc := 0) kW_negate_d0 rfl ?_
  refine jj_aload_n (pc := 1) kW_negate_d1 rfl ?_
  refine jj_getf (pc := 2) kW_negate_d2 (kfW_count hG) hD1 rfl ?_
  refine jn_if_le (pc := 5) (tgt := 19) kW_negate_d5 (by decide) (by omega) (fun c0 => ?_) (fun c0 => ?_)
  · skip
    have hv0 : V t = 0 := hz0.mp (by omega)
    refine jn_iconst (pc := 19) 0 kW_negate_d19 (by decide) ?_
    have hsv : nI 0 = sg (-V t) := by
      unfold sg
      rw [if_neg (by omega)]; rfl
    refine jn_top (.int (sg (-V t))) (by rw [hsv]) ?_
    refine jj_putf (pc := 20) kW_negate_d20 (kpW_below hG) hD1 (sg_narrow _) (sg_fits _) ?_
    refine jn_gen (fun M129 hM130 => ?_)
    have h131 : M129 lt = some (.inr 0, (D).map .int) := by rw [hM130, jj_up_ne _ _ (fun e => by have q1 := hD2; rw [e, hD1] at q1; cases q1)]; exact hD2
    have h132 : M129 at_ = some (.inl nW, [.ref lt, .int (nI (c)), .int (sg (-V t))]) := by rw [hM130]; exact jj_up_at _ _ _
    have hWT : WT M M129 wa la t := fun q h1 h2 => by rw [hM130, jj_up_ne _ _ (by rw [← eat_]; exact h1)]
    exact jj_vret (pc := 23) kW_negate_d23 rfl (k M129 (hc.put hI ht (by rw [eat_, elt]; exact ⟨D, c, h132, h131, hD3, hD4.1, by rw [Int.natAbs_neg]; exact hD4.2.1, hD4.2.2⟩) hWT) hWT)
  · skip
    have hv0 : V t ≠ 0 := fun e => by have := hz0.mpr e; omega
    refine jj_aload_n (pc := 8) kW_negate_d8 rfl ?_
    refine jj_getf (pc := 9) kW_negate_d9 (kfW_below hG) hD1 rfl ?_
    refine jj_if_ne (pc := 12) (tgt := 19) kW_negate_d12 (by decide) (fun c1 => ?_) (fun c1 => ?_)
    · skip
      have hs1 : V t < 0 := by
        rcases Decidable.em (V t < 0) with g | g
        · exact g
        · exact absurd (sg_eq0.mpr (by omega)) c1
      refine jn_iconst (pc := 19) 0 kW_negate_d19 (by decide) ?_
      have hsv : nI 0 = sg (-V t) := by
        unfold sg
        rw [if_neg (by omega)]; rfl
      refine jn_top (.int (sg (-V t))) (by rw [hsv]) ?_
      refine jj_putf (pc := 20) kW_negate_d20 (kpW_below hG) hD1 (sg_narrow _) (sg_fits _) ?_
      refine jn_gen (fun M133 hM134 => ?_)
      have h135 : M133 lt = some (.inr 0, (D).map .int) := by rw [hM134, jj_up_ne _ _ (fun e => by have q1 := hD2; rw [e, hD1] at q1; cases q1)]; exact hD2
      have h136 : M133 at_ = some (.inl nW, [.ref lt, .int (nI (c)), .int (sg (-V t))]) := by rw [hM134]; exact jj_up_at _ _ _
      have hWT : WT M M133 wa la t := fun q h1 h2 => by rw [hM134, jj_up_ne _ _ (by rw [← eat_]; exact h1)]
      exact jj_vret (pc := 23) kW_negate_d23 rfl (k M133 (hc.put hI ht (by rw [eat_, elt]; exact ⟨D, c, h136, h135, hD3, hD4.1, by rw [Int.natAbs_neg]; exact hD4.2.1, hD4.2.2⟩) hWT) hWT)
    · skip
      have hs1 : 0 < V t := by have := sg_eq0.mp c1; omega
      refine jn_iconst (pc := 15) 1 kW_negate_d15 (by decide) ?_
      refine jj_goto (pc := 16) (tgt := 20) kW_negate_d16 (by decide) ?_
      have hsv : nI 1 = sg (-V t) := by
        unfold sg
        rw [if_pos (by omega)]; rfl
      refine jn_top (.int (sg (-V t))) (by rw [hsv]) ?_
      refine jj_putf (pc := 20) kW_negate_d20 (kpW_below hG) hD1 (sg_narrow _) (sg_fits _) ?_
      refine jn_gen (fun M137 hM138 => ?_)
      have h139 : M137 lt = some (.inr 0, (D).map .int) := by rw [hM138, jj_up_ne _ _ (fun e => by have q1 := hD2; rw [e, hD1] at q1; cases q1)]; exact hD2
      have h140 : M137 at_ = some (.inl nW, [.ref lt, .int (nI (c)), .int (sg (-V t))]) := by rw [hM138]; exact jj_up_at _ _ _
      have hWT : WT M M137 wa la t := fun q h1 h2 => by rw [hM138, jj_up_ne _ _ (by rw [← eat_]; exact h1)]
      exact jj_vret (pc := 23) kW_negate_d23 rfl (k M137 (hc.put hI ht (by rw [eat_, elt]; exact ⟨D, c, h140, h139, hD3, hD4.1, by rw [Int.natAbs_neg]; exact hD4.2.1, hD4.2.2⟩) hWT) hWT)
theorem w_isOne {t : Nat} (hG : kG G) (hI : CI wa la cap N) (hc : CW M wa la cap N V) (ht : t < N) (k1 : V t = 1 → Q (.returned (some (.int (nI 1)))) M rc rs) (k0 : V t ≠ 1 → Q (.returned (some (.int (nI 0)))) M rc rs) : jj G kW_isOne d Q rc rs 0 (jj_ent [.ref (wa t)] 1) [] M := by
  obtain ⟨D, c, hD1, hD2, hD3, hD4⟩ := hc t ht
  obtain ⟨at_, eat_⟩ : ∃ at_, wa t = at_ := ⟨_, rfl⟩
  obtain ⟨lt, elt⟩ : ∃ lt, la t = lt := ⟨_, rfl⟩
  have hcapt := hI.2.2 t ht
  have hleD := hD4.1
  rw [eat_, elt] at hD1
  rw [elt] at hD2
  rw [eat_]
  have hz0 := hD4.zero
  have hn1 := hD4.2.1
  show jj G kW_isOne (d) Q rc rs 0 [some (.ref at_)] [] M
  refine jj_aload_n (pc := 0) kW_isOne_d0 rfl ?_
  refine jj_getf (pc := 1) kW_isOne_d1 (kfW_count hG) hD1 rfl ?_
  refine jn_iconst (pc := 4) 1 kW_isOne_d4 (by decide) ?_
  refine jn_icmp_ne (pc := 5) (tgt := 29) kW_isOne_d5 (by decide) (by omega) (by omega) (fun c0 => ?_) (fun c0 => ?_)
  · skip
    refine jn_iconst (pc := 29) 0 kW_isOne_d29 (by decide) ?_
    exact jj_iret (pc := 30) kW_isOne_d30 rfl (by rfl) (k0 (fun e => by have h9 := hD4.bound (L := 1) (by rw [e]; decide); have := hz0.mp; omega))
  · skip
    subst c0
    have hl1 : lnat D 1 = lu (D.getD 0 0) := by show 0 + lu (D.getD 0 0) * BB ^ 0 = _; rw [Nat.pow_zero, Nat.mul_one, Nat.zero_add]
    refine jj_aload_n (pc := 8) kW_isOne_d8 rfl ?_
    refine jj_getf (pc := 9) kW_isOne_d9 (kfW_limbs hG) hD1 rfl ?_
    refine jn_iconst (pc := 12) 0 kW_isOne_d12 (by decide) ?_
    refine jn_iald (pc := 13) (v := ((D).getD (0) 0)) kW_isOne_d13 (kG_t hG rfl) hD2 (by omega) (by omega) (rfl) ?_
    refine jn_iconst (pc := 14) 1 kW_isOne_d14 (by decide) ?_
    refine jj_icmp_ne (pc := 15) (tgt := 29) kW_isOne_d15 (by decide) (fun c1 => ?_) (fun c1 => ?_)
    · skip
      refine jn_iconst (pc := 29) 0 kW_isOne_d29 (by decide) ?_
      exact jj_iret (pc := 30) kW_isOne_d30 rfl (by rfl) (k0 (fun e => c1 (lu_inj (by rw [← hl1, hn1, e]; rfl))))
    · skip
      have hab : (V t).natAbs = 1 := by rw [← hn1, hl1, c1]; rfl
      refine jj_aload_n (pc := 18) kW_isOne_d18 rfl ?_
      refine jj_getf (pc := 19) kW_isOne_d19 (kfW_below hG) hD1 rfl ?_
      refine jj_if_ne (pc := 22) (tgt := 29) kW_isOne_d22 (by decide) (fun c2 => ?_) (fun c2 => ?_)
      · skip
        refine jn_iconst (pc := 29) 0 kW_isOne_d29 (by decide) ?_
        exact jj_iret (pc := 30) kW_isOne_d30 rfl (by rfl) (k0 (fun e => c2 (sg_eq0.mpr (by omega))))
      · skip
        have hs1 := sg_eq0.mp c2
        refine jn_iconst (pc := 25) 1 kW_isOne_d25 (by decide) ?_
        refine jj_goto (pc := 26) (tgt := 30) kW_isOne_d26 (by decide) ?_
        exact jj_iret (pc := 30) kW_isOne_d30 rfl (by rfl) (k1 (by omega))
theorem lnat_dig {D : List Int32} : ∀ {n j : Nat}, j < n → lu (D.getD j 0) = lnat D n / BB ^ j % BB
  | 0, j, h => absurd h (Nat.not_lt_zero _)
  | n + 1, j, hj => by
    have h1 := lnat_lt D n
    have h2 := lu_lt (D.getD n 0)
    show _ = (lnat D n + lu (D.getD n 0) * BB ^ n) / BB ^ j % BB
    by_cases c : j = n
    · subst c
      rw [Nat.add_mul_div_right _ _ (Nat.pow_pos (by decide)), Nat.div_eq_of_lt h1, Nat.zero_add, Nat.mod_eq_of_lt h2]
    · have hjn : j < n := by omega
      rw [lnat_dig hjn]
      have e : BB ^ n = BB ^ (n - j - 1) * BB * BB ^ j := by rw [← Nat.pow_succ, ← Nat.pow_add, show n - j - 1 + 1 + j = n by omega]
      rw [e, ← Nat.mul_assoc, Nat.add_mul_div_right _ _ (Nat.pow_pos (by decide)), ← Nat.mul_assoc, Nat.add_mul_mod_self_right]
theorem w_limbAt {t n : Nat} (hG : kG G) (hI : CI wa la cap N) (hc : CW M wa la cap N V) (ht : t < N) (hn : n < 2 ^ 31) (k : Q (.returned (some (.int (nI ((V t).natAbs / BB ^ n))))) M rc rs) : jj G kW_limbAt d Q rc rs 0 (jj_ent [.ref (wa t), .int (nI n)] 2) [] M := by
  obtain ⟨D, c, hD1, hD2, hD3, hD4⟩ := hc t ht
  obtain ⟨at_, eat_⟩ : ∃ at_, wa t = at_ := ⟨_, rfl⟩
  obtain ⟨lt, elt⟩ : ∃ lt, la t = lt := ⟨_, rfl⟩
  have hcapt := hI.2.2 t ht
  have hleD := hD4.1
  rw [eat_, elt] at hD1
  rw [elt] at hD2
  rw [eat_]
  have hn1 := hD4.2.1
  show jj G kW_limbAt (d) Q rc rs 0 [some (.ref at_), some (.int (nI (n)))] [] M
  refine jj_iload_n (pc := 0) kW_limbAt_d0 rfl ?_
  refine jj_aload_n (pc := 1) kW_limbAt_d1 rfl ?_
  refine jj_getf (pc := 2) kW_limbAt_d2 (kfW_count hG) hD1 rfl ?_
  refine jn_icmp_ge (pc := 5) (tgt := 17) kW_limbAt_d5 (by decide) (by omega) (by omega) (fun c0 => ?_) (fun c0 => ?_)
  · skip
    refine jn_iconst (pc := 17) 0 kW_limbAt_d17 (by decide) ?_
    exact jj_iret (pc := 18) kW_limbAt_d18 rfl (by rfl) (by rw [Nat.div_eq_of_lt (Nat.lt_of_lt_of_le hD4.lt (Nat.pow_le_pow_right (by decide) (by omega)))] at k; exact k)
  · skip
    have hd := lnat_dig (D := D) c0
    rw [hn1] at hd
    refine jj_aload_n (pc := 8) kW_limbAt_d8 rfl ?_
    refine jj_getf (pc := 9) kW_limbAt_d9 (kfW_limbs hG) hD1 rfl ?_
    refine jj_iload_n (pc := 12) kW_limbAt_d12 rfl ?_
    refine jn_iald (pc := 13) (v := ((D).getD (n) 0)) kW_limbAt_d13 (kG_t hG rfl) hD2 (by omega) (by omega) (rfl) ?_
    refine jj_goto (pc := 14) (tgt := 18) kW_limbAt_d14 (by decide) ?_
    refine jn_top (.int (nI ((V t).natAbs / BB ^ n))) (by rw [← nI_mod, ← hd, nI_lu]) ?_
    exact jj_iret (pc := 18) kW_limbAt_d18 rfl (by rfl) k
end W1
