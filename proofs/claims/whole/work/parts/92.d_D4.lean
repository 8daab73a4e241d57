/-! ===== Divider: divide (printed by wip/gen/rD4.py) ===== -/
/-- the divider: its two numbers are the places q and r -/
def DV (M : mheap) (wa : Nat → Nat) (dv hi lo q r : Nat) : Prop := M dv = some (.inl nD, [.ref (wa q), .ref (wa r), .ref hi, .ref lo]) ∧ (∃ H : List Int32, M hi = some (.inr 0, H.map .int) ∧ H.length = 253) ∧ ∃ L : List Int32, M lo = some (.inr 0, L.map .int) ∧ L.length = 253
def DJI (la : Nat → Nat) (N hi lo : Nat) : Prop := lo ≠ hi ∧ ∀ p, p < N → la p ≠ hi ∧ la p ≠ lo
/-- nothing but numbers and the divider's arrays was written -/
def CF (M M' : mheap) (wa la : Nat → Nat) (N hi lo : Nat) : Prop := ∀ x, (∀ p, p < N → x ≠ wa p ∧ x ≠ la p) → x ≠ hi → x ≠ lo → M' x = M x
section DVS
variable {M M1 M2 : mheap} {wa la cap : Nat → Nat} {N hi lo t : Nat} {V : Nat → Int}
theorem CF.refl : CF M M wa la N hi lo := fun _ _ _ _ => rfl
theorem CF.trans (h1 : CF M M1 wa la N hi lo) (h2 : CF M1 M2 wa la N hi lo) : CF M M2 wa la N hi lo := fun x a b c => (h2 x a b c).trans (h1 x a b c)
theorem WT.cf (h : WT M M1 wa la t) (ht : t < N) : CF M M1 wa la N hi lo := fun x a _ _ => h x (a t ht).1 (a t ht).2
theorem CF.obj {n : Nat} {fs : List Value} {x : Nat} (h : CF M M1 wa la N hi lo) (hc : CW M wa la cap N V) (hx : M x = some (.inl n, fs)) (hn : n ≠ nW) (h1 : ∃ H : List Int32, M hi = some (.inr 0, H.map .int)) (h2 : ∃ H : List Int32, M lo = some (.inr 0, H.map .int)) : M1 x = some (.inl n, fs) := by
  obtain ⟨H, h1⟩ := h1
  obtain ⟨L, h2⟩ := h2
  rw [h x (fun p hp => ?_) (fun e => by rw [e, h1] at hx; cases hx) (fun e => by rw [e, h2] at hx; cases hx)]
  · exact hx
  · obtain ⟨D, c, a1, a2, _⟩ := hc p hp
    exact ⟨fun e => by rw [e, a1] at hx; exact hn (by cases hx; rfl), fun e => by rw [e, a2] at hx; cases hx⟩
theorem DV.wt {dv q r : Nat} (h : DV M wa dv hi lo q r) (hc : CW M wa la cap N V) (hd : DJI la N hi lo) (ht : t < N) (hw : WT M M1 wa la t) : DV M1 wa dv hi lo q r := by
  obtain ⟨D, c, a1, a2, _⟩ := hc t ht
  obtain ⟨b1, ⟨H, b2, b3⟩, L, b4, b5⟩ := h
  exact ⟨(hw dv (fun e => by rw [e, a1] at b1; cases b1) (fun e => by rw [e, a2] at b1; cases b1)).trans b1, ⟨H, (hw hi (fun e => by rw [e, a1] at b2; cases b2) (Ne.symm (hd.2 t ht).1)).trans b2, b3⟩, L, (hw lo (fun e => by rw [e, a1] at b4; cases b4) (Ne.symm (hd.2 t ht).2)).trans b4, b5⟩
end DVS
theorem nb_narrow {b : Nat} (h : b ≤ 1) : narrow .boolean (.int (nI b)) = .int (nI b) := by
  rcases (show b = 0 ∨ b = 1 by omega) with e | e <;> rw [e] <;> rfl
theorem nb_fits {b : Nat} (h : b ≤ 1) : fits .boolean (.int (nI b)) = true := by
  rcases (show b = 0 ∨ b = 1 by omega) with e | e <;> rw [e] <;> rfl
theorem sg_tdiv {a b : Int} (h : a.tdiv b ≠ 0) : sg (a.tdiv b) = if sg a = sg b then 0 else 1 := by
  have ha : a ≠ 0 := fun e => h (by rw [e, Int.zero_tdiv])
  have hb : b ≠ 0 := fun e => h (by rw [e, Int.tdiv_zero])
  rcases (show a < 0 ∨ 0 < a by omega) with g1 | g1 <;> rcases (show b < 0 ∨ 0 < b by omega) with g2 | g2
  · rw [sg_eq1.mpr g1, sg_eq1.mpr g2, if_pos rfl]
    have := Int.tdiv_nonneg (a := -a) (b := -b) (by omega) (by omega)
    rw [Int.neg_tdiv, Int.tdiv_neg, Int.neg_neg] at this
    exact sg_eq0.mpr this
  · rw [sg_eq1.mpr g1, sg_eq0.mpr (show 0 ≤ b by omega), if_neg (by decide)]
    have := Int.tdiv_nonneg (a := -a) (b := b) (by omega) (by omega)
    rw [Int.neg_tdiv] at this
    exact sg_eq1.mpr (by omega)
  · rw [sg_eq0.mpr (show 0 ≤ a by omega), sg_eq1.mpr g2, if_neg (by decide)]
    have := Int.tdiv_nonneg (a := a) (b := -b) (by omega) (by omega)
    rw [Int.tdiv_neg] at this
    exact sg_eq1.mpr (by omega)
  · rw [sg_eq0.mpr (show 0 ≤ a by omega), sg_eq0.mpr (show 0 ≤ b by omega), if_pos rfl]
    exact sg_eq0.mpr (Int.tdiv_nonneg (by omega) (by omega))
theorem sg_tmod {a b : Int} (h : a.tmod b ≠ 0) : sg a = sg (a.tmod b) := by
  rcases (show a < 0 ∨ 0 ≤ a by omega) with g1 | g1
  · have := Int.tmod_nonneg (a := -a) b (by omega)
    rw [Int.neg_tmod] at this
    rw [sg_eq1.mpr g1, sg_eq1.mpr (show a.tmod b < 0 by omega)]
  · rw [sg_eq0.mpr g1, sg_eq0.mpr (Int.tmod_nonneg b g1)]
theorem small_div {a b : Int} (h : b = 0 ∨ a.natAbs < b.natAbs) : a.tdiv b = 0 ∧ a.tmod b = a := by
  have e : b * a.tdiv b + a.tmod b = a := by first | exact Int.mul_tdiv_add_tmod a b | exact Int.tdiv_add_tmod a b | (have := Int.tmod_add_tdiv a b; omega) | (have := Int.tmod_add_mul_tdiv a b; omega) | (have := Int.tmod_def a b; omega)
  rcases h with g | g
  · rw [g, Int.tdiv_zero, Int.tmod_zero]; exact ⟨rfl, rfl⟩
  · have h1 : a.tdiv b = 0 := by
      have : (a.tdiv b).natAbs = 0 := by rw [Int.natAbs_tdiv]; exact Nat.div_eq_of_lt g
      omega
    rw [h1, Int.mul_zero, Int.zero_add] at e
    exact ⟨h1, e⟩
theorem lc_mono {a b : Int} (h : a.natAbs ≤ b.natAbs) : lc a ≤ lc b := by
  refine lc_le (Nat.lt_of_le_of_lt h ?_)
  unfold lc
  rw [bl_z]
  by_cases e : b.natAbs = 0
  · rw [e]; exact Nat.pow_pos (by decide)
  · obtain ⟨_, a2, _⟩ := bl_spec e
    refine Nat.lt_of_lt_of_le a2 ?_
    rw [show BB = 2 ^ 32 from rfl, ← Nat.pow_mul]
    exact Nat.pow_le_pow_right (by decide) (by omega)
theorem CW.two {M M' : mheap} {wa la cap : Nat → Nat} {N q r hi lo : Nat} {V : Nat → Int} {x y : Int} (hc : CW M wa la cap N V) (hI : CI wa la cap N) (hd : DJI la N hi lo) (hH : ∃ H : List Int32, M hi = some (.inr 0, H.map .int)) (hL : ∃ H : List Int32, M lo = some (.inr 0, H.map .int)) (hq : q < N) (hr : r < N) (h1 : WH M' (wa q) (la q) (cap q) x) (h2 : WH M' (wa r) (la r) (cap r) y) (hf : ∀ a, a ≠ wa q → a ≠ la q → a ≠ wa r → a ≠ la r → a ≠ hi → a ≠ lo → M' a = M a) : CW M' wa la cap N (vup (vup V q x) r y) := by
  intro p hp
  by_cases c1 : p = r
  · rw [c1, vup_at]; exact h2
  · rw [vup_ne _ _ c1]
    by_cases c2 : p = q
    · rw [c2, vup_at]; exact h1
    · rw [vup_ne _ _ c2]
      obtain ⟨H, hH⟩ := hH
      obtain ⟨L, hL⟩ := hL
      obtain ⟨D, n, a1, a2, a3⟩ := hc p hp
      obtain ⟨D1, n1, b1, b2, b3⟩ := hc q hq
      obtain ⟨D2, n2, d1, d2, d3⟩ := hc r hr
      refine ⟨D, n, ?_, ?_, a3⟩
      · rw [hf _ (fun e => c2 (hI.1 p q hp hq e)) (fun e => by rw [e, b2] at a1; cases a1) (fun e => c1 (hI.1 p r hp hr e)) (fun e => by rw [e, d2] at a1; cases a1) (fun e => by rw [e, hH] at a1; cases a1) (fun e => by rw [e, hL] at a1; cases a1)]; exact a1
      · rw [hf _ (fun e => by rw [e, b1] at a2; cases a2) (fun e => c2 (hI.2.1 p q hp hq e)) (fun e => by rw [e, d1] at a2; cases a2) (fun e => c1 (hI.2.1 p r hp hr e)) (hd.2 p hp).1 (hd.2 p hp).2]; exact a2
section D4
variable {G : jg} {d : Nat} {Q : jq} {rc rs : Nat} {M : mheap} {wa la cap : Nat → Nat} {N : Nat} {V : Nat → Int}
theorem d_divide {dv hi lo q r u v : Nat} (hG : kG G) (hI : CI wa la cap N) (hc : CW M wa la cap N V) (hdv : DV M wa dv hi lo q r) (hdi : DJI la N hi lo) (hq : q < N) (hr : r < N) (hu : u < N) (hv : v < N) (hqr : q ≠ r) (hqu : q ≠ u) (hqv : q ≠ v) (hru : r ≠ u) (hrv : r ≠ v) (h252 : lc (V u) ≤ 252) (hcq : lc (V u) ≤ cap q) (hcr : lc (V u) ≤ cap r) (k : ∀ M', CW M' wa la cap N (vup (vup V q ((V u).tdiv (V v))) r ((V u).tmod (V v))) → DV M' wa dv hi lo q r → CF M M' wa la N hi lo → Q (.returned none) M' rc rs) : jj G kD_divide (d + 3) Q rc rs 0 (jj_ent [.ref dv, .ref (wa u), .ref (wa v)] 5) [] M := by
  obtain ⟨hD, ⟨H0, hH0, lH0⟩, L0, hL0, lL0⟩ := id hdv
  obtain ⟨T, cq, hT1, hT2, hT3, hT4⟩ := hc q hq
  obtain ⟨R, cr, hR1, hR2, hR3, hR4⟩ := hc r hr
  obtain ⟨A, cu, hA1, hA2, hA3, hA4⟩ := hc u hu
  obtain ⟨B, cv, hB1, hB2, hB3, hB4⟩ := hc v hv
  have lT := hI.2.2 q hq
  have lR := hI.2.2 r hr
  have lA := hI.2.2 u hu
  have lB := hI.2.2 v hv
  have bA := hA4.1
  have bB := hB4.1
  have nqr : wa q ≠ wa r := fun h => hqr (hI.1 q r hq hr h)
  have nlqr : la q ≠ la r := fun h => hqr (hI.2.1 q r hq hr h)
  have nqu : wa q ≠ wa u := fun h => hqu (hI.1 q u hq hu h)
  have nlqu : la q ≠ la u := fun h => hqu (hI.2.1 q u hq hu h)
  have nqv : wa q ≠ wa v := fun h => hqv (hI.1 q v hq hv h)
  have nlqv : la q ≠ la v := fun h => hqv (hI.2.1 q v hq hv h)
  have nru : wa r ≠ wa u := fun h => hru (hI.1 r u hr hu h)
  have nlru : la r ≠ la u := fun h => hru (hI.2.1 r u hr hu h)
  have nrv : wa r ≠ wa v := fun h => hrv (hI.1 r v hr hv h)
  have nlrv : la r ≠ la v := fun h => hrv (hI.2.1 r v hr hv h)
  have ndq : dv ≠ wa q := fun e => by have q9 := hD; rw [e, hT1] at q9; cases q9
  have ndr : dv ≠ wa r := fun e => by have q9 := hD; rw [e, hR1] at q9; cases q9
  have nhq : wa q ≠ hi := fun e => by have q9 := hT1; rw [e, hH0] at q9; cases q9
  have nhr : wa r ≠ hi := fun e => by have q9 := hR1; rw [e, hH0] at q9; cases q9
  have noq : wa q ≠ lo := fun e => by have q9 := hT1; rw [e, hL0] at q9; cases q9
  have nor : wa r ≠ lo := fun e => by have q9 := hR1; rw [e, hL0] at q9; cases q9
  have nql : ∀ p, p < N → wa q ≠ la p := fun p hp e => by obtain ⟨D9, c9, _, h92, _⟩ := hc p hp; have q9 := hT1; rw [e, h92] at q9; cases q9
  have nrl : ∀ p, p < N → wa r ≠ la p := fun p hp e => by obtain ⟨D9, c9, _, h92, _⟩ := hc p hp; have q9 := hR1; rw [e, h92] at q9; cases q9
  have hdl : ∀ p, p < N → dv ≠ la p := fun p hp e => by obtain ⟨D9, c9, _, h92, _⟩ := hc p hp; have q9 := hD; rw [e, h92] at q9; cases q9
  have hdh : dv ≠ hi := fun e => by have q9 := hD; rw [e, hH0] at q9; cases q9
  have hdo : dv ≠ lo := fun e => by have q9 := hD; rw [e, hL0] at q9; cases q9
  have hEx : ∃ H : List Int32, M hi = some (.inr 0, H.map .int) := ⟨H0, hH0⟩
  have hEy : ∃ H : List Int32, M lo = some (.inr 0, H.map .int) := ⟨L0, hL0⟩
  have k87 : ∀ (b3 : Nat) (M1 : mheap), b3 ≤ 1 → ((V u).tdiv (V v) ≠ 0 → nI b3 = sg ((V u).tdiv (V v))) → DR M M1 wa la cap q r hi lo V ((V u).natAbs / (V v).natAbs) ((V u).natAbs % (V v).natAbs) → jj G kD_divide (d + 3) Q rc rs 87 [some (.ref dv), some (.ref (wa u)), some (.ref (wa v)), some (.int (nI (b3))), some (.int (sg (V u)))] [] M1 := by
    intro b3 M1 hb3 hs3 hDR
    obtain ⟨⟨T1, c1, t1, t2, t3, t4, t5⟩, ⟨R1, c2, r1, r2, r3, r4, r5⟩, ⟨H1, h1, h2⟩, ⟨L1, l1, l2⟩, f1⟩ := hDR
    have t5 : lnat T1 c1 = ((V u).tdiv (V v)).natAbs := t5.trans (Int.natAbs_tdiv ..).symm
    have r5 : lnat R1 c2 = ((V u).tmod (V v)).natAbs := r5.trans (Int.natAbs_tmod ..).symm
    have d1 := (f1 dv ndq (hdl q hq) ndr (hdl r hr) hdh hdo).trans hD
    show jj G kD_divide (d + 3) Q rc rs 87 [some (.ref dv), some (.ref (wa u)), some (.ref (wa v)), some (.int (nI (b3))), some (.int (sg (V u)))] [] M1
    refine jj_aload_n (pc := 87) kD_divide_d87 rfl ?_
    refine jj_getf (pc := 88) kD_divide_d88 (kfD_quotient hG) d1 rfl ?_
    refine jj_iload_n (pc := 91) kD_divide_d91 rfl ?_
    refine jj_putf (pc := 92) kD_divide_d92 (kpD_W_below hG) t1 (nb_narrow hb3) (nb_fits hb3) ?_
    refine jn_gen (fun M101 hM102 => ?_)
    have h103 : M101 dv = some (.inl nD, [.ref (wa q), .ref (wa r), .ref hi, .ref lo]) := by rw [hM102, jj_up_ne _ _ ndq]; exact d1
    have h104 : M101 (la q) = some (.inr 0, (T1).map .int) := by rw [hM102, jj_up_ne _ _ (fun e => by have q1 := t2; rw [e, t1] at q1; cases q1)]; exact t2
    have h105 : M101 (wa r) = some (.inl nW, [.ref (la r), .int (nI (c2)), .int (sg (V r))]) := by rw [hM102, jj_up_ne _ _ (Ne.symm nqr)]; exact r1
    have h106 : M101 (la r) = some (.inr 0, (R1).map .int) := by rw [hM102, jj_up_ne _ _ (fun e => by have q1 := r2; rw [e, t1] at q1; cases q1)]; exact r2
    have h107 : M101 (wa q) = some (.inl nW, [.ref (la q), .int (nI (c1)), .int (nI (b3))]) := by rw [hM102]; exact jj_up_at _ _ _
    refine jj_aload_n (pc := 95) kD_divide_d95 rfl ?_
    refine jj_getf (pc := 96) kD_divide_d96 (kfD_quotient hG) h103 rfl ?_
    refine jj_callV (pc := 99) (b := (wa q)) (As := []) kD_divide_d99 (kvD_W_trim hG) (kG_cl hG rfl) rfl h107 rfl rfl rfl (Nat.le_of_ble_eq_true rfl) (Nat.le_of_ble_eq_true rfl) (jj_bare0 rfl) ?_
    refine w_trim hG (by omega) c1 M101 h107 h104 (by omega) (fun M3 h31 f3 => ?_)
    show jj G kD_divide (d + 3) Q rc rs 102 [some (.ref dv), some (.ref (wa u)), some (.ref (wa v)), some (.int (nI (b3))), some (.int (sg (V u)))] [] M3
    have d3 := (f3 dv ndq).trans h103
    have q3 := (f3 (la q) (Ne.symm (nql q hq))).trans h104
    have r3a := (f3 (wa r) (Ne.symm nqr)).trans h105
    have r3b := (f3 (la r) (Ne.symm (nql r hr))).trans h106
    rw [sg_trim (by omega) t5 hs3] at h31
    refine jj_aload_n (pc := 102) kD_divide_d102 rfl ?_
    refine jj_getf (pc := 103) kD_divide_d103 (kfD_remainder hG) d3 rfl ?_
    refine jj_iload (pc := 106) kD_divide_d106 rfl ?_
    refine jj_putf (pc := 108) kD_divide_d108 (kpD_W_below hG) r3a (sg_narrow _) (sg_fits _) ?_
    refine jn_gen (fun M108 hM109 => ?_)
    have h110 : M108 dv = some (.inl nD, [.ref (wa q), .ref (wa r), .ref hi, .ref lo]) := by rw [hM109, jj_up_ne _ _ ndr]; exact d3
    have h111 : M108 (wa q) = some (.inl nW, [.ref (la q), .int (nI (ltrim T1 c1)), .int (sg ((V u).tdiv (V v)))]) := by rw [hM109, jj_up_ne _ _ nqr]; exact h31
    have h112 : M108 (la q) = some (.inr 0, (T1).map .int) := by rw [hM109, jj_up_ne _ _ (fun e => by have q1 := q3; rw [e, r3a] at q1; cases q1)]; exact q3
    have h113 : M108 (la r) = some (.inr 0, (R1).map .int) := by rw [hM109, jj_up_ne _ _ (fun e => by have q1 := r3b; rw [e, r3a] at q1; cases q1)]; exact r3b
    have h114 : M108 (wa r) = some (.inl nW, [.ref (la r), .int (nI (c2)), .int (sg (V u))]) := by rw [hM109]; exact jj_up_at _ _ _
    refine jj_aload_n (pc := 111) kD_divide_d111 rfl ?_
    refine jj_getf (pc := 112) kD_divide_d112 (kfD_remainder hG) h110 rfl ?_
    refine jj_callV (pc := 115) (b := (wa r)) (As := []) kD_divide_d115 (kvD_W_trim hG) (kG_cl hG rfl) rfl h114 rfl rfl rfl (Nat.le_of_ble_eq_true rfl) (Nat.le_of_ble_eq_true rfl) (jj_bare0 rfl) ?_
    refine w_trim hG (by omega) c2 M108 h114 h113 (by omega) (fun M5 h51 f5 => ?_)
    show jj G kD_divide (d + 3) Q rc rs 118 [some (.ref dv), some (.ref (wa u)), some (.ref (wa v)), some (.int (nI (b3))), some (.int (sg (V u)))] [] M5
    have d5 := (f5 dv ndr).trans h110
    have q5 := (f5 (wa q) nqr).trans h111
    have q5b := (f5 (la q) (Ne.symm (nrl q hq))).trans h112
    have r5b := (f5 (la r) (Ne.symm (nrl r hr))).trans h113
    rw [sg_trim (by omega) r5 sg_tmod] at h51
    have fx : ∀ a, a ≠ wa q → a ≠ wa r → M5 a = M1 a := fun a a1 a2 => by rw [f5 a a2, hM109, jj_up_ne _ _ a2, f3 a a1, hM102, jj_up_ne _ _ a1]
    have fy : ∀ a, a ≠ wa q → a ≠ la q → a ≠ wa r → a ≠ la r → a ≠ hi → a ≠ lo → M5 a = M a := fun a a1 a2 a3 a4 a5 a6 => (fx a a1 a3).trans (f1 a a1 a2 a3 a4 a5 a6)
    exact jj_vret (pc := 118) kD_divide_d118 rfl (k M5 (hc.two hI hdi hEx hEy hq hr ⟨T1, _, q5, q5b, t3, ltrim_LW (by omega) t5⟩ ⟨R1, _, h51, r5b, r3, ltrim_LW (by omega) r5⟩ fy) ⟨d5, ⟨H1, (fx hi (Ne.symm nhq) (Ne.symm nhr)).trans h1, h2⟩, L1, (fx lo (Ne.symm noq) (Ne.symm nor)).trans l1, l2⟩ (fun a ha b1 b2 => fy a (ha q hq).1 (ha q hq).2 (ha r hr).1 (ha r hr).2 b1 b2))
  have k38 : ∀ b3 : Nat, V v = 0 ∨ (V u).natAbs < (V v).natAbs → jj G kD_divide (d + 3) Q rc rs 38 [some (.ref dv), some (.ref (wa u)), some (.ref (wa v)), some (.int (nI (b3))), some (.int (sg (V u)))] [] M := by
    intro b3 hsm
    obtain ⟨z1, z2⟩ := small_div hsm
    rw [z1, z2] at k
    show jj G kD_divide (d + 3) Q rc rs 38 [some (.ref dv), some (.ref (wa u)), some (.ref (wa v)), some (.int (nI (b3))), some (.int (sg (V u)))] [] M
    refine jj_aload_n (pc := 38) kD_divide_d38 rfl ?_
    refine jj_getf (pc := 39) kD_divide_d39 (kfD_quotient hG) hD rfl ?_
    refine jj_callV (pc := 42) (b := (wa q)) (As := []) kD_divide_d42 (kvD_W_putZero hG) (kG_cl hG rfl) rfl hT1 rfl rfl rfl (Nat.le_of_ble_eq_true rfl) (Nat.le_of_ble_eq_true rfl) (jj_bare0 rfl) ?_
    refine w_putZero hG hI hc hq (fun M1 hc1 hw1 => ?_)
    show jj G kD_divide (d + 3) Q rc rs 45 [some (.ref dv), some (.ref (wa u)), some (.ref (wa v)), some (.int (nI (b3))), some (.int (sg (V u)))] [] M1
    have hdv1 := hdv.wt hc hdi hq hw1
    have d1 := hdv1.1
    obtain ⟨R1, c1, r1, r2, r3, r4⟩ := hc1 r hr
    rw [vup_ne _ _ (Ne.symm hqr)] at r1
    refine jj_aload_n (pc := 45) kD_divide_d45 rfl ?_
    refine jj_getf (pc := 46) kD_divide_d46 (kfD_remainder hG) d1 rfl ?_
    refine jj_aload_n (pc := 49) kD_divide_d49 rfl ?_
    refine jj_callV (pc := 50) (b := (wa r)) (As := [.ref (wa u)]) kD_divide_d50 (kvD_W_copy hG) (kG_cl hG rfl) rfl r1 rfl rfl rfl (Nat.le_of_ble_eq_true rfl) (Nat.le_of_ble_eq_true rfl) (jj_bare0 rfl) ?_
    refine w_copy hG hI hc1 hr hu (by rw [vup_ne _ _ (Ne.symm hqu)]; exact Nat.lt_of_lt_of_le hA4.lt (Nat.pow_le_pow_right (by decide) (by rw [hA4.cnt]; exact hcr))) (fun M2 hc2 hw2 => ?_)
    show jj G kD_divide (d + 3) Q rc rs 53 [some (.ref dv), some (.ref (wa u)), some (.ref (wa v)), some (.int (nI (b3))), some (.int (sg (V u)))] [] M2
    rw [vup_ne _ _ (Ne.symm hqu)] at hc2
    exact jj_vret (pc := 53) kD_divide_d53 rfl (k M2 hc2 (hdv1.wt hc1 hdi hr hw2) ((hw1.cf hq).trans (hw2.cf hr)))
  have k54 : ∀ b3 : Nat, b3 ≤ 1 → ((V u).tdiv (V v) ≠ 0 → nI b3 = sg ((V u).tdiv (V v))) → V v ≠ 0 → (V v).natAbs ≤ (V u).natAbs → jj G kD_divide (d + 3) Q rc rs 54 [some (.ref dv), some (.ref (wa u)), some (.ref (wa v)), some (.int (nI (b3))), some (.int (sg (V u)))] [] M := by
    intro b3 hb3 hs3 hv0 hle
    have hcu := hA4.cnt
    have hcv := hB4.cnt
    have hmo := lc_mono hle
    have hv1 : cv ≠ 0 := fun e => hv0 (hB4.zero.mp e)
    show jj G kD_divide (d + 3) Q rc rs 54 [some (.ref dv), some (.ref (wa u)), some (.ref (wa v)), some (.int (nI (b3))), some (.int (sg (V u)))] [] M
    refine jj_aload_n (pc := 54) kD_divide_d54 rfl ?_
    refine jj_getf (pc := 55) kD_divide_d55 (kfD_W_count hG) hB1 rfl ?_
    refine jn_iconst (pc := 58) 1 kD_divide_d58 (by decide) ?_
    refine jn_icmp_ne (pc := 59) (tgt := 81) kD_divide_d59 (by decide) (by omega) (by omega) (fun c1 => ?_) (fun c1 => ?_)
    · skip
      refine jj_aload_n (pc := 81) kD_divide_d81 rfl ?_
      refine jj_aload_n (pc := 82) kD_divide_d82 rfl ?_
      refine jj_aload_n (pc := 83) kD_divide_d83 rfl ?_
      refine jj_callV (pc := 84) (b := dv) (As := [.ref (wa u), .ref (wa v)]) kD_divide_d84 (kvD_D_divideByMore hG) (kG_cl hG rfl) rfl hD rfl rfl rfl (Nat.le_of_ble_eq_true rfl) (Nat.le_of_ble_eq_true rfl) (jj_bare0 rfl) ?_
      refine d_more hG hI hc hD hH0 hL0 lH0 lL0 hdi.1 hdi.2 hq hr hu hv hqr hqu hqv hru hrv h252 hcq hcr (by omega) hmo (fun M1 hDR => ?_)
      show jj G kD_divide (d + 3) Q rc rs 87 [some (.ref dv), some (.ref (wa u)), some (.ref (wa v)), some (.int (nI (b3))), some (.int (sg (V u)))] [] M1
      exact k87 b3 M1 hb3 hs3 hDR
    · skip
      have hcv1 : cv = 1 := by omega
      have hb1 : lu (B.getD 0 0) = (V v).natAbs := by
        have q9 := hB4.2.1
        rw [hcv1, show (1 : Nat) = 0 + 1 from rfl] at q9
        rw [← q9]
        show _ = 0 + lu (B.getD 0 0) * 1
        omega
      have hb2 := lu_lt (B.getD 0 0)
      refine jj_aload_n (pc := 62) kD_divide_d62 rfl ?_
      refine jj_aload_n (pc := 63) kD_divide_d63 rfl ?_
      refine jj_aload_n (pc := 64) kD_divide_d64 rfl ?_
      refine jj_getf (pc := 65) kD_divide_d65 (kfD_W_limbs hG) hB1 rfl ?_
      refine jn_iconst (pc := 68) 0 kD_divide_d68 (by decide) ?_
      refine jn_iald (pc := 69) (v := (B.getD 0 0)) kD_divide_d69 (kG_t hG rfl) hB2 (by omega) (by omega) (rfl) ?_
      refine jj_i2l (pc := 70) kD_divide_d70 ?_
      refine jj_ldc2 (pc := 71) kD_divide_d71 (kcD_4294967295 hG) ?_
      refine jn_top (.long (lN (4294967295))) (rfl) ?_
      refine jj_land (pc := 74) kD_divide_d74 ?_
      refine jn_top (.long (lN (lu (B.getD 0 0)))) (by rw [lu_mask]) ?_
      refine jj_callV (pc := 75) (b := dv) (As := [.ref (wa u), .long (lN (lu (B.getD 0 0)))]) kD_divide_d75 (kvD_D_divideByLimb hG) (kG_cl hG rfl) rfl hD rfl rfl rfl (Nat.le_of_ble_eq_true rfl) (Nat.le_of_ble_eq_true rfl) (jj_bare0 rfl) ?_
      refine d_limb hG hD hT1 hT2 hR1 hR2 hA1 hA2 nlqu nlru nlqr nqr nqu nru (by omega) (by omega) (by omega) (by omega) (by omega) (by omega) (by omega) hb2 (fun M1 T1 R1 t1 t2 t3 t4 r1 r2 r3 r4 f1 => ?_)
      show jj G kD_divide (d + 3) Q rc rs 78 [some (.ref dv), some (.ref (wa u)), some (.ref (wa v)), some (.int (nI (b3))), some (.int (sg (V u)))] [] M1
      rw [hb1, hA4.2.1] at t4 r4
      refine jj_goto (pc := 78) (tgt := 87) kD_divide_d78 (by decide) ?_
      exact k87 b3 M1 hb3 hs3 ⟨⟨T1, cu, t1, t2, t3.trans hT3, by omega, t4⟩, ⟨R1, 1, r1, r2, r3.trans hR3, by omega, r4⟩, ⟨H0, (f1 hi (Ne.symm nhq) (Ne.symm (hdi.2 q hq).1) (Ne.symm nhr) (Ne.symm (hdi.2 r hr).1)).trans hH0, lH0⟩, ⟨L0, (f1 lo (Ne.symm noq) (Ne.symm (hdi.2 q hq).2) (Ne.symm nor) (Ne.symm (hdi.2 r hr).2)).trans hL0, lL0⟩, fun a a1 a2 a3 a4 _ _ => f1 a a1 a2 a3 a4⟩
  have k23 : ∀ b3 : Nat, b3 ≤ 1 → ((V u).tdiv (V v) ≠ 0 → nI b3 = sg ((V u).tdiv (V v))) → jj G kD_divide (d + 3) Q rc rs 23 [some (.ref dv), some (.ref (wa u)), some (.ref (wa v)), some (.int (nI (b3))), some (.int (sg (V u)))] [] M := by
    intro b3 hb3 hs3
    show jj G kD_divide (d + 3) Q rc rs 23 [some (.ref dv), some (.ref (wa u)), some (.ref (wa v)), some (.int (nI (b3))), some (.int (sg (V u)))] [] M
    refine jj_aload_n (pc := 23) kD_divide_d23 rfl ?_
    refine jj_getf (pc := 24) kD_divide_d24 (kfD_W_count hG) hB1 rfl ?_
    refine jn_if_eq (pc := 27) (tgt := 38) kD_divide_d27 (by decide) (by omega) (fun c0 => ?_) (fun c0 => ?_)
    · skip
      exact k38 b3 (Or.inl (hB4.zero.mp c0))
    · skip
      have hv0 : V v ≠ 0 := fun e => absurd (hB4.zero.mpr e) (by omega)
      refine jj_aload_n (pc := 30) kD_divide_d30 rfl ?_
      refine jj_aload_n (pc := 31) kD_divide_d31 rfl ?_
      refine jj_callV (pc := 32) (b := (wa u)) (As := [.ref (wa v)]) kD_divide_d32 (kvD_W_compareSizes hG) (kG_cl hG rfl) rfl hA1 rfl rfl rfl (Nat.le_of_ble_eq_true rfl) (Nat.le_of_ble_eq_true rfl) (jj_bare0 rfl) ?_
      refine w_compareSizes hG hI hc hu hv (fun c2 => ?_) (fun c2 => ?_) (fun c2 => ?_)
      · skip
        show jj G kD_divide (d + 3) Q rc rs 35 [some (.ref dv), some (.ref (wa u)), some (.ref (wa v)), some (.int (nI (b3))), some (.int (sg (V u)))] [.int (-1)] M
        refine jj_if_ge (pc := 35) (tgt := 54) kD_divide_d35 (by decide) (fun c3 => absurd c3 (by decide)) (fun _ => ?_)
        exact k38 b3 (Or.inr c2)
      · skip
        show jj G kD_divide (d + 3) Q rc rs 35 [some (.ref dv), some (.ref (wa u)), some (.ref (wa v)), some (.int (nI (b3))), some (.int (sg (V u)))] [.int (nI (0))] M
        refine jz_if_ge (pc := 35) (tgt := 54) (a := 0) kD_divide_d35 (by decide) (zI_nat _).symm (by omega) (by omega) (fun _ => ?_) (fun c => by exfalso; omega)
        exact k54 b3 hb3 hs3 hv0 (by omega)
      · skip
        show jj G kD_divide (d + 3) Q rc rs 35 [some (.ref dv), some (.ref (wa u)), some (.ref (wa v)), some (.int (nI (b3))), some (.int (sg (V u)))] [.int (nI (1))] M
        refine jz_if_ge (pc := 35) (tgt := 54) (a := 1) kD_divide_d35 (by decide) (zI_nat _).symm (by omega) (by omega) (fun _ => ?_) (fun c => by exfalso; omega)
        exact k54 b3 hb3 hs3 hv0 (by omega)
  show jj G kD_divide (d + 3) Q rc rs 0 [some (.ref dv), some (.ref (wa u)), some (.ref (wa v)), none, none] [] M
  refine jj_aload_n (pc := 0) kD_divide_d0 rfl ?_
  refine jj_getf (pc := 1) kD_divide_d1 (kfD_W_below hG) hA1 rfl ?_
  refine jj_aload_n (pc := 4) kD_divide_d4 rfl ?_
  refine jj_getf (pc := 5) kD_divide_d5 (kfD_W_below hG) hB1 rfl ?_
  refine jj_icmp_eq (pc := 8) (tgt := 15) kD_divide_d8 (by decide) (fun c => ?_) (fun c => ?_)
  · skip
    refine jn_iconst (pc := 15) 0 kD_divide_d15 (by decide) ?_
    refine jj_istore_n (pc := 16) kD_divide_d16 (Nat.le_of_ble_eq_true rfl) ?_
    show jj G kD_divide (d + 3) Q rc rs 17 [some (.ref dv), some (.ref (wa u)), some (.ref (wa v)), some (.int (nI (0))), none] [] M
    refine jj_aload_n (pc := 17) kD_divide_d17 rfl ?_
    refine jj_getf (pc := 18) kD_divide_d18 (kfD_W_below hG) hA1 rfl ?_
    refine jj_istore (pc := 21) kD_divide_d21 (Nat.le_of_ble_eq_true rfl) ?_
    show jj G kD_divide (d + 3) Q rc rs 23 [some (.ref dv), some (.ref (wa u)), some (.ref (wa v)), some (.int (nI (0))), some (.int (sg (V u)))] [] M
    show jj G kD_divide (d + 3) Q rc rs 23 [some (.ref dv), some (.ref (wa u)), some (.ref (wa v)), some (.int (nI (0))), some (.int (sg (V u)))] [] M
    exact k23 0 (by omega) (fun h => by rw [sg_tdiv h, if_pos c]; rfl)
  · skip
    refine jn_iconst (pc := 11) 1 kD_divide_d11 (by decide) ?_
    refine jj_goto (pc := 12) (tgt := 16) kD_divide_d12 (by decide) ?_
    refine jj_istore_n (pc := 16) kD_divide_d16 (Nat.le_of_ble_eq_true rfl) ?_
    show jj G kD_divide (d + 3) Q rc rs 17 [some (.ref dv), some (.ref (wa u)), some (.ref (wa v)), some (.int (nI (1))), none] [] M
    refine jj_aload_n (pc := 17) kD_divide_d17 rfl ?_
    refine jj_getf (pc := 18) kD_divide_d18 (kfD_W_below hG) hA1 rfl ?_
    refine jj_istore (pc := 21) kD_divide_d21 (Nat.le_of_ble_eq_true rfl) ?_
    show jj G kD_divide (d + 3) Q rc rs 23 [some (.ref dv), some (.ref (wa u)), some (.ref (wa v)), some (.int (nI (1))), some (.int (sg (V u)))] [] M
    show jj G kD_divide (d + 3) Q rc rs 23 [some (.ref dv), some (.ref (wa u)), some (.ref (wa v)), some (.int (nI (1))), some (.int (sg (V u)))] [] M
    exact k23 1 (by omega) (fun h => by rw [sg_tdiv h, if_neg c]; rfl)
end D4
