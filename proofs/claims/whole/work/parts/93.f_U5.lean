/-! ===== Euclid: run (printed by wip/gen/rU5.py) ===== -/
/-- Euclid's and the divider's numbers: the first seven places -/
def E7 (q r px pf py po ps : Nat) : Prop := q < 7 ∧ r < 7 ∧ px < 7 ∧ pf < 7 ∧ py < 7 ∧ po < 7 ∧ ps < 7 ∧ q ≠ r ∧ q ≠ px ∧ q ≠ pf ∧ q ≠ py ∧ q ≠ po ∧ q ≠ ps ∧ r ≠ px ∧ r ≠ pf ∧ r ≠ py ∧ r ≠ po ∧ r ≠ ps ∧ px ≠ pf ∧ px ≠ py ∧ px ≠ po ∧ px ≠ ps ∧ pf ≠ py ∧ pf ≠ po ∧ pf ≠ ps ∧ py ≠ po ∧ py ≠ ps ∧ po ≠ ps
def US (M : mheap) (wa : Nat → Nat) (eu dv hi lo q r px pf py po ps od : Nat) : Prop := E7 q r px pf py po ps ∧ DV M wa dv hi lo q r ∧ od ≤ 1 ∧ ∃ a b c d9 : Int64, M eu = some (.inl nU, [.ref (wa px), .ref (wa pf), .ref (wa py), .ref (wa po), .ref (wa ps), .ref dv, .int (nI (od)), .long a, .long b, .long c, .long d9])
/-- nothing but numbers, the divider and Euclid was written -/
def EF (M M' : mheap) (wa la : Nat → Nat) (N eu dv hi lo : Nat) : Prop := ∀ x, (∀ p, p < N → x ≠ wa p ∧ x ≠ la p) → x ≠ hi → x ≠ lo → x ≠ eu → x ≠ dv → M' x = M x
theorem EF.trans {M M1 M2 : mheap} {wa la : Nat → Nat} {N eu dv hi lo : Nat} (h1 : EF M M1 wa la N eu dv hi lo) (h2 : EF M1 M2 wa la N eu dv hi lo) : EF M M2 wa la N eu dv hi lo := fun x a b c d e => (h2 x a b c d e).trans (h1 x a b c d e)
theorem WT.ef {M M1 : mheap} {wa la : Nat → Nat} {N eu dv hi lo t : Nat} (h : WT M M1 wa la t) (ht : t < N) : EF M M1 wa la N eu dv hi lo := fun x a _ _ _ _ => h x (a t ht).1 (a t ht).2
/-- what holds before each round -/
def RI7 (V V0 : Nat → Int) (px pf py po od fl x0 y0 X Y F G : Nat) : Prop := (∀ p, 7 ≤ p → V p = V0 p) ∧ V px = (X : Nat) ∧ V py = (Y : Nat) ∧ V pf = (F : Nat) ∧ V po = (G : Nat) ∧ Y ≤ X ∧ lc (X : Nat) ≤ 252 ∧ Nat.gcd X Y = Nat.gcd x0 y0 ∧ (fl = 1 → FI x0 y0 X Y F G od)
theorem FI.start {x0 y0 : Nat} : FI x0 y0 x0 y0 1 0 0 := ⟨by omega, by omega, by omega, by omega, 0, 1, by show (x0 : Int) = 1 * (((1 : Nat) : Int) * x0) + 0 * y0; omega, by show (y0 : Int) = -1 * (((0 : Nat) : Int) * x0) + 1 * y0; omega⟩
theorem FI.start2 {x0 y0 : Nat} (h : 0 < y0) : FI x0 y0 y0 x0 0 1 1 := ⟨by omega, by omega, by omega, by omega, 1, 0, by show (y0 : Int) = -1 * (((0 : Nat) : Int) * x0) + 1 * y0; omega, by show (x0 : Int) = -(-1) * (((1 : Nat) : Int) * x0) + 0 * y0; omega⟩
theorem pow2_lt {a b : Nat} {L : Nat} (ha : a < BB ^ L) (hb : b < BB ^ L) : a * b < 2 ^ (64 * L) := by
  have h := Nat.mul_lt_mul'' ha hb
  rw [← Nat.pow_add, show BB = 2 ^ 32 from rfl, ← Nat.pow_mul, show 32 * (L + L) = 64 * L by omega] at h
  exact h
theorem nat_tdiv (a b : Nat) : ((a : Nat) : Int).tdiv (b : Nat) = ((a / b : Nat) : Int) := rfl
theorem nat_tmod (a b : Nat) : ((a : Nat) : Int).tmod (b : Nat) = ((a % b : Nat) : Int) := rfl
theorem lc_nat {a b : Nat} (h : a ≤ b) : lc ((a : Nat) : Int) ≤ lc ((b : Nat) : Int) := lc_mono h
theorem sg_od {od F : Nat} (h : od ≤ 1) : ((sn od * (F : Int)).natAbs = F) ∧ (sn od * (F : Int) ≠ 0 → od = 0 → sg (sn od * F) = 0) ∧ (od ≠ 0 → 0 < F → sg (sn od * F) = 1) ∧ (F = 0 → sg (sn od * F) = 0) ∧ (od = 0 → sg (sn od * F) = 0) := by
  rcases (show od = 0 ∨ od = 1 by omega) with e | e
  · subst e
    have e1 : sn 0 * (F : Int) = F := by show 1 * (F : Int) = F; omega
    rw [e1]
    exact ⟨by omega, fun _ _ => sg_nonneg (by omega), fun h => absurd rfl h, fun _ => sg_nonneg (by omega), fun _ => sg_nonneg (by omega)⟩
  · subst e
    have e1 : sn 1 * (F : Int) = -F := by show -1 * (F : Int) = -F; omega
    rw [e1]
    exact ⟨by omega, fun _ h => absurd h (by omega), fun _ h => sg_eq1.mpr (by omega), fun h => sg_nonneg (by omega), fun h => absurd h (by omega)⟩
section U5
variable {G : jg} {d : Nat} {Q : jq} {rc rs : Nat} {M : mheap} {wa la cap : Nat → Nat} {N : Nat} {V : Nat → Int}
theorem u_runE {eu dv hi lo q r px pf py po ps od fl x0 y0 X Y F Fo : Nat} {V0 : Nat → Int} {M0 : mheap} {i : Nat} {o1 o2 : Option Value} (hG : kG G) (hI : CI wa la cap N) (hc : CW M wa la cap N V) (hN : 7 ≤ N) (hcap : ∀ p, p < 7 → cap p = 252) (hdi : DJI la N hi lo) (hU : US M wa eu dv hi lo q r px pf py po ps od) (hR : RI7 V V0 px pf py po od fl x0 y0 X Y F Fo) (hfr : EF M0 M wa la N eu dv hi lo) (hY0 : Y = 0) (k : ∀ (M' : mheap) (V' : Nat → Int) (r px pf py po ps od : Nat), CW M' wa la cap N V' → (∀ p, 7 ≤ p → V' p = V0 p) → US M' wa eu dv hi lo q r px pf py po ps od → V' px = (Nat.gcd x0 y0 : Nat) → (fl = 1 → (V' pf).natAbs ≤ max 1 y0 ∧ ∃ m : Int, V' px = V' pf * x0 + m * y0) → EF M0 M' wa la N eu dv hi lo → Q (.returned none) M' rc rs) : jj G kU_run (d + 5) Q rc rs 128 [some (.ref eu), (o1), (o2), some (.int (nI (fl))), some (.int (nI (i)))] [] M := by
  obtain ⟨⟨b_q, b_r, b_px, b_pf, b_py, b_po, b_ps, d_q_r, d_q_px, d_q_pf, d_q_py, d_q_po, d_q_ps, d_r_px, d_r_pf, d_r_py, d_r_po, d_r_ps, d_px_pf, d_px_py, d_px_po, d_px_ps, d_pf_py, d_pf_po, d_pf_ps, d_py_po, d_py_ps, d_po_ps⟩, hdv, ho, a, b, c, d9, hE⟩ := id hU
  obtain ⟨hold, vx, vy, vf, vo, hyx, hxl, hgc, hFI⟩ := hR
  have hpf : pf < N := by omega
  obtain ⟨T, ct, hT1, hT2, hT3, hT4⟩ := hc pf hpf
  obtain ⟨s1, s2, s3, s4, s5⟩ := sg_od (F := F) ho
  have nE : wa pf ≠ eu := fun e => by rw [e, hE] at hT1; cases hT1
  have hct : ct = 0 ↔ F = 0 := by rw [hT4.zero, vf]; omega
  have hTn : LW T ct (sn od * F) := ⟨hT4.1, by rw [hT4.2.1, vf, s1]; rfl, hT4.2.2⟩
  have hlT := hI.2.2 pf hpf
  have hTl := hT4.1
  have hgx : X = Nat.gcd x0 y0 := by rw [← hgc, hY0, Nat.gcd_zero_right]
  show jj G kU_run (d + 5) Q rc rs 128 [some (.ref eu), (o1), (o2), some (.int (nI (fl))), some (.int (nI (i)))] [] M
  refine jj_aload_n (pc := 128) kU_run_d128 rfl ?_
  refine jj_getf (pc := 129) kU_run_d129 (kfU_factor hG) hE rfl ?_
  refine jj_aload_n (pc := 132) kU_run_d132 rfl ?_
  refine jj_getf (pc := 133) kU_run_d133 (kfU_odd hG) hE rfl ?_
  refine jn_if_eq (pc := 136) (tgt := 153) kU_run_d136 (by decide) (by omega) (fun c1 => ?_) (fun c1 => ?_)
  · skip
    refine jn_iconst (pc := 153) 0 kU_run_d153 (by decide) ?_
    refine jn_top (.int (sg (sn od * F))) (by rw [s5 c1]; rfl) ?_
    refine jj_putf (pc := 154) kU_run_d154 (kpU_W_below hG) hT1 (sg_narrow _) (sg_fits _) ?_
    refine jn_gen (fun M101 hM102 => ?_)
    have h103 : M101 eu = some (.inl nU, [.ref (wa px), .ref (wa pf), .ref (wa py), .ref (wa po), .ref (wa ps), .ref dv, .int (nI (od)), .long (a), .long (b), .long (c), .long (d9)]) := by rw [hM102, jj_up_ne _ _ (Ne.symm nE)]; exact hE
    have h104 : M101 (wa pf) = some (.inl nW, [.ref (la pf), .int (nI (ct)), .int (sg (sn od * F))]) := by rw [hM102]; exact jj_up_at _ _ _
    have hWT : WT M M101 wa la pf := fun z h1 h2 => by rw [hM102, jj_up_ne _ _ h1]
    have hlT2 : M101 (la pf) = some (.inr 0, T.map .int) := by rw [hM102, jj_up_ne _ _ (fun e => by rw [e, hT1] at hT2; cases hT2)]; exact hT2
    have hcw := hc.put hI hpf ⟨T, ct, h104, hlT2, hT3, hTn⟩ hWT
    have hdv9 := hdv.wt hc hdi hpf hWT
    exact jj_vret (pc := 157) kU_run_d157 rfl (k M101 _ r px pf py po ps od hcw (fun p hp => by rw [vup_ne _ _ (by omega)]; exact hold p hp) ⟨⟨b_q, b_r, b_px, b_pf, b_py, b_po, b_ps, d_q_r, d_q_px, d_q_pf, d_q_py, d_q_po, d_q_ps, d_r_px, d_r_pf, d_r_py, d_r_po, d_r_ps, d_px_pf, d_px_py, d_px_po, d_px_ps, d_pf_py, d_pf_po, d_pf_ps, d_py_po, d_py_ps, d_po_ps⟩, hdv9, ho, a, b, c, d9, h103⟩ (by rw [vup_ne _ _ d_px_pf, vx, hgx]) (fun h1 => by
      obtain ⟨_, _, f3, _, m, n, f5, _⟩ := hFI h1
      rw [vup_at, vup_ne _ _ d_px_pf, vx, s1]
      exact ⟨f3, m, by rw [f5, Int.mul_assoc]⟩) (hfr.trans (hWT.ef hpf)))
  · skip
    refine jj_aload_n (pc := 139) kU_run_d139 rfl ?_
    refine jj_getf (pc := 140) kU_run_d140 (kfU_factor hG) hE rfl ?_
    refine jj_getf (pc := 143) kU_run_d143 (kfU_W_count hG) hT1 rfl ?_
    refine jn_if_le (pc := 146) (tgt := 153) kU_run_d146 (by decide) (by omega) (fun c2 => ?_) (fun c2 => ?_)
    · skip
      refine jn_iconst (pc := 153) 0 kU_run_d153 (by decide) ?_
      refine jn_top (.int (sg (sn od * F))) (by rw [s4 (by omega)]; rfl) ?_
      refine jj_putf (pc := 154) kU_run_d154 (kpU_W_below hG) hT1 (sg_narrow _) (sg_fits _) ?_
      refine jn_gen (fun M105 hM106 => ?_)
      have h107 : M105 eu = some (.inl nU, [.ref (wa px), .ref (wa pf), .ref (wa py), .ref (wa po), .ref (wa ps), .ref dv, .int (nI (od)), .long (a), .long (b), .long (c), .long (d9)]) := by rw [hM106, jj_up_ne _ _ (Ne.symm nE)]; exact hE
      have h108 : M105 (wa pf) = some (.inl nW, [.ref (la pf), .int (nI (ct)), .int (sg (sn od * F))]) := by rw [hM106]; exact jj_up_at _ _ _
      have hWT : WT M M105 wa la pf := fun z h1 h2 => by rw [hM106, jj_up_ne _ _ h1]
      have hlT2 : M105 (la pf) = some (.inr 0, T.map .int) := by rw [hM106, jj_up_ne _ _ (fun e => by rw [e, hT1] at hT2; cases hT2)]; exact hT2
      have hcw := hc.put hI hpf ⟨T, ct, h108, hlT2, hT3, hTn⟩ hWT
      have hdv9 := hdv.wt hc hdi hpf hWT
      exact jj_vret (pc := 157) kU_run_d157 rfl (k M105 _ r px pf py po ps od hcw (fun p hp => by rw [vup_ne _ _ (by omega)]; exact hold p hp) ⟨⟨b_q, b_r, b_px, b_pf, b_py, b_po, b_ps, d_q_r, d_q_px, d_q_pf, d_q_py, d_q_po, d_q_ps, d_r_px, d_r_pf, d_r_py, d_r_po, d_r_ps, d_px_pf, d_px_py, d_px_po, d_px_ps, d_pf_py, d_pf_po, d_pf_ps, d_py_po, d_py_ps, d_po_ps⟩, hdv9, ho, a, b, c, d9, h107⟩ (by rw [vup_ne _ _ d_px_pf, vx, hgx]) (fun h1 => by
        obtain ⟨_, _, f3, _, m, n, f5, _⟩ := hFI h1
        rw [vup_at, vup_ne _ _ d_px_pf, vx, s1]
        exact ⟨f3, m, by rw [f5, Int.mul_assoc]⟩) (hfr.trans (hWT.ef hpf)))
    · skip
      refine jn_iconst (pc := 149) 1 kU_run_d149 (by decide) ?_
      refine jj_goto (pc := 150) (tgt := 154) kU_run_d150 (by decide) ?_
      refine jn_top (.int (sg (sn od * F))) (by rw [s3 (by omega) (by omega)]; rfl) ?_
      refine jj_putf (pc := 154) kU_run_d154 (kpU_W_below hG) hT1 (sg_narrow _) (sg_fits _) ?_
      refine jn_gen (fun M109 hM110 => ?_)
      have h111 : M109 eu = some (.inl nU, [.ref (wa px), .ref (wa pf), .ref (wa py), .ref (wa po), .ref (wa ps), .ref dv, .int (nI (od)), .long (a), .long (b), .long (c), .long (d9)]) := by rw [hM110, jj_up_ne _ _ (Ne.symm nE)]; exact hE
      have h112 : M109 (wa pf) = some (.inl nW, [.ref (la pf), .int (nI (ct)), .int (sg (sn od * F))]) := by rw [hM110]; exact jj_up_at _ _ _
      have hWT : WT M M109 wa la pf := fun z h1 h2 => by rw [hM110, jj_up_ne _ _ h1]
      have hlT2 : M109 (la pf) = some (.inr 0, T.map .int) := by rw [hM110, jj_up_ne _ _ (fun e => by rw [e, hT1] at hT2; cases hT2)]; exact hT2
      have hcw := hc.put hI hpf ⟨T, ct, h112, hlT2, hT3, hTn⟩ hWT
      have hdv9 := hdv.wt hc hdi hpf hWT
      exact jj_vret (pc := 157) kU_run_d157 rfl (k M109 _ r px pf py po ps od hcw (fun p hp => by rw [vup_ne _ _ (by omega)]; exact hold p hp) ⟨⟨b_q, b_r, b_px, b_pf, b_py, b_po, b_ps, d_q_r, d_q_px, d_q_pf, d_q_py, d_q_po, d_q_ps, d_r_px, d_r_pf, d_r_py, d_r_po, d_r_ps, d_px_pf, d_px_py, d_px_po, d_px_ps, d_pf_py, d_pf_po, d_pf_ps, d_py_po, d_py_ps, d_po_ps⟩, hdv9, ho, a, b, c, d9, h111⟩ (by rw [vup_ne _ _ d_px_pf, vx, hgx]) (fun h1 => by
        obtain ⟨_, _, f3, _, m, n, f5, _⟩ := hFI h1
        rw [vup_at, vup_ne _ _ d_px_pf, vx, s1]
        exact ⟨f3, m, by rw [f5, Int.mul_assoc]⟩) (hfr.trans (hWT.ef hpf)))
theorem u_runL {eu dv hi lo fl x0 y0 : Nat} {V0 : Nat → Int} {M0 : mheap} {o1 o2 : Option Value} {q : Nat} (hG : kG G) (hI : CI wa la cap N) (hN : 7 ≤ N) (hcap : ∀ p, p < 7 → cap p = 252) (hdi : DJI la N hi lo) (hfl : fl ≤ 1) (hy251 : fl = 1 → lc (y0 : Nat) ≤ 251) (hq7 : q < 7) (k : ∀ (M' : mheap) (V' : Nat → Int) (r px pf py po ps od : Nat), CW M' wa la cap N V' → (∀ p, 7 ≤ p → V' p = V0 p) → US M' wa eu dv hi lo q r px pf py po ps od → V' px = (Nat.gcd x0 y0 : Nat) → (fl = 1 → (V' pf).natAbs ≤ max 1 y0 ∧ ∃ m : Int, V' px = V' pf * x0 + m * y0) → EF M0 M' wa la N eu dv hi lo → Q (.returned none) M' rc rs) : ∀ (mu i : Nat), i + mu ≤ 20000 → ∀ (M : mheap) (V : Nat → Int) (r px pf py po ps od X Y F Fo : Nat), CW M wa la cap N V → US M wa eu dv hi lo q r px pf py po ps od → RI7 V V0 px pf py po od fl x0 y0 X Y F Fo → EF M0 M wa la N eu dv hi lo → X * Y < 2 ^ mu → jj G kU_run (d + 5) Q rc rs 72 [some (.ref eu), (o1), (o2), some (.int (nI (fl))), some (.int (nI (i)))] [] M := by
  intro mu
  induction mu with
  | zero =>
    intro i hmi M V r px pf py po ps od X Y F Fo hc hU hR hfr hmu
    obtain ⟨⟨b_q, b_r, b_px, b_pf, b_py, b_po, b_ps, d_q_r, d_q_px, d_q_pf, d_q_py, d_q_po, d_q_ps, d_r_px, d_r_pf, d_r_py, d_r_po, d_r_ps, d_px_pf, d_px_py, d_px_po, d_px_ps, d_pf_py, d_pf_po, d_pf_ps, d_py_po, d_py_ps, d_po_ps⟩, hdv, ho, a, b, c, d9, hE⟩ := id hU
    obtain ⟨hold, vx, vy, vf, vo, hyx, hxl, hgc, hFI⟩ := id hR
    have hpx : px < N := by omega
    have hpy : py < N := by omega
    have hpf : pf < N := by omega
    have hpo : po < N := by omega
    have hps : ps < N := by omega
    have hqN : q < N := by omega
    have hrN : r < N := by omega
    obtain ⟨B, cb, hB1, hB2, hB3, hB4⟩ := hc py hpy
    have hlB := hI.2.2 py hpy
    have hBl := hB4.1
    have hcb : cb = 0 ↔ Y = 0 := by rw [hB4.zero, vy]; omega
    have hY0 : Y = 0 := by
      have h1 : X * Y = 0 := by rw [Nat.pow_zero] at hmu; omega
      rcases Nat.mul_eq_zero.mp h1 with e | e
      · omega
      · exact e
    show jj G kU_run (d + 5) Q rc rs 72 [some (.ref eu), (o1), (o2), some (.int (nI (fl))), some (.int (nI (i)))] [] M
    refine jj_iload (pc := 72) kU_run_d72 rfl ?_
    refine jj_ldc (pc := 74) kU_run_d74 (kcU_1000000 hG) ?_
    refine jn_top (.int (nI (1000000))) (rfl) ?_
    refine jn_icmp_ge (pc := 76) (tgt := 128) kU_run_d76 (by decide) (by omega) (by omega) (fun c => by exfalso; omega) (fun _ => ?_)
    refine jj_aload_n (pc := 79) kU_run_d79 rfl ?_
    refine jj_getf (pc := 80) kU_run_d80 (kfU_y hG) hE rfl ?_
    refine jj_getf (pc := 83) kU_run_d83 (kfU_W_count hG) hB1 rfl ?_
    refine jn_if_le (pc := 86) (tgt := 128) kU_run_d86 (by decide) (by omega) (fun _ => ?_) (fun c => by exfalso; omega)
    exact u_runE hG hI hc hN hcap hdi hU hR hfr hY0 k
  | succ mu ih =>
    intro i hmi M V r px pf py po ps od X Y F Fo hc hU hR hfr hmu
    obtain ⟨⟨b_q, b_r, b_px, b_pf, b_py, b_po, b_ps, d_q_r, d_q_px, d_q_pf, d_q_py, d_q_po, d_q_ps, d_r_px, d_r_pf, d_r_py, d_r_po, d_r_ps, d_px_pf, d_px_py, d_px_po, d_px_ps, d_pf_py, d_pf_po, d_pf_ps, d_py_po, d_py_ps, d_po_ps⟩, hdv, ho, a, b, c, d9, hE⟩ := id hU
    obtain ⟨hold, vx, vy, vf, vo, hyx, hxl, hgc, hFI⟩ := id hR
    have hpx : px < N := by omega
    have hpy : py < N := by omega
    have hpf : pf < N := by omega
    have hpo : po < N := by omega
    have hps : ps < N := by omega
    have hqN : q < N := by omega
    have hrN : r < N := by omega
    obtain ⟨B, cb, hB1, hB2, hB3, hB4⟩ := hc py hpy
    have hlB := hI.2.2 py hpy
    have hBl := hB4.1
    have hcb : cb = 0 ↔ Y = 0 := by rw [hB4.zero, vy]; omega
    show jj G kU_run (d + 5) Q rc rs 72 [some (.ref eu), (o1), (o2), some (.int (nI (fl))), some (.int (nI (i)))] [] M
    refine jj_iload (pc := 72) kU_run_d72 rfl ?_
    refine jj_ldc (pc := 74) kU_run_d74 (kcU_1000000 hG) ?_
    refine jn_top (.int (nI (1000000))) (rfl) ?_
    refine jn_icmp_ge (pc := 76) (tgt := 128) kU_run_d76 (by decide) (by omega) (by omega) (fun c => by exfalso; omega) (fun _ => ?_)
    refine jj_aload_n (pc := 79) kU_run_d79 rfl ?_
    refine jj_getf (pc := 80) kU_run_d80 (kfU_y hG) hE rfl ?_
    refine jj_getf (pc := 83) kU_run_d83 (kfU_W_count hG) hB1 rfl ?_
    refine jn_if_le (pc := 86) (tgt := 128) kU_run_d86 (by decide) (by omega) (fun c0 => ?_) (fun c0 => ?_)
    · skip
      exact u_runE hG hI hc hN hcap hdi hU hR hfr (by omega) k
    · skip
      have hYp : 0 < Y := by omega
      have nEw : ∀ p, p < N → wa p ≠ eu := fun p hp e => by obtain ⟨D9, c9, h91, _, _⟩ := hc p hp; rw [e, hE] at h91; cases h91
      have nEl : ∀ p, p < N → la p ≠ eu := fun p hp e => by obtain ⟨D9, c9, _, h92, _⟩ := hc p hp; rw [e, hE] at h92; cases h92
      have nxa : (V px).natAbs = X := by rw [vx]; rfl
      have nya : (V py).natAbs = Y := by rw [vy]; rfl
      have nfa : (V pf).natAbs = F := by rw [vf]; rfl
      have noa : (V po).natAbs = Fo := by rw [vo]; rfl
      refine jj_aload_n (pc := 89) kU_run_d89 rfl ?_
      refine jj_callV (pc := 90) (b := eu) (As := []) kU_run_d90 (kvU_U_guessSteps hG) (kG_cl hG rfl) rfl hE rfl rfl rfl (Nat.le_of_ble_eq_true rfl) (Nat.le_of_ble_eq_true rfl) (jj_bare0 rfl) ?_
      refine u_guess hG hI hc hE ho hpx hpy (by rw [nxa, nya]; exact hyx) (by rw [vx]; exact hxl) (fun M1 kk X1 Y1 o1' a1 b1 c1 d1 hLM hSB ho1 hX1 hE1 hf1 => ?_)
      show jj G kU_run (d + 5) Q rc rs 93 [some (.ref eu), (o1), (o2), some (.int (nI (fl))), some (.int (nI (i)))] [] M1
      rw [nxa, nya] at hLM
      rw [nxa] at hX1
      have hc1 : CW M1 wa la cap N V := hc.kept (fun p hp => ⟨hf1 _ (nEw p hp), hf1 _ (nEl p hp)⟩)
      obtain ⟨hD, ⟨H9, hH9, lH9⟩, L9, hL9, lL9⟩ := id hdv
      have neh : hi ≠ eu := fun e => by rw [e, hE] at hH9; cases hH9
      have nel : lo ≠ eu := fun e => by rw [e, hE] at hL9; cases hL9
      have ned : dv ≠ eu := fun e => by rw [e, hE] at hD; cases hD
      have hdv1 : DV M1 wa dv hi lo q r := ⟨(hf1 dv ned).trans hD, ⟨H9, (hf1 hi neh).trans hH9, lH9⟩, L9, (hf1 lo nel).trans hL9, lL9⟩
      have hfr1 : EF M0 M1 wa la N eu dv hi lo := hfr.trans (fun x _ _ _ h4 _ => hf1 x h4)
      obtain ⟨sb1, sb2, sb3, sb4, _⟩ := id hSB
      have hb0 : lZ b1 = lN 0 ↔ b1 = 0 := ⟨fun e => by have q9 := congrArg Int64.toInt e; rw [lZ_toInt (by omega) (by omega), show (lN 0).toInt = 0 from rfl] at q9; exact q9, fun e => by rw [e]; rfl⟩
      refine jj_aload_n (pc := 93) kU_run_d93 rfl ?_
      refine jj_getf (pc := 94) kU_run_d94 (kfU_b hG) hE1 rfl ?_
      refine jj_lconst (pc := 97) (v := lN 0) kU_run_d97 (by decide) ?_
      refine jj_lcmp (pc := 98) kU_run_d98 ?_
      refine jj_if_ne (pc := 99) (tgt := 110) kU_run_d99 (by decide) (fun c2 => ?_) (fun c2 => ?_)
      · skip
        rw [lg_cmp_eq, hb0] at c2
        have hkk := hLM.2.2.2.2.2.1.mpr c2
        obtain ⟨k', ek⟩ : ∃ k', kk = k' + 1 := ⟨kk - 1, by omega⟩
        subst ek
        obtain ⟨L1, L2, L3, L4, L5, L6, L7⟩ := id hLM
        have hL4 := L4 F Fo
        obtain ⟨hf2, hyx1⟩ := hL4.half hyx
        have hgc1 := hL4.gcd.trans hgc
        refine jj_aload_n (pc := 110) kU_run_d110 rfl ?_
        refine jj_callV (pc := 111) (b := eu) (As := []) kU_run_d111 (kvU_U_applySteps hG) (kG_cl hG rfl) rfl hE1 rfl rfl rfl (Nat.le_of_ble_eq_true rfl) (Nat.le_of_ble_eq_true rfl) (jj_bare0 rfl) ?_
        refine u_apply (X := X1) (Y := Y1) hG hI hc1 hE1 hpx hpy d_px_py (by rw [vx]; omega) (by rw [vy]; omega) (by rw [nxa, nya]; exact hyx) (by rw [vx, hcap py b_py]; exact hxl) hSB L3 (by rw [nxa, nya]; exact L1) (by rw [nxa, nya]; exact L2) (by rw [nxa]; exact hX1) (by rw [nxa]; omega) (fun M2 hc2 hE2 hf2' => ?_)
        show jj G kU_run (d + 5) Q rc rs 114 [some (.ref eu), (o1), (o2), some (.int (nI (fl))), some (.int (nI (i)))] [] M2
        have hEh : ∃ H : List Int32, M1 hi = some (.inr 0, H.map .int) := ⟨_, hdv1.2.1.choose_spec.1⟩
        have hw2 : ∀ x, (∀ p, p < N → x ≠ wa p ∧ x ≠ la p) → M2 x = M1 x := fun x hx => hf2' x (hx px hpx).1 (hx px hpx).2 (hx py hpy).1 (hx py hpy).2
        have nhp : ∀ p, p < N → hi ≠ wa p ∧ hi ≠ la p := fun p hp => ⟨fun e => (by obtain ⟨D8, c8, h81, _, _⟩ := hc p hp; rw [← e, hH9] at h81; cases h81), Ne.symm (hdi.2 p hp).1⟩
        have nlp : ∀ p, p < N → lo ≠ wa p ∧ lo ≠ la p := fun p hp => ⟨fun e => (by obtain ⟨D8, c8, h81, _, _⟩ := hc p hp; rw [← e, hL9] at h81; cases h81), Ne.symm (hdi.2 p hp).2⟩
        have ndp : ∀ p, p < N → dv ≠ wa p ∧ dv ≠ la p := fun p hp => ⟨fun e => (by obtain ⟨D8, c8, h81, _, _⟩ := hc p hp; rw [← e, hD] at h81; cases h81), fun e => (by obtain ⟨D8, c8, _, h82, _⟩ := hc p hp; rw [← e, hD] at h82; cases h82)⟩
        have hdv2 : DV M2 wa dv hi lo q r := ⟨(hw2 dv ndp).trans hdv1.1, ⟨H9, (hw2 hi nhp).trans ((hf1 hi neh).trans hH9), lH9⟩, L9, (hw2 lo nlp).trans ((hf1 lo nel).trans hL9), lL9⟩
        have hfr2 : EF M0 M2 wa la N eu dv hi lo := hfr1.trans (fun x h1 _ _ _ _ => hw2 x h1)
        have vf2 : vup (vup V px (X1 : Nat)) py (Y1 : Nat) pf = (F : Nat) := by rw [vup_ne _ _ d_pf_py, vup_ne _ _ (Ne.symm d_px_pf), vf]
        have vo2 : vup (vup V px (X1 : Nat)) py (Y1 : Nat) po = (Fo : Nat) := by rw [vup_ne _ _ (Ne.symm d_py_po), vup_ne _ _ (Ne.symm d_px_po), vo]
        have vx2 : vup (vup V px (X1 : Nat)) py (Y1 : Nat) px = (X1 : Nat) := by rw [vup_ne _ _ d_px_py, vup_at]
        have vy2 : vup (vup V px (X1 : Nat)) py (Y1 : Nat) py = (Y1 : Nat) := by rw [vup_at]
        have hold2 : ∀ p, 7 ≤ p → vup (vup V px (X1 : Nat)) py (Y1 : Nat) p = V0 p := fun p hp => by rw [vup_ne _ _ (by omega), vup_ne _ _ (by omega)]; exact hold p hp
        have hmu2 : X1 * Y1 < 2 ^ mu := by rw [Nat.pow_succ] at hmu; omega
        have hxl2 : lc (X1 : Nat) ≤ 252 := Nat.le_trans (lc_nat hX1) hxl
        refine jj_iload_n (pc := 114) kU_run_d114 rfl ?_
        refine jn_if_eq (pc := 115) (tgt := 122) kU_run_d115 (by decide) (by omega) (fun c3 => ?_) (fun c3 => ?_)
        · skip
          refine jn_iinc (pc := 122) (i + 1) kU_run_d122 rfl (nI_1 _) ?_
          refine jj_goto (pc := 125) (tgt := 72) kU_run_d125 (by decide) ?_
          show jj G kU_run (d + 5) Q rc rs 72 [some (.ref eu), (o1), (o2), some (.int (nI (fl))), some (.int (nI (i + 1)))] [] M2
          exact ih (i + 1) (by omega) M2 _ r px pf py po ps o1' X1 Y1 F Fo hc2 ⟨⟨b_q, b_r, b_px, b_pf, b_py, b_po, b_ps, d_q_r, d_q_px, d_q_pf, d_q_py, d_q_po, d_q_ps, d_r_px, d_r_pf, d_r_py, d_r_po, d_r_ps, d_px_pf, d_px_py, d_px_po, d_px_ps, d_pf_py, d_pf_po, d_pf_ps, d_py_po, d_py_ps, d_po_ps⟩, hdv2, ho1, _, _, _, _, hE2⟩ ⟨hold2, vx2, vy2, vf2, vo2, hyx1, hxl2, hgc1, fun h => absurd h (by omega)⟩ hfr2 hmu2
        · skip
          have hf9 : fl = 1 := by omega
          have hFI2 := (hFI hf9).eN hyx hL4
          obtain ⟨_, i1, i2, i3, _⟩ := hFI hf9
          have hy1 : 1 ≤ y0 := by
            rcases Nat.eq_zero_or_pos Fo with e | e
            · rcases Nat.eq_zero_or_pos F with e2 | e2
              · exfalso
                obtain ⟨_, _, j2, j3, _⟩ := hFI2
                have j4 := hL4
                have h0 := hFI hf9
                obtain ⟨_, k1, _, _, m, n, k5, k6⟩ := h0
                rw [e, e2] at k1
                have hy00 : y0 = 0 := by omega
                rw [e2, hy00] at k5
                have : (X : Int) = 0 := by rw [k5]; show sn od * (((0 : Nat) : Int) * x0) + m * ((0 : Nat) : Int) = 0; rw [show ((0 : Nat) : Int) = 0 from rfl, Int.zero_mul, Int.mul_zero, Int.mul_zero]; rfl
                omega
              · have := Nat.mul_le_mul e2 hYp; omega
            · have := Nat.mul_le_mul e (show 1 ≤ X by omega); omega
          have lF : lc (F : Nat) ≤ 251 := Nat.le_trans (lc_nat (by omega)) (hy251 hf9)
          have lFo : lc (Fo : Nat) ≤ 251 := Nat.le_trans (lc_nat i3) (hy251 hf9)
          refine jj_aload_n (pc := 118) kU_run_d118 rfl ?_
          refine jj_callV (pc := 119) (b := eu) (As := []) kU_run_d119 (kvU_U_applyStepsToFactors hG) (kG_cl hG rfl) rfl hE2 rfl rfl rfl (Nat.le_of_ble_eq_true rfl) (Nat.le_of_ble_eq_true rfl) (jj_bare0 rfl) ?_
          refine u_applyF hG hI hc2 hE2 hpf hpo d_pf_po (by rw [vf2]; omega) (by rw [vo2]; omega) (by rw [vf2, vo2, hcap pf b_pf]; omega) (by rw [vf2, vo2, hcap po b_po]; omega) hSB rfl rfl (fun M3 hc3 hE3 hf3' => ?_)
          show jj G kU_run (d + 5) Q rc rs 122 [some (.ref eu), (o1), (o2), some (.int (nI (fl))), some (.int (nI (i)))] [] M3
          rw [vf2, vo2, Int.natAbs_natCast, Int.natAbs_natCast] at hc3
          have hw3 : ∀ x, (∀ p, p < N → x ≠ wa p ∧ x ≠ la p) → M3 x = M2 x := fun x hx => hf3' x (hx pf hpf).1 (hx pf hpf).2 (hx po hpo).1 (hx po hpo).2
          have hdv3 : DV M3 wa dv hi lo q r := ⟨(hw3 dv ndp).trans hdv2.1, ⟨H9, (hw3 hi nhp).trans ((hw2 hi nhp).trans ((hf1 hi neh).trans hH9)), lH9⟩, L9, (hw3 lo nlp).trans ((hw2 lo nlp).trans ((hf1 lo nel).trans hL9)), lL9⟩
          have hfr3 : EF M0 M3 wa la N eu dv hi lo := hfr2.trans (fun x h1 _ _ _ _ => hw3 x h1)
          refine jn_iinc (pc := 122) (i + 1) kU_run_d122 rfl (nI_1 _) ?_
          refine jj_goto (pc := 125) (tgt := 72) kU_run_d125 (by decide) ?_
          show jj G kU_run (d + 5) Q rc rs 72 [some (.ref eu), (o1), (o2), some (.int (nI (fl))), some (.int (nI (i + 1)))] [] M3
          exact ih (i + 1) (by omega) M3 _ r px pf py po ps o1' X1 Y1 _ _ hc3 ⟨⟨b_q, b_r, b_px, b_pf, b_py, b_po, b_ps, d_q_r, d_q_px, d_q_pf, d_q_py, d_q_po, d_q_ps, d_r_px, d_r_pf, d_r_py, d_r_po, d_r_ps, d_px_pf, d_px_py, d_px_po, d_px_ps, d_pf_py, d_pf_po, d_pf_ps, d_py_po, d_py_ps, d_po_ps⟩, hdv3, ho1, _, _, _, _, hE3⟩ ⟨fun p hp => by rw [vup_ne _ _ (by omega), vup_ne _ _ (by omega)]; exact hold2 p hp, by rw [vup_ne _ _ d_px_po, vup_ne _ _ d_px_pf]; exact vx2, by rw [vup_ne _ _ d_py_po, vup_ne _ _ (Ne.symm d_pf_py)]; exact vy2, by rw [vup_ne _ _ d_pf_po, vup_at], by rw [vup_at], hyx1, hxl2, hgc1, fun _ => hFI2⟩ hfr3 hmu2
      · skip
        rw [lg_cmp_eq, hb0] at c2
        have hkk : kk = 0 := by
          rcases Nat.eq_zero_or_pos kk with e | e
          · exact e
          · exact absurd c2 (hLM.2.2.2.2.2.1.mp e)
        subst hkk
        obtain ⟨_, _, _, _, eo1⟩ := eN_z.mp (hLM.2.2.2.1 0 0)
        subst eo1
        have hst : e1 X Y F Fo o1' Y (X % Y) Fo (X / Y * Fo + F) (1 - o1') := ⟨hYp, rfl, rfl, rfl, rfl, rfl⟩
        obtain ⟨hf2, hyx1⟩ := hst.half hyx
        have hgc1 := (gcd_e1 hst).trans hgc
        have hmu2 : Y * (X % Y) < 2 ^ mu := by rw [Nat.pow_succ] at hmu; omega
        have hxl2 : lc (Y : Nat) ≤ 252 := Nat.le_trans (lc_nat hyx) hxl
        have etd : (V px).tdiv (V py) = ((X / Y : Nat) : Int) := by rw [vx, vy]; exact nat_tdiv X Y
        have etm : (V px).tmod (V py) = ((X % Y : Nat) : Int) := by rw [vx, vy]; exact nat_tmod X Y
        have hFF : fl = 1 → lc ((V px).tdiv (V py)) + lc (V po) ≤ 252 ∧ lc ((V px).tdiv (V py) * V po) + 1 ≤ 252 ∧ lc (V pf) + 1 ≤ 252 := fun hf9 => by
          obtain ⟨_, i1, i2, i3, _⟩ := hFI hf9
          obtain ⟨_, _, _, j3, _⟩ := (hFI hf9).e1 hyx hst
          have hy251' := hy251 hf9
          rw [etd, vo, vf]
          have hQF : X / Y * Fo ≤ y0 := by omega
          have l1 : lc (((X / Y : Nat) : Int) * ((Fo : Nat) : Int)) ≤ lc ((y0 : Nat) : Int) := lc_mono (by rw [← Int.natCast_mul]; exact hQF)
          have hXl : lc (((X / Y : Nat) : Int)) ≤ 252 := Nat.le_trans (lc_nat (Nat.div_le_self X Y)) hxl
          have lF : lc ((F : Nat) : Int) ≤ 251 := by
            rcases Nat.eq_zero_or_pos y0 with e | e
            · have : F ≤ 1 := by omega
              exact Nat.le_trans (lc_nat this) (by decide)
            · exact Nat.le_trans (lc_nat (show F ≤ y0 by omega)) hy251'
          refine ⟨?_, by omega, by omega⟩
          by_cases e : Fo = 0
          · rw [e]; show _ + 0 ≤ 252; omega
          · have hq1 : 1 ≤ X / Y := (Nat.le_div_iff_mul_le hYp).mpr (by omega)
            have := lc_prod (a := ((X / Y : Nat) : Int)) (b := ((Fo : Nat) : Int)) (by omega) (by omega)
            omega
        refine jj_aload_n (pc := 102) kU_run_d102 rfl ?_
        refine jj_iload_n (pc := 103) kU_run_d103 rfl ?_
        refine jj_callV (pc := 104) (b := eu) (As := [.int (nI (fl))]) kU_run_d104 (kvU_U_divideOnce hG) (kG_cl hG rfl) rfl hE1 rfl rfl rfl (Nat.le_of_ble_eq_true rfl) (Nat.le_of_ble_eq_true rfl) (jj_bare0 rfl) ?_
        refine u_divideOnce hG hI hc1 hE1 ho hdv1 hdi hfl hqN hrN hpx hpy hpf hpo hps d_q_r d_q_px d_q_py d_r_px d_r_py (Ne.symm d_q_ps) (Ne.symm d_po_ps) (Ne.symm d_pf_ps) d_q_po d_r_po d_q_pf d_r_pf d_r_ps (by rw [vx]; exact hxl) (hcap q b_q) (hcap r b_r) (hcap ps b_ps) hFF (fun hf0 M2 hc2 hE2 hdv2 hfr2 => ?_) (fun hf0 M2 hc2 hE2 hdv2 hfr2 => ?_)
        · skip
          rw [etd, etm] at hc2
          show jj G kU_run (d + 5) Q rc rs 107 [some (.ref eu), (o1), (o2), some (.int (nI (fl))), some (.int (nI (i)))] [] M2
          refine jj_goto (pc := 107) (tgt := 122) kU_run_d107 (by decide) ?_
          refine jn_iinc (pc := 122) (i + 1) kU_run_d122 rfl (nI_1 _) ?_
          refine jj_goto (pc := 125) (tgt := 72) kU_run_d125 (by decide) ?_
          show jj G kU_run (d + 5) Q rc rs 72 [some (.ref eu), (o1), (o2), some (.int (nI (fl))), some (.int (nI (i + 1)))] [] M2
          exact ih (i + 1) (by omega) M2 _ px py pf r po ps (1 - o1') Y (X % Y) F Fo hc2 ⟨⟨b_q, b_px, b_py, b_pf, b_r, b_po, b_ps, d_q_px, d_q_py, d_q_pf, d_q_r, d_q_po, d_q_ps, d_px_py, d_px_pf, (Ne.symm d_r_px), d_px_po, d_px_ps, (Ne.symm d_pf_py), (Ne.symm d_r_py), d_py_po, d_py_ps, (Ne.symm d_r_pf), d_pf_po, d_pf_ps, d_r_po, d_r_ps, d_po_ps⟩, hdv2, by omega, _, _, _, _, hE2⟩ ⟨fun p hp => by rw [vup_ne _ _ (by omega), vup_ne _ _ (by omega)]; exact hold p hp, by rw [vup_ne _ _ (Ne.symm d_r_py), vup_ne _ _ (Ne.symm d_q_py), vy], by rw [vup_at], by rw [vup_ne _ _ (Ne.symm d_r_pf), vup_ne _ _ (Ne.symm d_q_pf), vf], by rw [vup_ne _ _ (Ne.symm d_r_po), vup_ne _ _ (Ne.symm d_q_po), vo], hyx1, hxl2, hgc1, fun h => absurd h (by omega)⟩ (hfr1.trans hfr2) hmu2
        · skip
          rw [etd, etm, vo, vf] at hc2
          show jj G kU_run (d + 5) Q rc rs 107 [some (.ref eu), (o1), (o2), some (.int (nI (fl))), some (.int (nI (i)))] [] M2
          refine jj_goto (pc := 107) (tgt := 122) kU_run_d107 (by decide) ?_
          refine jn_iinc (pc := 122) (i + 1) kU_run_d122 rfl (nI_1 _) ?_
          refine jj_goto (pc := 125) (tgt := 72) kU_run_d125 (by decide) ?_
          show jj G kU_run (d + 5) Q rc rs 72 [some (.ref eu), (o1), (o2), some (.int (nI (fl))), some (.int (nI (i + 1)))] [] M2
          exact ih (i + 1) (by omega) M2 _ px py po r ps pf (1 - o1') Y (X % Y) Fo (X / Y * Fo + F) hc2 ⟨⟨b_q, b_px, b_py, b_po, b_r, b_ps, b_pf, d_q_px, d_q_py, d_q_po, d_q_r, d_q_ps, d_q_pf, d_px_py, d_px_po, (Ne.symm d_r_px), d_px_ps, d_px_pf, d_py_po, (Ne.symm d_r_py), d_py_ps, (Ne.symm d_pf_py), (Ne.symm d_r_po), d_po_ps, (Ne.symm d_pf_po), d_r_ps, d_r_pf, (Ne.symm d_pf_ps)⟩, hdv2, by omega, _, _, _, _, hE2⟩ ⟨fun p hp => by rw [vup_ne _ _ (by omega), vup_ne _ _ (by omega), vup_ne _ _ (by omega)]; exact hold p hp, by rw [vup_ne _ _ d_py_ps, vup_ne _ _ (Ne.symm d_r_py), vup_ne _ _ (Ne.symm d_q_py), vy], by rw [vup_ne _ _ d_r_ps, vup_at], by rw [vup_ne _ _ d_po_ps, vup_ne _ _ (Ne.symm d_r_po), vup_ne _ _ (Ne.symm d_q_po), vo], by rw [vup_at, Int.natCast_add, Int.natCast_mul], hyx1, hxl2, hgc1, fun h9 => (hFI h9).e1 hyx hst⟩ (hfr1.trans hfr2) hmu2
theorem u_run {eu dv hi lo q r px pf py po ps od fl u v : Nat} (hG : kG G) (hI : CI wa la cap N) (hc : CW M wa la cap N V) (hN : 7 ≤ N) (hcap : ∀ p, p < 7 → cap p = 252) (hdi : DJI la N hi lo) (hU : US M wa eu dv hi lo q r px pf py po ps od) (hu7 : 7 ≤ u) (hu : u < N) (hv7 : 7 ≤ v) (hv : v < N) (hfl : fl ≤ 1) (hlu : lc (V u) ≤ 252) (hlv : lc (V v) ≤ 252) (hlf : fl = 1 → lc (V v) ≤ 251) (k : ∀ (M' : mheap) (V' : Nat → Int) (r px pf py po ps od : Nat), CW M' wa la cap N V' → (∀ p, 7 ≤ p → V' p = V p) → US M' wa eu dv hi lo q r px pf py po ps od → V' px = (Nat.gcd (V u).natAbs (V v).natAbs : Nat) → (fl = 1 → (V' pf).natAbs ≤ max 1 (V v).natAbs ∧ ∃ m : Int, V' px = V' pf * (V u).natAbs + m * (V v).natAbs) → EF M M' wa la N eu dv hi lo → Q (.returned none) M' rc rs) : jj G kU_run (d + 5) Q rc rs 0 (jj_ent [.ref eu, .ref (wa u), .ref (wa v), .int (nI fl)] 5) [] M := by
  obtain ⟨⟨b_q, b_r, b_px, b_pf, b_py, b_po, b_ps, d_q_r, d_q_px, d_q_pf, d_q_py, d_q_po, d_q_ps, d_r_px, d_r_pf, d_r_py, d_r_po, d_r_ps, d_px_pf, d_px_py, d_px_po, d_px_ps, d_pf_py, d_pf_po, d_pf_ps, d_py_po, d_py_ps, d_po_ps⟩, hdv, ho, a, b, c, d9, hE⟩ := id hU
  have hpx : px < N := by omega
  have hpy : py < N := by omega
  have hpf : pf < N := by omega
  have hpo : po < N := by omega
  obtain ⟨hD, ⟨H9, hH9, lH9⟩, L9, hL9, lL9⟩ := id hdv
  have nEw : ∀ p, p < N → eu ≠ wa p ∧ eu ≠ la p := fun p hp => ⟨fun e => (by obtain ⟨D8, c8, h81, _, _⟩ := hc p hp; rw [← e, hE] at h81; cases h81), fun e => (by obtain ⟨D8, c8, _, h82, _⟩ := hc p hp; rw [← e, hE] at h82; cases h82)⟩
  have neh : hi ≠ eu := fun e => by rw [e, hE] at hH9; cases hH9
  have nel : lo ≠ eu := fun e => by rw [e, hE] at hL9; cases hL9
  have ned : dv ≠ eu := fun e => by rw [e, hE] at hD; cases hD
  have step : ∀ (M1 M2 : mheap) (V1 V2 : Nat → Int) (t : Nat), t < 7 → CW M1 wa la cap N V1 → DV M1 wa dv hi lo q r → M1 eu = some (.inl nU, [.ref (wa px), .ref (wa pf), .ref (wa py), .ref (wa po), .ref (wa ps), .ref dv, .int (nI (od)), .long a, .long b, .long c, .long d9]) → EF M M1 wa la N eu dv hi lo → CW M2 wa la cap N V2 → WT M1 M2 wa la t → DV M2 wa dv hi lo q r ∧ M2 eu = some (.inl nU, [.ref (wa px), .ref (wa pf), .ref (wa py), .ref (wa po), .ref (wa ps), .ref dv, .int (nI (od)), .long a, .long b, .long c, .long d9]) ∧ EF M M2 wa la N eu dv hi lo := fun M1 M2 V1 V2 t ht c1 d1 e1 f1 c2 w2 => ⟨d1.wt c1 hdi (by omega) w2, (w2 eu (nEw t (by omega)).1 (nEw t (by omega)).2).trans e1, f1.trans (w2.ef (by omega))⟩
  obtain ⟨A, ca, hA1, hA2, hA3, hA4⟩ := hc px hpx
  show jj G kU_run (d + 5) Q rc rs 0 [some (.ref eu), some (.ref (wa u)), some (.ref (wa v)), some (.int (nI (fl))), none] [] M
  refine jj_aload_n (pc := 0) kU_run_d0 rfl ?_
  refine jj_getf (pc := 1) kU_run_d1 (kfU_x hG) hE rfl ?_
  refine jj_aload_n (pc := 4) kU_run_d4 rfl ?_
  refine jj_callV (pc := 5) (b := (wa px)) (As := [.ref (wa u)]) kU_run_d5 (kvU_W_copy hG) (kG_cl hG rfl) rfl hA1 rfl rfl rfl (Nat.le_of_ble_eq_true rfl) (Nat.le_of_ble_eq_true rfl) (jj_bare0 rfl) ?_
  refine w_copy hG hI hc hpx hu (by rw [hcap px b_px]; exact Nat.lt_of_lt_of_le (lc_lt _) (Nat.pow_le_pow_right (by decide) hlu)) (fun M1 hc1 hw1 => ?_)
  show jj G kU_run (d + 5) Q rc rs 8 [some (.ref eu), some (.ref (wa u)), some (.ref (wa v)), some (.int (nI (fl))), none] [] M1
  obtain ⟨hdv1, hE1, hf1⟩ := step M M1 V _ px b_px hc hdv hE (fun _ _ _ _ _ _ => rfl) hc1 hw1
  obtain ⟨B, cb, hB1, hB2, hB3, hB4⟩ := hc1 py hpy
  refine jj_aload_n (pc := 8) kU_run_d8 rfl ?_
  refine jj_getf (pc := 9) kU_run_d9 (kfU_y hG) hE1 rfl ?_
  refine jj_aload_n (pc := 12) kU_run_d12 rfl ?_
  refine jj_callV (pc := 13) (b := (wa py)) (As := [.ref (wa v)]) kU_run_d13 (kvU_W_copy hG) (kG_cl hG rfl) rfl hB1 rfl rfl rfl (Nat.le_of_ble_eq_true rfl) (Nat.le_of_ble_eq_true rfl) (jj_bare0 rfl) ?_
  refine w_copy hG hI hc1 hpy hv (by rw [hcap py b_py, vup_ne _ _ (by omega)]; exact Nat.lt_of_lt_of_le (lc_lt _) (Nat.pow_le_pow_right (by decide) hlv)) (fun M2 hc2 hw2 => ?_)
  show jj G kU_run (d + 5) Q rc rs 16 [some (.ref eu), some (.ref (wa u)), some (.ref (wa v)), some (.int (nI (fl))), none] [] M2
  rw [vup_ne _ _ (show v ≠ px by omega)] at hc2
  obtain ⟨hdv2, hE2, hf2⟩ := step M1 M2 _ _ py b_py hc1 hdv1 hE1 hf1 hc2 hw2
  obtain ⟨A2, ca2, hA21, hA22, hA23, hA24⟩ := hc2 px hpx
  rw [vup_ne _ _ d_px_py, vup_at] at hA21 hA24
  refine jj_aload_n (pc := 16) kU_run_d16 rfl ?_
  refine jj_getf (pc := 17) kU_run_d17 (kfU_x hG) hE2 rfl ?_
  refine jn_iconst (pc := 20) 0 kU_run_d20 (by decide) ?_
  refine jj_putf (pc := 21) kU_run_d21 (kpU_W_below hG) hA21 (by rfl) rfl ?_
  refine jn_gen (fun M113 hM114 => ?_)
  have h115 : M113 eu = some (.inl nU, [.ref (wa px), .ref (wa pf), .ref (wa py), .ref (wa po), .ref (wa ps), .ref dv, .int (nI (od)), .long (a), .long (b), .long (c), .long (d9)]) := by rw [hM114, jj_up_ne _ _ (nEw px hpx).1]; exact hE2
  have h116 : M113 (wa px) = some (.inl nW, [.ref (la px), .int (nI (ca2)), .int (nI (0))]) := by rw [hM114]; exact jj_up_at _ _ _
  have hw3 : WT M2 M113 wa la px := fun x h1 h2 => by rw [hM114, jj_up_ne _ _ h1]
  have hl3 : M113 (la px) = some (.inr 0, A2.map .int) := by rw [hM114, jj_up_ne _ _ (fun e => by rw [e, hA21] at hA22; cases hA22)]; exact hA22
  have hz3 : sg (((V u).natAbs : Nat) : Int) = nI 0 := sg_nonneg (by omega)
  have hk3 := h116
  rw [← hz3] at hk3
  have hc3 := hc2.put (z := (((V u).natAbs : Nat) : Int)) hI hpx ⟨A2, ca2, hk3, hl3, hA23, ⟨hA24.1, hA24.2.1.trans (Int.natAbs_natCast _).symm, hA24.2.2⟩⟩ hw3
  obtain ⟨hdv3, hE3, hf3⟩ := step M2 M113 _ _ px b_px hc2 hdv2 hE2 hf2 hc3 hw3
  obtain ⟨B2, cb2, hB21, hB22, hB23, hB24⟩ := hc3 py hpy
  rw [vup_ne _ _ (Ne.symm d_px_py), vup_at] at hB21 hB24
  refine jj_aload_n (pc := 24) kU_run_d24 rfl ?_
  refine jj_getf (pc := 25) kU_run_d25 (kfU_y hG) hE3 rfl ?_
  refine jn_iconst (pc := 28) 0 kU_run_d28 (by decide) ?_
  refine jj_putf (pc := 29) kU_run_d29 (kpU_W_below hG) hB21 (by rfl) rfl ?_
  refine jn_gen (fun M117 hM118 => ?_)
  have h119 : M117 eu = some (.inl nU, [.ref (wa px), .ref (wa pf), .ref (wa py), .ref (wa po), .ref (wa ps), .ref dv, .int (nI (od)), .long (a), .long (b), .long (c), .long (d9)]) := by rw [hM118, jj_up_ne _ _ (nEw py hpy).1]; exact hE3
  have h120 : M117 (wa py) = some (.inl nW, [.ref (la py), .int (nI (cb2)), .int (nI (0))]) := by rw [hM118]; exact jj_up_at _ _ _
  have hw4 : WT M113 M117 wa la py := fun x h1 h2 => by rw [hM118, jj_up_ne _ _ h1]
  have hl4 : M117 (la py) = some (.inr 0, B2.map .int) := by rw [hM118, jj_up_ne _ _ (fun e => by rw [e, hB21] at hB22; cases hB22)]; exact hB22
  have hz4 : sg (((V v).natAbs : Nat) : Int) = nI 0 := sg_nonneg (by omega)
  have hk4 := h120
  rw [← hz4] at hk4
  have hc4 := hc3.put (z := (((V v).natAbs : Nat) : Int)) hI hpy ⟨B2, cb2, hk4, hl4, hB23, ⟨hB24.1, hB24.2.1.trans (Int.natAbs_natCast _).symm, hB24.2.2⟩⟩ hw4
  obtain ⟨hdv4, hE4, hf4⟩ := step M113 M117 _ _ py b_py hc3 hdv3 hE3 hf3 hc4 hw4
  obtain ⟨F5, cf5, hF51, _, _⟩ := hc4 pf hpf
  refine jj_aload_n (pc := 32) kU_run_d32 rfl ?_
  refine jj_getf (pc := 33) kU_run_d33 (kfU_factor hG) hE4 rfl ?_
  refine jj_callV (pc := 36) (b := (wa pf)) (As := []) kU_run_d36 (kvU_W_putOne hG) (kG_cl hG rfl) rfl hF51 rfl rfl rfl (Nat.le_of_ble_eq_true rfl) (Nat.le_of_ble_eq_true rfl) (jj_bare0 rfl) ?_
  refine w_putOne hG hI hc4 hpf (by rw [hcap pf b_pf]; decide) (fun M5 hc5 hw5 => ?_)
  show jj G kU_run (d + 5) Q rc rs 39 [some (.ref eu), some (.ref (wa u)), some (.ref (wa v)), some (.int (nI (fl))), none] [] M5
  obtain ⟨hdv5, hE5, hf5⟩ := step M117 M5 _ _ pf b_pf hc4 hdv4 hE4 hf4 hc5 hw5
  obtain ⟨F6, cf6, hF61, _, _⟩ := hc5 po hpo
  refine jj_aload_n (pc := 39) kU_run_d39 rfl ?_
  refine jj_getf (pc := 40) kU_run_d40 (kfU_otherFactor hG) hE5 rfl ?_
  refine jj_callV (pc := 43) (b := (wa po)) (As := []) kU_run_d43 (kvU_W_putZero hG) (kG_cl hG rfl) rfl hF61 rfl rfl rfl (Nat.le_of_ble_eq_true rfl) (Nat.le_of_ble_eq_true rfl) (jj_bare0 rfl) ?_
  refine w_putZero hG hI hc5 hpo (fun M6 hc6 hw6 => ?_)
  show jj G kU_run (d + 5) Q rc rs 46 [some (.ref eu), some (.ref (wa u)), some (.ref (wa v)), some (.int (nI (fl))), none] [] M6
  obtain ⟨hdv6, hE6, hf6⟩ := step M5 M6 _ _ po b_po hc5 hdv5 hE5 hf5 hc6 hw6
  obtain ⟨xx, exx⟩ : ∃ xx, (V u).natAbs = xx := ⟨_, rfl⟩
  obtain ⟨yy, eyy⟩ : ∃ yy, (V v).natAbs = yy := ⟨_, rfl⟩
  obtain ⟨V6, hV6⟩ : ∃ V6, vup (vup (vup (vup (vup (vup V px (V u)) py (V v)) px ((V u).natAbs : Nat)) py ((V v).natAbs : Nat)) pf 1) po 0 = V6 := ⟨_, rfl⟩
  rw [hV6] at hc6
  have vx : V6 px = (xx : Nat) := by rw [← hV6, vup_ne _ _ d_px_po, vup_ne _ _ d_px_pf, vup_ne _ _ d_px_py, vup_at, exx]
  have vy : V6 py = (yy : Nat) := by rw [← hV6, vup_ne _ _ d_py_po, vup_ne _ _ (Ne.symm d_pf_py), vup_at, eyy]
  have vf : V6 pf = ((1 : Nat) : Int) := by rw [← hV6, vup_ne _ _ d_pf_po, vup_at]; rfl
  have vo : V6 po = ((0 : Nat) : Int) := by rw [← hV6, vup_at]; rfl
  have hold : ∀ p, 7 ≤ p → V6 p = V p := fun p hp => by rw [← hV6, vup_ne _ _ (by omega), vup_ne _ _ (by omega), vup_ne _ _ (by omega), vup_ne _ _ (by omega), vup_ne _ _ (by omega), vup_ne _ _ (by omega)]
  have lx : lc ((xx : Nat) : Int) ≤ 252 := by rw [← exx]; exact Nat.le_trans (lc_mono (by rw [Int.natAbs_natCast]; exact Nat.le_refl _)) hlu
  have ly : lc ((yy : Nat) : Int) ≤ 252 := by rw [← eyy]; exact Nat.le_trans (lc_mono (by rw [Int.natAbs_natCast]; exact Nat.le_refl _)) hlv
  have ly1 : fl = 1 → lc ((yy : Nat) : Int) ≤ 251 := fun h9 => by rw [← eyy]; exact Nat.le_trans (lc_mono (by rw [Int.natAbs_natCast]; exact Nat.le_refl _)) (hlf h9)
  obtain ⟨L2, hL2⟩ : ∃ L2, L2 = 252 := ⟨_, rfl⟩
  rw [← hL2] at lx ly
  have bx : xx < BB ^ L2 := Nat.lt_of_lt_of_le (by have q9 := lc_lt ((xx : Nat) : Int); rw [Int.natAbs_natCast] at q9; exact q9) (Nat.pow_le_pow_right (by decide) lx)
  have by_ : yy < BB ^ L2 := Nat.lt_of_lt_of_le (by have q9 := lc_lt ((yy : Nat) : Int); rw [Int.natAbs_natCast] at q9; exact q9) (Nat.pow_le_pow_right (by decide) ly)
  rw [exx, eyy] at k
  refine jj_aload_n (pc := 46) kU_run_d46 rfl ?_
  refine jn_iconst (pc := 47) 0 kU_run_d47 (by decide) ?_
  refine jj_putf (pc := 48) kU_run_d48 (kpU_odd hG) hE6 (by rfl) rfl ?_
  refine jn_gen (fun M121 hM122 => ?_)
  have h123 : M121 eu = some (.inl nU, [.ref (wa px), .ref (wa pf), .ref (wa py), .ref (wa po), .ref (wa ps), .ref dv, .int (nI (0)), .long (a), .long (b), .long (c), .long (d9)]) := by rw [hM122]; exact jj_up_at _ _ _
  have hf7 : ∀ x, x ≠ eu → M121 x = M6 x := fun x hx => by rw [hM122, jj_up_ne _ _ hx]
  have hc7 : CW M121 wa la cap N V6 := hc6.kept (fun p hp => ⟨hf7 _ (Ne.symm (nEw p hp).1), hf7 _ (Ne.symm (nEw p hp).2)⟩)
  have hdk : ∀ M8, (∀ x, x ≠ eu → M8 x = M6 x) → DV M8 wa dv hi lo q r := fun M8 h8 => by
    obtain ⟨g1, ⟨H6, g2, g3⟩, L6, g4, g5⟩ := id hdv6
    exact ⟨(h8 dv ned).trans g1, ⟨H6, (h8 hi neh).trans g2, g3⟩, L6, (h8 lo nel).trans g4, g5⟩
  have hek : ∀ M8, (∀ x, x ≠ eu → M8 x = M6 x) → EF M M8 wa la N eu dv hi lo := fun M8 h8 => hf6.trans (fun x _ _ _ h _ => h8 x h)
  obtain ⟨A7, ca7, hA71, _, _⟩ := hc7 px hpx
  refine jj_aload_n (pc := 51) kU_run_d51 rfl ?_
  refine jj_getf (pc := 52) kU_run_d52 (kfU_x hG) h123 rfl ?_
  refine jj_aload_n (pc := 55) kU_run_d55 rfl ?_
  refine jj_getf (pc := 56) kU_run_d56 (kfU_y hG) h123 rfl ?_
  refine jj_callV (pc := 59) (b := (wa px)) (As := [.ref (wa py)]) kU_run_d59 (kvU_W_compareSizes hG) (kG_cl hG rfl) rfl hA71 rfl rfl rfl (Nat.le_of_ble_eq_true rfl) (Nat.le_of_ble_eq_true rfl) (jj_bare0 rfl) ?_
  refine w_compareSizes hG hI hc7 hpx hpy (fun c2 => ?_) (fun c2 => ?_) (fun c2 => ?_)
  · skip
    rw [vx, vy, Int.natAbs_natCast, Int.natAbs_natCast] at c2
    show jj G kU_run (d + 5) Q rc rs 62 [some (.ref eu), some (.ref (wa u)), some (.ref (wa v)), some (.int (nI (fl))), none] [.int (-1)] M121
    refine jj_if_ge (pc := 62) (tgt := 69) kU_run_d62 (by decide) (fun c3 => absurd c3 (by decide)) (fun _ => ?_)
    refine jj_aload_n (pc := 65) kU_run_d65 rfl ?_
    refine jj_callV (pc := 66) (b := eu) (As := []) kU_run_d66 (kvU_U_exchange hG) (kG_cl hG rfl) rfl h123 rfl rfl rfl (Nat.le_of_ble_eq_true rfl) (Nat.le_of_ble_eq_true rfl) (jj_bare0 rfl) ?_
    refine u_exchange hG h123 (by omega) (fun M8 hE8 hf8 => ?_)
    show jj G kU_run (d + 5) Q rc rs 69 [some (.ref eu), some (.ref (wa u)), some (.ref (wa v)), some (.int (nI (fl))), none] [] M8
    have h8 : ∀ x, x ≠ eu → M8 x = M6 x := fun x hx => (hf8 x hx).trans (hf7 x hx)
    have hc8 : CW M8 wa la cap N V6 := hc7.kept (fun p hp => ⟨hf8 _ (Ne.symm (nEw p hp).1), hf8 _ (Ne.symm (nEw p hp).2)⟩)
    refine jn_iconst (pc := 69) 0 kU_run_d69 (by decide) ?_
    refine jj_istore (pc := 70) kU_run_d70 (Nat.le_of_ble_eq_true rfl) ?_
    show jj G kU_run (d + 5) Q rc rs 72 [some (.ref eu), some (.ref (wa u)), some (.ref (wa v)), some (.int (nI (fl))), some (.int (nI (0)))] [] M8
    show jj G kU_run (d + 5) Q rc rs 72 [some (.ref eu), some (.ref (wa u)), some (.ref (wa v)), some (.int (nI (fl))), some (.int (nI (0)))] [] M8
    exact u_runL hG hI hN hcap hdi hfl ly1 b_q k (64 * L2) 0 (by omega) M8 V6 r py po px pf ps 1 yy xx 0 1 hc8 ⟨⟨b_q, b_r, b_py, b_po, b_px, b_pf, b_ps, d_q_r, d_q_py, d_q_po, d_q_px, d_q_pf, d_q_ps, d_r_py, d_r_po, d_r_px, d_r_pf, d_r_ps, d_py_po, (Ne.symm d_px_py), (Ne.symm d_pf_py), d_py_ps, (Ne.symm d_px_po), (Ne.symm d_pf_po), d_po_ps, d_px_pf, d_px_ps, d_pf_ps⟩, hdk M8 h8, by omega, _, _, _, _, hE8⟩ ⟨hold, vy, vx, vo, vf, by omega, by omega, Nat.gcd_comm .., fun _ => FI.start2 (by omega)⟩ (hek M8 h8) (pow2_lt by_ bx)
  · skip
    rw [vx, vy, Int.natAbs_natCast, Int.natAbs_natCast] at c2
    show jj G kU_run (d + 5) Q rc rs 62 [some (.ref eu), some (.ref (wa u)), some (.ref (wa v)), some (.int (nI (fl))), none] [.int (nI (0))] M121
    refine jz_if_ge (pc := 62) (tgt := 69) (a := 0) kU_run_d62 (by decide) (zI_nat _).symm (by omega) (by omega) (fun _ => ?_) (fun c => by exfalso; omega)
    refine jn_iconst (pc := 69) 0 kU_run_d69 (by decide) ?_
    refine jj_istore (pc := 70) kU_run_d70 (Nat.le_of_ble_eq_true rfl) ?_
    show jj G kU_run (d + 5) Q rc rs 72 [some (.ref eu), some (.ref (wa u)), some (.ref (wa v)), some (.int (nI (fl))), some (.int (nI (0)))] [] M121
    show jj G kU_run (d + 5) Q rc rs 72 [some (.ref eu), some (.ref (wa u)), some (.ref (wa v)), some (.int (nI (fl))), some (.int (nI (0)))] [] M121
    exact u_runL hG hI hN hcap hdi hfl ly1 b_q k (64 * L2) 0 (by omega) M121 V6 r px pf py po ps 0 xx yy 1 0 hc7 ⟨⟨b_q, b_r, b_px, b_pf, b_py, b_po, b_ps, d_q_r, d_q_px, d_q_pf, d_q_py, d_q_po, d_q_ps, d_r_px, d_r_pf, d_r_py, d_r_po, d_r_ps, d_px_pf, d_px_py, d_px_po, d_px_ps, d_pf_py, d_pf_po, d_pf_ps, d_py_po, d_py_ps, d_po_ps⟩, hdk M121 hf7, by omega, _, _, _, _, h123⟩ ⟨hold, vx, vy, vf, vo, by omega, by omega, rfl, fun _ => FI.start⟩ (hek M121 hf7) (pow2_lt bx by_)
  · skip
    rw [vx, vy, Int.natAbs_natCast, Int.natAbs_natCast] at c2
    show jj G kU_run (d + 5) Q rc rs 62 [some (.ref eu), some (.ref (wa u)), some (.ref (wa v)), some (.int (nI (fl))), none] [.int (nI (1))] M121
    refine jz_if_ge (pc := 62) (tgt := 69) (a := 1) kU_run_d62 (by decide) (zI_nat _).symm (by omega) (by omega) (fun _ => ?_) (fun c => by exfalso; omega)
    refine jn_iconst (pc := 69) 0 kU_run_d69 (by decide) ?_
    refine jj_istore (pc := 70) kU_run_d70 (Nat.le_of_ble_eq_true rfl) ?_
    show jj G kU_run (d + 5) Q rc rs 72 [some (.ref eu), some (.ref (wa u)), some (.ref (wa v)), some (.int (nI (fl))), some (.int (nI (0)))] [] M121
    show jj G kU_run (d + 5) Q rc rs 72 [some (.ref eu), some (.ref (wa u)), some (.ref (wa v)), some (.int (nI (fl))), some (.int (nI (0)))] [] M121
    exact u_runL hG hI hN hcap hdi hfl ly1 b_q k (64 * L2) 0 (by omega) M121 V6 r px pf py po ps 0 xx yy 1 0 hc7 ⟨⟨b_q, b_r, b_px, b_pf, b_py, b_po, b_ps, d_q_r, d_q_px, d_q_pf, d_q_py, d_q_po, d_q_ps, d_r_px, d_r_pf, d_r_py, d_r_po, d_r_ps, d_px_pf, d_px_py, d_px_po, d_px_ps, d_pf_py, d_pf_po, d_pf_ps, d_py_po, d_py_ps, d_po_ps⟩, hdk M121 hf7, by omega, _, _, _, _, h123⟩ ⟨hold, vx, vy, vf, vo, by omega, by omega, rfl, fun _ => FI.start⟩ (hek M121 hf7) (pow2_lt bx by_)
end U5
