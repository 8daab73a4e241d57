/-! ===== Euclid: what the steps keep; exchange, divideOnce (printed by wip/gen/rU4.py) ===== -/
theorem e1.half {x y f g o x' y' f' g' o' : Nat} (h : e1 x y f g o x' y' f' g' o') (hyx : y ≤ x) : 2 * (x' * y') ≤ x * y ∧ y' ≤ x' := by
  obtain ⟨h1, h2, h3, _⟩ := h
  have e := Nat.mod_add_div' x y
  have l := Nat.mod_lt x h1
  have hq : 1 ≤ x / y := (Nat.le_div_iff_mul_le h1).mpr (by omega)
  have hq2 := Nat.mul_le_mul_right y hq
  refine ⟨?_, by omega⟩
  rw [h2, h3, Nat.mul_left_comm, Nat.mul_comm x y]
  exact Nat.mul_le_mul_left y (by omega)
theorem eN.le {x y f g o : Nat} (hyx : y ≤ x) : ∀ {k x' y' f' g' o' : Nat}, eN k x y f g o x' y' f' g' o' → x' * y' ≤ x * y ∧ y' ≤ x' := by
  intro k
  induction k with
  | zero => intro x' y' f' g' o' h; obtain ⟨a, b, _⟩ := eN_z.mp h; rw [a, b]; exact ⟨Nat.le_refl _, hyx⟩
  | succ k ih =>
    intro x' y' f' g' o' h
    obtain ⟨x1, y1, f1, g1, o1, h1, h2⟩ := eN_s.mp h
    obtain ⟨a, b⟩ := ih h1
    obtain ⟨c, d⟩ := h2.half b
    exact ⟨by omega, d⟩
theorem eN.half {x y f g o k x' y' f' g' o' : Nat} (hyx : y ≤ x) (h : eN (k + 1) x y f g o x' y' f' g' o') : 2 * (x' * y') ≤ x * y ∧ y' ≤ x' := by
  obtain ⟨x1, y1, f1, g1, o1, h1, h2⟩ := eN_s.mp h
  obtain ⟨a, b⟩ := h1.le hyx
  obtain ⟨c, d⟩ := h2.half b
  exact ⟨by omega, d⟩
def sn (o : Nat) : Int := if o = 0 then 1 else -1
theorem sn_1 {o : Nat} (h : o ≤ 1) : sn (1 - o) = -sn o := by
  rcases (show o = 0 ∨ o = 1 by omega) with e | e <;> rw [e] <;> rfl
/-- gcd, factors and signs of two numbers that came from x0 and y0 -/
def FI (x0 y0 x y f g o : Nat) : Prop := o ≤ 1 ∧ f * y + g * x = y0 ∧ f ≤ max 1 y0 ∧ g ≤ y0 ∧ ∃ m n : Int, (x : Int) = sn o * (f * x0) + m * y0 ∧ (y : Int) = -sn o * (g * x0) + n * y0
theorem gcd_e1 {x y f g o x' y' f' g' o' : Nat} (h : e1 x y f g o x' y' f' g' o') : Nat.gcd x' y' = Nat.gcd x y := by
  obtain ⟨_, h2, h3, _⟩ := h
  rw [h2, h3, Nat.gcd_comm x y, Nat.gcd_rec y x, Nat.gcd_comm]
theorem eN.gcd {x y f g o : Nat} : ∀ {k x' y' f' g' o' : Nat}, eN k x y f g o x' y' f' g' o' → Nat.gcd x' y' = Nat.gcd x y := by
  intro k
  induction k with
  | zero => intro x' y' f' g' o' h; obtain ⟨a, b, _⟩ := eN_z.mp h; rw [a, b]
  | succ k ih =>
    intro x' y' f' g' o' h
    obtain ⟨x1, y1, f1, g1, o1, h1, h2⟩ := eN_s.mp h
    rw [gcd_e1 h2, ih h1]
theorem FI.e1 {x0 y0 x y f g o x' y' f' g' o' : Nat} (hF : FI x0 y0 x y f g o) (hyx : y ≤ x) (h : e1 x y f g o x' y' f' g' o') : FI x0 y0 x' y' f' g' o' := by
  obtain ⟨ho, a1, a2, a3, m, n, a4, a5⟩ := hF
  obtain ⟨h1, h2, h3, h4, h5, h6⟩ := h
  have em := Nat.mod_add_div' x y
  subst h2 h3 h4 h5 h6
  have inv : f' * (x % x') + (x / x' * f' + f) * x' = y0 := by
    rw [Nat.add_mul, Nat.mul_right_comm, Nat.mul_comm (x / x' * x')]
    have : f' * (x % x') + f' * (x / x' * x') = f' * x := by rw [← Nat.mul_add, em]
    omega
  have hg : (x / x' * f' + f) ≤ y0 := by
    have := Nat.mul_le_mul_left (x / x' * f' + f) h1
    rw [Nat.mul_one] at this
    omega
  refine ⟨by omega, inv, by omega, hg, n, m - (x / x' : Nat) * n, ?_, ?_⟩
  · rw [sn_1 ho]; exact a5
  · have e1 : ((x % x' : Nat) : Int) = x - (x / x' : Nat) * (x' : Int) := by
      rw [← Int.natCast_mul]; omega
    rw [sn_1 ho, Int.neg_neg, e1, a4, a5, Int.natCast_add, Int.natCast_mul, Int.add_mul, Int.mul_add, Int.mul_add, Int.sub_mul, Int.neg_mul, Int.mul_neg]
    have e2 : ((x / x' : Nat) : Int) * (sn o * (f' * x0)) = sn o * ((x / x' : Nat) * f' * x0) := by
      rw [Int.mul_left_comm, Int.mul_assoc]
    have e3 : ((x / x' : Nat) : Int) * (n * y0) = (x / x' : Nat) * n * y0 := by rw [Int.mul_assoc]
    rw [e2, e3]
    omega
theorem FI.eN {x0 y0 x y f g o : Nat} (hF : FI x0 y0 x y f g o) (hyx : y ≤ x) : ∀ {k x' y' f' g' o' : Nat}, eN k x y f g o x' y' f' g' o' → FI x0 y0 x' y' f' g' o' := by
  intro k
  induction k with
  | zero => intro x' y' f' g' o' h; obtain ⟨a, b, c, d, e⟩ := eN_z.mp h; rw [a, b, c, d, e]; exact hF
  | succ k ih =>
    intro x' y' f' g' o' h
    obtain ⟨x1, y1, f1, g1, o1, h1, h2⟩ := eN_s.mp h
    exact (ih h1).e1 (h1.le hyx).2 h2
theorem lc_lt (z : Int) : z.natAbs < BB ^ lc z := by
  unfold lc
  rw [bl_z]
  by_cases e : z.natAbs = 0
  · rw [e]; exact Nat.pow_pos (by decide)
  · obtain ⟨_, a2, _⟩ := bl_spec e
    refine Nat.lt_of_lt_of_le a2 ?_
    rw [show BB = 2 ^ 32 from rfl, ← Nat.pow_mul]
    exact Nat.pow_le_pow_right (by decide) (by omega)
theorem lc_ge {z : Int} {L : Nat} (h : BB ^ L ≤ z.natAbs) : L + 1 ≤ lc z := by
  have h1 := lc_lt z
  rcases Nat.lt_or_ge (lc z) (L + 1) with g | g
  · exfalso
    have : BB ^ lc z ≤ BB ^ L := Nat.pow_le_pow_right (by decide) (by omega)
    omega
  · exact g
theorem lc_low {z : Int} (h : z ≠ 0) : BB ^ (lc z - 1) ≤ z.natAbs := by
  rcases Nat.lt_or_ge z.natAbs (BB ^ (lc z - 1)) with g | g
  · exfalso
    have h1 := lc_le g
    have h2 : lc z ≠ 0 := fun e => by
      have := lc_lt z
      rw [e, Nat.pow_zero] at this
      omega
    omega
  · exact g
theorem lc_prod {a b : Int} (ha : a ≠ 0) (hb : b ≠ 0) : lc a + lc b ≤ lc (a * b) + 1 := by
  have h := Nat.mul_le_mul (lc_low ha) (lc_low hb)
  rw [← Int.natAbs_mul, ← Nat.pow_add] at h
  have := lc_ge h
  omega
theorem lc_0 : lc 0 = 0 := rfl
section U4
variable {G : jg} {d : Nat} {Q : jq} {rc rs : Nat} {M : mheap} {wa la cap : Nat → Nat} {N : Nat} {V : Nat → Int}
theorem u_exchange {eu dv px pf py po ps od : Nat} {a b c d9 : Int64} (hG : kG G) (hE : M eu = some (.inl nU, [.ref (wa px), .ref (wa pf), .ref (wa py), .ref (wa po), .ref (wa ps), .ref dv, .int (nI (od)), .long a, .long b, .long c, .long d9])) (ho : od ≤ 1) (k : ∀ M', M' eu = some (.inl nU, [.ref (wa py), .ref (wa po), .ref (wa px), .ref (wa pf), .ref (wa ps), .ref dv, .int (nI (1 - od)), .long a, .long b, .long c, .long d9]) → (∀ q, q ≠ eu → M' q = M q) → Q (.returned none) M' rc rs) : jj G kU_exchange d Q rc rs 0 (jj_ent [.ref eu] 3) [] M := by
  show jj G kU_exchange (d) Q rc rs 0 [some (.ref eu), none, none] [] M
  refine jj_aload_n (pc := 0) kU_exchange_d0 rfl ?_
  refine jj_getf (pc := 1) kU_exchange_d1 (kfU_x hG) hE rfl ?_
  refine jj_astore_n (pc := 4) kU_exchange_d4 (Nat.le_of_ble_eq_true rfl) ?_
  show jj G kU_exchange (d) Q rc rs 5 [some (.ref eu), some (.ref (wa px)), none] [] M
  refine jj_aload_n (pc := 5) kU_exchange_d5 rfl ?_
  refine jj_aload_n (pc := 6) kU_exchange_d6 rfl ?_
  refine jj_getf (pc := 7) kU_exchange_d7 (kfU_y hG) hE rfl ?_
  refine jj_putf (pc := 10) kU_exchange_d10 (kpU_x hG) hE (by rfl) rfl ?_
  refine jn_gen (fun M101 hM102 => ?_)
  have h103 : M101 eu = some (.inl nU, [.ref (wa py), .ref (wa pf), .ref (wa py), .ref (wa po), .ref (wa ps), .ref dv, .int (nI (od)), .long (a), .long (b), .long (c), .long (d9)]) := by rw [hM102]; exact jj_up_at _ _ _
  refine jj_aload_n (pc := 13) kU_exchange_d13 rfl ?_
  refine jj_aload_n (pc := 14) kU_exchange_d14 rfl ?_
  refine jj_putf (pc := 15) kU_exchange_d15 (kpU_y hG) h103 (by rfl) rfl ?_
  refine jn_gen (fun M104 hM105 => ?_)
  have h106 : M104 eu = some (.inl nU, [.ref (wa py), .ref (wa pf), .ref (wa px), .ref (wa po), .ref (wa ps), .ref dv, .int (nI (od)), .long (a), .long (b), .long (c), .long (d9)]) := by rw [hM105]; exact jj_up_at _ _ _
  refine jj_aload_n (pc := 18) kU_exchange_d18 rfl ?_
  refine jj_getf (pc := 19) kU_exchange_d19 (kfU_factor hG) h106 rfl ?_
  refine jj_astore_n (pc := 22) kU_exchange_d22 (Nat.le_of_ble_eq_true rfl) ?_
  show jj G kU_exchange (d) Q rc rs 23 [some (.ref eu), some (.ref (wa px)), some (.ref (wa pf))] [] M104
  refine jj_aload_n (pc := 23) kU_exchange_d23 rfl ?_
  refine jj_aload_n (pc := 24) kU_exchange_d24 rfl ?_
  refine jj_getf (pc := 25) kU_exchange_d25 (kfU_otherFactor hG) h106 rfl ?_
  refine jj_putf (pc := 28) kU_exchange_d28 (kpU_factor hG) h106 (by rfl) rfl ?_
  refine jn_gen (fun M107 hM108 => ?_)
  have h109 : M107 eu = some (.inl nU, [.ref (wa py), .ref (wa po), .ref (wa px), .ref (wa po), .ref (wa ps), .ref dv, .int (nI (od)), .long (a), .long (b), .long (c), .long (d9)]) := by rw [hM108]; exact jj_up_at _ _ _
  refine jj_aload_n (pc := 31) kU_exchange_d31 rfl ?_
  refine jj_aload_n (pc := 32) kU_exchange_d32 rfl ?_
  refine jj_putf (pc := 33) kU_exchange_d33 (kpU_otherFactor hG) h109 (by rfl) rfl ?_
  refine jn_gen (fun M110 hM111 => ?_)
  have h112 : M110 eu = some (.inl nU, [.ref (wa py), .ref (wa po), .ref (wa px), .ref (wa pf), .ref (wa ps), .ref dv, .int (nI (od)), .long (a), .long (b), .long (c), .long (d9)]) := by rw [hM111]; exact jj_up_at _ _ _
  refine jj_aload_n (pc := 36) kU_exchange_d36 rfl ?_
  refine jj_aload_n (pc := 37) kU_exchange_d37 rfl ?_
  refine jj_getf (pc := 38) kU_exchange_d38 (kfU_odd hG) h112 rfl ?_
  refine jn_if_ne (pc := 41) (tgt := 48) kU_exchange_d41 (by decide) (by omega) (fun co => ?_) (fun co => ?_)
  · skip
    refine jn_iconst (pc := 48) 0 kU_exchange_d48 (by decide) ?_
    refine jn_top (.int (nI (1 - od))) (by rw [show 1 - od = 0 by omega]) ?_
    refine jj_putf (pc := 49) kU_exchange_d49 (kpU_odd hG) h112 (nb_narrow (by omega)) (nb_fits (by omega)) ?_
    refine jn_gen (fun M113 hM114 => ?_)
    have h115 : M113 eu = some (.inl nU, [.ref (wa py), .ref (wa po), .ref (wa px), .ref (wa pf), .ref (wa ps), .ref dv, .int (nI (1 - od)), .long (a), .long (b), .long (c), .long (d9)]) := by rw [hM114]; exact jj_up_at _ _ _
    exact jj_vret (pc := 52) kU_exchange_d52 rfl (k M113 h115 (fun q hq => by rw [hM114, jj_up_ne _ _ hq, hM111, jj_up_ne _ _ hq, hM108, jj_up_ne _ _ hq, hM105, jj_up_ne _ _ hq, hM102, jj_up_ne _ _ hq]))
  · skip
    refine jn_iconst (pc := 44) 1 kU_exchange_d44 (by decide) ?_
    refine jj_goto (pc := 45) (tgt := 49) kU_exchange_d45 (by decide) ?_
    refine jn_top (.int (nI (1 - od))) (by rw [show 1 - od = 1 by omega]) ?_
    refine jj_putf (pc := 49) kU_exchange_d49 (kpU_odd hG) h112 (nb_narrow (by omega)) (nb_fits (by omega)) ?_
    refine jn_gen (fun M116 hM117 => ?_)
    have h118 : M116 eu = some (.inl nU, [.ref (wa py), .ref (wa po), .ref (wa px), .ref (wa pf), .ref (wa ps), .ref dv, .int (nI (1 - od)), .long (a), .long (b), .long (c), .long (d9)]) := by rw [hM117]; exact jj_up_at _ _ _
    exact jj_vret (pc := 52) kU_exchange_d52 rfl (k M116 h118 (fun q hq => by rw [hM117, jj_up_ne _ _ hq, hM111, jj_up_ne _ _ hq, hM108, jj_up_ne _ _ hq, hM105, jj_up_ne _ _ hq, hM102, jj_up_ne _ _ hq]))
theorem u_divideOnce {eu dv hi lo q r px pf py po ps od fl : Nat} {a b c d9 : Int64} (hG : kG G) (hI : CI wa la cap N) (hc : CW M wa la cap N V) (hE : M eu = some (.inl nU, [.ref (wa px), .ref (wa pf), .ref (wa py), .ref (wa po), .ref (wa ps), .ref dv, .int (nI (od)), .long a, .long b, .long c, .long d9])) (ho : od ≤ 1) (hdv : DV M wa dv hi lo q r) (hdi : DJI la N hi lo) (hfl : fl ≤ 1) (hq : q < N) (hr : r < N) (hpx : px < N) (hpy : py < N) (hpf : pf < N) (hpo : po < N) (hps : ps < N) (n1 : q ≠ r) (n2 : q ≠ px) (n3 : q ≠ py) (n4 : r ≠ px) (n5 : r ≠ py) (n6 : ps ≠ q) (n7 : ps ≠ po) (n8 : ps ≠ pf) (n9 : q ≠ po) (n10 : r ≠ po) (n11 : q ≠ pf) (n12 : r ≠ pf) (n13 : r ≠ ps) (h252 : lc (V px) ≤ 252) (hcq : cap q = 252) (hcr : cap r = 252) (hcs : cap ps = 252) (hF : fl = 1 → lc ((V px).tdiv (V py)) + lc (V po) ≤ 252 ∧ lc ((V px).tdiv (V py) * V po) + 1 ≤ 252 ∧ lc (V pf) + 1 ≤ 252) (k0 : fl = 0 → ∀ M', CW M' wa la cap N (vup (vup V q ((V px).tdiv (V py))) r ((V px).tmod (V py))) → M' eu = some (.inl nU, [.ref (wa py), .ref (wa pf), .ref (wa r), .ref (wa po), .ref (wa ps), .ref dv, .int (nI (1 - od)), .long a, .long b, .long c, .long d9]) → DV M' wa dv hi lo q px → (∀ x, (∀ p, p < N → x ≠ wa p ∧ x ≠ la p) → x ≠ hi → x ≠ lo → x ≠ eu → x ≠ dv → M' x = M x) → Q (.returned none) M' rc rs) (k1 : fl = 1 → ∀ M', CW M' wa la cap N (vup (vup (vup V q ((V px).tdiv (V py))) r ((V px).tmod (V py))) ps ((V px).tdiv (V py) * V po + V pf)) → M' eu = some (.inl nU, [.ref (wa py), .ref (wa po), .ref (wa r), .ref (wa ps), .ref (wa pf), .ref dv, .int (nI (1 - od)), .long a, .long b, .long c, .long d9]) → DV M' wa dv hi lo q px → (∀ x, (∀ p, p < N → x ≠ wa p ∧ x ≠ la p) → x ≠ hi → x ≠ lo → x ≠ eu → x ≠ dv → M' x = M x) → Q (.returned none) M' rc rs) : jj G kU_divideOnce (d + 4) Q rc rs 0 (jj_ent [.ref eu, .int (nI fl)] 4) [] M := by
  obtain ⟨hD, _⟩ := id hdv
  have ned : eu ≠ dv := fun e => by have q9 := hE; rw [e, hD] at q9; cases q9
  have nEw : ∀ p, p < N → wa p ≠ eu := fun p hp e => by obtain ⟨D9, c9, h91, _, _⟩ := hc p hp; rw [e, hE] at h91; cases h91
  have nEl : ∀ p, p < N → la p ≠ eu := fun p hp e => by obtain ⟨D9, c9, _, h92, _⟩ := hc p hp; rw [e, hE] at h92; cases h92
  have nDw : ∀ p, p < N → wa p ≠ dv := fun p hp e => by obtain ⟨D9, c9, h91, _, _⟩ := hc p hp; rw [e, hD] at h91; cases h91
  have nDl : ∀ p, p < N → la p ≠ dv := fun p hp e => by obtain ⟨D9, c9, _, h92, _⟩ := hc p hp; rw [e, hD] at h92; cases h92
  have hEx : ∃ H : List Int32, M hi = some (.inr 0, H.map .int) := ⟨_, hdv.2.1.choose_spec.1⟩
  have hEy : ∃ H : List Int32, M lo = some (.inr 0, H.map .int) := ⟨_, hdv.2.2.choose_spec.1⟩
  show jj G kU_divideOnce (d + 4) Q rc rs 0 [some (.ref eu), some (.int (nI (fl))), none, none] [] M
  refine jj_aload_n (pc := 0) kU_divideOnce_d0 rfl ?_
  refine jj_getf (pc := 1) kU_divideOnce_d1 (kfU_divider hG) hE rfl ?_
  refine jj_aload_n (pc := 4) kU_divideOnce_d4 rfl ?_
  refine jj_getf (pc := 5) kU_divideOnce_d5 (kfU_x hG) hE rfl ?_
  refine jj_aload_n (pc := 8) kU_divideOnce_d8 rfl ?_
  refine jj_getf (pc := 9) kU_divideOnce_d9 (kfU_y hG) hE rfl ?_
  refine jj_callV (pc := 12) (b := dv) (As := [.ref (wa px), .ref (wa py)]) kU_divideOnce_d12 (kvU_D_divide hG) (kG_cl hG rfl) rfl hD rfl rfl rfl (Nat.le_of_ble_eq_true rfl) (Nat.le_of_ble_eq_true rfl) (jj_bare0 rfl) ?_
  refine d_divide hG hI hc hdv hdi hq hr hpx hpy n1 n2 n3 n4 n5 h252 (by omega) (by omega) (fun M1 hc1 hdv1 hf1 => ?_)
  show jj G kU_divideOnce (d + 4) Q rc rs 15 [some (.ref eu), some (.int (nI (fl))), none, none] [] M1
  have hE1 := hf1.obj hc hE (by decide) hEx hEy
  obtain ⟨hD1, ⟨H1, hH1, lH1⟩, L1, hL1, lL1⟩ := id hdv1
  have nEh : hi ≠ eu := fun e => by rw [e, hE1] at hH1; cases hH1
  have nEo : lo ≠ eu := fun e => by rw [e, hE1] at hL1; cases hL1
  have nDh : hi ≠ dv := fun e => by rw [e, hD1] at hH1; cases hH1
  have nDo : lo ≠ dv := fun e => by rw [e, hD1] at hL1; cases hL1
  refine jj_aload_n (pc := 15) kU_divideOnce_d15 rfl ?_
  refine jj_getf (pc := 16) kU_divideOnce_d16 (kfU_x hG) hE1 rfl ?_
  refine jj_astore_n (pc := 19) kU_divideOnce_d19 (Nat.le_of_ble_eq_true rfl) ?_
  show jj G kU_divideOnce (d + 4) Q rc rs 20 [some (.ref eu), some (.int (nI (fl))), some (.ref (wa px)), none] [] M1
  refine jj_aload_n (pc := 20) kU_divideOnce_d20 rfl ?_
  refine jj_aload_n (pc := 21) kU_divideOnce_d21 rfl ?_
  refine jj_getf (pc := 22) kU_divideOnce_d22 (kfU_y hG) hE1 rfl ?_
  refine jj_putf (pc := 25) kU_divideOnce_d25 (kpU_x hG) hE1 (by rfl) rfl ?_
  refine jn_gen (fun M119 hM120 => ?_)
  have h121 : M119 dv = some (.inl nD, [.ref (wa q), .ref (wa r), .ref hi, .ref lo]) := by rw [hM120, jj_up_ne _ _ (Ne.symm ned)]; exact hD1
  have h122 : M119 eu = some (.inl nU, [.ref (wa py), .ref (wa pf), .ref (wa py), .ref (wa po), .ref (wa ps), .ref dv, .int (nI (od)), .long (a), .long (b), .long (c), .long (d9)]) := by rw [hM120]; exact jj_up_at _ _ _
  refine jj_aload_n (pc := 28) kU_divideOnce_d28 rfl ?_
  refine jj_aload_n (pc := 29) kU_divideOnce_d29 rfl ?_
  refine jj_getf (pc := 30) kU_divideOnce_d30 (kfU_divider hG) h122 rfl ?_
  refine jj_getf (pc := 33) kU_divideOnce_d33 (kfU_D_remainder hG) h121 rfl ?_
  refine jj_putf (pc := 36) kU_divideOnce_d36 (kpU_y hG) h122 (by rfl) rfl ?_
  refine jn_gen (fun M123 hM124 => ?_)
  have h125 : M123 dv = some (.inl nD, [.ref (wa q), .ref (wa r), .ref hi, .ref lo]) := by rw [hM124, jj_up_ne _ _ (Ne.symm ned)]; exact h121
  have h126 : M123 eu = some (.inl nU, [.ref (wa py), .ref (wa pf), .ref (wa r), .ref (wa po), .ref (wa ps), .ref dv, .int (nI (od)), .long (a), .long (b), .long (c), .long (d9)]) := by rw [hM124]; exact jj_up_at _ _ _
  refine jj_aload_n (pc := 39) kU_divideOnce_d39 rfl ?_
  refine jj_getf (pc := 40) kU_divideOnce_d40 (kfU_divider hG) h126 rfl ?_
  refine jj_aload_n (pc := 43) kU_divideOnce_d43 rfl ?_
  refine jj_putf (pc := 44) kU_divideOnce_d44 (kpU_D_remainder hG) h125 (by rfl) rfl ?_
  refine jn_gen (fun M127 hM128 => ?_)
  have h129 : M127 eu = some (.inl nU, [.ref (wa py), .ref (wa pf), .ref (wa r), .ref (wa po), .ref (wa ps), .ref dv, .int (nI (od)), .long (a), .long (b), .long (c), .long (d9)]) := by rw [hM128, jj_up_ne _ _ ned]; exact h126
  have h130 : M127 dv = some (.inl nD, [.ref (wa q), .ref (wa px), .ref hi, .ref lo]) := by rw [hM128]; exact jj_up_at _ _ _
  refine jj_aload_n (pc := 47) kU_divideOnce_d47 rfl ?_
  refine jj_aload_n (pc := 48) kU_divideOnce_d48 rfl ?_
  refine jj_getf (pc := 49) kU_divideOnce_d49 (kfU_odd hG) h129 rfl ?_
  refine jn_if_ne (pc := 52) (tgt := 59) kU_divideOnce_d52 (by decide) (by omega) (fun co => ?_) (fun co => ?_)
  · skip
    refine jn_iconst (pc := 59) 0 kU_divideOnce_d59 (by decide) ?_
    refine jn_top (.int (nI (1 - od))) (by rw [show 1 - od = 0 by omega]) ?_
    refine jj_putf (pc := 60) kU_divideOnce_d60 (kpU_odd hG) h129 (nb_narrow (by omega)) (nb_fits (by omega)) ?_
    refine jn_gen (fun M131 hM132 => ?_)
    have h133 : M131 dv = some (.inl nD, [.ref (wa q), .ref (wa px), .ref hi, .ref lo]) := by rw [hM132, jj_up_ne _ _ (Ne.symm ned)]; exact h130
    have h134 : M131 eu = some (.inl nU, [.ref (wa py), .ref (wa pf), .ref (wa r), .ref (wa po), .ref (wa ps), .ref dv, .int (nI (1 - od)), .long (a), .long (b), .long (c), .long (d9)]) := by rw [hM132]; exact jj_up_at _ _ _
    have hf2 : ∀ x, x ≠ eu → x ≠ dv → M131 x = M1 x := fun x h1 h2 => by rw [hM132, jj_up_ne _ _ h1, hM128, jj_up_ne _ _ h2, hM124, jj_up_ne _ _ h1, hM120, jj_up_ne _ _ h1]
    have hc2 : CW M131 wa la cap N (vup (vup V q ((V px).tdiv (V py))) r ((V px).tmod (V py))) := hc1.kept (fun p hp => ⟨hf2 _ (nEw p hp) (nDw p hp), hf2 _ (nEl p hp) (nDl p hp)⟩)
    have hdv2 : DV M131 wa dv hi lo q px := ⟨h133, ⟨H1, (hf2 hi nEh nDh).trans hH1, lH1⟩, L1, (hf2 lo nEo nDo).trans hL1, lL1⟩
    have fr2 : ∀ x, (∀ p, p < N → x ≠ wa p ∧ x ≠ la p) → x ≠ hi → x ≠ lo → x ≠ eu → x ≠ dv → M131 x = M x := fun x a1 a2 a3 a4 a5 => (hf2 x a4 a5).trans (hf1 x a1 a2 a3)
    refine jj_iload_n (pc := 63) kU_divideOnce_d63 rfl ?_
    refine jn_if_eq (pc := 64) (tgt := 127) kU_divideOnce_d64 (by decide) (by omega) (fun cf => ?_) (fun cf => ?_)
    · skip
      exact jj_vret (pc := 127) kU_divideOnce_d127 rfl (k0 cf M131 hc2 h134 hdv2 fr2)
    · skip
      have hf9 : fl = 1 := by omega
      obtain ⟨F1, F2, F3⟩ := hF hf9
      obtain ⟨S9, cs9, hS9, _, _⟩ := hc2 ps hps
      have vq : (vup (vup V q ((V px).tdiv (V py))) r ((V px).tmod (V py))) q = (V px).tdiv (V py) := by rw [vup_ne _ _ n1, vup_at]
      have vo : (vup (vup V q ((V px).tdiv (V py))) r ((V px).tmod (V py))) po = V po := by rw [vup_ne _ _ (Ne.symm n10), vup_ne _ _ (Ne.symm n9)]
      have vf : (vup (vup V q ((V px).tdiv (V py))) r ((V px).tmod (V py))) pf = V pf := by rw [vup_ne _ _ (Ne.symm n12), vup_ne _ _ (Ne.symm n11)]
      refine jj_aload_n (pc := 67) kU_divideOnce_d67 rfl ?_
      refine jj_getf (pc := 68) kU_divideOnce_d68 (kfU_spare hG) h134 rfl ?_
      refine jj_aload_n (pc := 71) kU_divideOnce_d71 rfl ?_
      refine jj_getf (pc := 72) kU_divideOnce_d72 (kfU_divider hG) h134 rfl ?_
      refine jj_getf (pc := 75) kU_divideOnce_d75 (kfU_D_quotient hG) h133 rfl ?_
      refine jj_aload_n (pc := 78) kU_divideOnce_d78 rfl ?_
      refine jj_getf (pc := 79) kU_divideOnce_d79 (kfU_otherFactor hG) h134 rfl ?_
      refine jj_callV (pc := 82) (b := (wa ps)) (As := [.ref (wa q), .ref (wa po)]) kU_divideOnce_d82 (kvU_W_product hG) (kG_cl hG rfl) rfl hS9 rfl rfl rfl (Nat.le_of_ble_eq_true rfl) (Nat.le_of_ble_eq_true rfl) (jj_bare0 rfl) ?_
      refine w_product hG hI hc2 hps hq hpo n6 n7 (by rw [vq, vo, hcs]; exact F1) (fun M4 hc4 hw4 => ?_)
      show jj G kU_divideOnce (d + 4) Q rc rs 85 [some (.ref eu), some (.int (nI (fl))), some (.ref (wa px)), none] [] M4
      rw [vq, vo] at hc4
      have hE4 := (hw4 eu (Ne.symm (nEw ps hps)) (Ne.symm (nEl ps hps))).trans h134
      have hdv4 := hdv2.wt hc2 hdi hps hw4
      have hD4 := hdv4.1
      obtain ⟨S8, cs8, hS8, _, _⟩ := hc4 ps hps
      refine jj_aload_n (pc := 85) kU_divideOnce_d85 rfl ?_
      refine jj_getf (pc := 86) kU_divideOnce_d86 (kfU_spare hG) hE4 rfl ?_
      refine jj_aload_n (pc := 89) kU_divideOnce_d89 rfl ?_
      refine jj_getf (pc := 90) kU_divideOnce_d90 (kfU_spare hG) hE4 rfl ?_
      refine jj_aload_n (pc := 93) kU_divideOnce_d93 rfl ?_
      refine jj_getf (pc := 94) kU_divideOnce_d94 (kfU_factor hG) hE4 rfl ?_
      refine jn_iconst (pc := 97) 0 kU_divideOnce_d97 (by decide) ?_
      refine jj_callV (pc := 98) (b := (wa ps)) (As := [.ref (wa ps), .ref (wa pf), .int (nI (0))]) kU_divideOnce_d98 (kvU_W_sum hG) (kG_cl hG rfl) rfl hS8 rfl rfl rfl (Nat.le_of_ble_eq_true rfl) (Nat.le_of_ble_eq_true rfl) (jj_bare0 rfl) ?_
      refine w_sum (ls := 0) (z := (V px).tdiv (V py) * V po + V pf) hG hI hc4 hps hps hpf (by rw [vup_at, hcs]; exact F2) (by rw [vup_ne _ _ (Ne.symm n8), vf, hcs]; exact F3) (by rw [vup_at, vup_ne _ _ (Ne.symm n8), vf, if_neg (by omega)]) (fun M5 hc5 hw5 => ?_)
      show jj G kU_divideOnce (d + 4) Q rc rs 101 [some (.ref eu), some (.int (nI (fl))), some (.ref (wa px)), none] [] M5
      have hE5 := (hw5 eu (Ne.symm (nEw ps hps)) (Ne.symm (nEl ps hps))).trans hE4
      have hdv5 := hdv4.wt hc4 hdi hps hw5
      have hD5 := hdv5.1
      refine jj_aload_n (pc := 101) kU_divideOnce_d101 rfl ?_
      refine jj_getf (pc := 102) kU_divideOnce_d102 (kfU_factor hG) hE5 rfl ?_
      refine jj_astore_n (pc := 105) kU_divideOnce_d105 (Nat.le_of_ble_eq_true rfl) ?_
      show jj G kU_divideOnce (d + 4) Q rc rs 106 [some (.ref eu), some (.int (nI (fl))), some (.ref (wa px)), some (.ref (wa pf))] [] M5
      refine jj_aload_n (pc := 106) kU_divideOnce_d106 rfl ?_
      refine jj_aload_n (pc := 107) kU_divideOnce_d107 rfl ?_
      refine jj_getf (pc := 108) kU_divideOnce_d108 (kfU_otherFactor hG) hE5 rfl ?_
      refine jj_putf (pc := 111) kU_divideOnce_d111 (kpU_factor hG) hE5 (by rfl) rfl ?_
      refine jn_gen (fun M135 hM136 => ?_)
      have h137 : M135 dv = some (.inl nD, [.ref (wa q), .ref (wa px), .ref hi, .ref lo]) := by rw [hM136, jj_up_ne _ _ (Ne.symm ned)]; exact hD5
      have h138 : M135 eu = some (.inl nU, [.ref (wa py), .ref (wa po), .ref (wa r), .ref (wa po), .ref (wa ps), .ref dv, .int (nI (1 - od)), .long (a), .long (b), .long (c), .long (d9)]) := by rw [hM136]; exact jj_up_at _ _ _
      refine jj_aload_n (pc := 114) kU_divideOnce_d114 rfl ?_
      refine jj_aload_n (pc := 115) kU_divideOnce_d115 rfl ?_
      refine jj_getf (pc := 116) kU_divideOnce_d116 (kfU_spare hG) h138 rfl ?_
      refine jj_putf (pc := 119) kU_divideOnce_d119 (kpU_otherFactor hG) h138 (by rfl) rfl ?_
      refine jn_gen (fun M139 hM140 => ?_)
      have h141 : M139 dv = some (.inl nD, [.ref (wa q), .ref (wa px), .ref hi, .ref lo]) := by rw [hM140, jj_up_ne _ _ (Ne.symm ned)]; exact h137
      have h142 : M139 eu = some (.inl nU, [.ref (wa py), .ref (wa po), .ref (wa r), .ref (wa ps), .ref (wa ps), .ref dv, .int (nI (1 - od)), .long (a), .long (b), .long (c), .long (d9)]) := by rw [hM140]; exact jj_up_at _ _ _
      refine jj_aload_n (pc := 122) kU_divideOnce_d122 rfl ?_
      refine jj_aload_n (pc := 123) kU_divideOnce_d123 rfl ?_
      refine jj_putf (pc := 124) kU_divideOnce_d124 (kpU_spare hG) h142 (by rfl) rfl ?_
      refine jn_gen (fun M143 hM144 => ?_)
      have h145 : M143 dv = some (.inl nD, [.ref (wa q), .ref (wa px), .ref hi, .ref lo]) := by rw [hM144, jj_up_ne _ _ (Ne.symm ned)]; exact h141
      have h146 : M143 eu = some (.inl nU, [.ref (wa py), .ref (wa po), .ref (wa r), .ref (wa ps), .ref (wa pf), .ref dv, .int (nI (1 - od)), .long (a), .long (b), .long (c), .long (d9)]) := by rw [hM144]; exact jj_up_at _ _ _
      have hf6 : ∀ x, x ≠ eu → M143 x = M5 x := fun x h1 => by rw [hM144, jj_up_ne _ _ h1, hM140, jj_up_ne _ _ h1, hM136, jj_up_ne _ _ h1]
      have hc6 : CW M143 wa la cap N (vup (vup (vup V q ((V px).tdiv (V py))) r ((V px).tmod (V py))) ps ((V px).tdiv (V py) * V po + V pf)) := by
        intro p hp
        have h7 := hc5.kept (M' := M143) (fun p hp => ⟨hf6 _ (nEw p hp), hf6 _ (nEl p hp)⟩) p hp
        by_cases e9 : p = ps
        · rw [e9, vup_at] at h7 ⊢; exact h7
        · rw [vup_ne _ _ e9, vup_ne _ _ e9] at h7; rw [vup_ne _ _ e9]; exact h7
      obtain ⟨_, ⟨H5, hH5, lH5⟩, L5, hL5, lL5⟩ := id hdv5
      exact jj_vret (pc := 127) kU_divideOnce_d127 rfl (k1 hf9 M143 hc6 h146 ⟨h145, ⟨H5, (hf6 hi nEh).trans hH5, lH5⟩, L5, (hf6 lo nEo).trans hL5, lL5⟩ (fun x a1 a2 a3 a4 a5 => by rw [hf6 x a4, hw5 x (a1 ps hps).1 (a1 ps hps).2, hw4 x (a1 ps hps).1 (a1 ps hps).2]; exact fr2 x a1 a2 a3 a4 a5))
  · skip
    refine jn_iconst (pc := 55) 1 kU_divideOnce_d55 (by decide) ?_
    refine jj_goto (pc := 56) (tgt := 60) kU_divideOnce_d56 (by decide) ?_
    refine jn_top (.int (nI (1 - od))) (by rw [show 1 - od = 1 by omega]) ?_
    refine jj_putf (pc := 60) kU_divideOnce_d60 (kpU_odd hG) h129 (nb_narrow (by omega)) (nb_fits (by omega)) ?_
    refine jn_gen (fun M147 hM148 => ?_)
    have h149 : M147 dv = some (.inl nD, [.ref (wa q), .ref (wa px), .ref hi, .ref lo]) := by rw [hM148, jj_up_ne _ _ (Ne.symm ned)]; exact h130
    have h150 : M147 eu = some (.inl nU, [.ref (wa py), .ref (wa pf), .ref (wa r), .ref (wa po), .ref (wa ps), .ref dv, .int (nI (1 - od)), .long (a), .long (b), .long (c), .long (d9)]) := by rw [hM148]; exact jj_up_at _ _ _
    have hf2 : ∀ x, x ≠ eu → x ≠ dv → M147 x = M1 x := fun x h1 h2 => by rw [hM148, jj_up_ne _ _ h1, hM128, jj_up_ne _ _ h2, hM124, jj_up_ne _ _ h1, hM120, jj_up_ne _ _ h1]
    have hc2 : CW M147 wa la cap N (vup (vup V q ((V px).tdiv (V py))) r ((V px).tmod (V py))) := hc1.kept (fun p hp => ⟨hf2 _ (nEw p hp) (nDw p hp), hf2 _ (nEl p hp) (nDl p hp)⟩)
    have hdv2 : DV M147 wa dv hi lo q px := ⟨h149, ⟨H1, (hf2 hi nEh nDh).trans hH1, lH1⟩, L1, (hf2 lo nEo nDo).trans hL1, lL1⟩
    have fr2 : ∀ x, (∀ p, p < N → x ≠ wa p ∧ x ≠ la p) → x ≠ hi → x ≠ lo → x ≠ eu → x ≠ dv → M147 x = M x := fun x a1 a2 a3 a4 a5 => (hf2 x a4 a5).trans (hf1 x a1 a2 a3)
    refine jj_iload_n (pc := 63) kU_divideOnce_d63 rfl ?_
    refine jn_if_eq (pc := 64) (tgt := 127) kU_divideOnce_d64 (by decide) (by omega) (fun cf => ?_) (fun cf => ?_)
    · skip
      exact jj_vret (pc := 127) kU_divideOnce_d127 rfl (k0 cf M147 hc2 h150 hdv2 fr2)
    · skip
      have hf9 : fl = 1 := by omega
      obtain ⟨F1, F2, F3⟩ := hF hf9
      obtain ⟨S9, cs9, hS9, _, _⟩ := hc2 ps hps
      have vq : (vup (vup V q ((V px).tdiv (V py))) r ((V px).tmod (V py))) q = (V px).tdiv (V py) := by rw [vup_ne _ _ n1, vup_at]
      have vo : (vup (vup V q ((V px).tdiv (V py))) r ((V px).tmod (V py))) po = V po := by rw [vup_ne _ _ (Ne.symm n10), vup_ne _ _ (Ne.symm n9)]
      have vf : (vup (vup V q ((V px).tdiv (V py))) r ((V px).tmod (V py))) pf = V pf := by rw [vup_ne _ _ (Ne.symm n12), vup_ne _ _ (Ne.symm n11)]
      refine jj_aload_n (pc := 67) kU_divideOnce_d67 rfl ?_
      refine jj_getf (pc := 68) kU_divideOnce_d68 (kfU_spare hG) h150 rfl ?_
      refine jj_aload_n (pc := 71) kU_divideOnce_d71 rfl ?_
      refine jj_getf (pc := 72) kU_divideOnce_d72 (kfU_divider hG) h150 rfl ?_
      refine jj_getf (pc := 75) kU_divideOnce_d75 (kfU_D_quotient hG) h149 rfl ?_
      refine jj_aload_n (pc := 78) kU_divideOnce_d78 rfl ?_
      refine jj_getf (pc := 79) kU_divideOnce_d79 (kfU_otherFactor hG) h150 rfl ?_
      refine jj_callV (pc := 82) (b := (wa ps)) (As := [.ref (wa q), .ref (wa po)]) kU_divideOnce_d82 (kvU_W_product hG) (kG_cl hG rfl) rfl hS9 rfl rfl rfl (Nat.le_of_ble_eq_true rfl) (Nat.le_of_ble_eq_true rfl) (jj_bare0 rfl) ?_
      refine w_product hG hI hc2 hps hq hpo n6 n7 (by rw [vq, vo, hcs]; exact F1) (fun M4 hc4 hw4 => ?_)
      show jj G kU_divideOnce (d + 4) Q rc rs 85 [some (.ref eu), some (.int (nI (fl))), some (.ref (wa px)), none] [] M4
      rw [vq, vo] at hc4
      have hE4 := (hw4 eu (Ne.symm (nEw ps hps)) (Ne.symm (nEl ps hps))).trans h150
      have hdv4 := hdv2.wt hc2 hdi hps hw4
      have hD4 := hdv4.1
      obtain ⟨S8, cs8, hS8, _, _⟩ := hc4 ps hps
      refine jj_aload_n (pc := 85) kU_divideOnce_d85 rfl ?_
      refine jj_getf (pc := 86) kU_divideOnce_d86 (kfU_spare hG) hE4 rfl ?_
      refine jj_aload_n (pc := 89) kU_divideOnce_d89 rfl ?_
      refine jj_getf (pc := 90) kU_divideOnce_d90 (kfU_spare hG) hE4 rfl ?_
      refine jj_aload_n (pc := 93) kU_divideOnce_d93 rfl ?_
      refine jj_getf (pc := 94) kU_divideOnce_d94 (kfU_factor hG) hE4 rfl ?_
      refine jn_iconst (pc := 97) 0 kU_divideOnce_d97 (by decide) ?_
      refine jj_callV (pc := 98) (b := (wa ps)) (As := [.ref (wa ps), .ref (wa pf), .int (nI (0))]) kU_divideOnce_d98 (kvU_W_sum hG) (kG_cl hG rfl) rfl hS8 rfl rfl rfl (Nat.le_of_ble_eq_true rfl) (Nat.le_of_ble_eq_true rfl) (jj_bare0 rfl) ?_
      refine w_sum (ls := 0) (z := (V px).tdiv (V py) * V po + V pf) hG hI hc4 hps hps hpf (by rw [vup_at, hcs]; exact F2) (by rw [vup_ne _ _ (Ne.symm n8), vf, hcs]; exact F3) (by rw [vup_at, vup_ne _ _ (Ne.symm n8), vf, if_neg (by omega)]) (fun M5 hc5 hw5 => ?_)
      show jj G kU_divideOnce (d + 4) Q rc rs 101 [some (.ref eu), some (.int (nI (fl))), some (.ref (wa px)), none] [] M5
      have hE5 := (hw5 eu (Ne.symm (nEw ps hps)) (Ne.symm (nEl ps hps))).trans hE4
      have hdv5 := hdv4.wt hc4 hdi hps hw5
      have hD5 := hdv5.1
      refine jj_aload_n (pc := 101) kU_divideOnce_d101 rfl ?_
      refine jj_getf (pc := 102) kU_divideOnce_d102 (kfU_factor hG) hE5 rfl ?_
      refine jj_astore_n (pc := 105) kU_divideOnce_d105 (Nat.le_of_ble_eq_true rfl) ?_
      show jj G kU_divideOnce (d + 4) Q rc rs 106 [some (.ref eu), some (.int (nI (fl))), some (.ref (wa px)), some (.ref (wa pf))] [] M5
      refine jj_aload_n (pc := 106) kU_divideOnce_d106 rfl ?_
      refine jj_aload_n (pc := 107) kU_divideOnce_d107 rfl ?_
      refine jj_getf (pc := 108) kU_divideOnce_d108 (kfU_otherFactor hG) hE5 rfl ?_
      refine jj_putf (pc := 111) kU_divideOnce_d111 (kpU_factor hG) hE5 (by rfl) rfl ?_
      refine jn_gen (fun M151 hM152 => ?_)
      have h153 : M151 dv = some (.inl nD, [.ref (wa q), .ref (wa px), .ref hi, .ref lo]) := by rw [hM152, jj_up_ne _ _ (Ne.symm ned)]; exact hD5
      have h154 : M151 eu = some (.inl nU, [.ref (wa py), .ref (wa po), .ref (wa r), .ref (wa po), .ref (wa ps), .ref dv, .int (nI (1 - od)), .long (a), .long (b), .long (c), .long (d9)]) := by rw [hM152]; exact jj_up_at _ _ _
      refine jj_aload_n (pc := 114) kU_divideOnce_d114 rfl ?_
      refine jj_aload_n (pc := 115) kU_divideOnce_d115 rfl ?_
      refine jj_getf (pc := 116) kU_divideOnce_d116 (kfU_spare hG) h154 rfl ?_
      refine jj_putf (pc := 119) kU_divideOnce_d119 (kpU_otherFactor hG) h154 (by rfl) rfl ?_
      refine jn_gen (fun M155 hM156 => ?_)
      have h157 : M155 dv = some (.inl nD, [.ref (wa q), .ref (wa px), .ref hi, .ref lo]) := by rw [hM156, jj_up_ne _ _ (Ne.symm ned)]; exact h153
      have h158 : M155 eu = some (.inl nU, [.ref (wa py), .ref (wa po), .ref (wa r), .ref (wa ps), .ref (wa ps), .ref dv, .int (nI (1 - od)), .long (a), .long (b), .long (c), .long (d9)]) := by rw [hM156]; exact jj_up_at _ _ _
      refine jj_aload_n (pc := 122) kU_divideOnce_d122 rfl ?_
      refine jj_aload_n (pc := 123) kU_divideOnce_d123 rfl ?_
      refine jj_putf (pc := 124) kU_divideOnce_d124 (kpU_spare hG) h158 (by rfl) rfl ?_
      refine jn_gen (fun M159 hM160 => ?_)
      have h161 : M159 dv = some (.inl nD, [.ref (wa q), .ref (wa px), .ref hi, .ref lo]) := by rw [hM160, jj_up_ne _ _ (Ne.symm ned)]; exact h157
      have h162 : M159 eu = some (.inl nU, [.ref (wa py), .ref (wa po), .ref (wa r), .ref (wa ps), .ref (wa pf), .ref dv, .int (nI (1 - od)), .long (a), .long (b), .long (c), .long (d9)]) := by rw [hM160]; exact jj_up_at _ _ _
      have hf6 : ∀ x, x ≠ eu → M159 x = M5 x := fun x h1 => by rw [hM160, jj_up_ne _ _ h1, hM156, jj_up_ne _ _ h1, hM152, jj_up_ne _ _ h1]
      have hc6 : CW M159 wa la cap N (vup (vup (vup V q ((V px).tdiv (V py))) r ((V px).tmod (V py))) ps ((V px).tdiv (V py) * V po + V pf)) := by
        intro p hp
        have h7 := hc5.kept (M' := M159) (fun p hp => ⟨hf6 _ (nEw p hp), hf6 _ (nEl p hp)⟩) p hp
        by_cases e9 : p = ps
        · rw [e9, vup_at] at h7 ⊢; exact h7
        · rw [vup_ne _ _ e9, vup_ne _ _ e9] at h7; rw [vup_ne _ _ e9]; exact h7
      obtain ⟨_, ⟨H5, hH5, lH5⟩, L5, hL5, lL5⟩ := id hdv5
      exact jj_vret (pc := 127) kU_divideOnce_d127 rfl (k1 hf9 M159 hc6 h162 ⟨h161, ⟨H5, (hf6 hi nEh).trans hH5, lH5⟩, L5, (hf6 lo nEo).trans hL5, lL5⟩ (fun x a1 a2 a3 a4 a5 => by rw [hf6 x a4, hw5 x (a1 ps hps).1 (a1 ps hps).2, hw4 x (a1 ps hps).1 (a1 ps hps).2]; exact fr2 x a1 a2 a3 a4 a5))
end U4
