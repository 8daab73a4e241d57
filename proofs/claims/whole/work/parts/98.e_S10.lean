/-! ===== Residues: isolate (printed by wip/gen/rS10.py) ===== -/
theorem LQE.zero {Z Z' : imat} {t ln pl : Nat} {m : Int} (h : LQE Z Z' t ln pl m) (hz : ∀ i p, t ≤ i → i < ln → t ≤ p → p < pl → Z i p = 0) (hr : ∀ i p, t ≤ i → i < ln → t ≤ p → p < pl → 0 ≤ Z' i p ∧ Z' i p < m) : ∀ i p, t ≤ i → i < ln → t ≤ p → p < pl → Z' i p = 0 := by
  obtain ⟨U, U', z, hU, h⟩ := h
  intro i p h1 h2 h3 h4
  have e := h (i - t) (by omega) p h3 h4
  have r := hr i p h1 h2 h3 h4
  rw [show t + (i - t) = i by omega, isum_zero (fun k hk => by rw [hz (t + k) p (by omega) (by omega) h3 h4, Int.mul_zero]), Int.zero_add] at e
  refine small_dvd (a := m) ⟨_, e⟩ (by omega)
theorem half_dvd {a b : Int} (ha : 0 < a) (hb : 0 < b) (h : a ∣ b) (hn : a ≠ b) : 2 * a ≤ b := by
  obtain ⟨y, hy⟩ := h
  have h1 : 0 < y := int_pos_of_mul ha (by rw [← hy]; exact hb)
  have h2 : y ≠ 1 := fun e => hn (by rw [hy, e, Int.mul_one])
  have h3 := Int.mul_le_mul_of_nonneg_left (show 2 ≤ y by omega) (Int.le_of_lt ha)
  rw [← hy] at h3
  omega
theorem half_pow {a b : Int} {n : Nat} (h : 2 * a ≤ b) (ha : 0 < a) (hb : b < 2 ^ n) : 1 ≤ n ∧ a < 2 ^ (n - 1) := by
  rcases Nat.eq_zero_or_pos n with e | e
  · rw [e] at hb
    have : b < 1 := hb
    omega
  · have e2 : (2 : Int) ^ n = 2 ^ (n - 1) * 2 := by
      rw [← Int.pow_succ]
      congr 1
      omega
    rw [e2] at hb
    exact ⟨e, by omega⟩
theorem lc_pow63 {m : Int} (h0 : 0 < m) (h : lc m ≤ 63) : m < 2 ^ 2016 := by
  have h1 := lc_room h
  rw [show BB = 2 ^ 32 from rfl, ← Nat.pow_mul] at h1
  have h2 : ((m.natAbs : Nat) : Int) < ((2 ^ (32 * 63) : Nat) : Int) := Int.ofNat_lt.mpr h1
  rw [Int.natCast_pow] at h2
  have e : ((m.natAbs : Nat) : Int) = m := by omega
  rw [e] at h2
  exact h2
/-- how many rounds are left for line t -/
def IST (Z : imat) (t ln pl k : Nat) : Prop := (1 ≤ k ∧ ∀ i p, t ≤ i → i < ln → t ≤ p → p < pl → Z i p = 0) ∨ (0 < Z t t ∧ ∃ b : Nat, Z t t < 2 ^ b ∧ 2 * b + 1 ≤ k) ∨ (0 < Z t t ∧ (∀ i, t < i → i < ln → Z i t = 0) ∧ (∃ p, t < p ∧ p < pl ∧ ¬ Z t t ∣ Z t p) ∧ ∃ b : Nat, Z t t < 2 ^ b ∧ 2 * b ≤ k)
theorem iso_round {Z0 Z1 Z2 : imat} {t ln pl k : Nat} (hpl : pl ≤ 16) (hln : ln ≤ 16) (htp : t < pl) (h : (0 < Z0 t t ∧ ∃ b : Nat, Z0 t t < 2 ^ b ∧ 2 * b + 1 ≤ k + 1) ∨ (0 < Z0 t t ∧ (∀ i, t < i → i < ln → Z0 i t = 0) ∧ (∃ p, t < p ∧ p < pl ∧ ¬ Z0 t t ∣ Z0 t p) ∧ ∃ b : Nat, Z0 t t < 2 ^ b ∧ 2 * b ≤ k + 1)) (n1 : 0 ≤ Z1 t t) (n2 : 0 ≤ Z2 t t) (hA : Z0 t t ≠ 0 → Z1 t t ≠ 0 ∧ Z1 t t ∣ Z0 t t ∧ ((∀ i, t < i → i < ln → Z0 t t ∣ Z0 i t) → ∀ p, p < 16 → Z1 t p = Z0 t p)) (hB : Z1 t t ≠ 0 → Z2 t t ≠ 0 ∧ Z2 t t ∣ Z1 t t ∧ ((∀ p, t < p → p < pl → Z1 t t ∣ Z1 t p) → ∀ i, i < 16 → Z2 i t = Z1 i t)) (hD : Z1 t t ≠ 0 → ∀ p, t < p → p < pl → Z2 t t ∣ Z1 t p) (z1 : ∀ i, t < i → i < ln → Z1 i t = 0) : 0 < Z2 t t ∧ (∃ b : Nat, Z2 t t < 2 ^ b ∧ 2 * b ≤ k) ∧ ((∃ i, t < i ∧ i < ln ∧ Z2 i t ≠ 0) → ∃ b : Nat, Z2 t t < 2 ^ b ∧ 2 * b + 1 ≤ k) := by
  have z0 : 0 < Z0 t t := by rcases h with h | h <;> exact h.1
  obtain ⟨a1, a2, a3⟩ := hA (by omega)
  obtain ⟨b1, b2, b3⟩ := hB a1
  have d := hD a1
  have p2 : 0 < Z2 t t := by omega
  have p1 : 0 < Z1 t t := by omega
  have l1 := Int.le_of_dvd z0 a2
  have l2 := Int.le_of_dvd p1 b2
  rcases h with ⟨_, b, hb, hk⟩ | ⟨_, hc, ⟨p, q1, q2, q3⟩, b, hb, hk⟩
  · refine ⟨p2, ⟨b, by omega, by omega⟩, fun ⟨i, i1, i2, i3⟩ => ?_⟩
    have hne : Z2 t t ≠ Z1 t t := fun e => i3 (by
      rw [b3 (fun p h1 h2 => by rw [← e]; exact d p h1 h2) i (by omega)]
      exact z1 i i1 i2)
    obtain ⟨c1, c2⟩ := half_pow (half_dvd p2 p1 b2 hne) p2 (show Z1 t t < 2 ^ b by omega)
    exact ⟨b - 1, c2, by omega⟩
  · have same := a3 (fun i h1 h2 => by rw [hc i h1 h2]; exact ⟨0, by omega⟩)
    have s1 := same t (by omega)
    have hne : Z2 t t ≠ Z0 t t := fun e => q3 (by rw [← same p (by omega), ← e]; exact d p q1 q2)
    obtain ⟨c1, c2⟩ := half_pow (half_dvd p2 z0 (by rw [← s1]; exact b2) hne) p2 hb
    exact ⟨p2, ⟨b - 1, c2, by omega⟩, fun _ => ⟨b - 1, c2, by omega⟩⟩
section S10
variable {G : jg} {d : Nat} {Q : jq} {rc rs : Nat} {M : mheap} {wa la cap : Nat → Nat} {N eu dv hi lo dk re rca ln pl ls ps : Nat} {s : Nat → Nat} {V : Nat → Int}
theorem r_isolate {t r : Nat} {m : Int} {sv : Nat → Int} (hG : kG G) (hK : KJI wa la cap N hi lo) (hS : KS M wa la cap N eu dv hi lo dk V) (hJ : QJ wa la cap N eu dv hi lo dk re rca) (hR : RST M wa re rca dk ln pl ls ps s) (hs : STP ls ps) (hln : ln ≤ 16) (hpl : pl ≤ 16) (htl : t < ln) (htp : t < pl) (hm : V 547 = m) (hm0 : 0 < m) (hlm : lc m ≤ 63) (hrg : (∀ i p, t ≤ i → i < ln → t ≤ p → p < pl → 0 ≤ rz V s ls ps i p ∧ rz V s ls ps i p < m)) (hsk : SMK (rz V s ls ps) sv r t ln pl m) (k : ∀ (M' : mheap) (V' : Nat → Int) (s' : Nat → Nat) (g : Int), KS M' wa la cap N eu dv hi lo dk V' → RST M' wa re rca dk ln pl ls ps s' → EFX (fun x => x = re ∨ x = rca) M M' wa la N eu dv hi lo → (∀ q, 10 ≤ q → q < 548 ∨ 809 ≤ q → V' q = V q) → SMK (rz V' s' ls ps) sv r t ln pl m → V' (rp s' ls ps t t) = g → 0 < g → g ∣ m → (∀ p, t < p → p < pl → rz V' s' ls ps t p = 0) → (∀ i, t < i → i < ln → rz V' s' ls ps i t = 0) → (∀ i p, t < i → i < ln → t < p → p < pl → (0 ≤ rz V' s' ls ps i p ∧ rz V' s' ls ps i p < m) ∧ g ∣ rz V' s' ls ps i p) → Q (.returned none) M' rc rs) : jj G kS_isolate (d + 7) Q rc rs 0 (jj_ent [.ref re, .int (nI t)] 4) [] M := by
  obtain ⟨h809, c547, c548, c553, f1, f2, n1, n2⟩ := id hJ
  have hre := hR.1
  have hmp : m < 2 ^ 2016 := lc_pow63 hm0 hlm
  show jj G kS_isolate (d + 7) Q rc rs 0 [some (.ref re), some (.int (nI (t))), none, none] [] M
  refine jj_aload_n (pc := 0) kS_isolate_d0 rfl ?_
  refine jj_iload_n (pc := 1) kS_isolate_d1 rfl ?_
  refine jj_callV (pc := 2) (b := re) (As := [.int (nI (t))]) kS_isolate_d2 (kvS_S_fetchPivot hG) (kG_cl hG rfl) rfl hre rfl rfl rfl (Nat.le_of_ble_eq_true rfl) (Nat.le_of_ble_eq_true rfl) (jj_bare0 rfl) ?_
  refine r_fetchPivot (m := m) hG hK hS hJ hR hs hln hpl htl htp (fun M1 s1 hS1 hR1 hx1 hq1 mp1 hz1 => ?_)
  obtain ⟨sx, q1, q2⟩ := hq1
  have tz : ∀ (W : Nat → Int) (y : Nat → Nat), (fun i j => rz W y ls ps j i) = rz W y ps ls := fun W y => by
    funext i j
    exact congrArg W (rpl_turn y ls ps i j).symm
  have sk1 := (hsk.lq (by omega) (by omega) q1).lqT (Z' := rz V s1 ls ps) (by omega) (by omega) (by rw [tz, tz]; exact q2)
  have rg1 : ∀ i p, t ≤ i → i < ln → t ≤ p → p < pl → 0 ≤ rz V s1 ls ps i p ∧ rz V s1 ls ps i p < m := fun i p a1 a2 a3 a4 => by
    obtain ⟨i', p', e1, e2, e3, e4, e5⟩ := mp1 i p a1 a2 a3 a4
    unfold rz
    rw [e5]
    exact hrg i' p' e1 e2 e3 e4
  have hre1 := hR1.1
  have tt1 := rg1 t t (Nat.le_refl _) htl (Nat.le_refl _) htp
  have ist1 : IST (rz V s1 ls ps) t ln pl 4033 := by
    rcases hz1 with h | h
    · exact Or.inl ⟨by omega, h⟩
    · exact Or.inr (Or.inl ⟨by omega, 2016, by omega, by omega⟩)
  show jj G kS_isolate (d + 7) Q rc rs 5 [some (.ref re), some (.int (nI (t))), none, none] [] M1
  refine jn_iconst (pc := 5) 0 kS_isolate_d5 (by decide) ?_
  refine jj_istore_n (pc := 6) kS_isolate_d6 (Nat.le_of_ble_eq_true rfl) ?_
  show jj G kS_isolate (d + 7) Q rc rs 7 [some (.ref re), some (.int (nI (t))), some (.int (nI (0))), none] [] M1
  show jj G kS_isolate (d + 7) Q rc rs 7 [some (.ref re), some (.int (nI (t))), some (.int (nI (0))), none] [] M1
  have loop : ∀ k' n, n + k' ≤ 1000000 → ∀ (ol : Option Value) (M9 : mheap) (V9 : Nat → Int) (s9 : Nat → Nat), KS M9 wa la cap N eu dv hi lo dk V9 → RST M9 wa re rca dk ln pl ls ps s9 → EFX (fun x => x = re ∨ x = rca) M M9 wa la N eu dv hi lo → (∀ q, 10 ≤ q → q < 548 ∨ 809 ≤ q → V9 q = V q) → SMK (rz V9 s9 ls ps) sv r t ln pl m → (∀ i p, t ≤ i → i < ln → t ≤ p → p < pl → 0 ≤ rz V9 s9 ls ps i p ∧ rz V9 s9 ls ps i p < m) → IST (rz V9 s9 ls ps) t ln pl k' → jj G kS_isolate (d + 7) Q rc rs 7 [some (.ref re), some (.int (nI (t))), some (.int (nI (n))), (ol)] [] M9 := by
    intro k'
    induction k' with
    | zero =>
      intro n hn ol M9 V9 s9 hS9 hR9 f9 o9 k9 r9 i9
      exfalso
      rcases i9 with ⟨a, _⟩ | ⟨_, b, _, a⟩ | ⟨a, _, _, b, a2, a3⟩
      · omega
      · omega
      · rw [show b = 0 by omega] at a2
        have : rz V9 s9 ls ps t t < 1 := a2
        omega
    | succ k' ih =>
      intro n hn ol M9 V9 s9 hS9 hR9 f9 o9 k9 r9 i9
      have hre9 := hR9.1
      have m9 : V9 547 = m := by rw [o9 547 (by omega) (by omega)]; exact hm
      refine jj_iload_n (pc := 7) kS_isolate_d7 rfl ?_
      refine jj_ldc (pc := 8) kS_isolate_d8 (kcS_1000000 hG) ?_
      refine jn_top (.int (nI (1000000))) (rfl) ?_
      refine jn_icmp_ge (pc := 10) (tgt := 67) kS_isolate_d10 (by decide) (by omega) (by omega) (fun c => by exfalso; omega) (fun _ => ?_)
      refine jj_aload_n (pc := 13) kS_isolate_d13 rfl ?_
      refine jj_iload_n (pc := 14) kS_isolate_d14 rfl ?_
      refine jj_callV (pc := 15) (b := re) (As := [.int (nI (t))]) kS_isolate_d15 (kvS_S_clearBehind hG) (kG_cl hG rfl) rfl hre9 rfl rfl rfl (Nat.le_of_ble_eq_true rfl) (Nat.le_of_ble_eq_true rfl) (jj_bare0 rfl) ?_
      refine r_clearBehind hG hK hS9 hJ hR9 hs hln hpl htl htp m9 hm0 hlm r9 (fun Ma Va sa hSa hRa fa ca za da => ?_)
      have hrea := hRa.1
      have ka := k9.lq (by omega) (by omega) ca.1
      have ma : Va 547 = m := by rw [ca.2.2.1 547 (by omega) (by omega)]; exact m9
      show jj G kS_isolate (d + 7) Q rc rs 18 [some (.ref re), some (.int (nI (t))), some (.int (nI (n))), (ol)] [] Ma
      refine jj_aload_n (pc := 18) kS_isolate_d18 rfl ?_
      refine jj_callV (pc := 19) (b := re) (As := []) kS_isolate_d19 (kvS_S_turnOver hG) (kG_cl hG rfl) rfl hrea rfl rfl rfl (Nat.le_of_ble_eq_true rfl) (Nat.le_of_ble_eq_true rfl) (jj_bare0 rfl) ?_
      refine r_turnOver hG hK hSa hJ hRa (fun Mb hSb hRb fb => ?_)
      have hreb := hRb.1
      have rb : ∀ i p, t ≤ i → i < pl → t ≤ p → p < ln → 0 ≤ rz Va sa ps ls i p ∧ rz Va sa ps ls i p < m := fun i p a1 a2 a3 a4 => by
        rw [← tz]; exact ca.2.1 p i a3 a4 a1 a2
      show jj G kS_isolate (d + 7) Q rc rs 22 [some (.ref re), some (.int (nI (t))), some (.int (nI (n))), (ol)] [] Mb
      refine jj_aload_n (pc := 22) kS_isolate_d22 rfl ?_
      refine jj_iload_n (pc := 23) kS_isolate_d23 rfl ?_
      refine jj_callV (pc := 24) (b := re) (As := [.int (nI (t))]) kS_isolate_d24 (kvS_S_clearBehind hG) (kG_cl hG rfl) rfl hreb rfl rfl rfl (Nat.le_of_ble_eq_true rfl) (Nat.le_of_ble_eq_true rfl) (jj_bare0 rfl) ?_
      refine r_clearBehind hG hK hSb hJ hRb hs.turn hpl hln htp htl ma hm0 hlm rb (fun Mc Vc sc hSc hRc fc cc zc dc => ?_)
      have hrec := hRc.1
      have kc := ka.lqT (Z' := rz Vc sc ls ps) (by omega) (by omega) (by rw [tz, tz]; exact cc.1)
      have mc : Vc 547 = m := by rw [cc.2.2.1 547 (by omega) (by omega)]; exact ma
      show jj G kS_isolate (d + 7) Q rc rs 27 [some (.ref re), some (.int (nI (t))), some (.int (nI (n))), (ol)] [] Mc
      refine jj_aload_n (pc := 27) kS_isolate_d27 rfl ?_
      refine jj_callV (pc := 28) (b := re) (As := []) kS_isolate_d28 (kvS_S_turnOver hG) (kG_cl hG rfl) rfl hrec rfl rfl rfl (Nat.le_of_ble_eq_true rfl) (Nat.le_of_ble_eq_true rfl) (jj_bare0 rfl) ?_
      refine r_turnOver hG hK hSc hJ hRc (fun Md hSd hRd fd => ?_)
      have hred := hRd.1
      have tc : ∀ (W : Nat → Int) (y : Nat → Nat) i p, rz W y ps ls i p = rz W y ls ps p i := fun W y i p => congrArg W (rpl_turn y ls ps i p)
      have rd : ∀ i p, t ≤ i → i < ln → t ≤ p → p < pl → 0 ≤ rz Vc sc ls ps i p ∧ rz Vc sc ls ps i p < m := fun i p a1 a2 a3 a4 => by
        rw [← tc]; exact cc.2.1 p i a3 a4 a1 a2
      have zd : ∀ p, t < p → p < pl → rz Vc sc ls ps t p = 0 := fun p a1 a2 => by rw [← tc]; exact zc p a1 a2
      have fM : EFX (fun x => x = re ∨ x = rca) M Md wa la N eu dv hi lo := ((((f9.trans fa).trans fb).trans fc).trans fd)
      have od : ∀ q, 10 ≤ q → q < 548 ∨ 809 ≤ q → Vc q = V q := fun q a1 a2 => by rw [cc.2.2.1 q a1 a2, ca.2.2.1 q a1 a2]; exact o9 q a1 a2
      have td := rd t t (Nat.le_refl _) htl (Nat.le_refl _) htp
      have ta := ca.2.1 t t (Nat.le_refl _) htl (Nat.le_refl _) htp
      have hH : (∀ i p, t ≤ i → i < ln → t ≤ p → p < pl → rz Vc sc ls ps i p = 0) ∨ (0 < rz Vc sc ls ps t t ∧ (∃ b : Nat, rz Vc sc ls ps t t < 2 ^ b ∧ 2 * b ≤ k') ∧ ((∃ i, t < i ∧ i < ln ∧ rz Vc sc ls ps i t ≠ 0) → ∃ b : Nat, rz Vc sc ls ps t t < 2 ^ b ∧ 2 * b + 1 ≤ k')) := by
        rcases i9 with ⟨_, h0⟩ | h0
        · have h1 := ca.1.zero h0 ca.2.1
          have h2 := cc.1.zero (fun i p a1 a2 a3 a4 => by rw [tc]; exact h1 p i a3 a4 a1 a2) cc.2.1
          exact Or.inl (fun i p a1 a2 a3 a4 => by rw [← tc]; exact h2 p i a3 a4 a1 a2)
        · refine Or.inr (iso_round hpl hln htp h0 ta.1 td.1 ca.2.2.2.2.2 (fun h => ?_) (fun h p a1 a2 => ?_) za)
          · obtain ⟨b1, b2, b3⟩ := cc.2.2.2.2.2 (by rw [tc]; exact h)
            rw [tc, tc] at b2
            rw [tc] at b1
            exact ⟨b1, b2, fun hd i hi16 => by rw [← tc, ← tc Va]; exact b3 (fun p a1 a2 => by rw [tc, tc]; exact hd p a1 a2) i hi16⟩
          · have := dc (by rw [tc]; exact h) p a1 a2
            rw [tc, tc] at this
            exact this
      show jj G kS_isolate (d + 7) Q rc rs 31 [some (.ref re), some (.int (nI (t))), some (.int (nI (n))), (ol)] [] Md
      refine jj_aload_n (pc := 31) kS_isolate_d31 rfl ?_
      refine jj_iload_n (pc := 32) kS_isolate_d32 rfl ?_
      refine jj_callV (pc := 33) (b := re) (As := [.int (nI (t))]) kS_isolate_d33 (kvS_S_isClearBehind hG) (kG_cl hG rfl) rfl hred rfl rfl rfl (Nat.le_of_ble_eq_true rfl) (Nat.le_of_ble_eq_true rfl) (jj_bare0 rfl) ?_
      refine r_isClearBehind hG hK hSd hJ hRd hs hln (by omega) (fun hcl => ?_) (fun i a1 a2 a3 => ?_)
      · skip
        show jj G kS_isolate (d + 7) Q rc rs 36 [some (.ref re), some (.int (nI (t))), some (.int (nI (n))), (ol)] [.int (nI (1))] Md
        refine jn_if_eq (pc := 36) (tgt := 61) kS_isolate_d36 (by decide) (by omega) (fun c => by exfalso; omega) (fun _ => ?_)
        refine jj_aload_n (pc := 39) kS_isolate_d39 rfl ?_
        refine jj_iload_n (pc := 40) kS_isolate_d40 rfl ?_
        refine jj_callV (pc := 41) (b := re) (As := [.int (nI (t))]) kS_isolate_d41 (kvS_S_joinModulus hG) (kG_cl hG rfl) rfl hred rfl rfl rfl (Nat.le_of_ble_eq_true rfl) (Nat.le_of_ble_eq_true rfl) (jj_bare0 rfl) ?_
        refine r_joinModulus hG hK hSd hJ hRd hs (by omega) mc hm0 hlm td (fun Me Ve hSe fe ge oe => ?_)
        have hspd := hRd.2.2
        have hRe := hRd.ef hJ fe
        have hree := hRe.1
        have btt := hspd.b hs (show t < 16 by omega) (show t < 16 by omega)
        have oce : ∀ i p, i < 16 → p < 16 → ¬ (i = t ∧ p = t) → rz Ve sc ls ps i p = rz Vc sc ls ps i p := fun i p a1 a2 a3 => by
          have := hspd.b hs a1 a2
          exact oe _ (by omega) (hspd.ne hs a1 a2 (by omega) (by omega) a3)
        have ke : SMK (rz Ve sc ls ps) sv r t ln pl m := kc.join htl htp zd ge (fun i p a1 a2 a3 a4 a5 => oce i p (by omega) (by omega) (by omega))
        obtain ⟨g, eg⟩ : ∃ g : Int, gI (Vc (rp sc ls ps t t)) m = g := ⟨_, rfl⟩
        rw [eg] at ge
        have gm : g ∣ m := by rw [← eg]; exact gI_r _ _
        have g0 : 0 < g := by
          have a1 := gI_nn (Vc (rp sc ls ps t t)) m
          rw [eg] at a1
          obtain ⟨y, hy⟩ := gm
          rcases (show g = 0 ∨ 0 < g by omega) with e | e
          · rw [e, Int.zero_mul] at hy; omega
          · exact e
        have oee : ∀ q, 10 ≤ q → q < 548 ∨ 809 ≤ q → Ve q = V q := fun q a1 a2 => by rw [oe q a1 (by omega)]; exact od q a1 a2
        show jj G kS_isolate (d + 7) Q rc rs 44 [some (.ref re), some (.int (nI (t))), some (.int (nI (n))), (ol)] [] Me
        refine jj_aload_n (pc := 44) kS_isolate_d44 rfl ?_
        refine jj_iload_n (pc := 45) kS_isolate_d45 rfl ?_
        refine jj_callV (pc := 46) (b := re) (As := [.int (nI (t))]) kS_isolate_d46 (kvS_S_lineNotDivided hG) (kG_cl hG rfl) rfl hree rfl rfl rfl (Nat.le_of_ble_eq_true rfl) (Nat.le_of_ble_eq_true rfl) (jj_bare0 rfl) ?_
        refine r_lineNotDivided hG hK hSe hJ hRe hs hln hpl htl htp (by rw [ge]; exact g0) (fun Mf Vf f p hSf ff of_ t1 t2 t3 t4 nd => ?_) (fun Mf Vf hSf ff of_ yd => ?_)
        · skip
          have hRf := hRe.ef hJ ff
          have href := hRf.1
          have hspf := hRf.2.2
          have cfe : ∀ i p, i < 16 → p < 16 → rz Vf sc ls ps i p = rz Ve sc ls ps i p := fun i p a1 a2 => by
            have := hspf.b hs a1 a2
            exact of_ _ (by omega)
          show jj G kS_isolate (d + 7) Q rc rs 49 [some (.ref re), some (.int (nI (t))), some (.int (nI (n))), (ol)] [.int (nI (f))] Mf
          refine jj_istore_n (pc := 49) kS_isolate_d49 (Nat.le_of_ble_eq_true rfl) ?_
          show jj G kS_isolate (d + 7) Q rc rs 50 [some (.ref re), some (.int (nI (t))), some (.int (nI (n))), some (.int (nI (f)))] [] Mf
          refine jj_iload_n (pc := 50) kS_isolate_d50 rfl ?_
          refine jz_if_ge (pc := 51) (tgt := 55) (a := ((f : Nat) : Int)) kS_isolate_d51 (by decide) (zI_nat _).symm (by omega) (by omega) (fun _ => ?_) (fun c => by exfalso; omega)
          refine jj_aload_n (pc := 55) kS_isolate_d55 rfl ?_
          refine jj_iload_n (pc := 56) kS_isolate_d56 rfl ?_
          refine jj_iload_n (pc := 57) kS_isolate_d57 rfl ?_
          refine jj_callV (pc := 58) (b := re) (As := [.int (nI (f)), .int (nI (t))]) kS_isolate_d58 (kvS_S_copyLine hG) (kG_cl hG rfl) rfl href rfl rfl rfl (Nat.le_of_ble_eq_true rfl) (Nat.le_of_ble_eq_true rfl) (jj_bare0 rfl) ?_
          refine r_copyLine hG hK hSf hJ hRf hs hpl (by omega) (by omega) (by omega) htp (fun Mg Vg hSg fg eg_ og => ?_)
          have hRg := hRf.ef hJ fg
          have hreg := hRg.1
          have ogc : ∀ i p, i < 16 → p < 16 → i ≠ t ∨ p ≤ t ∨ pl ≤ p → rz Vg sc ls ps i p = rz Ve sc ls ps i p := fun i p a1 a2 a3 => by
            rw [← cfe i p a1 a2]
            exact og _ (fun p' b1 b2 => hspf.ne hs a1 a2 (by omega) (by omega) (by omega))
          have etg : ∀ p, t < p → p < pl → rz Vg sc ls ps t p = rz Vc sc ls ps f p := fun p a1 a2 => by
            have := eg_ p a1 a2
            rw [← oce f p (by omega) (by omega) (by omega), ← cfe f p (by omega) (by omega)]
            exact this
          have gtt : rz Vg sc ls ps t t = g := by rw [ogc t t (by omega) (by omega) (by omega)]; exact ge
          have kg : SMK (rz Vg sc ls ps) sv r t ln pl m := ke.lq (by omega) (by omega) (LQE.pair (x := t) (y := f) (a := 1) (b := 1) (c := 0) (e := 1) (a' := 1) (b' := -1) (c' := 0) (e' := 1) (Nat.le_refl _) htl (by omega) t2 (by omega) (by decide) (by decide) (by decide) (by decide) (by decide) (by decide) (by decide) (by decide) (fun i h1 h2 h3 h4 p h5 h6 => ogc i p (by omega) (by omega) (Or.inl h3)) (fun p h1 h2 => ⟨0, by
            by_cases e : p = t
            · rw [e, ogc t t (by omega) (by omega) (by omega), oce f t (by omega) (by omega) (by omega), hcl f t1 t2]; omega
            · rw [etg p (by omega) h2, oce t p (by omega) (by omega) (by omega), zd p (by omega) h2, oce f p (by omega) (by omega) (by omega)]; omega⟩) (fun p h1 h2 => ⟨0, by rw [ogc f p (by omega) (by omega) (by omega)]; omega⟩))
          have fle : ¬ g ∣ rz Vc sc ls ps f p := by
            rw [← oce f p (by omega) (by omega) (by omega), ← ge]
            exact nd
          obtain ⟨p2, ⟨b, hb1, hb2⟩, _⟩ : 0 < rz Vc sc ls ps t t ∧ (∃ b : Nat, rz Vc sc ls ps t t < 2 ^ b ∧ 2 * b ≤ k') ∧ ((∃ i, t < i ∧ i < ln ∧ rz Vc sc ls ps i t ≠ 0) → ∃ b : Nat, rz Vc sc ls ps t t < 2 ^ b ∧ 2 * b + 1 ≤ k') := by
            rcases hH with h | h
            · exact absurd (by rw [h f p (by omega) t2 (by omega) t4]; exact ⟨0, by omega⟩) fle
            · exact h
          have gle : g ≤ rz Vc sc ls ps t t := by rw [← eg]; exact Int.le_of_dvd p2 (gI_l _ _)
          show jj G kS_isolate (d + 7) Q rc rs 61 [some (.ref re), some (.int (nI (t))), some (.int (nI (n))), some (.int (nI (f)))] [] Mg
          refine jn_iinc (pc := 61) (n + 1) kS_isolate_d61 rfl (nI_1 _) ?_
          refine jj_goto (pc := 64) (tgt := 7) kS_isolate_d64 (by decide) ?_
          show jj G kS_isolate (d + 7) Q rc rs 7 [some (.ref re), some (.int (nI (t))), some (.int (nI (n + 1))), some (.int (nI (f)))] [] Mg
          refine ih (n + 1) (by omega) _ Mg Vg sc hSg hRg (((fM.trans fe.efx).trans ff.efx).trans fg.efx) (fun q a1 a2 => ?_) kg (fun i p a1 a2 a3 a4 => ?_) (Or.inr (Or.inr ⟨by rw [gtt]; exact g0, fun i a1 a2 => ?_, ⟨p, t3, t4, by rw [gtt, etg p t3 t4]; exact fle⟩, b, by rw [gtt]; omega, hb2⟩))
          · rw [og q (fun p' b1 b2 => by have := hspf.b hs (show t < 16 by omega) (show p' < 16 by omega); omega), of_ q a1]
            exact oee q a1 a2
          · by_cases e1 : i = t
            · by_cases e2 : p = t
              · rw [e1, e2, gtt]; omega
              · rw [e1, etg p (by omega) a4]; exact rd f p (by omega) t2 a3 a4
            · rw [ogc i p (by omega) (by omega) (Or.inl e1), oce i p (by omega) (by omega) (by omega)]; exact rd i p a1 a2 a3 a4
          · rw [ogc i t (by omega) (by omega) (by omega), oce i t (by omega) (by omega) (by omega)]; exact hcl i a1 a2
        · skip
          have hRf := hRe.ef hJ ff
          have href := hRf.1
          have hspf := hRf.2.2
          have cfe : ∀ i p, i < 16 → p < 16 → rz Vf sc ls ps i p = rz Ve sc ls ps i p := fun i p a1 a2 => by
            have := hspf.b hs a1 a2
            exact of_ _ (by omega)
          show jj G kS_isolate (d + 7) Q rc rs 49 [some (.ref re), some (.int (nI (t))), some (.int (nI (n))), (ol)] [.int ((-1))] Mf
          refine jj_istore_n (pc := 49) kS_isolate_d49 (Nat.le_of_ble_eq_true rfl) ?_
          show jj G kS_isolate (d + 7) Q rc rs 50 [some (.ref re), some (.int (nI (t))), some (.int (nI (n))), some (.int ((-1)))] [] Mf
          refine jj_iload_n (pc := 50) kS_isolate_d50 rfl ?_
          refine jj_if_ge (pc := 51) (tgt := 55) kS_isolate_d51 (by decide) (fun c => absurd c (by decide)) (fun _ => ?_)
          exact jj_vret (pc := 54) kS_isolate_d54 rfl (k Mf Vf sc g hSf hRf ((fM.trans fe.efx).trans ff.efx) (fun q a1 a2 => by rw [of_ q a1]; exact oee q a1 a2) (ke.lq (by omega) (by omega) ((LQE.refl _).congr (fun i p a1 a2 a3 a4 => cfe i p (by omega) (by omega)))) ((cfe t t (by omega) (by omega)).trans ge) g0 gm (fun p a1 a2 => by rw [cfe t p (by omega) (by omega), oce t p (by omega) (by omega) (by omega)]; exact zd p a1 a2) (fun i a1 a2 => by rw [cfe i t (by omega) (by omega), oce i t (by omega) (by omega) (by omega)]; exact hcl i a1 a2) (fun i p a1 a2 a3 a4 => by
                      refine ⟨?_, ?_⟩
                      · rw [cfe i p (by omega) (by omega), oce i p (by omega) (by omega) (by omega)]; exact rd i p (by omega) a2 (by omega) a4
                      · rw [cfe i p (by omega) (by omega), ← ge]; exact yd i p a1 a2 a3 a4))
      · skip
        show jj G kS_isolate (d + 7) Q rc rs 36 [some (.ref re), some (.int (nI (t))), some (.int (nI (n))), (ol)] [.int (nI (0))] Md
        refine jn_if_eq (pc := 36) (tgt := 61) kS_isolate_d36 (by decide) (by omega) (fun _ => ?_) (fun c => by exfalso; omega)
        refine jn_iinc (pc := 61) (n + 1) kS_isolate_d61 rfl (nI_1 _) ?_
        refine jj_goto (pc := 64) (tgt := 7) kS_isolate_d64 (by decide) ?_
        show jj G kS_isolate (d + 7) Q rc rs 7 [some (.ref re), some (.int (nI (t))), some (.int (nI (n + 1))), (ol)] [] Md
        obtain ⟨p2, _, h3⟩ : 0 < rz Vc sc ls ps t t ∧ (∃ b : Nat, rz Vc sc ls ps t t < 2 ^ b ∧ 2 * b ≤ k') ∧ ((∃ i, t < i ∧ i < ln ∧ rz Vc sc ls ps i t ≠ 0) → ∃ b : Nat, rz Vc sc ls ps t t < 2 ^ b ∧ 2 * b + 1 ≤ k') := by
          rcases hH with h | h
          · exact absurd (h i t (by omega) a2 (Nat.le_refl _) htp) a3
          · exact h
        exact ih (n + 1) (by omega) _ Md Vc sc hSd hRd fM od kc rd (Or.inr (Or.inl ⟨p2, h3 ⟨i, a1, a2, a3⟩⟩))
  exact loop 4033 0 (by omega) _ M1 V s1 hS1 hR1 hx1 (fun _ _ _ => rfl) sk1 rg1 ist1
end S10
