/-! ===== Residues: clearBehind (printed by wip/gen/rS4.py) ===== -/
/-- what a step on the lines t and i behind it keeps; cell t of line i becomes 0 -/
def CSP (ls ps t i ln pl : Nat) (m : Int) (V : Nat → Int) (s : Nat → Nat) (V' : Nat → Int) (s' : Nat → Nat) : Prop := LQE (rz V s ls ps) (rz V' s' ls ps) t ln pl m ∧ (∀ p, t ≤ p → p < pl → (0 ≤ rz V' s' ls ps t p ∧ rz V' s' ls ps t p < m) ∧ 0 ≤ rz V' s' ls ps i p ∧ rz V' s' ls ps i p < m) ∧ (∀ q, 10 ≤ q → q < 548 ∨ 809 ≤ q → V' q = V q) ∧ (∀ i' p, i' < 16 → p < 16 → (i' ≠ t ∧ i' ≠ i) ∨ pl ≤ p → rz V' s' ls ps i' p = rz V s ls ps i' p) ∧ (∀ p, p < t → rz V s ls ps t p = 0 → rz V s ls ps i p = 0 → rz V' s' ls ps t p = 0 ∧ rz V' s' ls ps i p = 0) ∧ rz V' s' ls ps i t = 0 ∧ (rz V s ls ps t t ≠ 0 → rz V' s' ls ps t t ≠ 0 ∧ rz V' s' ls ps t t ∣ rz V s ls ps t t ∧ rz V' s' ls ps t t ∣ rz V s ls ps i t ∧ (rz V s ls ps t t ∣ rz V s ls ps i t → ∀ p, p < 16 → rz V' s' ls ps t p = rz V s ls ps t p)) ∧ (rz V s ls ps i t ≠ 0 → rz V' s' ls ps t t ≠ 0)
/-- what clearBehind keeps -/
def CST (ls ps t ln pl : Nat) (m : Int) (V : Nat → Int) (s : Nat → Nat) (V' : Nat → Int) (s' : Nat → Nat) : Prop := LQE (rz V s ls ps) (rz V' s' ls ps) t ln pl m ∧ (∀ i p, t ≤ i → i < ln → t ≤ p → p < pl → 0 ≤ rz V' s' ls ps i p ∧ rz V' s' ls ps i p < m) ∧ (∀ q, 10 ≤ q → q < 548 ∨ 809 ≤ q → V' q = V q) ∧ (∀ i' p, i' < 16 → p < 16 → i' < t ∨ ln ≤ i' ∨ pl ≤ p → rz V' s' ls ps i' p = rz V s ls ps i' p) ∧ ((∀ i p, t ≤ i → i < ln → p < t → rz V s ls ps i p = 0) → ∀ i p, t ≤ i → i < ln → p < t → rz V' s' ls ps i p = 0) ∧ (rz V s ls ps t t ≠ 0 → rz V' s' ls ps t t ≠ 0 ∧ rz V' s' ls ps t t ∣ rz V s ls ps t t ∧ ((∀ i, t < i → i < ln → rz V s ls ps t t ∣ rz V s ls ps i t) → ∀ p, p < 16 → rz V' s' ls ps t p = rz V s ls ps t p))
section S4
variable {G : jg} {d : Nat} {Q : jq} {rc rs : Nat} {M : mheap} {wa la cap : Nat → Nat} {N eu dv hi lo dk re rca ln pl ls ps : Nat} {s : Nat → Nat} {V : Nat → Int}
theorem r_clearLine {t i : Nat} {m : Int} (hG : kG G) (hK : KJI wa la cap N hi lo) (hS : KS M wa la cap N eu dv hi lo dk V) (hJ : QJ wa la cap N eu dv hi lo dk re rca) (hR : RST M wa re rca dk ln pl ls ps s) (hs : STP ls ps) (hln : ln ≤ 16) (hpl : pl ≤ 16) (hti : t < i) (hil : i < ln) (htp : t < pl) (hm : V 547 = m) (hm0 : 0 < m) (hlm : lc m ≤ 63) (hrg : (∀ i p, t ≤ i → i < ln → t ≤ p → p < pl → 0 ≤ rz V s ls ps i p ∧ rz V s ls ps i p < m)) (k : ∀ (M' : mheap) (V' : Nat → Int) (s' : Nat → Nat), KS M' wa la cap N eu dv hi lo dk V' → RST M' wa re rca dk ln pl ls ps s' → EFX (fun x => x = re ∨ x = rca) M M' wa la N eu dv hi lo → CSP ls ps t i ln pl m V s V' s' → jj G kS_clearBehind (d + 6) Q rc rs 99 [some (.ref re), some (.int (nI (t))), some (.int (nI (i)))] [] M') : jj G kS_clearBehind (d + 6) Q rc rs 12 [some (.ref re), some (.int (nI (t))), some (.int (nI (i)))] [] M := by
  obtain ⟨h809, c547, c548, c553, f1, f2, n1, n2⟩ := id hJ
  have hsp := hR.2.2
  have hre := hR.1
  have hI := hK.1
  have b1 := hsp.b hs (show t < 16 by omega) (show t < 16 by omega)
  have b2 := hsp.b hs (show i < 16 by omega) (show t < 16 by omega)
  have rTT := hrg t t (Nat.le_refl _) (by omega) (Nat.le_refl _) htp
  have rIT := hrg i t (by omega) (by omega) (Nat.le_refl _) htp
  have hc0 := hS.1
  have sw1 : swp i t t = i := by unfold swp; rw [if_neg (by omega), if_pos rfl]
  have sw2 : swp i t i = t := by unfold swp; rw [if_pos rfl]
  show jj G kS_clearBehind (d + 6) Q rc rs 12 [some (.ref re), some (.int (nI (t))), some (.int (nI (i)))] [] M
  refine jj_aload_n (pc := 12) kS_clearBehind_d12 rfl ?_
  refine jj_iload_n (pc := 13) kS_clearBehind_d13 rfl ?_
  refine jj_iload_n (pc := 14) kS_clearBehind_d14 rfl ?_
  refine jj_callV (pc := 15) (b := re) (As := [.int (nI (i)), .int (nI (t))]) kS_clearBehind_d15 (kvS_S_at hG) (kG_cl hG rfl) rfl hre rfl rfl rfl (Nat.le_of_ble_eq_true rfl) (Nat.le_of_ble_eq_true rfl) (jj_bare0 rfl) ?_
  refine r_at hG hR hs (by omega) (by omega) ?_
  show jj G kS_clearBehind (d + 6) Q rc rs 18 [some (.ref re), some (.int (nI (t))), some (.int (nI (i)))] [.ref (wa (rp s ls ps i t))] M
  obtain ⟨Tn101, tn101, hTn101, _, _, hZn101⟩ := hc0 (rp s ls ps i t) (by omega)
  have eZn101 := hZn101.cnt
  subst eZn101
  have bZn101 := hc0.lc (p := (rp s ls ps i t)) (by omega)
  have bYn101 := hI.2.2 (rp s ls ps i t) (by omega)
  refine jj_getf (pc := 18) kS_clearBehind_d18 (kfS_W_count hG) hTn101 rfl ?_
  refine jn_if_le (pc := 21) (tgt := 99) kS_clearBehind_d21 (by decide) (by omega) (fun c0 => ?_) (fun c0 => ?_)
  · skip
    show jj G kS_clearBehind (d + 6) Q rc rs 99 [some (.ref re), some (.int (nI (t))), some (.int (nI (i)))] [] M
    have z0 : rz V s ls ps i t = 0 := lc_nil (show lc (V (rp s ls ps i t)) ≤ 0 by omega)
    exact k M V s hS hR (fun _ _ _ => rfl) ⟨LQE.refl _, fun p h1 h2 => ⟨hrg t p (Nat.le_refl _) (by omega) h1 h2, hrg i p (by omega) (by omega) h1 h2⟩, fun _ _ _ => rfl, fun _ _ _ _ _ => rfl, fun p _ h1 h2 => ⟨h1, h2⟩, z0, fun h => ⟨h, Int.dvd_refl _, by rw [z0]; exact ⟨0, by omega⟩, fun _ _ _ => rfl⟩, fun h => absurd z0 h⟩
  · skip
    have p0 : 0 < V (rp s ls ps i t) := by have h1 : V (rp s ls ps i t) ≠ 0 := lc_pos (by omega); have h2 : 0 ≤ V (rp s ls ps i t) := rIT.1; omega
    refine jj_aload_n (pc := 24) kS_clearBehind_d24 rfl ?_
    refine jj_iload_n (pc := 25) kS_clearBehind_d25 rfl ?_
    refine jj_iload_n (pc := 26) kS_clearBehind_d26 rfl ?_
    refine jj_callV (pc := 27) (b := re) (As := [.int (nI (t)), .int (nI (t))]) kS_clearBehind_d27 (kvS_S_at hG) (kG_cl hG rfl) rfl hre rfl rfl rfl (Nat.le_of_ble_eq_true rfl) (Nat.le_of_ble_eq_true rfl) (jj_bare0 rfl) ?_
    refine r_at hG hR hs (by omega) (by omega) ?_
    show jj G kS_clearBehind (d + 6) Q rc rs 30 [some (.ref re), some (.int (nI (t))), some (.int (nI (i)))] [.ref (wa (rp s ls ps t t))] M
    obtain ⟨Tn102, tn102, hTn102, _, _, hZn102⟩ := hc0 (rp s ls ps t t) (by omega)
    have eZn102 := hZn102.cnt
    subst eZn102
    have bZn102 := hc0.lc (p := (rp s ls ps t t)) (by omega)
    have bYn102 := hI.2.2 (rp s ls ps t t) (by omega)
    refine jj_getf (pc := 30) kS_clearBehind_d30 (kfS_W_count hG) hTn102 rfl ?_
    refine jn_if_ne (pc := 33) (tgt := 45) kS_clearBehind_d33 (by decide) (by omega) (fun c1 => ?_) (fun c1 => ?_)
    rotate_left
    · skip
      have zT : V (rp s ls ps t t) = 0 := lc_nil (by omega)
      refine jj_aload_n (pc := 36) kS_clearBehind_d36 rfl ?_
      refine jj_iload_n (pc := 37) kS_clearBehind_d37 rfl ?_
      refine jj_iload_n (pc := 38) kS_clearBehind_d38 rfl ?_
      refine jj_callV (pc := 39) (b := re) (As := [.int (nI (i)), .int (nI (t))]) kS_clearBehind_d39 (kvS_S_swapLines hG) (kG_cl hG rfl) rfl hre rfl rfl rfl (Nat.le_of_ble_eq_true rfl) (Nat.le_of_ble_eq_true rfl) (jj_bare0 rfl) ?_
      refine r_swapLines hG hK hS hJ hR hs hpl (by omega) (by omega) (fun M1 s1 hS1 hR1 e1 hx1 => ?_)
      show jj G kS_clearBehind (d + 6) Q rc rs 42 [some (.ref re), some (.int (nI (t))), some (.int (nI (i)))] [] M1
      refine jj_goto (pc := 42) (tgt := 99) kS_clearBehind_d42 (by decide) ?_
      show jj G kS_clearBehind (d + 6) Q rc rs 99 [some (.ref re), some (.int (nI (t))), some (.int (nI (i)))] [] M1
      have et : ∀ p, p < 16 → rz V s1 ls ps t p = if p < pl then rz V s ls ps i p else rz V s ls ps t p := fun p hp => by
        unfold rz
        rw [e1 t p (by omega) hp, sw1]
        split <;> rfl
      have ei : ∀ p, p < 16 → rz V s1 ls ps i p = if p < pl then rz V s ls ps t p else rz V s ls ps i p := fun p hp => by
        unfold rz
        rw [e1 i p (by omega) hp, sw2]
        split <;> rfl
      have eo : ∀ i' p, i' < 16 → p < 16 → (i' ≠ t ∧ i' ≠ i) ∨ pl ≤ p → rz V s1 ls ps i' p = rz V s ls ps i' p := fun i' p h1 h2 h3 => by
        unfold rz
        rw [e1 i' p h1 h2]
        by_cases c : p < pl
        · rw [if_pos c]
          unfold swp
          rw [if_neg (by omega), if_neg (by omega)]
        · rw [if_neg c]
      refine k M1 V s1 hS1 hR1 hx1 ⟨LQE.pair (a := 0) (b := 1) (c := 1) (e := 0) (a' := 0) (b' := 1) (c' := 1) (e' := 0) (Nat.le_refl _) (by omega) (by omega) hil (by omega) (by decide) (by decide) (by decide) (by decide) (by decide) (by decide) (by decide) (by decide) (fun i' h1 h2 h3 h4 p h5 h6 => eo i' p (by omega) (by omega) (Or.inl ⟨h3, h4⟩)) (fun p h1 h2 => ⟨0, by rw [et p (by omega), if_pos h2]; omega⟩) (fun p h1 h2 => ⟨0, by rw [ei p (by omega), if_pos h2]; omega⟩), fun p h1 h2 => ?_, fun _ _ _ => rfl, eo, fun p h1 h2 h3 => ?_, ?_, fun h => absurd zT h, fun _ => ?_⟩
      · rw [et p (by omega), if_pos h2, ei p (by omega), if_pos h2]
        exact ⟨hrg i p (by omega) (by omega) h1 h2, hrg t p (Nat.le_refl _) (by omega) h1 h2⟩
      · rw [et p (by omega), if_pos (by omega), ei p (by omega), if_pos (by omega)]
        exact ⟨h3, h2⟩
      · rw [ei t (by omega), if_pos htp]; exact zT
      · rw [et t (by omega), if_pos htp]
        show V (rp s ls ps i t) ≠ 0
        omega
    · skip
      have q0 : 0 < V (rp s ls ps t t) := by have h1 : V (rp s ls ps t t) ≠ 0 := lc_pos (by omega); have h2 : 0 ≤ V (rp s ls ps t t) := rTT.1; omega
      refine jj_aload_n (pc := 45) kS_clearBehind_d45 rfl ?_
      refine jj_iload_n (pc := 46) kS_clearBehind_d46 rfl ?_
      refine jj_iload_n (pc := 47) kS_clearBehind_d47 rfl ?_
      refine jj_callV (pc := 48) (b := re) (As := [.int (nI (i)), .int (nI (t))]) kS_clearBehind_d48 (kvS_S_findMultiple hG) (kG_cl hG rfl) rfl hre rfl rfl rfl (Nat.le_of_ble_eq_true rfl) (Nat.le_of_ble_eq_true rfl) (jj_bare0 rfl) ?_
      refine r_findMultiple hG hK hS hJ hR hs hpl (by omega) (by omega) (by omega) htp q0 p0 (fun M1 V1 hS1 hwa1 o1 nd1 nd2 => ?_) (fun M1 V1 s1 hS1 hR1 hx1 o1 l1 hcase => ?_)
      · skip
        have hR1 := hR.ef hJ hwa1
        have hre1 := hR1.1
        have v1 : ∀ i' p, i' < 16 → p < 16 → V1 (rp s ls ps i' p) = V (rp s ls ps i' p) := fun i' p h1 h2 => by have := hsp.b hs h1 h2; exact o1 _ (by omega)
        have t1 : V1 (rp s ls ps t t) = V (rp s ls ps t t) := v1 t t (by omega) (by omega)
        have i1 : V1 (rp s ls ps i t) = V (rp s ls ps i t) := v1 i t (by omega) (by omega)
        have lt1 : lc (V1 (rp s ls ps t t)) ≤ 63 := by rw [t1]; exact Nat.le_trans (lc_mono (by have : V (rp s ls ps t t) < m := rTT.2; omega)) hlm
        have li1 : lc (V1 (rp s ls ps i t)) ≤ 63 := by rw [i1]; exact Nat.le_trans (lc_mono (by have : V (rp s ls ps i t) < m := rIT.2; omega)) hlm
        show jj G kS_clearBehind (d + 6) Q rc rs 51 [some (.ref re), some (.int (nI (t))), some (.int (nI (i)))] [.int (nI (0))] M1
        refine jn_if_eq (pc := 51) (tgt := 64) kS_clearBehind_d51 (by decide) (by omega) (fun _ => ?_) (fun c => by exfalso; omega)
        obtain ⟨hc0, ⟨r_c, px_c, pf_c, py_c, po_c, ps_c, od_c, hU0⟩, hdk0⟩ := id hS1
        have hf0 : EF M1 M1 wa la N eu dv hi lo := fun _ _ _ _ _ _ => rfl
        obtain ⟨V0, hV0⟩ : ∃ V0, V1 = V0 := ⟨_, rfl⟩
        rw [hV0] at hc0
        have hn0 := hU0.1
        have b_r0 := hn0.2.1
        have b_x0 := hn0.2.2.1
        have b_f0 := hn0.2.2.2.1
        have hdv0 := hU0.2.1
        obtain ⟨ea0, eb0, ec0, ed0, hE0⟩ := hU0.2.2.2
        have hD0 := hdv0.1
        obtain ⟨_, hN, hcap, hdi⟩ := id hK
        rw [hV0] at t1 i1 lt1 li1 o1 v1
        show jj G kS_clearBehind (d + 6) Q rc rs 64 [some (.ref re), some (.int (nI (t))), some (.int (nI (i)))] [] M1
        refine jj_aload_n (pc := 64) kS_clearBehind_d64 rfl ?_
        refine jj_getf (pc := 65) kS_clearBehind_d65 (kfS_desk hG) hre1 rfl ?_
        refine jj_getf (pc := 68) kS_clearBehind_d68 (kfS_K_euclid hG) hdk0 rfl ?_
        refine jj_aload_n (pc := 71) kS_clearBehind_d71 rfl ?_
        refine jj_iload_n (pc := 72) kS_clearBehind_d72 rfl ?_
        refine jj_iload_n (pc := 73) kS_clearBehind_d73 rfl ?_
        refine jj_callV (pc := 74) (b := re) (As := [.int (nI (t)), .int (nI (t))]) kS_clearBehind_d74 (kvS_S_at hG) (kG_cl hG rfl) rfl hre1 rfl rfl rfl (Nat.le_of_ble_eq_true rfl) (Nat.le_of_ble_eq_true rfl) (jj_bare0 rfl) ?_
        refine r_at hG hR1 hs (by omega) (by omega) ?_
        show jj G kS_clearBehind (d + 6) Q rc rs 77 [some (.ref re), some (.int (nI (t))), some (.int (nI (i)))] [.ref (wa (rp s ls ps t t)), .ref eu] M1
        refine jj_aload_n (pc := 77) kS_clearBehind_d77 rfl ?_
        refine jj_iload_n (pc := 78) kS_clearBehind_d78 rfl ?_
        refine jj_iload_n (pc := 79) kS_clearBehind_d79 rfl ?_
        refine jj_callV (pc := 80) (b := re) (As := [.int (nI (i)), .int (nI (t))]) kS_clearBehind_d80 (kvS_S_at hG) (kG_cl hG rfl) rfl hre1 rfl rfl rfl (Nat.le_of_ble_eq_true rfl) (Nat.le_of_ble_eq_true rfl) (jj_bare0 rfl) ?_
        refine r_at hG hR1 hs (by omega) (by omega) ?_
        show jj G kS_clearBehind (d + 6) Q rc rs 83 [some (.ref re), some (.int (nI (t))), some (.int (nI (i)))] [.ref (wa (rp s ls ps i t)), .ref (wa (rp s ls ps t t)), .ref eu] M1
        refine jn_iconst (pc := 83) 1 kS_clearBehind_d83 (by decide) ?_
        refine jj_callV (pc := 84) (b := eu) (As := [.ref (wa (rp s ls ps t t)), .ref (wa (rp s ls ps i t)), .int (nI (1))]) kS_clearBehind_d84 (kvS_U_run hG) (kG_cl hG rfl) rfl hE0 rfl rfl rfl (Nat.le_of_ble_eq_true rfl) (Nat.le_of_ble_eq_true rfl) (jj_bare0 rfl) ?_
        refine u_run hG hI hc0 (by omega) (fun p hp => hcap p (by omega)) hdi hU0 (by omega) (by omega) (by omega) (by omega) (by omega) (by omega) (by omega) (fun _ => by omega) (fun M1 V1 r_1 px_1 pf_1 py_1 po_1 ps_1 od_1 hc1 ot1 hU1 gx1 gf1 hw1 => ?_)
        have hf1 := hf0.trans hw1
        have q1_re := hw1.obj hc0 hU0 hre1 (by decide) (by decide) (by decide)
        have q1_dk := hw1.obj hc0 hU0 hdk0 (by decide) (by decide) (by decide)
        have hn1 := hU1.1
        have b_r1 := hn1.2.1
        have b_x1 := hn1.2.2.1
        have b_f1 := hn1.2.2.2.1
        have hdv1 := hU1.2.1
        obtain ⟨ea1, eb1, ec1, ed1, hE1⟩ := hU1.2.2.2
        have hD1 := hdv1.1
        show jj G kS_clearBehind (d + 6) Q rc rs 87 [some (.ref re), some (.int (nI (t))), some (.int (nI (i)))] [] M1
        obtain ⟨g1, g2, hbz⟩ := gf1 rfl
        have t2 : V1 (rp s ls ps t t) = V (rp s ls ps t t) := by rw [ot1 _ (by omega)]; exact t1
        have i2 : V1 (rp s ls ps i t) = V (rp s ls ps i t) := by rw [ot1 _ (by omega)]; exact i1
        rw [t1, i1] at gx1 hbz
        rw [i1] at g1
        obtain ⟨gg, egg⟩ : ∃ g : Int, V1 px_1 = g := ⟨_, rfl⟩
        have hgd1 : gg ∣ V (rp s ls ps t t) := by rw [← egg, gx1]; exact Int.ofNat_dvd_left.mpr (Nat.gcd_dvd_left ..)
        have hgd2 : gg ∣ V (rp s ls ps i t) := by rw [← egg, gx1]; exact Int.ofNat_dvd_left.mpr (Nat.gcd_dvd_right ..)
        have hgp : 0 < gg := by rw [← egg, gx1]; have : 0 < Nat.gcd (V (rp s ls ps t t)).natAbs (V (rp s ls ps i t)).natAbs := Nat.gcd_pos_of_pos_left _ (by omega); omega
        have hgle : gg ≤ V (rp s ls ps t t) := Int.le_of_dvd q0 hgd1
        rw [egg, show (((V (rp s ls ps t t)).natAbs : Nat) : Int) = V (rp s ls ps t t) by omega, show (((V (rp s ls ps i t)).natAbs : Nat) : Int) = V (rp s ls ps i t) by omega] at hbz
        have lpf : lc (V1 pf_1) ≤ 64 := by
          rcases Nat.lt_or_ge 1 (V (rp s ls ps i t)).natAbs with l | l
          · refine Nat.le_trans (lc_mono (b := V (rp s ls ps i t)) (by omega)) ?_
            rw [← i1]; omega
          · refine Nat.le_trans (lc_mono (b := 1) (by omega)) (by decide)
        have hR2 := hR1.ef hJ hf1
        refine jj_aload_n (pc := 87) kS_clearBehind_d87 rfl ?_
        refine jj_iload_n (pc := 88) kS_clearBehind_d88 rfl ?_
        refine jj_iload_n (pc := 89) kS_clearBehind_d89 rfl ?_
        refine jj_callV (pc := 90) (b := re) (As := [.int (nI (i)), .int (nI (t))]) kS_clearBehind_d90 (kvS_S_findFactors hG) (kG_cl hG rfl) rfl q1_re rfl rfl rfl (Nat.le_of_ble_eq_true rfl) (Nat.le_of_ble_eq_true rfl) (jj_bare0 rfl) ?_
        refine r_findFactors hG hK hc1 hU1 q1_dk hJ hR2 hs (by omega) (by omega) (by omega) (by rw [t2]; exact q0) (by rw [i2]; exact p0) egg (by rw [t2]; exact hgd1) (by rw [i2]; exact hgd2) hgp (by rw [t2, i2]; exact hbz) lpf (fun M3 V3 hS3 fe1 fe2 fe3 lff o3 hw3 => ?_)
        rw [t2, i2] at fe1
        rw [t2] at fe2
        rw [i2] at fe3
        have hR3 := hR2.ef hJ hw3
        have hre3 := hR3.1
        have v3 : ∀ i' p, i' < 16 → p < 16 → V3 (rp s ls ps i' p) = V (rp s ls ps i' p) := fun i' p h1 h2 => by have := hsp.b hs h1 h2; rw [o3 _ (by omega) (by omega), ot1 _ (by omega)]; exact v1 i' p h1 h2
        have m3 : V3 547 = m := by rw [o3 _ (by omega) (by omega), ot1 _ (by omega), o1 _ (by omega)]; exact hm
        have hdet : V3 548 * V3 550 + V3 549 * V3 551 = 1 := by
          have e : gg * (V3 548 * V3 550 + V3 549 * V3 551) = gg * 1 := by
            have f4 := fe1
            rw [← fe2, ← fe3] at f4
            rw [Int.mul_one]
            have f5 : gg * (V3 548 * V3 550 + V3 549 * V3 551) = V3 548 * (V3 550 * gg) + V3 549 * (V3 551 * gg) := by grind
            rw [f5]
            exact f4
          exact Int.eq_of_mul_eq_mul_left (by omega) e
        show jj G kS_clearBehind (d + 6) Q rc rs 93 [some (.ref re), some (.int (nI (t))), some (.int (nI (i)))] [] M3
        refine jj_aload_n (pc := 93) kS_clearBehind_d93 rfl ?_
        refine jj_iload_n (pc := 94) kS_clearBehind_d94 rfl ?_
        refine jj_iload_n (pc := 95) kS_clearBehind_d95 rfl ?_
        refine jj_callV (pc := 96) (b := re) (As := [.int (nI (i)), .int (nI (t))]) kS_clearBehind_d96 (kvS_S_mixLines hG) (kG_cl hG rfl) rfl hre3 rfl rfl rfl (Nat.le_of_ble_eq_true rfl) (Nat.le_of_ble_eq_true rfl) (jj_bare0 rfl) ?_
        refine r_mixLines hG hK hS3 hJ hR3 hs hpl (by omega) (by omega) (by omega) (by omega) (by rw [m3]; exact hm0) (by rw [m3]; exact hlm) lff (fun M4 V4 hS4 e4 o4 hw4 => ?_)
        show jj G kS_clearBehind (d + 6) Q rc rs 99 [some (.ref re), some (.int (nI (t))), some (.int (nI (i)))] [] M4
        show jj G kS_clearBehind (d + 6) Q rc rs 99 [some (.ref re), some (.int (nI (t))), some (.int (nI (i)))] [] M4
        rw [m3] at e4
        have et : ∀ p, t ≤ p → p < pl → rz V4 s ls ps t p = (V3 548 * rz V s ls ps t p + V3 549 * rz V s ls ps i p) % m := fun p h1 h2 => by
          have := (e4 p h1 h2).1
          rw [v3 t p (by omega) (by omega), v3 i p (by omega) (by omega)] at this
          exact this
        have ei : ∀ p, t ≤ p → p < pl → rz V4 s ls ps i p = (V3 550 * rz V s ls ps i p - V3 551 * rz V s ls ps t p) % m := fun p h1 h2 => by
          have := (e4 p h1 h2).2
          rw [v3 t p (by omega) (by omega), v3 i p (by omega) (by omega)] at this
          exact this
        have eo : ∀ i' p, i' < 16 → p < 16 → (i' ≠ t ∧ i' ≠ i) ∨ p < t ∨ pl ≤ p → rz V4 s ls ps i' p = rz V s ls ps i' p := fun i' p h1 h2 h3 => by
          have := hsp.b hs h1 h2
          show V4 _ = V _
          rw [o4 _ (by omega) (by omega) (fun p' h4 h5 => ⟨hsp.ne hs h1 h2 (by omega) (by omega) (by omega), hsp.ne hs h1 h2 (by omega) (by omega) (by omega)⟩)]
          exact v3 i' p h1 h2
        have hRe := hR3.ef hJ hw4
        have zi : rz V4 s ls ps i t = 0 := by
          rw [ei t (Nat.le_refl _) htp]
          show (V3 550 * V (rp s ls ps i t) - V3 551 * V (rp s ls ps t t)) % m = 0
          rw [← fe2, ← fe3, ← Int.mul_assoc, ← Int.mul_assoc, Int.mul_comm (V3 550), Int.sub_self]
          rfl
        have gt : rz V4 s ls ps t t = gg := by
          rw [et t (Nat.le_refl _) htp]
          show (V3 548 * V (rp s ls ps t t) + V3 549 * V (rp s ls ps i t)) % m = gg
          rw [fe1]
          have : V (rp s ls ps t t) < m := rTT.2
          exact Int.emod_eq_of_lt (by omega) (by omega)
        refine k M4 V4 s hS4 hRe (((hwa1.trans hf1).trans hw3).trans hw4).efx ⟨LQE.pair (x := t) (y := i) (a := V3 548) (b := V3 549) (c := -V3 551) (e := V3 550) (a' := V3 550) (b' := -V3 549) (c' := V3 551) (e' := V3 548) (Nat.le_refl _) (by omega) (by omega) hil (by omega) (by rw [← hdet]) (by rw [Int.mul_neg, Int.mul_comm (V3 549)]; omega) (by rw [Int.neg_mul, Int.mul_comm (V3 551)]; omega) (by rw [Int.neg_mul_neg, Int.mul_comm (V3 551), Int.mul_comm (V3 550)]; omega) (by rw [Int.neg_mul_neg, Int.mul_comm (V3 550)]; omega) (by rw [Int.neg_mul, Int.mul_comm (V3 550)]; omega) (by rw [Int.mul_neg, Int.mul_comm (V3 551)]; omega) (by rw [Int.mul_comm (V3 551)]; omega) (fun i' h1 h2 h3 h4 p h5 h6 => eo i' p (by omega) (by omega) (Or.inl ⟨h3, h4⟩)) (fun p h1 h2 => ?_) (fun p h1 h2 => ?_), fun p h1 h2 => ?_, fun q h1 h2 => ?_, fun i' p h1 h2 h3 => eo i' p h1 h2 (by omega), fun p h1 h2 h3 => ?_, zi, fun _ => ⟨by rw [gt]; omega, by rw [gt]; exact hgd1, by rw [gt]; exact hgd2, fun h => absurd h nd1⟩, fun _ => by rw [gt]; omega⟩
        · rw [et p h1 h2]; exact emod_form _ _
        · rw [ei p h1 h2]
          obtain ⟨z, hz⟩ := emod_form (V3 550 * rz V s ls ps i p - V3 551 * rz V s ls ps t p) m
          exact ⟨z, by rw [hz, Int.neg_mul]; omega⟩
        · rw [et p h1 h2, ei p h1 h2]
          exact ⟨⟨Int.emod_nonneg _ (by omega), Int.emod_lt_of_pos _ hm0⟩, Int.emod_nonneg _ (by omega), Int.emod_lt_of_pos _ hm0⟩
        · rw [o4 q (by omega) (by omega) (fun p h3 h4 => by have a := hsp.b hs (show i < 16 by omega) (show p < 16 by omega); have b := hsp.b hs (show t < 16 by omega) (show p < 16 by omega); omega), o3 q (by omega) (by omega), ot1 q (by omega)]
          exact o1 q (by omega)
        · rw [eo t p (by omega) (by omega) (by omega), eo i p (by omega) (by omega) (by omega)]; exact ⟨h2, h3⟩
      · skip
        have hre1 := hR1.1
        show jj G kS_clearBehind (d + 6) Q rc rs 51 [some (.ref re), some (.int (nI (t))), some (.int (nI (i)))] [.int (nI (1))] M1
        refine jn_if_eq (pc := 51) (tgt := 64) kS_clearBehind_d51 (by decide) (by omega) (fun c => by exfalso; omega) (fun _ => ?_)
        refine jj_aload_n (pc := 54) kS_clearBehind_d54 rfl ?_
        refine jj_iload_n (pc := 55) kS_clearBehind_d55 rfl ?_
        refine jj_iload_n (pc := 56) kS_clearBehind_d56 rfl ?_
        refine jj_iload_n (pc := 57) kS_clearBehind_d57 rfl ?_
        have hsp1 := hR1.2.2
        have m1 : V1 547 = m := by rw [o1 _ (by omega) (by omega)]; exact hm
        have v1 : ∀ i' p, i' < 16 → p < 16 → V1 (rp s ls ps i' p) = V (rp s ls ps i' p) := fun i' p h1 h2 => by have := hsp.b hs h1 h2; exact o1 _ (by omega) (by omega)
        refine jj_callV (pc := 58) (b := re) (As := [.int (nI (i)), .int (nI (t)), .int (nI (t))]) kS_clearBehind_d58 (kvS_S_subtractLine hG) (kG_cl hG rfl) rfl hre1 rfl rfl rfl (Nat.le_of_ble_eq_true rfl) (Nat.le_of_ble_eq_true rfl) (jj_bare0 rfl) ?_
        refine r_subtractLine hG hK hS1 hJ hR1 hs hpl (by omega) (by omega) (by omega) (by omega) (by rw [m1]; exact hm0) (by rw [m1]; exact hlm) (by omega) (fun M2 V2 hS2 e2 o2 hw2 => ?_)
        show jj G kS_clearBehind (d + 6) Q rc rs 61 [some (.ref re), some (.int (nI (t))), some (.int (nI (i)))] [] M2
        refine jj_goto (pc := 61) (tgt := 99) kS_clearBehind_d61 (by decide) ?_
        show jj G kS_clearBehind (d + 6) Q rc rs 99 [some (.ref re), some (.int (nI (t))), some (.int (nI (i)))] [] M2
        have hR2 := hR1.ef hJ hw2
        rw [m1] at e2
        obtain ⟨ff, eff⟩ : ∃ f, V1 548 = f := ⟨_, rfl⟩
        rw [eff] at e2 hcase
        -- the lines before the subtraction: a at t, b at i
        have main : ∀ (a b : Nat → Int), (∀ p, p < 16 → V1 (rp s1 ls ps t p) = a p) → (∀ p, p < 16 → V1 (rp s1 ls ps i p) = b p) → (∀ i' p, i' < 16 → p < 16 → (i' ≠ t ∧ i' ≠ i) ∨ pl ≤ p → V1 (rp s1 ls ps i' p) = rz V s ls ps i' p) → b t = ff * a t → 0 < a t → (∀ p, t ≤ p → p < pl → (0 ≤ a p ∧ a p < m) ∧ 0 ≤ b p ∧ b p < m) → (((∀ p, p < 16 → a p = rz V s ls ps t p) ∧ ∀ p, p < 16 → b p = rz V s ls ps i p) ∨ (V (rp s ls ps i t) < V (rp s ls ps t t) ∧ (∀ p, p < pl → a p = rz V s ls ps i p) ∧ ∀ p, p < pl → b p = rz V s ls ps t p)) → CSP ls ps t i ln pl m V s V2 s1 := by
          intro a b ha hb ho hab ha0 hrn hcs
          have et : ∀ p, p < 16 → rz V2 s1 ls ps t p = a p := fun p hp => by
            rw [← ha p hp]
            have := hsp1.b hs (show t < 16 by omega) hp
            exact o2 _ (by omega) (fun p' h1 h2 => hsp1.ne hs (by omega) hp (by omega) (by omega) (by omega))
          have ei : ∀ p, t ≤ p → p < pl → rz V2 s1 ls ps i p = if a p = 0 then b p else (b p - ff * a p) % m := fun p h1 h2 => by
            have := e2 p h1 h2
            rw [ha p (by omega), hb p (by omega)] at this
            exact this
          have eo : ∀ i' p, i' < 16 → p < 16 → (i' ≠ t ∧ i' ≠ i) ∨ pl ≤ p → rz V2 s1 ls ps i' p = rz V s ls ps i' p := fun i' p h1 h2 h3 => by
            rw [← ho i' p h1 h2 h3]
            have := hsp1.b hs h1 h2
            exact o2 _ (by omega) (fun p' h4 h5 => hsp1.ne hs h1 h2 (by omega) (by omega) (by omega))
          have eil : ∀ p, p < t → rz V2 s1 ls ps i p = b p := fun p h1 => by
            rw [← hb p (by omega)]
            have := hsp1.b hs (show i < 16 by omega) (show p < 16 by omega)
            exact o2 _ (by omega) (fun p' h4 h5 => hsp1.ne hs (by omega) (by omega) (by omega) (by omega) (by omega))
          have zi : rz V2 s1 ls ps i t = 0 := by
            rw [ei t (Nat.le_refl _) htp, if_neg (by omega), hab, Int.sub_self]
            rfl
          have hfrm : ∀ p, t ≤ p → p < pl → ∃ z, rz V2 s1 ls ps i p = -ff * a p + 1 * b p + m * z := fun p h1 h2 => by
            rw [ei p h1 h2]
            by_cases c : a p = 0
            · rw [if_pos c, c]; exact ⟨0, by omega⟩
            · rw [if_neg c]
              obtain ⟨z, hz⟩ := emod_form (b p - ff * a p) m
              exact ⟨z, by rw [hz, Int.neg_mul]; omega⟩
          refine ⟨?_, fun p h1 h2 => ?_, fun q h1 h2 => ?_, eo, fun p h1 h2 h3 => ?_, zi, fun h => ?_, fun _ => by rw [et t (by omega)]; omega⟩
          · rcases hcs with ⟨c1, c2⟩ | ⟨_, c1, c2⟩
            · refine LQE.pair (x := t) (y := i) (a := 1) (b := 0) (c := -ff) (e := 1) (a' := 1) (b' := 0) (c' := ff) (e' := 1) (Nat.le_refl _) (by omega) (by omega) hil (by omega) (by omega) (by omega) (by omega) (by omega) (by omega) (by omega) (by omega) (by omega) (fun i' h1 h2 h3 h4 p h5 h6 => eo i' p (by omega) (by omega) (Or.inl ⟨h3, h4⟩)) (fun p h1 h2 => ⟨0, by rw [et p (by omega), c1 p (by omega)]; omega⟩) (fun p h1 h2 => ?_)
              obtain ⟨z, hz⟩ := hfrm p h1 h2
              exact ⟨z, by rw [hz, c1 p (by omega), c2 p (by omega)]⟩
            · refine LQE.pair (x := t) (y := i) (a := 0) (b := 1) (c := 1) (e := -ff) (a' := ff) (b' := 1) (c' := 1) (e' := 0) (Nat.le_refl _) (by omega) (by omega) hil (by omega) (by omega) (by omega) (by omega) (by omega) (by omega) (by omega) (by omega) (by omega) (fun i' h1 h2 h3 h4 p h5 h6 => eo i' p (by omega) (by omega) (Or.inl ⟨h3, h4⟩)) (fun p h1 h2 => ⟨0, by rw [et p (by omega), c1 p h2]; omega⟩) (fun p h1 h2 => ?_)
              obtain ⟨z, hz⟩ := hfrm p h1 h2
              exact ⟨z, by rw [hz, c1 p h2, c2 p h2]; omega⟩
          · rw [et p (by omega), ei p h1 h2]
            refine ⟨(hrn p h1 h2).1, ?_⟩
            by_cases c : a p = 0
            · rw [if_pos c]; exact (hrn p h1 h2).2
            · rw [if_neg c]; exact ⟨Int.emod_nonneg _ (by omega), Int.emod_lt_of_pos _ hm0⟩
          · rw [o2 q (by omega) (fun p h3 h4 => by have a := hsp1.b hs (show i < 16 by omega) (show p < 16 by omega); omega)]
            exact o1 q (by omega) (by omega)
          · rw [et p (by omega), eil p h1]
            rcases hcs with ⟨c1, c2⟩ | ⟨_, c1, c2⟩
            · rw [c1 p (by omega), c2 p (by omega)]; exact ⟨h2, h3⟩
            · rw [c1 p (by omega), c2 p (by omega)]; exact ⟨h3, h2⟩
          · rw [et t (by omega)]
            rcases hcs with ⟨c1, c2⟩ | ⟨lt, c1, c2⟩
            · exact ⟨by omega, by rw [c1 t (by omega)]; exact Int.dvd_refl _, by rw [← c2 t (by omega), hab]; exact ⟨ff, by rw [Int.mul_comm]⟩, fun _ p hp => by rw [et p hp]; exact c1 p hp⟩
            · refine ⟨by omega, ?_, by rw [c1 t htp]; exact Int.dvd_refl _, fun hd => ?_⟩
              · rw [← c2 t htp, hab]; exact ⟨ff, by rw [Int.mul_comm]⟩
              · have := Int.le_of_dvd p0 hd
                have h9 : rz V s ls ps t t = V (rp s ls ps t t) := rfl
                omega
        refine k M2 V2 s1 hS2 hR2 (hx1.trans hw2.efx) ?_
        rcases hcase with ⟨q1, q2, q3⟩ | ⟨q1, q2, q3⟩
        · exact main (rz V s ls ps t) (rz V s ls ps i) (fun p hp => by rw [q3 t p (by omega) hp]; exact v1 t p (by omega) hp) (fun p hp => by rw [q3 i p (by omega) hp]; exact v1 i p (by omega) hp) (fun i' p h1 h2 _ => by rw [q3 i' p h1 h2]; exact v1 i' p h1 h2) q2 q0 (fun p h1 h2 => ⟨hrg t p (Nat.le_refl _) (by omega) h1 h2, hrg i p (by omega) (by omega) h1 h2⟩) (Or.inl ⟨fun _ _ => rfl, fun _ _ => rfl⟩)
        · refine main (fun p => if p < pl then rz V s ls ps i p else rz V s ls ps t p) (fun p => if p < pl then rz V s ls ps t p else rz V s ls ps i p) (fun p hp => ?_) (fun p hp => ?_) (fun i' p h1 h2 h3 => ?_) (by rw [if_pos htp, if_pos htp]; exact q2) (by rw [if_pos htp]; exact p0) (fun p h1 h2 => ?_) (Or.inr ⟨q1, fun p hp => if_pos hp, fun p hp => if_pos hp⟩)
          · rw [q3 t p (by omega) hp, sw1]
            split
            · exact v1 i p (by omega) hp
            · exact v1 t p (by omega) hp
          · rw [q3 i p (by omega) hp, sw2]
            split
            · exact v1 t p (by omega) hp
            · exact v1 i p (by omega) hp
          · rw [q3 i' p h1 h2]
            by_cases c : p < pl
            · rw [if_pos c, show swp i t i' = i' by unfold swp; rw [if_neg (by omega), if_neg (by omega)]]
              exact v1 i' p h1 h2
            · rw [if_neg c]; exact v1 i' p h1 h2
          · rw [if_pos h2, if_pos h2]
            exact ⟨hrg i p (by omega) (by omega) h1 h2, hrg t p (Nat.le_refl _) (by omega) h1 h2⟩
end S4
