/-! ===== Residues: triangulate, load (printed by wip/gen/rS7.py) ===== -/
/-- line i of the form as far as the columns before t are done -/
def ROWH (Bz T : imat) (ln n : Nat) (Z : imat) (i t : Nat) : Prop := inZ (fun j => if j < i then 0 else Z i j) Bz ln n ∧ Z i i = T i i ∧ (∀ p, i < p → p < t → 0 ≤ Z i p ∧ Z i p < T p p) ∧ ∀ p, t ≤ p → p < n → 0 ≤ Z i p
theorem ROWH.congr {Bz T Z Z' : imat} {ln n i t : Nat} (h : ROWH Bz T ln n Z i t) (hin : i < n) (htn : t ≤ n) (e : ∀ p, p < n → Z' i p = Z i p) : ROWH Bz T ln n Z' i t := by
  obtain ⟨h1, h2, h3, h4⟩ := h
  exact ⟨inZ_congr h1 (fun j hj => by rw [e j hj]), by rw [e i hin]; exact h2, fun p a b => by rw [e p (by omega)]; exact h3 p a b, fun p a b => by rw [e p b]; exact h4 p a b⟩
/-- line i less a multiple of line t, behind t up to the modulus -/
theorem ROWH.step {Bz T Z Z' : imat} {ln n i t : Nat} {f R : Int} (hi : ROWH Bz T ln n Z i t) (ht : ROWH Bz T ln n Z t (t + 1)) (hit : i < t) (htn : t < n) (hR : ∀ k, t + 1 ≤ k → k < n → inZ (fun j => if j = k then R else 0) Bz ln n) (h1 : ∀ p, p < t → Z' i p = Z i p) (h2 : Z' i t = Z i t - f * Z t t) (h2a : 0 ≤ Z' i t ∧ Z' i t < T t t) (h3 : ∀ p, t < p → p < n → R ∣ Z' i p - (Z i p - f * Z t p) ∧ 0 ≤ Z' i p) : ROWH Bz T ln n Z' i (t + 1) := by
  refine ⟨inZ_mod (lo := t + 1) hR (inZ_add hi.1 (inZ_smul (-f) ht.1)) (fun j hj => ?_) (fun j a b => ?_), by rw [h1 i hit]; exact hi.2.1, fun p a b => ?_, fun p a b => (h3 p (by omega) b).2⟩
  · by_cases c : j < i
    · rw [if_pos c, if_pos c, if_pos (by omega)]; omega
    · rw [if_neg c, if_neg c]
      by_cases c2 : j < t
      · rw [if_pos c2, h1 j c2]; omega
      · rw [if_neg c2, show j = t by omega, h2, Int.neg_mul]; omega
  · rw [if_neg (by omega), if_neg (by omega), if_neg (by omega)]
    have := (h3 j (by omega) b).1
    rw [show Z' i j - (Z i j + -f * Z t j) = Z' i j - (Z i j - f * Z t j) by rw [Int.neg_mul]; omega]
    exact this
  · by_cases c : p = t
    · rw [c]; exact h2a
    · rw [h1 p (by omega)]; exact hi.2.2.1 p a (by omega)
section S7
variable {G : jg} {d : Nat} {Q : jq} {rc rs : Nat} {M : mheap} {wa la cap : Nat → Nat} {N eu dv hi lo dk re rca ln pl ls ps : Nat} {s : Nat → Nat} {V : Nat → Int}
theorem r_triangulate {Bz T : imat} (hG : kG G) (hK : KJI wa la cap N hi lo) (hS : KS M wa la cap N eu dv hi lo dk V) (hJ : QJ wa la cap N eu dv hi lo dk re rca) (hR : RST M wa re rca dk ln pl ls ps s) (hs : STP ls ps) (hln : ln ≤ 16) (hpl : pl ≤ ln) (hT : hermF T pl pl (fun i => i)) (hTB : rowsZ T pl Bz ln pl) (hdv : ∀ t, t < pl → ∀ v, inZ v Bz ln pl → (∀ j, j < t → v j = 0) → T t t ∣ v t) (hc0 : colInv Bz (rz V s ls ps) ln pl 0 (V 547)) (hD0 : tailD T pl 0 ∣ V 547) (hm0 : 0 < V 547) (hlm : lc (V 547) ≤ 63) (hrg : ∀ i p, i < ln → p < pl → 0 ≤ rz V s ls ps i p ∧ rz V s ls ps i p < V 547) (k : ∀ (M' : mheap) (V' : Nat → Int) (s' : Nat → Nat), KS M' wa la cap N eu dv hi lo dk V' → RST M' wa re rca dk ln pl ls ps s' → EFX (fun x => x = re ∨ x = rca) M M' wa la N eu dv hi lo → (∀ i j, i ≤ j → j < pl → rz V' s' ls ps i j = T i j) → (∀ q, 10 ≤ q → q < 547 ∨ 809 ≤ q → V' q = V q) → Q (.returned none) M' rc rs) : jj G kS_triangulate (d + 7) Q rc rs 0 (jj_ent [.ref re] 3) [] M := by
  obtain ⟨h809, c547, c548, c553, f1, f2, n1, n2⟩ := id hJ
  obtain ⟨hI, hN, hcap, hdi⟩ := id hK
  have hre := hR.1
  show jj G kS_triangulate (d + 7) Q rc rs 0 [some (.ref re), none, none] [] M
  refine jn_iconst (pc := 0) 0 kS_triangulate_d0 (by decide) ?_
  refine jj_istore_n (pc := 1) kS_triangulate_d1 (Nat.le_of_ble_eq_true rfl) ?_
  show jj G kS_triangulate (d + 7) Q rc rs 2 [some (.ref re), some (.int (nI (0))), none] [] M
  show jj G kS_triangulate (d + 7) Q rc rs 2 [some (.ref re), some (.int (nI (0))), none] [] M
  have outer : ∀ mu t, pl = t + mu → ∀ (oi : Option Value) (M9 : mheap) (V9 : Nat → Int) (s9 : Nat → Nat), KS M9 wa la cap N eu dv hi lo dk V9 → RST M9 wa re rca dk ln pl ls ps s9 → EFX (fun x => x = re ∨ x = rca) M M9 wa la N eu dv hi lo → colInv Bz (rz V9 s9 ls ps) ln pl t (V9 547) → tailD T pl t ∣ V9 547 → 0 < V9 547 → lc (V9 547) ≤ 63 → (∀ i p, t ≤ i → i < ln → t ≤ p → p < pl → 0 ≤ rz V9 s9 ls ps i p ∧ rz V9 s9 ls ps i p < V9 547) → (∀ i, i < t → ROWH Bz T ln pl (rz V9 s9 ls ps) i t) → (∀ q, 10 ≤ q → q < 547 ∨ 809 ≤ q → V9 q = V q) → jj G kS_triangulate (d + 7) Q rc rs 2 [some (.ref re), some (.int (nI (t))), (oi)] [] M9 := by
    intro mu
    induction mu with
    | zero =>
      intro t hk oi M9 V9 s9 hS9 hR9 f9 ci9 hD9 m9 lm9 rg9 rw9 o9
      have et : pl = t := by omega
      subst et
      have hre9 := hR9.1
      refine jj_iload_n (pc := 2) kS_triangulate_d2 rfl ?_
      refine jj_aload_n (pc := 3) kS_triangulate_d3 rfl ?_
      refine jj_getf (pc := 4) kS_triangulate_d4 (kfS_places hG) hre9 rfl ?_
      refine jn_icmp_ge (pc := 7) (tgt := 114) kS_triangulate_d7 (by decide) (by omega) (by omega) (fun _ => ?_) (fun c => by exfalso; omega)
      exact jj_vret (pc := 114) kS_triangulate_d114 rfl (k M9 V9 s9 hS9 hR9 f9 (herm_match hT hTB hdv (fun i hi' => (rw9 i hi').1) (fun i hi' => (rw9 i hi').2.1) (fun i p h1 h2 => (rw9 i (by omega)).2.2.1 p h1 h2)) o9)
    | succ mu ih =>
      intro t hk oi M9 V9 s9 hS9 hR9 f9 ci9 hD9 m9 lm9 rg9 rw9 o9
      have hre9 := hR9.1
      refine jj_iload_n (pc := 2) kS_triangulate_d2 rfl ?_
      refine jj_aload_n (pc := 3) kS_triangulate_d3 rfl ?_
      refine jj_getf (pc := 4) kS_triangulate_d4 (kfS_places hG) hre9 rfl ?_
      refine jn_icmp_ge (pc := 7) (tgt := 114) kS_triangulate_d7 (by decide) (by omega) (by omega) (fun c => by exfalso; omega) (fun _ => ?_)
      refine jj_iload_n (pc := 10) kS_triangulate_d10 rfl ?_
      refine jj_aload_n (pc := 11) kS_triangulate_d11 rfl ?_
      refine jj_getf (pc := 12) kS_triangulate_d12 (kfS_lines hG) hre9 rfl ?_
      refine jn_icmp_ge (pc := 15) (tgt := 114) kS_triangulate_d15 (by decide) (by omega) (by omega) (fun c => by exfalso; omega) (fun _ => ?_)
      refine jj_aload_n (pc := 18) kS_triangulate_d18 rfl ?_
      refine jj_iload_n (pc := 19) kS_triangulate_d19 rfl ?_
      refine jj_callV (pc := 20) (b := re) (As := [.int (nI (t))]) kS_triangulate_d20 (kvS_S_clearBehind hG) (kG_cl hG rfl) rfl hre9 rfl rfl rfl (Nat.le_of_ble_eq_true rfl) (Nat.le_of_ble_eq_true rfl) (jj_bare0 rfl) ?_
      refine r_clearBehind hG hK hS9 hJ hR9 hs hln (by omega) (by omega) (by omega) rfl m9 lm9 rg9 (fun M1 V1 s1 hS1 hR1 f1a c1 z1 _ => ?_)
      obtain ⟨a1, a2, a3, a4, a5, a6⟩ := c1
      have hre1 := hR1.1
      have hsp1 := hR1.2.2
      have ci1 := ci9.lq a1
      have e547 : V1 547 = V9 547 := a3 547 (by omega) (by omega)
      obtain ⟨m, em⟩ : ∃ m, V9 547 = m := ⟨_, rfl⟩
      rw [em] at ci1 a2 m9 lm9 hD9 e547
      show jj G kS_triangulate (d + 7) Q rc rs 23 [some (.ref re), some (.int (nI (t))), (oi)] [] M1
      refine jj_aload_n (pc := 23) kS_triangulate_d23 rfl ?_
      refine jj_iload_n (pc := 24) kS_triangulate_d24 rfl ?_
      refine jj_callV (pc := 25) (b := re) (As := [.int (nI (t))]) kS_triangulate_d25 (kvS_S_joinPivot hG) (kG_cl hG rfl) rfl hre1 rfl rfl rfl (Nat.le_of_ble_eq_true rfl) (Nat.le_of_ble_eq_true rfl) (jj_bare0 rfl) ?_
      refine r_joinPivot hG hK hS1 hJ hR1 hs hln (by omega) (by omega) (by omega) e547 m9 lm9 a2 (fun M2 V2 g u kk m' hS2 hw2 hg hbz hmm m2 gT eT eC o2 => ?_)
      have hR2 := hR1.ef hJ hw2
      have hre2 := hR2.1
      obtain ⟨tg, hD2, m'0, ci2, rowt⟩ := tri_next (C' := (rz V2 s1 ls ps)) hT hTB hdv ci1 (show t < pl by omega) (show t < ln by omega) m9 z1 hg hbz hmm hD9 (fun i p h1 h2 h3 h4 => by
        show m' ∣ V2 (rp s1 ls ps i p) - V1 (rp s1 ls ps i p)
        rw [eC i p h1 h2 h3 h4]; exact emod_dvd _ _)
      have lm' : lc m' ≤ 63 := by
        refine Nat.le_trans (lc_mono ?_) lm9
        rw [hmm, Int.natAbs_mul]
        have hgp : 0 < g := by rw [← tg]; exact hT.1.2.2.2 t (by omega)
        exact Nat.le_mul_of_pos_right _ (by omega)
      have hRin : ∀ k, t + 1 ≤ k → k < pl → inZ (fun j => if j = k then m' else 0) Bz ln pl := fun k h1 h2 => col_R ci2 h1 h2
      have keep2 : ∀ i p, i < t → p < 16 → rz V2 s1 ls ps i p = rz V9 s9 ls ps i p := fun i p h1 h2 => by
        rw [← a4 i p (by omega) h2 (Or.inl h1)]
        have := hsp1.b hs (show i < 16 by omega) h2
        exact o2 _ (by omega) (by omega) (by omega) (fun i' p' h3 h4 h5 h6 => hsp1.ne hs (by omega) h2 (by omega) (by omega) (by omega))
      have rowH : ROWH Bz T ln pl (rz V2 s1 ls ps) t (t + 1) := by
        refine ⟨inZ_mod (lo := t + 1) hRin rowt (fun j hj => ?_) (fun j h1 h2 => ?_), ?_, fun p h1 h2 => by omega, fun p h1 h2 => ?_⟩
        · by_cases c : j < t
          · rw [if_pos c, if_pos c]
          · rw [if_neg c, if_neg c, if_pos (by omega), show j = t by omega]; exact gT
        · rw [if_neg (by omega), if_neg (by omega), if_neg (by omega)]
          show m' ∣ V2 (rp s1 ls ps t j) - u * V1 (rp s1 ls ps t j)
          rw [eT j (by omega) h2]; exact emod_dvd _ _
        · rw [tg]; exact gT
        · show 0 ≤ V2 (rp s1 ls ps t p)
          rw [eT p (by omega) h2]; exact Int.emod_nonneg _ (by omega)
      have rg2 : ∀ i p, t ≤ i → i < ln → t < p → p < pl → 0 ≤ rz V2 s1 ls ps i p ∧ rz V2 s1 ls ps i p < m' := fun i p h1 h2 h3 h4 => by
        by_cases c : i = t
        · rw [c]
          show 0 ≤ V2 (rp s1 ls ps t p) ∧ V2 (rp s1 ls ps t p) < m'
          rw [eT p h3 h4]; exact ⟨Int.emod_nonneg _ (by omega), Int.emod_lt_of_pos _ m'0⟩
        · show 0 ≤ V2 (rp s1 ls ps i p) ∧ V2 (rp s1 ls ps i p) < m'
          rw [eC i p (by omega) h2 h3 h4]; exact ⟨Int.emod_nonneg _ (by omega), Int.emod_lt_of_pos _ m'0⟩
      have o29 : ∀ q, 10 ≤ q → q < 547 ∨ 809 ≤ q → V2 q = V q := fun q h1 h2 => by
        rw [o2 q h1 (by omega) (by omega) (fun i p h3 h4 h5 h6 => by have := hsp1.b hs (show i < 16 by omega) (show p < 16 by omega); omega), a3 q h1 (by omega)]
        exact o9 q h1 h2
      have rw2 : ∀ i, i < t → ROWH Bz T ln pl (rz V2 s1 ls ps) i t := fun i hi' => (rw9 i hi').congr (by omega) (by omega) (fun p hp => keep2 i p hi' (by omega))
      have hF2 := (f9.trans f1a).trans (hw2.efx (X := fun x => x = re ∨ x = rca))
      show jj G kS_triangulate (d + 7) Q rc rs 28 [some (.ref re), some (.int (nI (t))), (oi)] [] M2
      refine jn_iconst (pc := 28) 0 kS_triangulate_d28 (by decide) ?_
      refine jj_istore_n (pc := 29) kS_triangulate_d29 (Nat.le_of_ble_eq_true rfl) ?_
      show jj G kS_triangulate (d + 7) Q rc rs 30 [some (.ref re), some (.int (nI (t))), some (.int (nI (0)))] [] M2
      show jj G kS_triangulate (d + 7) Q rc rs 30 [some (.ref re), some (.int (nI (t))), some (.int (nI (0)))] [] M2
      have inner : ∀ mu2 i, t = i + mu2 → ∀ (M8 : mheap) (V8 : Nat → Int), KS M8 wa la cap N eu dv hi lo dk V8 → EF M2 M8 wa la N eu dv hi lo → (∀ i', i' < i → ROWH Bz T ln pl (rz V8 s1 ls ps) i' (t + 1)) → (∀ i' p, i ≤ i' → i' < 16 → p < 16 → rz V8 s1 ls ps i' p = rz V2 s1 ls ps i' p) → V8 547 = m' → (∀ q, 10 ≤ q → q < 547 ∨ 809 ≤ q → V8 q = V2 q) → jj G kS_triangulate (d + 7) Q rc rs 30 [some (.ref re), some (.int (nI (t))), some (.int (nI (i)))] [] M8 := by
        intro mu2
        induction mu2 with
        | zero =>
          intro i hk2 M8 V8 hS8 f8 d8 u8 m8 o8
          have ei : t = i := by omega
          subst ei
          have hR8 := hR2.ef hJ f8
          have hre8 := hR8.1
          refine jj_iload_n (pc := 30) kS_triangulate_d30 rfl ?_
          refine jj_iload_n (pc := 31) kS_triangulate_d31 rfl ?_
          refine jn_icmp_ge (pc := 32) (tgt := 108) kS_triangulate_d32 (by decide) (by omega) (by omega) (fun _ => ?_) (fun c => by exfalso; omega)
          refine jn_iinc (pc := 108) (t + 1) kS_triangulate_d108 rfl (nI_1 _) ?_
          refine jj_goto (pc := 111) (tgt := 2) kS_triangulate_d111 (by decide) ?_
          show jj G kS_triangulate (d + 7) Q rc rs 2 [some (.ref re), some (.int (nI (t + 1))), some (.int (nI (t)))] [] M8
          have ci8 : colInv Bz (rz V8 s1 ls ps) ln pl (t + 1) m' := ci2.lq (LQE.mod (fun i p h1 h2 h3 h4 => by rw [u8 i p (by omega) (by omega) (by omega)]; exact ⟨0, by omega⟩))
          refine ih (t + 1) (by omega) _ M8 V8 s1 hS8 hR8 (hF2.trans (f8.efx (X := fun x => x = re ∨ x = rca))) (by rw [m8]; exact ci8) (by rw [m8]; exact hD2) (by rw [m8]; exact m'0) (by rw [m8]; exact lm') (fun i p h1 h2 h3 h4 => by rw [m8, u8 i p (by omega) (by omega) (by omega)]; exact rg2 i p (by omega) h2 (by omega) h4) (fun i hi' => ?_) (fun q h1 h2 => by rw [o8 q h1 h2]; exact o29 q h1 h2)
          by_cases c : i = t
          · rw [c]; exact rowH.congr (by omega) (by omega) (fun p hp => u8 t p (Nat.le_refl _) (by omega) (by omega))
          · exact d8 i (by omega)
        | succ mu2 ih2 =>
          intro i hk2 M8 V8 hS8 f8 d8 u8 m8 o8
          have hR8 := hR2.ef hJ f8
          have hre8 := hR8.1
          have b1 := hsp1.b hs (show i < 16 by omega) (show t < 16 by omega)
          have b2 := hsp1.b hs (show t < 16 by omega) (show t < 16 by omega)
          have vi : V8 (rp s1 ls ps i t) = rz V2 s1 ls ps i t := u8 i t (Nat.le_refl _) (by omega) (by omega)
          have vt : V8 (rp s1 ls ps t t) = g := (u8 t t (by omega) (by omega) (by omega)).trans gT
          have hrow := rw2 i (by omega)
          have ni : 0 ≤ V8 (rp s1 ls ps i t) := by rw [vi]; exact hrow.2.2.2 t (Nat.le_refl _) (by omega)
          have hgp : 0 < g := by rw [← tg]; exact hT.1.2.2.2 t (by omega)
          have li : lc (V8 (rp s1 ls ps i t)) ≤ 64 := by have := hS8.1.lc (p := (rp s1 ls ps i t)) (by omega); rw [c553 _ b1.1 b1.2] at this; exact this
          have ci : cap (rp s1 ls ps i t) = 64 := c553 _ b1.1 b1.2
          obtain ⟨hc0, ⟨r_b, px_b, pf_b, py_b, po_b, ps_b, od_b, hU0⟩, hdk0⟩ := id hS8
          have hf0 : EF M8 M8 wa la N eu dv hi lo := fun _ _ _ _ _ _ => rfl
          obtain ⟨V0, hV0⟩ : ∃ V0, V8 = V0 := ⟨_, rfl⟩
          rw [hV0] at hc0
          have hn0 := hU0.1
          have b_r0 := hn0.2.1
          have b_x0 := hn0.2.2.1
          have b_f0 := hn0.2.2.2.1
          have hdv0 := hU0.2.1
          obtain ⟨ea0, eb0, ec0, ed0, hE0⟩ := hU0.2.2.2
          have hD0 := hdv0.1
          rw [hV0] at vi vt ni li m8 u8 o8 d8
          show jj G kS_triangulate (d + 7) Q rc rs 30 [some (.ref re), some (.int (nI (t))), some (.int (nI (i)))] [] M8
          refine jj_iload_n (pc := 30) kS_triangulate_d30 rfl ?_
          refine jj_iload_n (pc := 31) kS_triangulate_d31 rfl ?_
          refine jn_icmp_ge (pc := 32) (tgt := 108) kS_triangulate_d32 (by decide) (by omega) (by omega) (fun c => by exfalso; omega) (fun _ => ?_)
          refine jj_aload_n (pc := 35) kS_triangulate_d35 rfl ?_
          refine jj_getf (pc := 36) kS_triangulate_d36 (kfS_desk hG) hre8 rfl ?_
          refine jj_getf (pc := 39) kS_triangulate_d39 (kfS_K_divider hG) hdk0 rfl ?_
          refine jj_aload_n (pc := 42) kS_triangulate_d42 rfl ?_
          refine jj_iload_n (pc := 43) kS_triangulate_d43 rfl ?_
          refine jj_iload_n (pc := 44) kS_triangulate_d44 rfl ?_
          refine jj_callV (pc := 45) (b := re) (As := [.int (nI (i)), .int (nI (t))]) kS_triangulate_d45 (kvS_S_at hG) (kG_cl hG rfl) rfl hre8 rfl rfl rfl (Nat.le_of_ble_eq_true rfl) (Nat.le_of_ble_eq_true rfl) (jj_bare0 rfl) ?_
          refine r_at hG hR8 hs (by omega) (by omega) ?_
          show jj G kS_triangulate (d + 7) Q rc rs 48 [some (.ref re), some (.int (nI (t))), some (.int (nI (i)))] [.ref (wa (rp s1 ls ps i t)), .ref dv] M8
          refine jj_aload_n (pc := 48) kS_triangulate_d48 rfl ?_
          refine jj_iload_n (pc := 49) kS_triangulate_d49 rfl ?_
          refine jj_iload_n (pc := 50) kS_triangulate_d50 rfl ?_
          refine jj_callV (pc := 51) (b := re) (As := [.int (nI (t)), .int (nI (t))]) kS_triangulate_d51 (kvS_S_at hG) (kG_cl hG rfl) rfl hre8 rfl rfl rfl (Nat.le_of_ble_eq_true rfl) (Nat.le_of_ble_eq_true rfl) (jj_bare0 rfl) ?_
          refine r_at hG hR8 hs (by omega) (by omega) ?_
          show jj G kS_triangulate (d + 7) Q rc rs 54 [some (.ref re), some (.int (nI (t))), some (.int (nI (i)))] [.ref (wa (rp s1 ls ps t t)), .ref (wa (rp s1 ls ps i t)), .ref dv] M8
          refine jj_callV (pc := 54) (b := dv) (As := [.ref (wa (rp s1 ls ps i t)), .ref (wa (rp s1 ls ps t t))]) kS_triangulate_d54 (kvS_D_divide hG) (kG_cl hG rfl) rfl hD0 rfl rfl rfl (Nat.le_of_ble_eq_true rfl) (Nat.le_of_ble_eq_true rfl) (jj_bare0 rfl) ?_
          refine d_divide hG hI hc0 hdv0 hdi (by omega) (by omega) (by omega) (by omega) hn0.nqr (by omega) (by omega) (by omega) (by omega) (by omega) (by rw [hcap 0 (by omega)]; exact (by omega)) (by rw [hcap r_b (by omega)]; exact (by omega)) (fun M1 hcx1 hdx1 hw1 => ?_)
          obtain ⟨V1, hV1⟩ : ∃ W, vup (vup V0 0 ((V0 (rp s1 ls ps i t)).tdiv (V0 (rp s1 ls ps t t)))) r_b ((V0 (rp s1 ls ps i t)).tmod (V0 (rp s1 ls ps t t))) = W := ⟨_, rfl⟩
          have hc1 : CW M1 wa la cap N V1 := by rw [← hV1]; exact hcx1
          have at1 : V1 0 = (V0 (rp s1 ls ps i t)).tdiv (V0 (rp s1 ls ps t t)) := by rw [← hV1, vup_ne _ _ hn0.nqr, vup_at]
          have rt1 : V1 r_b = (V0 (rp s1 ls ps i t)).tmod (V0 (rp s1 ls ps t t)) := by rw [← hV1, vup_at]
          have ot1 : ∀ p, p ≠ 0 → p ≠ r_b → V1 p = V0 p := fun p h1 h2 => by rw [← hV1, vup_ne _ _ h2, vup_ne _ _ h1]
          have hU1 := hU0.div hc0 hdx1 hw1
          have hf1 := hf0.trans (hw1.ef (eu := eu) (dv := dv))
          have q1_re := (hw1.ef (eu := eu) (dv := dv)).obj hc0 hU0 hre8 (by decide) (by decide) (by decide)
          have q1_dk := (hw1.ef (eu := eu) (dv := dv)).obj hc0 hU0 hdk0 (by decide) (by decide) (by decide)
          have hn1 := hU1.1
          have b_r1 := hn1.2.1
          have b_x1 := hn1.2.2.1
          have b_f1 := hn1.2.2.2.1
          have hdv1 := hU1.2.1
          obtain ⟨ea1, eb1, ec1, ed1, hE1⟩ := hU1.2.2.2
          have hD1 := hdv1.1
          show jj G kS_triangulate (d + 7) Q rc rs 57 [some (.ref re), some (.int (nI (t))), some (.int (nI (i)))] [] M1
          obtain ⟨T548_1, t548_1, hT548_1, _, _⟩ := hc1 548 (by omega)
          refine jj_aload_n (pc := 57) kS_triangulate_d57 rfl ?_
          refine jj_getf (pc := 58) kS_triangulate_d58 (kfS_firstFactor hG) q1_re rfl ?_
          refine jj_aload_n (pc := 61) kS_triangulate_d61 rfl ?_
          refine jj_getf (pc := 62) kS_triangulate_d62 (kfS_desk hG) q1_re rfl ?_
          refine jj_getf (pc := 65) kS_triangulate_d65 (kfS_K_divider hG) q1_dk rfl ?_
          refine jj_getf (pc := 68) kS_triangulate_d68 (kfS_D_quotient hG) hD1 rfl ?_
          have q1 : V1 0 = V0 (rp s1 ls ps i t) / g := by rw [at1, vt, Int.tdiv_eq_ediv_of_nonneg ni]
          have r1 : V1 r_b = V0 (rp s1 ls ps i t) % g := by rw [rt1, vt, Int.tmod_eq_emod_of_nonneg ni]
          have lq : lc (V1 0) ≤ 64 := by rw [at1]; exact Nat.le_trans (lc_tdiv _ _) li
          refine jj_callV (pc := 71) (b := (wa 548)) (As := [.ref (wa 0)]) kS_triangulate_d71 (kvS_W_copy hG) (kG_cl hG rfl) rfl hT548_1 rfl rfl rfl (Nat.le_of_ble_eq_true rfl) (Nat.le_of_ble_eq_true rfl) (jj_bare0 rfl) ?_
          refine w_copy hG hI hc1 (by omega : 548 < N) (by omega : 0 < N) (by rw [c548 548 (by omega) (by omega)]; exact lc_room (by omega)) (fun M2 hcx2 hw2  => ?_) 
          obtain ⟨V2, hV2⟩ : ∃ W, vup V1 548 (V1 0) = W := ⟨_, rfl⟩
          have hc2 : CW M2 wa la cap N V2 := by rw [← hV2]; exact hcx2
          have at2 : V2 548 = V1 0 := by rw [← hV2, vup_at]
          have ot2 : ∀ p, p ≠ 548 → V2 p = V1 p := fun p hp => by rw [← hV2, vup_ne _ _ hp]
          have hU2 := hU1.wt hc1 hdi (by omega) hw2
          have hf2 := hf1.trans (hw2.ef (by omega))
          have q2_re := (hw2.ef (eu := eu) (dv := dv) (hi := hi) (lo := lo) (by omega)).obj hc1 hU1 q1_re (by decide) (by decide) (by decide)
          have q2_dk := (hw2.ef (eu := eu) (dv := dv) (hi := hi) (lo := lo) (by omega)).obj hc1 hU1 q1_dk (by decide) (by decide) (by decide)
          have hn2 := hU2.1
          have b_r2 := hn2.2.1
          have b_x2 := hn2.2.2.1
          have b_f2 := hn2.2.2.2.1
          have hdv2 := hU2.2.1
          obtain ⟨ea2, eb2, ec2, ed2, hE2⟩ := hU2.2.2.2
          have hD2 := hdv2.1
          show jj G kS_triangulate (d + 7) Q rc rs 74 [some (.ref re), some (.int (nI (t))), some (.int (nI (i)))] [] M2
          have hR2a := hR8.ef hJ hf2
          have r2 : V2 r_b = V1 r_b := ot2 _ (by omega)
          have lr : lc (V2 r_b) ≤ 64 := by
            rw [r2, rt1]
            refine Nat.le_trans (lc_mono ?_) li
            rw [Int.natAbs_tmod]
            exact Nat.mod_le _ _
          refine jj_aload_n (pc := 74) kS_triangulate_d74 rfl ?_
          refine jj_iload_n (pc := 75) kS_triangulate_d75 rfl ?_
          refine jj_iload_n (pc := 76) kS_triangulate_d76 rfl ?_
          refine jj_callV (pc := 77) (b := re) (As := [.int (nI (i)), .int (nI (t))]) kS_triangulate_d77 (kvS_S_at hG) (kG_cl hG rfl) rfl q2_re rfl rfl rfl (Nat.le_of_ble_eq_true rfl) (Nat.le_of_ble_eq_true rfl) (jj_bare0 rfl) ?_
          refine r_at hG hR2a hs (by omega) (by omega) ?_
          show jj G kS_triangulate (d + 7) Q rc rs 80 [some (.ref re), some (.int (nI (t))), some (.int (nI (i)))] [.ref (wa (rp s1 ls ps i t))] M2
          obtain ⟨Trps1lspsit_2, trps1lspsit_2, hTrps1lspsit_2, _, _⟩ := hc2 (rp s1 ls ps i t) (by omega)
          refine jj_aload_n (pc := 80) kS_triangulate_d80 rfl ?_
          refine jj_getf (pc := 81) kS_triangulate_d81 (kfS_desk hG) q2_re rfl ?_
          refine jj_getf (pc := 84) kS_triangulate_d84 (kfS_K_divider hG) q2_dk rfl ?_
          refine jj_getf (pc := 87) kS_triangulate_d87 (kfS_D_remainder hG) hD2 rfl ?_
          refine jj_callV (pc := 90) (b := (wa (rp s1 ls ps i t))) (As := [.ref (wa r_b)]) kS_triangulate_d90 (kvS_W_copy hG) (kG_cl hG rfl) rfl hTrps1lspsit_2 rfl rfl rfl (Nat.le_of_ble_eq_true rfl) (Nat.le_of_ble_eq_true rfl) (jj_bare0 rfl) ?_
          refine w_copy hG hI hc2 (by omega : (rp s1 ls ps i t) < N) (by omega) (by rw [ci]; exact lc_room lr) (fun M3 hcx3 hw3  => ?_) 
          obtain ⟨V3, hV3⟩ : ∃ W, vup V2 (rp s1 ls ps i t) (V2 r_b) = W := ⟨_, rfl⟩
          have hc3 : CW M3 wa la cap N V3 := by rw [← hV3]; exact hcx3
          have at3 : V3 (rp s1 ls ps i t) = V2 r_b := by rw [← hV3, vup_at]
          have ot3 : ∀ p, p ≠ (rp s1 ls ps i t) → V3 p = V2 p := fun p hp => by rw [← hV3, vup_ne _ _ hp]
          have hU3 := hU2.wt hc2 hdi (by omega) hw3
          have hf3 := hf2.trans (hw3.ef (by omega))
          have q3_re := (hw3.ef (eu := eu) (dv := dv) (hi := hi) (lo := lo) (by omega)).obj hc2 hU2 q2_re (by decide) (by decide) (by decide)
          have q3_dk := (hw3.ef (eu := eu) (dv := dv) (hi := hi) (lo := lo) (by omega)).obj hc2 hU2 q2_dk (by decide) (by decide) (by decide)
          have hn3 := hU3.1
          have b_r3 := hn3.2.1
          have b_x3 := hn3.2.2.1
          have b_f3 := hn3.2.2.2.1
          have hdv3 := hU3.2.1
          obtain ⟨ea3, eb3, ec3, ed3, hE3⟩ := hU3.2.2.2
          have hD3 := hdv3.1
          show jj G kS_triangulate (d + 7) Q rc rs 93 [some (.ref re), some (.int (nI (t))), some (.int (nI (i)))] [] M3
          rw [r2, r1] at at3
          have o3 : ∀ q, 10 ≤ q → q ≠ 548 → q ≠ (rp s1 ls ps i t) → V3 q = V0 q := fun q h1 h2 h3 => by rw [ot3 q h3, ot2 q h2, ot1 q (by omega) (by omega)]
          have f3 : V3 548 = V0 (rp s1 ls ps i t) / g := by rw [ot3 _ (by omega), at2, q1]
          have m3 : V3 547 = m' := by rw [o3 _ (by omega) (by omega) (by omega)]; exact m8
          have hR3 := hR8.ef hJ hf3
          have hS3 : KS M3 wa la cap N eu dv hi lo dk V3 := ⟨hc3, ⟨r_b, px_b, pf_b, py_b, po_b, ps_b, od_b, hU3⟩, q3_dk⟩
          have c3 : ∀ i' p, i' < 16 → p < 16 → ¬ (i' = i ∧ p = t) → V3 (rp s1 ls ps i' p) = V0 (rp s1 ls ps i' p) := fun i' p h1 h2 h3 => by
            have := hsp1.b hs h1 h2
            exact o3 _ (by omega) (by omega) (hsp1.ne hs h1 h2 (by omega) (by omega) h3)
          refine jj_aload_n (pc := 93) kS_triangulate_d93 rfl ?_
          refine jj_iload_n (pc := 94) kS_triangulate_d94 rfl ?_
          refine jj_iload_n (pc := 95) kS_triangulate_d95 rfl ?_
          refine jj_iload_n (pc := 96) kS_triangulate_d96 rfl ?_
          refine jn_iconst (pc := 97) 1 kS_triangulate_d97 (by decide) ?_
          refine jn_iadd (pc := 98) (t + 1) kS_triangulate_d98 (by omega) ?_
          refine jj_callV (pc := 99) (b := re) (As := [.int (nI (i)), .int (nI (t)), .int (nI (t + 1))]) kS_triangulate_d99 (kvS_S_subtractLine hG) (kG_cl hG rfl) rfl q3_re rfl rfl rfl (Nat.le_of_ble_eq_true rfl) (Nat.le_of_ble_eq_true rfl) (jj_bare0 rfl) ?_
          refine r_subtractLine hG hK hS3 hJ hR3 hs (by omega) (by omega) (by omega) (by omega) (show t + 1 ≤ pl by omega) (by rw [m3]; exact m'0) (by rw [m3]; exact lm') (by rw [f3, ← q1]; omega) (fun M4 V4 hS4 e4 o4 hw4 => ?_)
          have hre4 := (hR3.ef hJ hw4).1
          show jj G kS_triangulate (d + 7) Q rc rs 102 [some (.ref re), some (.int (nI (t))), some (.int (nI (i)))] [] M4
          refine jn_iinc (pc := 102) (i + 1) kS_triangulate_d102 rfl (nI_1 _) ?_
          refine jj_goto (pc := 105) (tgt := 30) kS_triangulate_d105 (by decide) ?_
          show jj G kS_triangulate (d + 7) Q rc rs 30 [some (.ref re), some (.int (nI (t))), some (.int (nI (i + 1)))] [] M4
          rw [m3, f3] at e4
          have c4 : ∀ i' p, i' < 16 → p < 16 → i' ≠ i ∨ p ≤ t ∨ pl ≤ p → V4 (rp s1 ls ps i' p) = V3 (rp s1 ls ps i' p) := fun i' p h1 h2 h3 => by
            have := hsp1.b hs h1 h2
            exact o4 _ (by omega) (fun p' h4 h5 => hsp1.ne hs h1 h2 (by omega) (by omega) (by omega))
          have n4 : ∀ i' p, i' < 16 → p < 16 → i' ≠ i → rz V4 s1 ls ps i' p = rz V0 s1 ls ps i' p := fun i' p h1 h2 h3 => by
            show V4 _ = V0 _
            rw [c4 i' p h1 h2 (Or.inl h3), c3 i' p h1 h2 (by omega)]
          refine ih2 (i + 1) (by omega) M4 V4 hS4 ((f8.trans hf3).trans hw4) (fun i' hi' => ?_) (fun i' p h1 h2 h3 => by rw [n4 i' p h2 h3 (by omega)]; exact u8 i' p (by omega) h2 h3) (by rw [o4 _ (by omega) (fun p h1 h2 => by have := hsp1.b hs (show i < 16 by omega) (show p < 16 by omega); omega)]; exact m3) (fun q h1 h2 => by rw [o4 q h1 (fun p h3 h4 => by have := hsp1.b hs (show i < 16 by omega) (show p < 16 by omega); omega), o3 q h1 (by omega) (by omega)]; exact o8 q h1 h2)
          by_cases c : i' = i
          · rw [c]
            have hi0 : ROWH Bz T ln pl (rz V0 s1 ls ps) i t := hrow.congr (by omega) (by omega) (fun p hp => u8 i p (Nat.le_refl _) (by omega) (by omega))
            have ht0 : ROWH Bz T ln pl (rz V0 s1 ls ps) t (t + 1) := rowH.congr (by omega) (by omega) (fun p hp => u8 t p (by omega) (by omega) (by omega))
            have zt4 : rz V4 s1 ls ps i t = V0 (rp s1 ls ps i t) % g := by
              show V4 _ = _
              rw [c4 i t (by omega) (by omega) (by omega), at3]
            refine hi0.step (f := V0 (rp s1 ls ps i t) / g) (R := m') ht0 (by omega) (by omega) hRin (fun p hp => ?_) ?_ ?_ (fun p h1 h2 => ?_)
            · show V4 _ = V0 _
              rw [c4 i p (by omega) (by omega) (by omega), c3 i p (by omega) (by omega) (by omega)]
            · rw [zt4]
              show _ = V0 (rp s1 ls ps i t) - V0 (rp s1 ls ps i t) / g * V0 (rp s1 ls ps t t)
              rw [vt]
              have := Int.mul_ediv_add_emod (V0 (rp s1 ls ps i t)) g
              rw [Int.mul_comm] at this
              omega
            · rw [zt4, tg]
              exact ⟨Int.emod_nonneg _ (by omega), Int.emod_lt_of_pos _ hgp⟩
            · have ep : rz V4 s1 ls ps i p = if V0 (rp s1 ls ps t p) = 0 then V0 (rp s1 ls ps i p) else (V0 (rp s1 ls ps i p) - V0 (rp s1 ls ps i t) / g * V0 (rp s1 ls ps t p)) % m' := by
                have := e4 p (by omega) h2
                rw [c3 t p (by omega) (by omega) (by omega), c3 i p (by omega) (by omega) (by omega)] at this
                exact this
              rw [ep]
              by_cases z : V0 (rp s1 ls ps t p) = 0
              · rw [if_pos z]
                refine ⟨⟨0, ?_⟩, hi0.2.2.2 p (by omega) h2⟩
                show V0 _ - (V0 _ - _ * V0 _) = _
                rw [z, Int.mul_zero, Int.mul_zero]; omega
              · rw [if_neg z]
                exact ⟨emod_dvd _ _, Int.emod_nonneg _ (by omega)⟩
          · exact (d8 i' (by omega)).congr (by omega) (by omega) (fun p hp => n4 i' p (by omega) (by omega) c)
      exact inner t 0 (by omega) M2 V2 hS2 (fun _ _ _ _ _ _ => rfl) (fun i' h => by omega) (fun _ _ _ _ _ => rfl) m2 (fun _ _ _ => rfl)
  exact outer pl 0 (by omega) _ M V s hS hR (fun _ _ _ => rfl) hc0 hD0 hm0 hlm (fun i p _ h2 _ h4 => hrg i p h2 h4) (fun i h => by omega) (fun _ _ _ => rfl)
end S7
