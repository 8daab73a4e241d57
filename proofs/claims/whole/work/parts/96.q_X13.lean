/-! ===== ExactForms: draftSolution (printed by wip/gen/rX13.py) ===== -/
section X13
variable {G : jg} {d : Nat} {Q : jq} {rc rs : Nat} {M : mheap} {wa la cap oa : Nat → Nat} {eu dv hi lo : Nat} {V : Nat → Int} {sc : Int32} {R C : Nat → Nat}
theorem solF_piv {E : qmat} {r n i j : Nat} {p : Nat → Nat} (hp : ∀ i k, i < k → k < r → p i < p k) (hi : i < r) : solF E r p n (p i) j = E i (n + j) := by
  unfold solF
  rw [qsum_one hi (fun k hk hne => if_neg (fun e => ?_)), if_pos rfl]
  rcases Nat.lt_or_gt_of_ne hne with l | l
  · have := hp k i l hi; omega
  · have := hp i k l hk; omega
theorem x_draftSolution {rw cl rk sw m bz : Nat} {P B : List Int32} {g p : Nat → Nat} {Az : imat} {A Bq E : qmat} (hG : kG G) (hJ : XJ wa la cap oa eu dv hi lo) (hS : KS M wa la cap 3122 eu dv hi lo (oa 3) V) (hO : XO M wa oa sc R C) (hL : ELT M wa (oa 4) (oa 5) (oa 6) (oa 7) (oa 8) (oa 3) rk sw m (rw + cl) P B g) (hB : BAR Az (gz V g) m (rw + cl) rw rk sw p (V 33) A Bq E) (hz : BEZ (gz V g) m (rw + cl) rk) (hb1 : 1 ≤ bz) (hbz : ∀ x, x < m → ∀ y, y < rw + cl → (Az x y).natAbs ≤ bz) (hwt : (min m (rw + cl) * bz) ^ min m (rw + cl) ≤ 2 ^ 2000) (hm : m ≤ 16) (h1rw : 1 ≤ rw) (hrw : rw ≤ 16) (h1cl : 1 ≤ cl) (hcl : cl ≤ 16) (hPV : PIV P B p rk (rw + cl)) (k : ∀ (M' : mheap) (V' : Nat → Int) (R1 C1 : Nat → Nat), KS M' wa la cap 3122 eu dv hi lo (oa 3) V' → XO M' wa oa sc R1 C1 → R1 8 = rw → C1 8 = cl → (∀ k, k < 8 → R1 k = R k ∧ C1 k = C k) → HAS V' 2865 rw cl (mcut (solF E rk p rw) rw cl) → (∀ p, 13 ≤ p → (p < 17 ∨ 547 ≤ p) → p < 2865 → V' p = V p) → XF oa M M' wa la eu dv hi lo → Q (.returned none) M' rc rs) : jj G kX_draftSolution (d + 8) Q rc rs 0 (jj_ent [.ref (oa 0), .int (nI rw), .int (nI cl)] 5) [] M := by
  have hK := hJ.1
  have hI := hK.1
  have hJL := hJ.lj
  obtain ⟨bd, ebd⟩ : ∃ b, b = 2865 := ⟨_, rfl⟩
  obtain ⟨ww, eww⟩ : ∃ w, w = rw + cl := ⟨_, rfl⟩
  rw [← eww] at hL hB hz hbz hwt hPV
  have hx := hO.1
  have hl0 := hL.1
  have hrk := hB.1.1
  have hpc := hB.2.1.2.1
  have hpi := hB.2.1.2.2.1
  show jj G kX_draftSolution (d + 8) Q rc rs 0 [some (.ref (oa 0)), some (.int (nI (rw))), some (.int (nI (cl))), none, none] [] M
  refine jj_aload_n (pc := 0) kX_draftSolution_d0 rfl ?_
  refine jj_getf (pc := 1) kX_draftSolution_d1 (kfX_elimination hG) hx rfl ?_
  refine jj_iload_n (pc := 4) kX_draftSolution_d4 rfl ?_
  refine jj_callV (pc := 5) (b := (oa 4)) (As := [.int (nI (rw))]) kX_draftSolution_d5 (kvX_E_substitute hG) (kG_cl hG rfl) rfl hl0 rfl rfl rfl (Nat.le_of_ble_eq_true rfl) (Nat.le_of_ble_eq_true rfl) (jj_bare0 rfl) ?_
  refine e_subst (f := rw) hG hK hS hJL hL hB (by omega) hz hb1 hbz hwt hm (by omega) hPV (by omega) (fun M3 V3 hS3 hf3 vo3 eT => ?_)
  have hO3 := hO.ef hJ hf3
  have hL3 := hL.ef hJL hf3
  have hF3 : XF oa M M3 wa la eu dv hi lo := hf3.efx
  have hx3 := hO3.1
  have hMd3 := hO3.dr ebd
  have hmd3 := hMd3.1
  obtain ⟨L, eL⟩ : ∃ L, V 33 = L := ⟨_, rfl⟩
  have v33 : V3 33 = L := by rw [vo3 33 (by omega) (by omega)]; exact eL
  rw [eL] at eT hB
  have hLne := hB.ne
  have lL : lc L ≤ 63 := (hB.lcL (by omega) hb1 hbz hwt).1
  show jj G kX_draftSolution (d + 8) Q rc rs 8 [some (.ref (oa 0)), some (.int (nI (rw))), some (.int (nI (cl))), none, none] [] M3
  refine jj_aload_n (pc := 8) kX_draftSolution_d8 rfl ?_
  refine jj_getf (pc := 9) kX_draftSolution_d9 (kfX_draft hG) hx3 rfl ?_
  refine jj_iload_n (pc := 12) kX_draftSolution_d12 rfl ?_
  refine jj_iload_n (pc := 13) kX_draftSolution_d13 rfl ?_
  refine jj_callV (pc := 14) (b := (oa 21)) (As := [.int (nI (rw)), .int (nI (cl))]) kX_draftSolution_d14 (kvX_M_clear hG) (kG_cl hG rfl) rfl hmd3 rfl rfl rfl (Nat.le_of_ble_eq_true rfl) (Nat.le_of_ble_eq_true rfl) (jj_bare0 rfl) ?_
  refine m_clear hG hK hS3 hMd3 (by omega) (by omega) (by have := (hJ.capw (p := bd + 256) (by omega) (by omega)).2; exact this) hrw hcl (fun M4 V4 hS4 hMd4x vc4 v04 vo4 f4 => ?_)
  obtain ⟨R1, C1, hO4, e8, f8, rk1, hFd⟩ := hO3.draft hJ hMd4x ebd f4
  have hF4 := hF3.trans hFd
  have hL4 : ELT M4 wa (oa 4) (oa 5) (oa 6) (oa 7) (oa 8) (oa 3) rk sw m ww P B g := hL3.cells (f4 _ (hJ.ne (by omega) (by omega) (by omega)) (hJ.2.2.1 4 (by omega)).1) (f4 _ (hJ.ne (by omega) (by omega) (by omega)) (hJ.2.2.1 5 (by omega)).1) (f4 _ (hJ.ne (by omega) (by omega) (by omega)) (hJ.2.2.1 6 (by omega)).1) (f4 _ (hJ.ne (by omega) (by omega) (by omega)) (hJ.2.2.1 7 (by omega)).1) (f4 _ (hJ.ne (by omega) (by omega) (by omega)) (hJ.2.2.1 8 (by omega)).1)
  have hl4 := hL4.1
  have hx4 := hO4.1
  have hmd4 := hMd4x.1
  obtain ⟨T4, t4, hT4, _, _⟩ := hS4.1 (bd + 256) (by omega)
  have l33 : V4 33 = L := by rw [vo4 33 (by omega)]; exact v33
  show jj G kX_draftSolution (d + 8) Q rc rs 17 [some (.ref (oa 0)), some (.int (nI (rw))), some (.int (nI (cl))), none, none] [] M4
  refine jj_aload_n (pc := 17) kX_draftSolution_d17 rfl ?_
  refine jj_getf (pc := 18) kX_draftSolution_d18 (kfX_draft hG) hx4 rfl ?_
  refine jj_getf (pc := 21) kX_draftSolution_d21 (kfX_M_common hG) hmd4 rfl ?_
  refine jj_aload_n (pc := 24) kX_draftSolution_d24 rfl ?_
  refine jj_getf (pc := 25) kX_draftSolution_d25 (kfX_elimination hG) hx4 rfl ?_
  refine jj_getf (pc := 28) kX_draftSolution_d28 (kfX_E_last hG) hl4 rfl ?_
  refine jj_callV (pc := 31) (b := (wa (bd + 256))) (As := [.ref (wa 33)]) kX_draftSolution_d31 (kvX_W_copy hG) (kG_cl hG rfl) rfl hT4 rfl rfl rfl (Nat.le_of_ble_eq_true rfl) (Nat.le_of_ble_eq_true rfl) (jj_bare0 rfl) ?_
  refine w_copy hG hI hS4.1 (t := bd + 256) (u := 33) (by omega) (by omega) (by rw [hJ.cap252 (by omega) (by omega), l33]; exact lc_room (by omega)) (fun M5 hc5 hw5 => ?_)
  have hS5x := hS4.wt hK (by omega) hw5 hc5
  have hw5e : EF M4 M5 wa la 3122 eu dv hi lo := hw5.ef (by omega)
  have hO5 := hO4.ef hJ hw5e
  have hL5 := hL4.ef hJL hw5e
  have hF5 := hF4.trans (hw5e.efx (X := XAD oa))
  obtain ⟨Vb, eVb⟩ : ∃ W, vup V4 (bd + 256) (V4 33) = W := ⟨_, rfl⟩
  have hS5 : KS M5 wa la cap 3122 eu dv hi lo (oa 3) Vb := by rw [← eVb]; exact hS5x
  have vb0 : Vb (bd + 256) = L := by rw [← eVb, vup_at]; exact l33
  have vb1 : ∀ p, p < bd → Vb p = V3 p := fun p hp => by rw [← eVb, vup_ne _ _ (by omega)]; exact vo4 _ (Or.inl hp)
  have vb2 : ∀ i j, i < rw → j < cl → Vb (bd + (16 * i + j)) = 0 := fun i j hi' hj' => by rw [← eVb, vup_ne _ _ (by omega)]; exact v04 i j hi' hj'
  have hx5 := hO5.1
  have hl5 := hL5.1
  have hMd5 := hO5.dr ebd
  rw [e8, f8] at hMd5
  have hmd5 := hMd5.1
  obtain ⟨hpa5, lpa5⟩ := hL5.2.2.1
  show jj G kX_draftSolution (d + 8) Q rc rs 34 [some (.ref (oa 0)), some (.int (nI (rw))), some (.int (nI (cl))), none, none] [] M5
  refine jn_iconst (pc := 34) 0 kX_draftSolution_d34 (by decide) ?_
  refine jj_istore_n (pc := 35) kX_draftSolution_d35 (Nat.le_of_ble_eq_true rfl) ?_
  show jj G kX_draftSolution (d + 8) Q rc rs 36 [some (.ref (oa 0)), some (.int (nI (rw))), some (.int (nI (cl))), some (.int (nI (0))), none] [] M5
  show jj G kX_draftSolution (d + 8) Q rc rs 36 [some (.ref (oa 0)), some (.int (nI (rw))), some (.int (nI (cl))), some (.int (nI (0))), none] [] M5
  have outer : ∀ mu i, rk = i + mu → ∀ (oj : Option Value) (M9 : mheap) (V9 : Nat → Int), KS M9 wa la cap 3122 eu dv hi lo (oa 3) V9 → EF M5 M9 wa la 3122 eu dv hi lo → (∀ p, 13 ≤ p → p < bd ∨ p = bd + 256 → V9 p = Vb p) → (∀ i' j', i' < rk → thru cl i 0 i' j' → ((V9 (bd + (16 * p i' + j')) : Int) : Rat) = ((L : Int) : Rat) * E i' (rw + j')) → (∀ a j', a < rw → j' < cl → (∀ i', i' < rk → thru cl i 0 i' j' → p i' ≠ a) → V9 (bd + (16 * a + j')) = 0) → jj G kX_draftSolution (d + 8) Q rc rs 36 [some (.ref (oa 0)), some (.int (nI (rw))), some (.int (nI (cl))), some (.int (nI (i))), (oj)] [] M9 := by
    intro mu
    induction mu with
    | zero =>
      intro i hk oj M9 V9 hS9 f9 o9 v9 z9
      have e9 : rk = i := by omega
      subst e9
      have hO9 := hO5.ef hJ f9
      have hL9 := hL5.ef hJL f9
      have hx9 := hO9.1
      have hl9 := hL9.1
      have hMd9 := hO9.dr ebd
      rw [e8, f8] at hMd9
      have hmd9 := hMd9.1
      obtain ⟨hpa9, lpa9⟩ := hL9.2.2.1
      refine jj_iload_n (pc := 36) kX_draftSolution_d36 rfl ?_
      refine jj_aload_n (pc := 37) kX_draftSolution_d37 rfl ?_
      refine jj_getf (pc := 38) kX_draftSolution_d38 (kfX_elimination hG) hx9 rfl ?_
      refine jj_getf (pc := 41) kX_draftSolution_d41 (kfX_E_rank hG) hl9 rfl ?_
      refine jn_icmp_ge (pc := 44) (tgt := 101) kX_draftSolution_d44 (by decide) (by omega) (by omega) (fun _ => ?_) (fun c => by exfalso; omega)
      have hH : HAS V9 2865 rw cl (mcut (solF E rk p rw) rw cl) := by
        rw [← ebd]
        refine ⟨by rw [o9 _ (by omega) (by omega), vb0]; exact hLne, fun a j ha hj' => ?_⟩
        rw [o9 (bd + 256) (by omega) (by omega), vb0, mcut_cell hj', if_pos ha]
        by_cases c : ∃ i, i < rk ∧ p i = a
        · obtain ⟨i, hi', rfl⟩ := c
          rw [v9 i j hi' ⟨hj', Or.inl hi'⟩, solF_piv hpi hi', Rat.mul_comm]
        · rw [z9 a j ha hj' (fun i hi' _ e => c ⟨i, hi', e⟩), solF_none (fun i hi' e => c ⟨i, hi', e⟩)]
          show (0 : Rat) = 0 * _
          grind
      exact jj_vret (pc := 101) kX_draftSolution_d101 rfl (k M9 V9 R1 C1 hS9 hO9 e8 f8 rk1 hH (fun p h1 h2 h3 => by rw [o9 p h1 (by omega), vb1 p (by omega)]; exact vo3 p h1 (by omega)) (hF5.trans (f9.efx (X := XAD oa))))
    | succ mu ih =>
      intro i hk oj M9 V9 hS9 f9 o9 v9 z9
      have hO9 := hO5.ef hJ f9
      have hL9 := hL5.ef hJL f9
      have pi := hpc i (by omega)
      have hx9 := hO9.1
      have hl9 := hL9.1
      have hMd9 := hO9.dr ebd
      rw [e8, f8] at hMd9
      have hmd9 := hMd9.1
      obtain ⟨hpa9, lpa9⟩ := hL9.2.2.1
      refine jj_iload_n (pc := 36) kX_draftSolution_d36 rfl ?_
      refine jj_aload_n (pc := 37) kX_draftSolution_d37 rfl ?_
      refine jj_getf (pc := 38) kX_draftSolution_d38 (kfX_elimination hG) hx9 rfl ?_
      refine jj_getf (pc := 41) kX_draftSolution_d41 (kfX_E_rank hG) hl9 rfl ?_
      refine jn_icmp_ge (pc := 44) (tgt := 101) kX_draftSolution_d44 (by decide) (by omega) (by omega) (fun c => by exfalso; omega) (fun _ => ?_)
      refine jn_iconst (pc := 47) 0 kX_draftSolution_d47 (by decide) ?_
      refine jj_istore (pc := 48) kX_draftSolution_d48 (Nat.le_of_ble_eq_true rfl) ?_
      show jj G kX_draftSolution (d + 8) Q rc rs 50 [some (.ref (oa 0)), some (.int (nI (rw))), some (.int (nI (cl))), some (.int (nI (i))), some (.int (nI (0)))] [] M9
      show jj G kX_draftSolution (d + 8) Q rc rs 50 [some (.ref (oa 0)), some (.int (nI (rw))), some (.int (nI (cl))), some (.int (nI (i))), some (.int (nI (0)))] [] M9
      have inner : ∀ mu2 j, cl = j + mu2 → ∀ (M9 : mheap) (V9 : Nat → Int), KS M9 wa la cap 3122 eu dv hi lo (oa 3) V9 → EF M5 M9 wa la 3122 eu dv hi lo → (∀ p, 13 ≤ p → p < bd ∨ p = bd + 256 → V9 p = Vb p) → (∀ i' j', i' < rk → thru cl i j i' j' → ((V9 (bd + (16 * p i' + j')) : Int) : Rat) = ((L : Int) : Rat) * E i' (rw + j')) → (∀ a j', a < rw → j' < cl → (∀ i', i' < rk → thru cl i j i' j' → p i' ≠ a) → V9 (bd + (16 * a + j')) = 0) → jj G kX_draftSolution (d + 8) Q rc rs 50 [some (.ref (oa 0)), some (.int (nI (rw))), some (.int (nI (cl))), some (.int (nI (i))), some (.int (nI (j)))] [] M9 := by
        intro mu2
        induction mu2 with
        | zero =>
          intro j hk2 M9 V9 hS9 f9 o9 v9 z9
          have e9 : cl = j := by omega
          subst e9
          have hO9 := hO5.ef hJ f9
          have hL9 := hL5.ef hJL f9
          have hx9 := hO9.1
          have hl9 := hL9.1
          have hMd9 := hO9.dr ebd
          rw [e8, f8] at hMd9
          have hmd9 := hMd9.1
          obtain ⟨hpa9, lpa9⟩ := hL9.2.2.1
          refine jj_iload (pc := 50) kX_draftSolution_d50 rfl ?_
          refine jj_iload_n (pc := 52) kX_draftSolution_d52 rfl ?_
          refine jn_icmp_ge (pc := 53) (tgt := 95) kX_draftSolution_d53 (by decide) (by omega) (by omega) (fun _ => ?_) (fun c => by exfalso; omega)
          refine jn_iinc (pc := 95) (i + 1) kX_draftSolution_d95 rfl (nI_1 _) ?_
          refine jj_goto (pc := 98) (tgt := 36) kX_draftSolution_d98 (by decide) ?_
          show jj G kX_draftSolution (d + 8) Q rc rs 36 [some (.ref (oa 0)), some (.int (nI (rw))), some (.int (nI (cl))), some (.int (nI (i + 1))), some (.int (nI (cl)))] [] M9
          exact ih (i + 1) (by omega) _ M9 V9 hS9 f9 o9 (fun i' j' h1 h2 => v9 i' j' h1 (thru_row.2 h2)) (fun a j' h1 h2 h3 => z9 a j' h1 h2 (fun i' h4 h5 => h3 i' h4 (thru_row.1 h5)))
        | succ mu2 ih2 =>
          intro j hk2 M9 V9 hS9 f9 o9 v9 z9
          have hO9 := hO5.ef hJ f9
          have hL9 := hL5.ef hJL f9
          obtain ⟨tq, ltq⟩ := eT i (rw + j) (by omega) (by omega) (by omega) (fun k hk => by have := hpc k hk; omega)
          have gb := hL9.2.2.2.2.2.1 (32 * i + (rw + j)) (by omega)
          have gv : V9 (g (32 * i + (rw + j))) = V3 (g (32 * i + (rw + j))) := by rw [o9 _ (by omega) (by omega)]; exact vb1 _ (by omega)
          have hx9 := hO9.1
          have hl9 := hL9.1
          have hMd9 := hO9.dr ebd
          rw [e8, f8] at hMd9
          have hmd9 := hMd9.1
          obtain ⟨hpa9, lpa9⟩ := hL9.2.2.1
          refine jj_iload (pc := 50) kX_draftSolution_d50 rfl ?_
          refine jj_iload_n (pc := 52) kX_draftSolution_d52 rfl ?_
          refine jn_icmp_ge (pc := 53) (tgt := 95) kX_draftSolution_d53 (by decide) (by omega) (by omega) (fun c => by exfalso; omega) (fun _ => ?_)
          refine jj_aload_n (pc := 56) kX_draftSolution_d56 rfl ?_
          refine jj_getf (pc := 57) kX_draftSolution_d57 (kfX_draft hG) hx9 rfl ?_
          refine jj_aload_n (pc := 60) kX_draftSolution_d60 rfl ?_
          refine jj_getf (pc := 61) kX_draftSolution_d61 (kfX_elimination hG) hx9 rfl ?_
          refine jj_getf (pc := 64) kX_draftSolution_d64 (kfX_E_pivotColumns hG) hl9 rfl ?_
          refine jj_iload_n (pc := 67) kX_draftSolution_d67 rfl ?_
          refine jn_iald (pc := 68) (v := (nI (p i))) kX_draftSolution_d68 (kG_t hG rfl) hpa9 (by omega) (by omega) (hPV.1 i (by omega)) ?_
          refine jj_iload (pc := 69) kX_draftSolution_d69 rfl ?_
          refine jj_callV (pc := 71) (b := (oa 21)) (As := [.int (nI (p i)), .int (nI (j))]) kX_draftSolution_d71 (kvX_M_at hG) (kG_cl hG rfl) rfl hmd9 rfl rfl rfl (Nat.le_of_ble_eq_true rfl) (Nat.le_of_ble_eq_true rfl) (jj_bare0 rfl) ?_
          refine m_at hG hMd9 (by omega) (by omega) ?_
          show jj G kX_draftSolution (d + 8) Q rc rs 74 [some (.ref (oa 0)), some (.int (nI (rw))), some (.int (nI (cl))), some (.int (nI (i))), some (.int (nI (j)))] [.ref (wa (bd + (16 * p i + j)))] M9
          refine jj_aload_n (pc := 74) kX_draftSolution_d74 rfl ?_
          refine jj_getf (pc := 75) kX_draftSolution_d75 (kfX_elimination hG) hx9 rfl ?_
          refine jj_iload_n (pc := 78) kX_draftSolution_d78 rfl ?_
          refine jj_iload_n (pc := 79) kX_draftSolution_d79 rfl ?_
          refine jj_iload (pc := 80) kX_draftSolution_d80 rfl ?_
          refine jn_iadd (pc := 82) (rw + j) kX_draftSolution_d82 (by omega) ?_
          refine jj_callV (pc := 83) (b := (oa 4)) (As := [.int (nI (i)), .int (nI (rw + j))]) kX_draftSolution_d83 (kvX_E_at hG) (kG_cl hG rfl) rfl hl9 rfl rfl rfl (Nat.le_of_ble_eq_true rfl) (Nat.le_of_ble_eq_true rfl) (jj_bare0 rfl) ?_
          refine e_at hG hL9 (by omega) (by omega) ?_
          show jj G kX_draftSolution (d + 8) Q rc rs 86 [some (.ref (oa 0)), some (.int (nI (rw))), some (.int (nI (cl))), some (.int (nI (i))), some (.int (nI (j)))] [.ref (wa (g (32 * i + (rw + j)))), .ref (wa (bd + (16 * p i + j)))] M9
          obtain ⟨T9, t9, hT9, _, _⟩ := hS9.1 (bd + (16 * p i + j)) (by omega)
          refine jj_callV (pc := 86) (b := (wa (bd + (16 * p i + j)))) (As := [.ref (wa (g (32 * i + (rw + j))))]) kX_draftSolution_d86 (kvX_W_copy hG) (kG_cl hG rfl) rfl hT9 rfl rfl rfl (Nat.le_of_ble_eq_true rfl) (Nat.le_of_ble_eq_true rfl) (jj_bare0 rfl) ?_
          refine w_copy hG hI hS9.1 (t := (bd + (16 * p i + j))) (u := (g (32 * i + (rw + j)))) (by omega) (by omega) (by rw [hJ.cap252 (by omega) (by omega), gv]; exact lc_room (by omega)) (fun M8 hc8 hw8 => ?_)
          show jj G kX_draftSolution (d + 8) Q rc rs 89 [some (.ref (oa 0)), some (.int (nI (rw))), some (.int (nI (cl))), some (.int (nI (i))), some (.int (nI (j)))] [] M8
          refine jn_iinc (pc := 89) (j + 1) kX_draftSolution_d89 rfl (nI_1 _) ?_
          refine jj_goto (pc := 92) (tgt := 50) kX_draftSolution_d92 (by decide) ?_
          show jj G kX_draftSolution (d + 8) Q rc rs 50 [some (.ref (oa 0)), some (.int (nI (rw))), some (.int (nI (cl))), some (.int (nI (i))), some (.int (nI (j + 1)))] [] M8
          have pne : ∀ i', i' < rk → i' ≠ i → p i' ≠ p i := fun i' h1 h2 e => by
            rcases Nat.lt_or_gt_of_ne h2 with l | l
            · have := hpi i' i l (by omega); omega
            · have := hpi i i' l h1; omega
          refine ih2 (j + 1) (by omega) M8 _ (hS9.wt hK (by omega) hw8 hc8) (f9.trans (hw8.ef (by omega))) (fun q h1 h2 => by rw [vup_ne _ _ (by omega)]; exact o9 q h1 h2) (fun i' j' h1 h2 => ?_) (fun a j' h1 h2 h3 => ?_)
          · have pi' := hpc i' h1
            by_cases e : i' = i ∧ j' = j
            · rw [e.1, e.2, vup_at, gv]; exact tq
            · have hj9 := h2.1
              have hne : ¬ (p i' = p i ∧ j' = j) := fun h => by
                by_cases e1 : i' = i
                · exact e ⟨e1, h.2⟩
                · exact pne i' h1 e1 h.1
              rw [vup_ne _ _ (by omega)]
              rcases (thru_next (by omega)).1 h2 with h | h
              · exact v9 i' j' h1 h
              · exact absurd h e
          · have hne : ¬ (a = p i ∧ j' = j) := fun h => h3 i (by omega) ((thru_next (by omega)).2 (Or.inr ⟨rfl, h.2⟩)) h.1.symm
            rw [vup_ne _ _ (by omega)]
            exact z9 a j' h1 h2 (fun i' h4 h5 => h3 i' h4 ((thru_next (by omega)).2 (Or.inl h5)))
      exact inner cl 0 (by omega) M9 V9 hS9 f9 o9 v9 z9
  refine outer rk 0 (by omega) _ M5 Vb hS5 (fun _ _ _ _ _ _ => rfl) (fun _ _ _ => rfl) (fun i' j' _ h => ?_) (fun a j' h1 h2 _ => vb2 a j' h1 h2)
  unfold thru at h
  omega
end X13
