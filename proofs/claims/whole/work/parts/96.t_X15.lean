/-! ===== ExactForms: draftKernel, kernel (printed by wip/gen/rX15.py) ===== -/
section X15
variable {G : jg} {d : Nat} {Q : jq} {rc rs : Nat} {M : mheap} {wa la cap oa : Nat → Nat} {eu dv hi lo : Nat} {V : Nat → Int} {sc : Int32} {R C : Nat → Nat}
theorem x_draftKernel {f c rk sw m : Nat} {L : Int} {P B : List Int32} {g p q : Nat → Nat} {E : qmat} (hG : kG G) (hJ : XJ wa la cap oa eu dv hi lo) (hS : KS M wa la cap 3122 eu dv hi lo (oa 3) V) (hO : XO M wa oa sc R C) (hL : ELT M wa (oa 4) (oa 5) (oa 6) (oa 7) (oa 8) (oa 3) rk sw m c P B g) (h33 : V 33 = L) (hLne : L ≠ 0) (lL : lc L ≤ 63) (hm : m ≤ 16) (hc16 : c ≤ 16) (hf1 : 1 ≤ f) (hrk : rk ≤ 16) (hpt : parts2 c rk f p q) (hfr : f + rk = c) (hPV : PIV P B p rk c) (eT : ∀ i x, i < rk → x < c → (∀ k, k < rk → p k ≠ x) → ((V (g (32 * i + x)) : Int) : Rat) = ((L : Int) : Rat) * E i x ∧ lc (V (g (32 * i + x))) ≤ 63) (k : ∀ (M' : mheap) (V' : Nat → Int) (R1 C1 : Nat → Nat), KS M' wa la cap 3122 eu dv hi lo (oa 3) V' → XO M' wa oa sc R1 C1 → R1 8 = f → C1 8 = c → (∀ k, k < 8 → R1 k = R k ∧ C1 k = C k) → HAS V' 2865 f c (mcut (kerR E rk p q f c) f c) → (∀ p, 13 ≤ p → p < 2865 → V' p = V p) → XF oa M M' wa la eu dv hi lo → Q (.returned none) M' rc rs) : jj G kX_draftKernel (d + 8) Q rc rs 0 (jj_ent [.ref (oa 0), .int (nI f), .int (nI c)] 7) [] M := by
  have hK := hJ.1
  have hI := hK.1
  have hJL := hJ.lj
  obtain ⟨bd, ebd⟩ : ∃ b, b = 2865 := ⟨_, rfl⟩
  obtain ⟨a1, a2, a3, a4, a5, a6⟩ := id hpt
  have hKm := kerF_ker (E := E) hpt
  have hx := hO.1
  have hMd := hO.dr ebd
  have hmd := hMd.1
  show jj G kX_draftKernel (d + 8) Q rc rs 0 [some (.ref (oa 0)), some (.int (nI (f))), some (.int (nI (c))), none, none, none, none] [] M
  refine jj_aload_n (pc := 0) kX_draftKernel_d0 rfl ?_
  refine jj_getf (pc := 1) kX_draftKernel_d1 (kfX_draft hG) hx rfl ?_
  refine jj_iload_n (pc := 4) kX_draftKernel_d4 rfl ?_
  refine jj_iload_n (pc := 5) kX_draftKernel_d5 rfl ?_
  refine jj_callV (pc := 6) (b := (oa 21)) (As := [.int (nI (f)), .int (nI (c))]) kX_draftKernel_d6 (kvX_M_clear hG) (kG_cl hG rfl) rfl hmd rfl rfl rfl (Nat.le_of_ble_eq_true rfl) (Nat.le_of_ble_eq_true rfl) (jj_bare0 rfl) ?_
  refine m_clear hG hK hS hMd (by omega) (by omega) (by have := (hJ.capw (p := bd + 256) (by omega) (by omega)).2; exact this) (by omega) hc16 (fun M4 V4 hS4 hMd4x vc4 v04 vo4 f4 => ?_)
  obtain ⟨R1, C1, hO4, e8, f8, rk1, hF4⟩ := hO.draft hJ hMd4x ebd f4
  have hL4 : ELT M4 wa (oa 4) (oa 5) (oa 6) (oa 7) (oa 8) (oa 3) rk sw m c P B g := hL.cells (f4 _ (hJ.ne (by omega) (by omega) (by omega)) (hJ.2.2.1 4 (by omega)).1) (f4 _ (hJ.ne (by omega) (by omega) (by omega)) (hJ.2.2.1 5 (by omega)).1) (f4 _ (hJ.ne (by omega) (by omega) (by omega)) (hJ.2.2.1 6 (by omega)).1) (f4 _ (hJ.ne (by omega) (by omega) (by omega)) (hJ.2.2.1 7 (by omega)).1) (f4 _ (hJ.ne (by omega) (by omega) (by omega)) (hJ.2.2.1 8 (by omega)).1)
  have hl4 := hL4.1
  have hx4 := hO4.1
  have hmd4 := hMd4x.1
  obtain ⟨T4, t4, hT4, _, _⟩ := hS4.1 (bd + 256) (by omega)
  have l33 : V4 33 = L := by rw [vo4 33 (by omega)]; exact h33
  show jj G kX_draftKernel (d + 8) Q rc rs 9 [some (.ref (oa 0)), some (.int (nI (f))), some (.int (nI (c))), none, none, none, none] [] M4
  refine jj_aload_n (pc := 9) kX_draftKernel_d9 rfl ?_
  refine jj_getf (pc := 10) kX_draftKernel_d10 (kfX_draft hG) hx4 rfl ?_
  refine jj_getf (pc := 13) kX_draftKernel_d13 (kfX_M_common hG) hmd4 rfl ?_
  refine jj_aload_n (pc := 16) kX_draftKernel_d16 rfl ?_
  refine jj_getf (pc := 17) kX_draftKernel_d17 (kfX_elimination hG) hx4 rfl ?_
  refine jj_getf (pc := 20) kX_draftKernel_d20 (kfX_E_last hG) hl4 rfl ?_
  refine jj_callV (pc := 23) (b := (wa (bd + 256))) (As := [.ref (wa 33)]) kX_draftKernel_d23 (kvX_W_copy hG) (kG_cl hG rfl) rfl hT4 rfl rfl rfl (Nat.le_of_ble_eq_true rfl) (Nat.le_of_ble_eq_true rfl) (jj_bare0 rfl) ?_
  refine w_copy hG hI hS4.1 (t := bd + 256) (u := 33) (by omega) (by omega) (by rw [hJ.cap252 (by omega) (by omega), l33]; exact lc_room (by omega)) (fun M5 hc5 hw5 => ?_)
  have hS5x := hS4.wt hK (by omega) hw5 hc5
  have hw5e : EF M4 M5 wa la 3122 eu dv hi lo := hw5.ef (by omega)
  have hO5 := hO4.ef hJ hw5e
  have hL5 := hL4.ef hJL hw5e
  have hF5 := hF4.trans (hw5e.efx (X := XAD oa))
  obtain ⟨Vb, eVb⟩ : ∃ W, vup V4 (bd + 256) (V4 33) = W := ⟨_, rfl⟩
  have hS5 : KS M5 wa la cap 3122 eu dv hi lo (oa 3) Vb := by rw [← eVb]; exact hS5x
  have vb0 : Vb (bd + 256) = L := by rw [← eVb, vup_at]; exact l33
  have vb1 : ∀ p, p < bd → Vb p = V p := fun p hp => by rw [← eVb, vup_ne _ _ (by omega)]; exact vo4 _ (Or.inl hp)
  have vb2 : ∀ i j, i < f → j < c → Vb (bd + (16 * i + j)) = 0 := fun i j hi' hj' => by rw [← eVb, vup_ne _ _ (by omega)]; exact v04 i j hi' hj'
  refine jj_iload_n (pc := 26) kX_draftKernel_d26 rfl ?_
  refine jj_istore_n (pc := 27) kX_draftKernel_d27 (Nat.le_of_ble_eq_true rfl) ?_
  show jj G kX_draftKernel (d + 8) Q rc rs 28 [some (.ref (oa 0)), some (.int (nI (f))), some (.int (nI (c))), some (.int (nI (f))), none, none, none] [] M5
  refine jn_iconst (pc := 28) 0 kX_draftKernel_d28 (by decide) ?_
  refine jj_istore (pc := 29) kX_draftKernel_d29 (Nat.le_of_ble_eq_true rfl) ?_
  show jj G kX_draftKernel (d + 8) Q rc rs 31 [some (.ref (oa 0)), some (.int (nI (f))), some (.int (nI (c))), some (.int (nI (f))), some (.int (nI (0))), none, none] [] M5
  show jj G kX_draftKernel (d + 8) Q rc rs 31 [some (.ref (oa 0)), some (.int (nI (f))), some (.int (nI (c))), some (.int (nI (f))), some (.int (nI (0))), none, none] [] M5
  have outer : ∀ mu x, c = x + mu → ∀ (o5 o6 : Option Value) (M9 : mheap) (V9 : Nat → Int) (t w : Nat), t ≤ f → (∀ t', t' < t → q t' < x) → (∀ t', t ≤ t' → t' < f → x ≤ q t') → w = f - t → KS M9 wa la cap 3122 eu dv hi lo (oa 3) V9 → EF M5 M9 wa la 3122 eu dv hi lo → (∀ p, 13 ≤ p → p < bd ∨ p = bd + 256 → V9 p = Vb p) → (∀ a y, a < f → y < c → (f - t ≤ a → ((V9 (bd + (16 * a + y)) : Int) : Rat) = ((L : Int) : Rat) * kerR E rk p q f c a y) ∧ (a < f - t → V9 (bd + (16 * a + y)) = 0)) → jj G kX_draftKernel (d + 8) Q rc rs 31 [some (.ref (oa 0)), some (.int (nI (f))), some (.int (nI (c))), some (.int (nI (w))), some (.int (nI (x))), (o5), (o6)] [] M9 := by
    intro mu
    induction mu with
    | zero =>
      intro x hk o5 o6 M9 V9 t w tf q1 q2 hw hS9 f9 o9 v9
      have e9 : c = x := by omega
      subst e9
      have hO9 := hO5.ef hJ f9
      have hL9 := hL5.ef hJL f9
      refine jj_iload (pc := 31) kX_draftKernel_d31 rfl ?_
      refine jj_iload_n (pc := 33) kX_draftKernel_d33 rfl ?_
      refine jn_icmp_ge (pc := 34) (tgt := 153) kX_draftKernel_d34 (by decide) (by omega) (by omega) (fun _ => ?_) (fun c => by exfalso; omega)
      have htf : t = f := by
        rcases Nat.lt_or_ge t f with l | l
        · have := q2 t (Nat.le_refl _) l
          have := a3 t l
          omega
        · omega
      have hH : HAS V9 2865 f c (mcut (kerR E rk p q f c) f c) := by
        rw [← ebd]
        refine ⟨by rw [o9 _ (by omega) (by omega), vb0]; exact hLne, fun a y ha hy => ?_⟩
        rw [o9 (bd + 256) (by omega) (by omega), vb0, mcut_cell hy, if_pos ha, (v9 a y ha hy).1 (by omega), Rat.mul_comm]
      exact jj_vret (pc := 153) kX_draftKernel_d153 rfl (k M9 V9 R1 C1 hS9 hO9 e8 f8 rk1 hH (fun p h1 h2 => by rw [o9 p h1 (by omega)]; exact vb1 p (by omega)) (hF5.trans (f9.efx (X := XAD oa))))
    | succ mu ih =>
      intro x hk o5 o6 M9 V9 t w tf q1 q2 hw hS9 f9 o9 v9
      have hO9 := hO5.ef hJ f9
      have hL9 := hL5.ef hJL f9
      have hx9 := hO9.1
      have hl9 := hL9.1
      have hMd9 := hO9.dr ebd
      rw [e8, f8] at hMd9
      have hmd9 := hMd9.1
      obtain ⟨hpa9, lpa9⟩ := hL9.2.2.1
      obtain ⟨hia9, lia9⟩ := hL9.2.2.2.1
      refine jj_iload (pc := 31) kX_draftKernel_d31 rfl ?_
      refine jj_iload_n (pc := 33) kX_draftKernel_d33 rfl ?_
      refine jn_icmp_ge (pc := 34) (tgt := 153) kX_draftKernel_d34 (by decide) (by omega) (by omega) (fun c => by exfalso; omega) (fun _ => ?_)
      by_cases hnp : ∀ k, k < rk → p k ≠ x
      · skip
        have hB0 : B.getD x 0 = nI 0 := hPV.2.2 x (by omega) hnp
        obtain ⟨t2, ht2, et2⟩ : ∃ k, k < f ∧ q k = x := by
          rcases a5 x (by omega) with ⟨k, h1, h2⟩ | h
          · exact absurd h2 (hnp k h1)
          · exact h
        have ett : t2 = t := by
          rcases Nat.lt_trichotomy t2 t with l | l | l
          · have := q1 t2 l; omega
          · exact l
          · have := q2 t (Nat.le_refl _) (by omega)
            have := a4 t t2 l ht2
            omega
        subst ett
        obtain ⟨ra, era⟩ : ∃ r, r = f - 1 - t2 := ⟨_, rfl⟩
        refine jj_aload_n (pc := 37) kX_draftKernel_d37 rfl ?_
        refine jj_getf (pc := 38) kX_draftKernel_d38 (kfX_elimination hG) hx9 rfl ?_
        refine jj_getf (pc := 41) kX_draftKernel_d41 (kfX_E_isPivot hG) hl9 rfl ?_
        refine jj_iload (pc := 44) kX_draftKernel_d44 rfl ?_
        refine jn_zald (pc := 46) (v := (nI (0))) kX_draftKernel_d46 (kG_t hG rfl) hia9 (by omega) (by omega) (hB0) ?_
        refine jn_if_ne (pc := 47) (tgt := 147) kX_draftKernel_d47 (by decide) (by omega) (fun c => by exfalso; omega) (fun _ => ?_)
        refine jj_iload_n (pc := 50) kX_draftKernel_d50 rfl ?_
        refine jn_if_le (pc := 51) (tgt := 147) kX_draftKernel_d51 (by decide) (by omega) (fun c => by exfalso; omega) (fun _ => ?_)
        refine jn_iinc (pc := 54) (ra) kX_draftKernel_d54 rfl (nI_m1 (by omega)) ?_
        show jj G kX_draftKernel (d + 8) Q rc rs 57 [some (.ref (oa 0)), some (.int (nI (f))), some (.int (nI (c))), some (.int (nI (ra))), some (.int (nI (x))), (o5), (o6)] [] M9
        refine jj_aload_n (pc := 57) kX_draftKernel_d57 rfl ?_
        refine jj_getf (pc := 58) kX_draftKernel_d58 (kfX_draft hG) hx9 rfl ?_
        refine jj_iload_n (pc := 61) kX_draftKernel_d61 rfl ?_
        refine jj_iload_n (pc := 62) kX_draftKernel_d62 rfl ?_
        refine jn_iconst (pc := 63) 1 kX_draftKernel_d63 (by decide) ?_
        refine jn_isub (pc := 64) (c - 1) kX_draftKernel_d64 (by omega) ?_
        refine jj_iload (pc := 65) kX_draftKernel_d65 rfl ?_
        refine jn_isub (pc := 67) (c - 1 - x) kX_draftKernel_d67 (by omega) ?_
        refine jj_callV (pc := 68) (b := (oa 21)) (As := [.int (nI (ra)), .int (nI (c - 1 - x))]) kX_draftKernel_d68 (kvX_M_at hG) (kG_cl hG rfl) rfl hmd9 rfl rfl rfl (Nat.le_of_ble_eq_true rfl) (Nat.le_of_ble_eq_true rfl) (jj_bare0 rfl) ?_
        refine m_at hG hMd9 (by omega) (by omega) ?_
        show jj G kX_draftKernel (d + 8) Q rc rs 71 [some (.ref (oa 0)), some (.int (nI (f))), some (.int (nI (c))), some (.int (nI (ra))), some (.int (nI (x))), (o5), (o6)] [.ref (wa (bd + (16 * ra + (c - 1 - x))))] M9
        obtain ⟨T9, t9, hT9, _, _⟩ := hS9.1 (bd + (16 * ra + (c - 1 - x))) (by omega)
        have l339 : V9 33 = L := by rw [o9 33 (by omega) (by omega), vb1 33 (by omega)]; exact h33
        refine jj_aload_n (pc := 71) kX_draftKernel_d71 rfl ?_
        refine jj_getf (pc := 72) kX_draftKernel_d72 (kfX_elimination hG) hx9 rfl ?_
        refine jj_getf (pc := 75) kX_draftKernel_d75 (kfX_E_last hG) hl9 rfl ?_
        refine jj_callV (pc := 78) (b := (wa (bd + (16 * ra + (c - 1 - x))))) (As := [.ref (wa 33)]) kX_draftKernel_d78 (kvX_W_copy hG) (kG_cl hG rfl) rfl hT9 rfl rfl rfl (Nat.le_of_ble_eq_true rfl) (Nat.le_of_ble_eq_true rfl) (jj_bare0 rfl) ?_
        refine w_copy hG hI hS9.1 (t := (bd + (16 * ra + (c - 1 - x)))) (u := 33) (by omega) (by omega) (by rw [hJ.cap252 (by omega) (by omega), l339]; exact lc_room (by omega)) (fun M6 hc6 hw6 => ?_)
        have hS6 := hS9.wt hK (by omega) hw6 hc6
        have hw6e : EF M9 M6 wa la 3122 eu dv hi lo := hw6.ef (by omega)
        have hO6 := hO9.ef hJ hw6e
        have hL6 := hL9.ef hJL hw6e
        have hx6 := hO6.1
        have hl6 := hL6.1
        have hMd6 := hO6.dr ebd
        rw [e8, f8] at hMd6
        have hmd6 := hMd6.1
        obtain ⟨hpa6, lpa6⟩ := hL6.2.2.1
        obtain ⟨hia6, lia6⟩ := hL6.2.2.2.1
        show jj G kX_draftKernel (d + 8) Q rc rs 81 [some (.ref (oa 0)), some (.int (nI (f))), some (.int (nI (c))), some (.int (nI (ra))), some (.int (nI (x))), (o5), (o6)] [] M6
        refine jn_iconst (pc := 81) 0 kX_draftKernel_d81 (by decide) ?_
        refine jj_istore (pc := 82) kX_draftKernel_d82 (Nat.le_of_ble_eq_true rfl) ?_
        show jj G kX_draftKernel (d + 8) Q rc rs 84 [some (.ref (oa 0)), some (.int (nI (f))), some (.int (nI (c))), some (.int (nI (ra))), some (.int (nI (x))), some (.int (nI (0))), (o6)] [] M6
        show jj G kX_draftKernel (d + 8) Q rc rs 84 [some (.ref (oa 0)), some (.int (nI (f))), some (.int (nI (c))), some (.int (nI (ra))), some (.int (nI (x))), some (.int (nI (0))), (o6)] [] M6
        have inner : ∀ mu2 j, rk = j + mu2 → ∀ (o6 : Option Value) (M7 : mheap) (V7 : Nat → Int), KS M7 wa la cap 3122 eu dv hi lo (oa 3) V7 → EF M9 M7 wa la 3122 eu dv hi lo → (∀ p, 13 ≤ p → p < bd ∨ p = bd + 256 → V7 p = V9 p) → (∀ a y, a < f → y < c → a ≠ ra → V7 (bd + (16 * a + y)) = V9 (bd + (16 * a + y))) → V7 (bd + (16 * ra + (c - 1 - x))) = L → (∀ i, i < j → i < rk → ((V7 (bd + (16 * ra + (c - 1 - p i))) : Int) : Rat) = -(((L : Int) : Rat) * E i x)) → (∀ y, y < c → y ≠ (c - 1 - x) → (∀ i, i < j → i < rk → y ≠ c - 1 - p i) → V7 (bd + (16 * ra + y)) = 0) → jj G kX_draftKernel (d + 8) Q rc rs 84 [some (.ref (oa 0)), some (.int (nI (f))), some (.int (nI (c))), some (.int (nI (ra))), some (.int (nI (x))), some (.int (nI (j))), (o6)] [] M7 := by
          intro mu2
          induction mu2 with
          | zero =>
            intro j hk2 o6 M7 V7 hS7 f7 o7 w7 d7 p7 z7
            have e9 : rk = j := by omega
            subst e9
            have hO7 := hO9.ef hJ f7
            have hL7 := hL9.ef hJL f7
            have hx7 := hO7.1
            have hl7 := hL7.1
            have hMd7 := hO7.dr ebd
            rw [e8, f8] at hMd7
            have hmd7 := hMd7.1
            obtain ⟨hpa7, lpa7⟩ := hL7.2.2.1
            obtain ⟨hia7, lia7⟩ := hL7.2.2.2.1
            refine jj_iload (pc := 84) kX_draftKernel_d84 rfl ?_
            refine jj_aload_n (pc := 86) kX_draftKernel_d86 rfl ?_
            refine jj_getf (pc := 87) kX_draftKernel_d87 (kfX_elimination hG) hx7 rfl ?_
            refine jj_getf (pc := 90) kX_draftKernel_d90 (kfX_E_rank hG) hl7 rfl ?_
            refine jn_icmp_ge (pc := 93) (tgt := 147) kX_draftKernel_d93 (by decide) (by omega) (by omega) (fun _ => ?_) (fun c => by exfalso; omega)
            refine jn_iinc (pc := 147) (x + 1) kX_draftKernel_d147 rfl (nI_1 _) ?_
            refine jj_goto (pc := 150) (tgt := 31) kX_draftKernel_d150 (by decide) ?_
            show jj G kX_draftKernel (d + 8) Q rc rs 31 [some (.ref (oa 0)), some (.int (nI (f))), some (.int (nI (c))), some (.int (nI (ra))), some (.int (nI (x + 1))), some (.int (nI (rk))), (o6)] [] M7
            refine ih (x + 1) (by omega) _ _ M7 V7 (t2 + 1) ra (by omega) (fun t' h => ?_) (fun t' h1 h2 => ?_) (by omega) hS7 (f9.trans f7) (fun p h1 h2 => by rw [o7 p h1 h2]; exact o9 p h1 h2) (fun a y ha hy => ⟨fun h => ?_, fun h => ?_⟩)
            · by_cases e : t' = t2
              · rw [e]; omega
              · have := q1 t' (by omega); omega
            · have := a4 t2 t' (by omega) h2
              omega
            · by_cases e : a = ra
              · rw [e]
                unfold kerR
                rw [show f - 1 - ra = t2 by omega]
                rcases a5 (c - 1 - y) (by omega) with ⟨k, hk9, ek⟩ | ⟨k, hk9, ek⟩
                · have ey : y = c - 1 - p k := by have := a1 k hk9; omega
                  rw [← ek, hKm.2 t2 ht2 k hk9, et2, ey, p7 k (by omega) hk9, Rat.mul_neg]
                · rw [← ek, hKm.1 t2 ht2 k hk9]
                  by_cases ec : k = t2
                  · have ey : y = c - 1 - x := by rw [ec] at ek; omega
                    rw [if_pos ec, ey, d7, Rat.mul_one]
                  · rw [if_neg ec, z7 y hy (fun e' => by
                      have : q k = q t2 := by omega
                      rcases Nat.lt_or_gt_of_ne ec with l | l
                      · have := a4 k t2 l ht2; omega
                      · have := a4 t2 k l hk9; omega) (fun i h1 h2 e' => a6 i k h2 hk9 (by have := a1 i h2; omega))]
                    show (0 : Rat) = _ * 0
                    grind
              · rw [w7 a y ha hy e]; exact (v9 a y ha hy).1 (by omega)
            · rw [w7 a y ha hy (by omega)]; exact (v9 a y ha hy).2 (by omega)
          | succ mu2 ih2 =>
            intro j hk2 o6 M7 V7 hS7 f7 o7 w7 d7 p7 z7
            have hO7 := hO9.ef hJ f7
            have hL7 := hL9.ef hJL f7
            have pj := a1 j (by omega)
            obtain ⟨tq, ltq⟩ := eT j x (by omega) (by omega) hnp
            have gb := hL7.2.2.2.2.2.1 (32 * j + x) (by omega)
            have gv : V7 (g (32 * j + x)) = V (g (32 * j + x)) := by rw [o7 _ (by omega) (by omega), o9 _ (by omega) (by omega)]; exact vb1 _ (by omega)
            have hx7 := hO7.1
            have hl7 := hL7.1
            have hMd7 := hO7.dr ebd
            rw [e8, f8] at hMd7
            have hmd7 := hMd7.1
            obtain ⟨hpa7, lpa7⟩ := hL7.2.2.1
            obtain ⟨hia7, lia7⟩ := hL7.2.2.2.1
            refine jj_iload (pc := 84) kX_draftKernel_d84 rfl ?_
            refine jj_aload_n (pc := 86) kX_draftKernel_d86 rfl ?_
            refine jj_getf (pc := 87) kX_draftKernel_d87 (kfX_elimination hG) hx7 rfl ?_
            refine jj_getf (pc := 90) kX_draftKernel_d90 (kfX_E_rank hG) hl7 rfl ?_
            refine jn_icmp_ge (pc := 93) (tgt := 147) kX_draftKernel_d93 (by decide) (by omega) (by omega) (fun c => by exfalso; omega) (fun _ => ?_)
            refine jj_aload_n (pc := 96) kX_draftKernel_d96 rfl ?_
            refine jj_getf (pc := 97) kX_draftKernel_d97 (kfX_draft hG) hx7 rfl ?_
            refine jj_iload_n (pc := 100) kX_draftKernel_d100 rfl ?_
            refine jj_iload_n (pc := 101) kX_draftKernel_d101 rfl ?_
            refine jn_iconst (pc := 102) 1 kX_draftKernel_d102 (by decide) ?_
            refine jn_isub (pc := 103) (c - 1) kX_draftKernel_d103 (by omega) ?_
            refine jj_aload_n (pc := 104) kX_draftKernel_d104 rfl ?_
            refine jj_getf (pc := 105) kX_draftKernel_d105 (kfX_elimination hG) hx7 rfl ?_
            refine jj_getf (pc := 108) kX_draftKernel_d108 (kfX_E_pivotColumns hG) hl7 rfl ?_
            refine jj_iload (pc := 111) kX_draftKernel_d111 rfl ?_
            refine jn_iald (pc := 113) (v := (nI (p j))) kX_draftKernel_d113 (kG_t hG rfl) hpa7 (by omega) (by omega) (hPV.1 j (by omega)) ?_
            refine jn_isub (pc := 114) (c - 1 - p j) kX_draftKernel_d114 (by omega) ?_
            refine jj_callV (pc := 115) (b := (oa 21)) (As := [.int (nI (ra)), .int (nI (c - 1 - p j))]) kX_draftKernel_d115 (kvX_M_at hG) (kG_cl hG rfl) rfl hmd7 rfl rfl rfl (Nat.le_of_ble_eq_true rfl) (Nat.le_of_ble_eq_true rfl) (jj_bare0 rfl) ?_
            refine m_at hG hMd7 (by omega) (by omega) ?_
            show jj G kX_draftKernel (d + 8) Q rc rs 118 [some (.ref (oa 0)), some (.int (nI (f))), some (.int (nI (c))), some (.int (nI (ra))), some (.int (nI (x))), some (.int (nI (j))), (o6)] [.ref (wa (bd + (16 * ra + (c - 1 - p j))))] M7
            refine jj_astore (pc := 118) kX_draftKernel_d118 (Nat.le_of_ble_eq_true rfl) ?_
            show jj G kX_draftKernel (d + 8) Q rc rs 120 [some (.ref (oa 0)), some (.int (nI (f))), some (.int (nI (c))), some (.int (nI (ra))), some (.int (nI (x))), some (.int (nI (j))), some (.ref (wa (bd + (16 * ra + (c - 1 - p j)))))] [] M7
            refine jj_aload (pc := 120) kX_draftKernel_d120 rfl ?_
            refine jj_aload_n (pc := 122) kX_draftKernel_d122 rfl ?_
            refine jj_getf (pc := 123) kX_draftKernel_d123 (kfX_elimination hG) hx7 rfl ?_
            refine jj_iload (pc := 126) kX_draftKernel_d126 rfl ?_
            refine jj_iload (pc := 128) kX_draftKernel_d128 rfl ?_
            refine jj_callV (pc := 130) (b := (oa 4)) (As := [.int (nI (j)), .int (nI (x))]) kX_draftKernel_d130 (kvX_E_at hG) (kG_cl hG rfl) rfl hl7 rfl rfl rfl (Nat.le_of_ble_eq_true rfl) (Nat.le_of_ble_eq_true rfl) (jj_bare0 rfl) ?_
            refine e_at hG hL7 (by omega) (by omega) ?_
            show jj G kX_draftKernel (d + 8) Q rc rs 133 [some (.ref (oa 0)), some (.int (nI (f))), some (.int (nI (c))), some (.int (nI (ra))), some (.int (nI (x))), some (.int (nI (j))), some (.ref (wa (bd + (16 * ra + (c - 1 - p j)))))] [.ref (wa (g (32 * j + x))), .ref (wa (bd + (16 * ra + (c - 1 - p j))))] M7
            obtain ⟨T7, t7, hT7, _, _⟩ := hS7.1 (bd + (16 * ra + (c - 1 - p j))) (by omega)
            refine jj_callV (pc := 133) (b := (wa (bd + (16 * ra + (c - 1 - p j))))) (As := [.ref (wa (g (32 * j + x)))]) kX_draftKernel_d133 (kvX_W_copy hG) (kG_cl hG rfl) rfl hT7 rfl rfl rfl (Nat.le_of_ble_eq_true rfl) (Nat.le_of_ble_eq_true rfl) (jj_bare0 rfl) ?_
            refine w_copy hG hI hS7.1 (t := (bd + (16 * ra + (c - 1 - p j)))) (u := (g (32 * j + x))) (by omega) (by omega) (by rw [hJ.cap252 (by omega) (by omega), gv]; exact lc_room (by omega)) (fun M8 hc8 hw8 => ?_)
            have hS8 := hS7.wt hK (by omega) hw8 hc8
            have hw8e : EF M7 M8 wa la 3122 eu dv hi lo := hw8.ef (by omega)
            obtain ⟨T8, t8, hT8, _, _⟩ := hc8 (bd + (16 * ra + (c - 1 - p j))) (by omega)
            show jj G kX_draftKernel (d + 8) Q rc rs 136 [some (.ref (oa 0)), some (.int (nI (f))), some (.int (nI (c))), some (.int (nI (ra))), some (.int (nI (x))), some (.int (nI (j))), some (.ref (wa (bd + (16 * ra + (c - 1 - p j)))))] [] M8
            refine jj_aload (pc := 136) kX_draftKernel_d136 rfl ?_
            refine jj_callV (pc := 138) (b := (wa (bd + (16 * ra + (c - 1 - p j))))) (As := []) kX_draftKernel_d138 (kvX_W_negate hG) (kG_cl hG rfl) rfl hT8 rfl rfl rfl (Nat.le_of_ble_eq_true rfl) (Nat.le_of_ble_eq_true rfl) (jj_bare0 rfl) ?_
            refine w_negate hG hI hc8 (t := (bd + (16 * ra + (c - 1 - p j)))) (by omega) (fun M10 hc10 hw10 => ?_)
            show jj G kX_draftKernel (d + 8) Q rc rs 141 [some (.ref (oa 0)), some (.int (nI (f))), some (.int (nI (c))), some (.int (nI (ra))), some (.int (nI (x))), some (.int (nI (j))), some (.ref (wa (bd + (16 * ra + (c - 1 - p j)))))] [] M10
            refine jn_iinc (pc := 141) (j + 1) kX_draftKernel_d141 rfl (nI_1 _) ?_
            refine jj_goto (pc := 144) (tgt := 84) kX_draftKernel_d144 (by decide) ?_
            show jj G kX_draftKernel (d + 8) Q rc rs 84 [some (.ref (oa 0)), some (.int (nI (f))), some (.int (nI (c))), some (.int (nI (ra))), some (.int (nI (x))), some (.int (nI (j + 1))), some (.ref (wa (bd + (16 * ra + (c - 1 - p j)))))] [] M10
            have hw10e : EF M8 M10 wa la 3122 eu dv hi lo := hw10.ef (by omega)
            obtain ⟨W8, eW8⟩ : ∃ W, vup (vup V7 (bd + (16 * ra + (c - 1 - p j))) (V7 (g (32 * j + x)))) (bd + (16 * ra + (c - 1 - p j))) (-vup V7 (bd + (16 * ra + (c - 1 - p j))) (V7 (g (32 * j + x))) (bd + (16 * ra + (c - 1 - p j)))) = W := ⟨_, rfl⟩
            have hS10 := hS8.wt hK (by omega) hw10 hc10
            rw [eW8] at hS10
            have at10 : W8 (bd + (16 * ra + (c - 1 - p j))) = -V (g (32 * j + x)) := by rw [← eW8, vup_at, vup_at, gv]
            have ot10 : ∀ z, z ≠ (bd + (16 * ra + (c - 1 - p j))) → W8 z = V7 z := fun z h => by rw [← eW8, vup_ne _ _ h, vup_ne _ _ h]
            have pne : ∀ i, i < rk → i ≠ j → p i ≠ p j := fun i h1 h2 e => by
              rcases Nat.lt_or_gt_of_ne h2 with l | l
              · have := a2 i j l (by omega); omega
              · have := a2 j i l h1; omega
            have pnx := hnp j (by omega)
            refine ih2 (j + 1) (by omega) _ M10 W8 hS10 ((f7.trans hw8e).trans hw10e) (fun p h1 h2 => by rw [ot10 p (by omega)]; exact o7 p h1 h2) (fun a y ha hy e => by rw [ot10 _ (by omega)]; exact w7 a y ha hy e) (by rw [ot10 _ (by omega)]; exact d7) (fun i h1 h2 => ?_) (fun y hy h1 h2 => ?_)
            · by_cases e : i = j
              · rw [e, at10, Rat.intCast_neg, tq]
              · have pi := a1 i h2
                have := pne i h2 e
                rw [ot10 _ (by omega)]
                exact p7 i (by omega) h2
            · have := h2 j (by omega) (by omega)
              rw [ot10 _ (by omega)]
              exact z7 y hy h1 (fun i h3 h4 => h2 i (by omega) h4)
        refine inner rk 0 (by omega) _ M6 _ hS6 hw6e (fun p h1 h2 => vup_ne _ _ (by omega)) (fun a y ha hy e => vup_ne _ _ (by omega)) (by rw [vup_at]; exact l339) (fun i h _ => by omega) (fun y hy h1 _ => ?_)
        rw [vup_ne _ _ (by omega)]
        exact (v9 ra y (by omega) hy).2 (by omega)
      · skip
        obtain ⟨kq, hkq, ekq⟩ : ∃ k, k < rk ∧ p k = x := Classical.byContradiction (fun h => hnp (fun k hk e => h ⟨k, hk, e⟩))
        have hB1 : B.getD x 0 = nI 1 := by rw [← ekq]; exact hPV.2.1 kq hkq
        refine jj_aload_n (pc := 37) kX_draftKernel_d37 rfl ?_
        refine jj_getf (pc := 38) kX_draftKernel_d38 (kfX_elimination hG) hx9 rfl ?_
        refine jj_getf (pc := 41) kX_draftKernel_d41 (kfX_E_isPivot hG) hl9 rfl ?_
        refine jj_iload (pc := 44) kX_draftKernel_d44 rfl ?_
        refine jn_zald (pc := 46) (v := (nI (1))) kX_draftKernel_d46 (kG_t hG rfl) hia9 (by omega) (by omega) (hB1) ?_
        refine jn_if_ne (pc := 47) (tgt := 147) kX_draftKernel_d47 (by decide) (by omega) (fun _ => ?_) (fun c => by exfalso; omega)
        refine jn_iinc (pc := 147) (x + 1) kX_draftKernel_d147 rfl (nI_1 _) ?_
        refine jj_goto (pc := 150) (tgt := 31) kX_draftKernel_d150 (by decide) ?_
        show jj G kX_draftKernel (d + 8) Q rc rs 31 [some (.ref (oa 0)), some (.int (nI (f))), some (.int (nI (c))), some (.int (nI (w))), some (.int (nI (x + 1))), (o5), (o6)] [] M9
        refine ih (x + 1) (by omega) _ _ M9 V9 t w tf (fun t' h => by have := q1 t' h; omega) (fun t' h1 h2 => ?_) hw hS9 f9 o9 v9
        have := q2 t' h1 h2
        have : q t' ≠ x := fun e => a6 kq t' hkq h2 (by omega)
        omega
  exact outer c 0 (by omega) _ _ M5 Vb 0 f (Nat.zero_le _) (fun t' h => by omega) (fun t' _ _ => Nat.zero_le _) (by omega) hS5 (fun _ _ _ _ _ _ => rfl) (fun _ _ _ => rfl) (fun a y ha hy => ⟨fun h => by omega, fun _ => vb2 a y ha hy⟩)
end X15
section X15b
variable {G : jg} {d : Nat} {Q : jq} {rc rs : Nat} {M : mheap} {wa la cap oa : Nat → Nat} {eu dv hi lo : Nat} {σ : rst}
theorem xp_kernel {x y : Int32} (hG : kG G) (hJ : XJ wa la cap oa eu dv hi lo) (hT : XT M wa la cap oa eu dv hi lo σ) (hrc : 1 ≤ rc) (hrs : 6 ≤ rs) (kr : ∀ (M' : mheap) (v : Nat) (σ' : rst), semKer σ x y 0 v σ' → XT M' wa la cap oa eu dv hi lo σ' → XF oa M M' wa la eu dv hi lo → Q (.returned (some (.int (nI v)))) M' rc rs) (kt : ∀ (M' : mheap) (cd ci : Nat), semKer σ x y cd 0 σ → (cd = 1 ∧ ci = 4 ∨ cd = 2 ∧ ci = 6) → XT M' wa la cap oa eu dv hi lo σ → XF oa M M' wa la eu dv hi lo → ∀ x, M' x = none → Q (.threw x) (jj_up M' x (.inl ci, [])) (rc - 1) (rs - 6)) : jj G kX_kernel (d + 10) Q rc rs 0 (jj_ent [.ref (oa 0), .int x, .int y] 5) [] M := by
  obtain ⟨V, sc, R, C, hS, hO, hV⟩ := id hT
  have hK := hJ.1
  have hI := hK.1
  have hx := hO.1
  show jj G kX_kernel (d + 10) Q rc rs 0 [some (.ref (oa 0)), some (.int (x)), some (.int (y)), none, none] [] M
  refine jj_aload_n (pc := 0) kX_kernel_d0 rfl ?_
  refine jj_iload_n (pc := 1) kX_kernel_d1 rfl ?_
  refine jj_callV (pc := 2) (b := (oa 0)) (As := [.int (x)]) kX_kernel_d2 (kvX_X_register hG) (kG_cl hG rfl) rfl hx rfl rfl rfl (Nat.le_of_ble_eq_true rfl) (Nat.le_of_ble_eq_true rfl) (jj_bare0 rfl) ?_
  refine x_register hG hO hrc hrs (fun n hn en => ?_) (fun h y hy => kt M 1 4 (Or.inl ⟨fun g => h g.1, rfl, rfl, rfl⟩) (by omega) hT (fun _ _ _ => rfl) y hy)
  subst en
  show jj G kX_kernel (d + 10) Q rc rs 5 [some (.ref (oa 0)), some (.int (nI (n))), some (.int (y)), none, none] [.ref (oa (13 + n))] M
  refine jj_pop (pc := 5) kX_kernel_d5 rfl ?_
  refine jj_aload_n (pc := 6) kX_kernel_d6 rfl ?_
  refine jj_iload_n (pc := 7) kX_kernel_d7 rfl ?_
  refine jj_callV (pc := 8) (b := (oa 0)) (As := [.int (y)]) kX_kernel_d8 (kvX_X_register hG) (kG_cl hG rfl) rfl hx rfl rfl rfl (Nat.le_of_ble_eq_true rfl) (Nat.le_of_ble_eq_true rfl) (jj_bare0 rfl) ?_
  refine x_register hG hO hrc hrs (fun m hm em => ?_) (fun h y hy => kt M 1 4 (Or.inl ⟨fun g => h g.2, rfl, rfl, rfl⟩) (by omega) hT (fun _ _ _ => rfl) y hy)
  subst em
  show jj G kX_kernel (d + 10) Q rc rs 11 [some (.ref (oa 0)), some (.int (nI (n))), some (.int (nI (m))), none, none] [.ref (oa (13 + m))] M
  obtain ⟨erm, ecm, s1m, s2m, s3m, s4m, hNm⟩ := hV.1 m hm
  obtain ⟨bm, ebm⟩ : ∃ b, b = 809 + 257 * m := ⟨_, rfl⟩
  have hMm := hO.2.2.2.2.2.2.2 m (by omega)
  rw [← ebm] at hMm hNm
  have hmm := hMm.1
  obtain ⟨rr, err⟩ : ∃ r, R m = r := ⟨_, rfl⟩
  obtain ⟨cc, ecc⟩ : ∃ c, C m = c := ⟨_, rfl⟩
  rw [err] at erm s1m s2m
  rw [ecc] at ecm s3m s4m
  rw [err, ecc] at hMm hmm hNm
  obtain ⟨bd, ebd⟩ : ∃ b, b = 2865 := ⟨_, rfl⟩
  have hJL := hJ.lj
  obtain ⟨rk0, sw0, m0, w0, P0, B0, g0, hL0⟩ := hO.2.2.2.2.2.1
  have hl0 := hL0.1
  show jj G kX_kernel (d + 10) Q rc rs 11 [some (.ref (oa 0)), some (.int (nI (n))), some (.int (nI (m))), none, none] [.ref (oa (13 + m))] M
  refine jj_astore_n (pc := 11) kX_kernel_d11 (Nat.le_of_ble_eq_true rfl) ?_
  show jj G kX_kernel (d + 10) Q rc rs 12 [some (.ref (oa 0)), some (.int (nI (n))), some (.int (nI (m))), some (.ref (oa (13 + m))), none] [] M
  refine jj_aload_n (pc := 12) kX_kernel_d12 rfl ?_
  refine jj_getf (pc := 13) kX_kernel_d13 (kfX_elimination hG) hx rfl ?_
  refine jj_aload_n (pc := 16) kX_kernel_d16 rfl ?_
  refine jn_iconst (pc := 17) 1 kX_kernel_d17 (by decide) ?_
  refine jj_callV (pc := 18) (b := (oa 4)) (As := [.ref (oa (13 + m)), .int (nI (1))]) kX_kernel_d18 (kvX_E_load hG) (kG_cl hG rfl) rfl hl0 rfl rfl rfl (Nat.le_of_ble_eq_true rfl) (Nat.le_of_ble_eq_true rfl) (jj_bare0 rfl) ?_
  refine e_load hG hK hS hJL hL0 hMm (by omega) (by omega) (fun p _ _ => (hJ.capw (p := p) (by omega) (by omega)).1) s2m s4m hNm.1 (by have := hS.1.lc (p := bm + 256) (by omega); rw [hJ.cap125 (by omega) (by omega)] at this; exact this) (by omega) hrc hrs (fun M1 V1 hS1 hL1 vo1 hx1 hR1 => ?_) (fun Mt Vt hSt hLt vot hxt htw y hy => kt Mt 2 6 (Or.inr ⟨n, m, hn, rfl, hm, rfl, Or.inl ⟨by rw [← erm, ← ecm]; exact toow_heavy hNm (by omega) (by omega) htw, rfl, rfl, rfl⟩⟩) (by omega) ⟨Vt, sc, R, C, hSt, (hO.el hLt (fun i h1 h2 _ _ _ => hxt _ (hJ.ne h1 (by omega) h2) (hJ.2.2.1 i h1))), hV.keep (fun p p1 p2 => vot p (by omega) (by omega)) (vot 15 (by omega) (by omega)) (vot 16 (by omega) (by omega)) (fun _ _ => ⟨rfl, rfl⟩)⟩ (hxt.more (fun x e => ⟨4, by omega, e⟩)) y hy)
  have hk1 : ∀ i, i < 31 → i ≠ 4 → i ≠ 6 → i ≠ 7 → i ≠ 8 → M1 (oa i) = M (oa i) := fun i h1 h2 _ _ _ => hx1 _ (hJ.ne h1 (by omega) h2) (hJ.2.2.1 i h1)
  have hO1 := hO.el hL1 hk1
  have hF1 : XF oa M M1 wa la eu dv hi lo := hx1.more (fun x e => ⟨4, by omega, e⟩)
  have hl1 := hL1.1
  have hx1a := hO1.1
  have hMm1 := hO1.2.2.2.2.2.2.2 m (by omega)
  rw [← ebm, err, ecc] at hMm1
  have hmm1 := hMm1.1
  have hgl := glong_eq hNm hR1
  show jj G kX_kernel (d + 10) Q rc rs 21 [some (.ref (oa 0)), some (.int (nI (n))), some (.int (nI (m))), some (.ref (oa (13 + m))), none] [] M1
  refine jj_aload_n (pc := 21) kX_kernel_d21 rfl ?_
  refine jj_getf (pc := 22) kX_kernel_d22 (kfX_elimination hG) hx1a rfl ?_
  refine jj_callV (pc := 25) (b := (oa 4)) (As := []) kX_kernel_d25 (kvX_E_weigh hG) (kG_cl hG rfl) rfl hl1 rfl rfl rfl (Nat.le_of_ble_eq_true rfl) (Nat.le_of_ble_eq_true rfl) (jj_bare0 rfl) ?_
  refine e_weigh hG hK hS1 hJL hL1 s1m s2m s3m (by omega) hrc hrs (fun hnh => ?_) (fun hhv y hy => kt M1 2 6 (Or.inr ⟨n, m, hn, rfl, hm, rfl, Or.inl ⟨by rw [← erm, ← ecm]; exact (by rw [hgl] at hhv; exact hhv), rfl, rfl, rfl⟩⟩) (by omega) ⟨V1, sc, R, C, hS1, hO1, hV.keep (fun p p1 p2 => vo1 p (by omega) (by omega)) (vo1 15 (by omega) (by omega)) (vo1 16 (by omega) (by omega)) (fun _ _ => ⟨rfl, rfl⟩)⟩ hF1 y hy)
  rw [hgl] at hnh
  have hbz := glong_bound (Z := gz V1 g0) (m := rr) (w := cc)
  rw [hgl] at hbz
  have hwt := hvy_pow (show 1 ≤ min rr cc by omega) hnh
  obtain ⟨bz, ebz⟩ : ∃ b, 2 ^ nmax (fun k => rowL (σ.2.2 m) cc k (rowD (σ.2.2 m) cc k 1)) rr = b := ⟨_, rfl⟩
  have hb1 : 1 ≤ bz := by rw [← ebz]; exact Nat.pow_pos (by decide)
  rw [ebz] at hbz hwt
  show jj G kX_kernel (d + 10) Q rc rs 28 [some (.ref (oa 0)), some (.int (nI (n))), some (.int (nI (m))), some (.ref (oa (13 + m))), none] [] M1
  refine jj_aload_n (pc := 28) kX_kernel_d28 rfl ?_
  refine jj_getf (pc := 29) kX_kernel_d29 (kfX_elimination hG) hx1a rfl ?_
  refine jj_aload_n (pc := 32) kX_kernel_d32 rfl ?_
  refine jj_getf (pc := 33) kX_kernel_d33 (kfX_M_columns hG) hmm1 rfl ?_
  refine jj_callV (pc := 36) (b := (oa 4)) (As := [.int (nI (cc))]) kX_kernel_d36 (kvX_E_eliminate hG) (kG_cl hG rfl) rfl hl1 rfl rfl rfl (Nat.le_of_ble_eq_true rfl) (Nat.le_of_ble_eq_true rfl) (jj_bare0 rfl) ?_
  refine e_eliminate hG hK hS1 hJL hL1 hb1 hbz hwt s1m s2m s3m (by omega) (by omega) (fun M2 V2 rk sw P B g p A Bq E hS2 hL2 hx2 vo2 hB2 hPV => ?_)
  have hk2 : ∀ i, i < 31 → i ≠ 4 → i ≠ 6 → i ≠ 7 → i ≠ 8 → M2 (oa i) = M1 (oa i) := fun i h1 h2 h3 h4 h5 => hx2 _ (fun e => by rcases e with e | e | e | e <;> exact absurd e (hJ.ne h1 (by omega) (by assumption))) (hJ.2.2.1 i h1)
  have hO2 := hO1.el hL2 hk2
  have hF2 : XF oa M M2 wa la eu dv hi lo := hF1.trans (hx2.more (fun x e => by rcases e with e | e | e | e; exact ⟨4, by omega, e⟩; exact ⟨6, by omega, e⟩; exact ⟨7, by omega, e⟩; exact ⟨8, by omega, e⟩))
  have v2 : ∀ p, 13 ≤ p → p < 17 ∨ 547 ≤ p → V2 p = V p := fun p h1 h2 => by rw [vo2 p h1 (by omega) (by omega)]; exact vo1 p h1 h2
  have hl2 := hL2.1
  have hx2a := hO2.1
  have hMm2 := hO2.2.2.2.2.2.2.2 m (by omega)
  rw [← ebm, err, ecc] at hMm2
  have hmm2 := hMm2.1
  have hrk := hB2.1.1
  have hrkc := hB2.rkc
  have hpc := hB2.2.1.2.1
  show jj G kX_kernel (d + 10) Q rc rs 39 [some (.ref (oa 0)), some (.int (nI (n))), some (.int (nI (m))), some (.ref (oa (13 + m))), none] [] M2
  have hbz2 := hB2.bz
  have hrf := hB2.rrf (Nat.le_refl _)
  obtain ⟨q, f, hpt, hfr⟩ := parts2_ex (p := p) (n := cc) (r := rk) hrf.1 hrf.2.1
  have hrows : rowsIn (fun i x => qA (σ.2.2 m) cc i (cc - 1 - x)) rr E rk cc ∧ rowsIn E rk (fun i x => qA (σ.2.2 m) cc i (cc - 1 - x)) rr cc := by
    obtain ⟨σ', τ', h6, h6a⟩ := hB2.2.2.2.2.2.1
    obtain ⟨q1, q2⟩ := rows_scaled (A := A) (Q := fun i x => qA (σ.2.2 m) cc i (cc - 1 - x)) (n := cc) (f := fun i => ((rowD (σ.2.2 m) cc i 1 : Int) : Rat)) h6 (fun i hi' j hj' => by
      rw [h6a i hi' j]
      have := (rowd_cell hNm (h6.1 i hi').1 (hR1 _ (h6.1 i hi').1) (j := cc - 1 - j) (by omega)).2
      have e0 : bcol 1 cc (cc - 1 - j) = j := by unfold bcol; rw [if_pos rfl]; omega
      rw [e0] at this
      exact this) (fun i hi' => rat_ne (by have := rowD_pos (q := σ.2.2 m) (n := cc) (i := i) (z := 1) (by decide); omega))
    exact ⟨rowsIn_trans q2 (hB2.rowsA hbz2), rowsIn_trans hB2.rowsE q1⟩
  refine jj_aload_n (pc := 39) kX_kernel_d39 rfl ?_
  refine jj_getf (pc := 40) kX_kernel_d40 (kfX_M_columns hG) hmm2 rfl ?_
  refine jj_aload_n (pc := 43) kX_kernel_d43 rfl ?_
  refine jj_getf (pc := 44) kX_kernel_d44 (kfX_elimination hG) hx2a rfl ?_
  refine jj_getf (pc := 47) kX_kernel_d47 (kfX_E_rank hG) hl2 rfl ?_
  refine jn_isub (pc := 50) (f) kX_kernel_d50 (by omega) ?_
  refine jj_istore (pc := 51) kX_kernel_d51 (Nat.le_of_ble_eq_true rfl) ?_
  show jj G kX_kernel (d + 10) Q rc rs 53 [some (.ref (oa 0)), some (.int (nI (n))), some (.int (nI (m))), some (.ref (oa (13 + m))), some (.int (nI (f)))] [] M2
  refine jj_iload (pc := 53) kX_kernel_d53 rfl ?_
  refine jn_iconst (pc := 55) 1 kX_kernel_d55 (by decide) ?_
  refine jn_icmp_ge (pc := 56) (tgt := 61) kX_kernel_d56 (by decide) (by omega) (by omega) (fun cf => ?_) (fun cf => ?_)
  · skip
    refine jj_aload_n (pc := 61) kX_kernel_d61 rfl ?_
    refine jj_getf (pc := 62) kX_kernel_d62 (kfX_elimination hG) hx2a rfl ?_
    refine jn_iconst (pc := 65) 0 kX_kernel_d65 (by decide) ?_
    refine jj_callV (pc := 66) (b := (oa 4)) (As := [.int (nI (0))]) kX_kernel_d66 (kvX_E_substitute hG) (kG_cl hG rfl) rfl hl2 rfl rfl rfl (Nat.le_of_ble_eq_true rfl) (Nat.le_of_ble_eq_true rfl) (jj_bare0 rfl) ?_
    refine e_subst (f := 0) hG hK hS2 hJL hL2 hB2 (Nat.le_refl _) hbz2 hb1 hbz hwt s2m (by omega) hPV (Nat.zero_le _) (fun M3 V3 hS3 hf3 vo3 eT => ?_)
    have hO3 := hO2.ef hJ hf3
    have hL3 := hL2.ef hJL hf3
    have hF3 := hF2.trans (hf3.efx (X := XAD oa))
    have v3 : ∀ p, 13 ≤ p → p < 17 ∨ 547 ≤ p → V3 p = V p := fun p h1 h2 => by rw [vo3 p h1 (by omega)]; exact v2 p h1 h2
    have v33 : V3 33 = V2 33 := vo3 33 (by omega) (by omega)
    have hx3 := hO3.1
    have hMm3 := hO3.2.2.2.2.2.2.2 m (by omega)
    rw [← ebm, err, ecc] at hMm3
    have hmm3 := hMm3.1
    have lL : lc (V2 33) ≤ 63 := (hB2.lcL (Nat.le_refl _) hb1 hbz hwt).1
    have hke := kerR_kerE (A := qA (σ.2.2 m) cc) (fun i _ x _ => rfl) hrf hrows.1 hrows.2 hpt
    show jj G kX_kernel (d + 10) Q rc rs 69 [some (.ref (oa 0)), some (.int (nI (n))), some (.int (nI (m))), some (.ref (oa (13 + m))), some (.int (nI (f)))] [] M3
    refine jj_aload_n (pc := 69) kX_kernel_d69 rfl ?_
    refine jj_iload (pc := 70) kX_kernel_d70 rfl ?_
    refine jj_aload_n (pc := 72) kX_kernel_d72 rfl ?_
    refine jj_getf (pc := 73) kX_kernel_d73 (kfX_M_columns hG) hmm3 rfl ?_
    refine jj_callV (pc := 76) (b := (oa 0)) (As := [.int (nI (f)), .int (nI (cc))]) kX_kernel_d76 (kvX_X_draftKernel hG) (kG_cl hG rfl) rfl hx3 rfl rfl rfl (Nat.le_of_ble_eq_true rfl) (Nat.le_of_ble_eq_true rfl) (jj_bare0 rfl) ?_
    refine x_draftKernel hG hJ hS3 hO3 hL3 v33 hB2.ne lL s2m s4m cf (by omega) hpt hfr hPV (fun i x h1 h2 h3 => eT i x h1 (Nat.zero_le _) h2 h3) (fun M9 V9 R1 C1 hS9 hO9 e8 f8 rk1 hH ov hF9a => ?_)
    have hx9 := hO9.1
    have hF9 := hF3.trans hF9a
    have ov9 : ∀ p, 13 ≤ p → (p < 17 ∨ 547 ≤ p) → p < 2865 → V9 p = V p := fun p h1 h2 h3 => by rw [ov p h1 h3]; exact v3 p h1 h2
    show jj G kX_kernel (d + 10) Q rc rs 79 [some (.ref (oa 0)), some (.int (nI (n))), some (.int (nI (m))), some (.ref (oa (13 + m))), some (.int (nI (f)))] [] M9
    refine jj_aload_n (pc := 79) kX_kernel_d79 rfl ?_
    refine jj_callV (pc := 80) (b := (oa 0)) (As := []) kX_kernel_d80 (kvX_X_reduceDraft hG) (kG_cl hG rfl) rfl hx9 rfl rfl rfl (Nat.le_of_ble_eq_true rfl) (Nat.le_of_ble_eq_true rfl) (jj_bare0 rfl) ?_
    refine x_reduceDraft hG hJ hS9 hO9 (by omega) (by omega) (by omega) (by omega) (by rw [e8, f8]; exact hH) (fun Ma Va hSa hOa hNa va wa9 => ?_)
    have hxa := hOa.1
    have hFa := hF9.trans (wa9.efx (X := XAD oa))
    have ova : ∀ p, 13 ≤ p → (p < 17 ∨ 547 ≤ p) → p < 2865 → Va p = V p := fun p h1 h2 h3 => by rw [va p h1 h3]; exact ov9 p h1 h2 h3
    show jj G kX_kernel (d + 10) Q rc rs 83 [some (.ref (oa 0)), some (.int (nI (n))), some (.int (nI (m))), some (.ref (oa (13 + m))), some (.int (nI (f)))] [] Ma
    refine jj_aload_n (pc := 83) kX_kernel_d83 rfl ?_
    refine jj_iload_n (pc := 84) kX_kernel_d84 rfl ?_
    refine jj_callV (pc := 85) (b := (oa 0)) (As := [.int (nI (n))]) kX_kernel_d85 (kvX_X_keepDraft hG) (kG_cl hG rfl) rfl hxa rfl rfl rfl (Nat.le_of_ble_eq_true rfl) (Nat.le_of_ble_eq_true rfl) (jj_bare0 rfl) ?_
    refine x_keepDraft hG hJ hSa hOa (q := (mcut (kerR E rk p q f cc) f cc)) (by omega) (by omega) (by omega) (by omega) hn hNa hrc hrs (fun Mb Vc hfit hSb hOb hNb vb hFb => ?_) (fun hnf y hy => kt Ma 2 6 (Or.inr ⟨n, m, hn, rfl, hm, rfl, Or.inr ⟨by rw [← erm, ← ecm]; exact hnh, Or.inr ⟨kerR E rk p q f cc, f, _, by omega, by rw [← ecm]; omega, by rw [← erm, ← ecm]; exact hke, by rw [← ecm]; exact Or.inr ⟨by rw [e8, f8] at hnf; exact hnf, rfl, rfl, rfl⟩⟩⟩⟩) (by omega) ⟨Va, sc, R1, C1, hSa, hOa, hV.keep (fun p p1 p2 => ova p (by omega) (by omega) p2) (ova 15 (by omega) (by omega) (by omega)) (ova 16 (by omega) (by omega) (by omega)) rk1⟩ hFa y hy)
    rw [e8, f8] at hfit hNb
    show jj G kX_kernel (d + 10) Q rc rs 88 [some (.ref (oa 0)), some (.int (nI (n))), some (.int (nI (m))), some (.ref (oa (13 + m))), some (.int (nI (f)))] [] Mb
    refine jj_iload (pc := 88) kX_kernel_d88 rfl ?_
    exact jj_iret (pc := 90) kX_kernel_d90 rfl (by rfl) (kr Mb f _ (Or.inr ⟨n, m, hn, rfl, hm, rfl, Or.inr ⟨by rw [← erm, ← ecm]; exact hnh, Or.inr ⟨kerR E rk p q f cc, f, _, by omega, by rw [← ecm]; omega, by rw [← erm, ← ecm]; exact hke, by rw [← ecm]; exact Or.inl ⟨hfit, rfl, rfl, rfl⟩⟩⟩⟩) ⟨Vc, -1, _, _, hSb, hOb, hV.put (n := n) (r := f) (c := cc) (q := (mcut (kerR E rk p q f cc) f cc)) hn (fun p _ _ p3 => by rw [vb p (by omega) p3]; exact ova p (by omega) (by omega) (by omega)) (fun k hk => by show (if k = n then R1 8 else R1 k) = _; rw [e8, (rk1 k hk).1]) (fun k hk => by show (if k = n then C1 8 else C1 k) = _; rw [f8, (rk1 k hk).2]) (by omega) (by omega) (by omega) (by omega) hNb⟩ (hFa.trans hFb))
  · skip
    refine jn_iconst (pc := 59) 0 kX_kernel_d59 (by decide) ?_
    have f0 : f = 0 := by omega
    subst f0
    have hkn := ker_none (A := qA (σ.2.2 m) cc) (fun i _ x _ => rfl) hrf hrows.1 hrows.2 hpt
    exact jj_iret (pc := 60) kX_kernel_d60 rfl (by rfl) (kr M2 0 σ (Or.inr ⟨n, m, hn, rfl, hm, rfl, Or.inr ⟨by rw [← erm, ← ecm]; exact hnh, Or.inl ⟨by rw [← erm, ← ecm]; exact hkn, rfl, rfl, rfl⟩⟩⟩) ⟨V2, sc, R, C, hS2, hO2, hV.keep (fun p p1 p2 => v2 p (by omega) (by omega)) (v2 15 (by omega) (by omega)) (v2 16 (by omega) (by omega)) (fun _ _ => ⟨rfl, rfl⟩)⟩ hF2)
end X15b
