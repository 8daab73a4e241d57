/-! ===== the law: its loop and its start (printed by wip/gen/rL4.py) ===== -/
theorem ka_long {G : jg} (h : kG G) : Cond.arrayClass .long ∈ G.2.2.2.1 := kG_w h kI9 19 rfl rfl
theorem RT.mono {M : mheap} {F : Nat → Nat} {code : Int32} {σ : rst} {X Z rc rs X' Z' rc' rs' : Nat} (h : RT M F code σ X Z rc rs) (h1 : X' + rs ≤ X + rs') (h2 : Z' + rc ≤ Z + rc') : RT M F code σ X' Z' rc' rs' := by
  obtain ⟨pt, zt, w, l, CA, RA, fi, se, hP, h2', hO, h4, h5, h6, h7⟩ := h
  exact ⟨pt, zt, w, l, CA, RA, fi, se, hP, h2', hO, h4, h5, by omega, by omega⟩
theorem nI_inc8 {a : Nat} : nI a + Int32.ofInt 8 = nI (a + 8) := by
  rw [← nI_add]; rfl
theorem lg_start : LG sg0 := fun k _ => ⟨Nat.le_refl _, Nat.le_refl _, fit_zero (show 1 ≤ 16 by decide) (show 1 ≤ 16 by decide)⟩
section LW5
variable {G : jg} {d : Nat} {Q : jq} {wa la oa F : Nat → Nat} {eu dv hi lo ot N : Nat} {xs : Nat → Int32}
theorem law_loop (hG : kG G) (hs : jj_scr G N xs) (hN : N ≤ 4096) (hJ : XJ wa la capx oa eu dv hi lo) (hQ : ∀ M rc rs, Q (.returned (some (.int 1))) M rc rs) : ∀ m i, N ≤ i + 8 * m + 7 → i ≤ 8192 → ∀ (M : mheap) (σ : rst) (code : Int32) (rc rs : Nat) (o5 o6 : Option Value), HW M wa la oa F eu dv hi lo ot σ σ code (6 * m) m rc rs → jj G kL_law (d + 17) Q rc rs 23 [some (.ref G.2.2.2.2.2), some (.ref (oa 0)), some (.ref (F 9)), some (.ref ot), some (.int (nI (i))), (o5), (o6)] [] M := by
  intro m
  induction m with
  | zero =>
    intro i h1 h2 M σ code rc rs o5 o6 hH
    refine jj_iload (pc := 23) kL_law_d23 rfl ?_
    refine jj_aload_n (pc := 25) kL_law_d25 rfl ?_
    refine jj_slen (pc := 26) kL_law_d26 hs rfl ?_
    refine jn_bipush (pc := 27) 8 kL_law_d27 (by decide) ?_
    refine jz_isub (pc := 29) (((N : Nat) : Int) - 8) kL_law_d29 ((zI_nat _).symm) ((zI_nat _).symm) (by omega) ?_
    refine jz_icmp_gt (pc := 30) (tgt := 1705) (a := ((i : Nat) : Int)) (b := ((N : Nat) : Int) - 8) kL_law_d30 (by decide) ((zI_nat _).symm) (rfl) (by omega) (by omega) (by omega) (by omega) (fun _ => ?_) (fun c => by exfalso; omega)
    refine jn_iconst (pc := 1705) 1 kL_law_d1705 (by decide) ?_
    exact jj_iret (pc := 1706) kL_law_d1706 rfl (by rfl) (hQ _ _ _)
  | succ m ih =>
    intro i h1 h2 M σ code rc rs o5 o6 hH
    refine jj_iload (pc := 23) kL_law_d23 rfl ?_
    refine jj_aload_n (pc := 25) kL_law_d25 rfl ?_
    refine jj_slen (pc := 26) kL_law_d26 hs rfl ?_
    refine jn_bipush (pc := 27) 8 kL_law_d27 (by decide) ?_
    refine jz_isub (pc := 29) (((N : Nat) : Int) - 8) kL_law_d29 ((zI_nat _).symm) ((zI_nat _).symm) (by omega) ?_
    refine jz_icmp_gt (pc := 30) (tgt := 1705) (a := ((i : Nat) : Int)) (b := ((N : Nat) : Int) - 8) kL_law_d30 (by decide) ((zI_nat _).symm) (rfl) (by omega) (by omega) (by omega) (by omega) (fun c0 => ?_) (fun c0 => ?_)
    · skip
      refine jn_iconst (pc := 1705) 1 kL_law_d1705 (by decide) ?_
      exact jj_iret (pc := 1706) kL_law_d1706 rfl (by rfl) (hQ _ _ _)
    · skip
      refine jj_aload_n (pc := 33) kL_law_d33 rfl ?_
      refine jj_iload (pc := 34) kL_law_d34 rfl ?_
      refine jj_sld (pc := 36) (i := i) kL_law_d36 hs rfl rfl (by omega) ?_
      refine jn_bipush (pc := 37) 31 kL_law_d37 (by decide) ?_
      refine jj_iand (pc := 39) kL_law_d39 ?_
      have hH' : HW M wa la oa F eu dv hi lo ot σ σ code (6 * m + 6) (m + 1) rc rs := hH
      have hK : ∀ (M' : mheap) (σ' : rst) (code' : Int32) (rc' rs' : Nat) (p5 p6 : Option Value), HW M' wa la oa F eu dv hi lo ot σ' σ' code' (6 * m) m rc' rs' → jj G kL_law (d + 17) Q rc' rs' 1699 [some (.ref G.2.2.2.2.2), some (.ref (oa 0)), some (.ref (F 9)), some (.ref ot), some (.int (nI (i))), (p5), (p6)] [] M' := by
        intro M' σ' code' rc' rs' p5 p6 hW
        refine jn_iinc (pc := 1699) (i + 8) kL_law_d1699 rfl nI_inc8 ?_
        refine jj_goto (pc := 1702) (tgt := 23) kL_law_d1702 (by decide) ?_
        show jj G kL_law (d + 17) Q rc' rs' 23 [some (.ref G.2.2.2.2.2), some (.ref (oa 0)), some (.ref (F 9)), some (.ref ot), some (.int (nI (i + 8))), (p5), (p6)] [] M'
        exact ih (i + 8) (by omega) (by omega) M' σ' code' rc' rs' p5 p6 hW
      obtain ⟨t, et⟩ : ∃ t : Int32, (xs (i)) &&& nI (31) = t := ⟨_, rfl⟩
      rw [et]
      show jj G kL_law (d + 17) Q rc rs 40 [some (.ref G.2.2.2.2.2), some (.ref (oa 0)), some (.ref (F 9)), some (.ref ot), some (.int (nI (i))), (o5), (o6)] [.int (t)] M
      by_cases hout : t.toInt < 0 ∨ 19 < t.toInt
      · refine jj_tableOut (pc := 40) (tgt := 1699) kL_law_d40 hout (by decide) ?_
        exact hK M σ code rc rs o5 o6 (hH'.less (by omega) (by omega))
      · have hc : t.toInt = 0 ∨ t.toInt = 1 ∨ t.toInt = 2 ∨ t.toInt = 3 ∨ t.toInt = 4 ∨ t.toInt = 5 ∨ t.toInt = 6 ∨ t.toInt = 7 ∨ t.toInt = 8 ∨ t.toInt = 9 ∨ t.toInt = 10 ∨ t.toInt = 11 ∨ t.toInt = 12 ∨ t.toInt = 13 ∨ t.toInt = 14 ∨ t.toInt = 15 ∨ t.toInt = 16 ∨ t.toInt = 17 ∨ t.toInt = 18 ∨ t.toInt = 19 := by omega
        rcases hc with hc | hc | hc | hc | hc | hc | hc | hc | hc | hc | hc | hc | hc | hc | hc | hc | hc | hc | hc | hc
        · refine jj_tableIn (pc := 40) (off := 96) (tgt := 136) kL_law_d40 (by omega) (by omega) (by rw [hc]; rfl) (by decide) ?_
          exact law_make hG hs (by omega) hN hJ hH' hK
        · refine jj_tableIn (pc := 40) (off := 156) (tgt := 196) kL_law_d40 (by omega) (by omega) (by rw [hc]; rfl) (by decide) ?_
          exact law_set hG hs (by omega) hN hJ hH' hK
        · refine jj_tableIn (pc := 40) (off := 308) (tgt := 348) kL_law_d40 (by omega) (by omega) (by rw [hc]; rfl) (by decide) ?_
          exact law_unit hG hs (by omega) hN hJ hH' hK
        · refine jj_tableIn (pc := 40) (off := 356) (tgt := 396) kL_law_d40 (by omega) (by omega) (by rw [hc]; rfl) (by decide) ?_
          exact law_add hG hs (by omega) hN hJ hH' hK
        · refine jj_tableIn (pc := 40) (off := 444) (tgt := 484) kL_law_d40 (by omega) (by omega) (by rw [hc]; rfl) (by decide) ?_
          exact law_multiply hG hs (by omega) hN hJ hH' hK
        · refine jj_tableIn (pc := 40) (off := 504) (tgt := 544) kL_law_d40 (by omega) (by omega) (by rw [hc]; rfl) (by decide) ?_
          exact law_turn hG hs (by omega) hN hJ hH' hK
        · refine jj_tableIn (pc := 40) (off := 552) (tgt := 592) kL_law_d40 (by omega) (by omega) (by rw [hc]; rfl) (by decide) ?_
          exact law_beside hG hs (by omega) hN hJ hH' hK
        · refine jj_tableIn (pc := 40) (off := 612) (tgt := 652) kL_law_d40 (by omega) (by omega) (by rw [hc]; rfl) (by decide) ?_
          exact law_part hG hs (by omega) hN hJ hH' hK
        · refine jj_tableIn (pc := 40) (off := 710) (tgt := 750) kL_law_d40 (by omega) (by omega) (by rw [hc]; rfl) (by decide) ?_
          exact law_echelon hG hs (by omega) hN hJ hH' hK
        · refine jj_tableIn (pc := 40) (off := 778) (tgt := 818) kL_law_d40 (by omega) (by omega) (by rw [hc]; rfl) (by decide) ?_
          exact law_kernel hG hs (by omega) hN hJ hH' hK
        · refine jj_tableIn (pc := 40) (off := 846) (tgt := 886) kL_law_d40 (by omega) (by omega) (by rw [hc]; rfl) (by decide) ?_
          exact law_solve hG hs (by omega) hN hJ hH' hK
        · refine jj_tableIn (pc := 40) (off := 933) (tgt := 973) kL_law_d40 (by omega) (by omega) (by rw [hc]; rfl) (by decide) ?_
          exact law_invert hG hs (by omega) hN hJ hH' hK
        · refine jj_tableIn (pc := 40) (off := 1008) (tgt := 1048) kL_law_d40 (by omega) (by omega) (by rw [hc]; rfl) (by decide) ?_
          exact law_determinant hG hs (by omega) hN hJ hH' hK
        · refine jj_tableIn (pc := 40) (off := 1056) (tgt := 1096) kL_law_d40 (by omega) (by omega) (by rw [hc]; rfl) (by decide) ?_
          exact law_hermite hG hs (by omega) hN hJ hH' hK
        · refine jj_tableIn (pc := 40) (off := 1124) (tgt := 1164) kL_law_d40 (by omega) (by omega) (by rw [hc]; rfl) (by decide) ?_
          exact law_smith hG hs (by omega) hN hJ hH' hK
        · refine jj_tableIn (pc := 40) (off := 1192) (tgt := 1232) kL_law_d40 (by omega) (by omega) (by rw [hc]; rfl) (by decide) ?_
          exact law_size hG hs (by omega) hN hJ hH' hK
        · refine jj_tableIn (pc := 40) (off := 1276) (tgt := 1316) kL_law_d40 (by omega) (by omega) (by rw [hc]; rfl) (by decide) ?_
          exact law_sign hG hs (by omega) hN hJ hH' hK
        · refine jj_tableIn (pc := 40) (off := 1356) (tgt := 1396) kL_law_d40 (by omega) (by omega) (by rw [hc]; rfl) (by decide) ?_
          exact law_length hG hs (by omega) hN hJ hH' hK
        · refine jj_tableIn (pc := 40) (off := 1464) (tgt := 1504) kL_law_d40 (by omega) (by omega) (by rw [hc]; rfl) (by decide) ?_
          exact law_limb hG hs (by omega) hN hJ hH' hK
        · refine jj_tableIn (pc := 40) (off := 1584) (tgt := 1624) kL_law_d40 (by omega) (by omega) (by rw [hc]; rfl) (by decide) ?_
          exact law_same hG hs (by omega) hN hJ hH' hK
theorem law_body (hG : kG G) (hs : jj_scr G N xs) (hN : N ≤ 4096) (hQ : ∀ M rc rs, Q (.returned (some (.int 1))) M rc rs) : jj G kL_law (d + 17) Q 601024 7293034 0 (jj_ent [.ref G.2.2.2.2.2] 7) [] (fun _ => none) := by
  show jj G kL_law (d + 17) Q 601024 7293034 0 [some (.ref G.2.2.2.2.2), none, none, none, none, none, none] [] (fun _ => none)
  refine jj_new (pc := 0) kL_law_d0 (knL_X hG) (by decide) (by decide) (fun a ha => ?_)
  refine jn_gen (fun M1 eM1 => ?_)
  have ha1 : M1 a = some (.inl nX, [.null, .null, .null, .null, .null, .null, .null, .null, .int (nI 0)]) := by rw [eM1]; exact jj_up_at _ _ _
  obtain ⟨rc1, erc1⟩ : ∃ z, z = 601024 - 1 := ⟨_, rfl⟩
  obtain ⟨rs1, ers1⟩ : ∃ z, z = 7293034 - 9 := ⟨_, rfl⟩
  show jj G kL_law (d + 17) Q (601024 - 1) (7293034 - 9) 3 [some (.ref G.2.2.2.2.2), none, none, none, none, none, none] [.ref a] M1
  rw [← erc1, ← ers1]
  show jj G kL_law (d + 17) Q rc1 rs1 3 [some (.ref G.2.2.2.2.2), none, none, none, none, none, none] [.ref a] M1
  refine jj_dup (pc := 3) kL_law_d3 rfl ?_
  refine jj_callI (pc := 4) (b := a) (As := []) kL_law_d4 (kvL_X_init hG) rfl rfl rfl (Nat.le_of_ble_eq_true rfl) (Nat.le_of_ble_eq_true rfl) (jj_bare0 rfl) ?_
  refine x_init hG ha1 (by omega) (by omega) (fun M2 wa la oa eu dv hi lo rc2 rs2 hJ eo hx fx c2 s2 => ?_)
  subst eo
  show jj G kL_law (d + 17) Q rc2 rs2 7 [some (.ref G.2.2.2.2.2), none, none, none, none, none, none] [.ref (oa 0)] M2
  refine jj_astore_n (pc := 7) kL_law_d7 (Nat.le_of_ble_eq_true rfl) ?_
  show jj G kL_law (d + 17) Q rc2 rs2 8 [some (.ref G.2.2.2.2.2), some (.ref (oa 0)), none, none, none, none, none] [] M2
  refine jj_new (pc := 8) kL_law_d8 (knL_R hG) (by omega) (show 4 ≤ _ by omega) (fun b hb => ?_)
  refine jn_gen (fun M3 eM3 => ?_)
  have hb3 : M3 b = some (.inl nR, [.int (nI 0), .null, .null, .null]) := by rw [eM3]; exact jj_up_at _ _ _
  have u3 : ∀ x, M2 x ≠ none → M3 x = M2 x := fun x h => by rw [eM3, jj_up_ne _ _ (fun e => h (by rw [e]; exact hb))]
  show jj G kL_law (d + 17) Q (rc2 - 1) (rs2 - 4) 11 [some (.ref G.2.2.2.2.2), some (.ref (oa 0)), none, none, none, none, none] [.ref b] M3
  refine jj_dup (pc := 11) kL_law_d11 rfl ?_
  refine jj_callI (pc := 12) (b := b) (As := []) kL_law_d12 (kvL_R_init hG) rfl rfl rfl (Nat.le_of_ble_eq_true rfl) (Nat.le_of_ble_eq_true rfl) (jj_bare0 rfl) ?_
  refine r_init (X := 6 * 512 + 1) (Z := 513) hG hb3 (by omega) (by omega) (fun M4 F rc4 rs4 e9 hT fT => ?_)
  subst e9
  have hr4 := hT.room
  show jj G kL_law (d + 17) Q rc4 rs4 15 [some (.ref G.2.2.2.2.2), some (.ref (oa 0)), none, none, none, none, none] [.ref (F 9)] M4
  refine jj_astore_n (pc := 15) kL_law_d15 (Nat.le_of_ble_eq_true rfl) ?_
  show jj G kL_law (d + 17) Q rc4 rs4 16 [some (.ref G.2.2.2.2.2), some (.ref (oa 0)), some (.ref (F 9)), none, none, none, none] [] M4
  refine jn_iconst (pc := 16) 1 kL_law_d16 (by decide) ?_
  refine jj_newa (pc := 17) (j := 1) (n := 1) (ty := .long) kL_law_d17 rfl (kG_t hG rfl) (fun C h => by cases h) (ka_long hG) rfl (by decide) (by omega) (by omega) (fun ot hot => ?_)
  refine jn_gen (fun M5 eM5 => ?_)
  have hot5 : M5 ot = some (.inr 1, [.long 0]) := by rw [eM5, jj_up_at]; rfl
  have u5 : ∀ x, M4 x ≠ none → M5 x = M4 x := fun x h => by rw [eM5, jj_up_ne _ _ (fun e => h (by rw [e]; exact hot))]
  have k4 : ∀ x, XCL wa la oa eu dv hi lo x → M4 x = M2 x ∧ ¬ OWN M4 F x := fun x hc => by
    have h1 := hx.used hc
    have h2 := u3 x h1
    have h3 : x ≠ F 9 := fun e => h1 (by rw [e]; exact hb)
    have h4 := fT x (by rw [h2]; exact h1) h3
    exact ⟨h4.1.trans h2, h4.2⟩
  have hx4 : XT M4 wa la capx oa eu dv hi lo sg0 := hx.same (fun x hc => (k4 x hc).1)
  obtain ⟨r5, o5⟩ := hT.same (M' := M5) (fun q hq => u5 q (OWN.used hT hq))
  have hH : HW M5 wa la oa F eu dv hi lo ot sg0 sg0 (nI 0) (6 * 512) 512 (rc4 - 1) (rs4 - 1) := ⟨hx4.same (fun x hc => u5 x (hx4.used hc)), r5.mono (by omega) (by omega), lg_start, fun x hc g => (k4 x hc).2 ((o5 x).mp g), ⟨0, hot5⟩, fun hc => hx4.used hc hot, fun g => OWN.used hT ((o5 _).mp g) hot⟩
  show jj G kL_law (d + 17) Q (rc4 - 1) (rs4 - 1) 19 [some (.ref G.2.2.2.2.2), some (.ref (oa 0)), some (.ref (F 9)), none, none, none, none] [.ref ot] M5
  refine jj_astore_n (pc := 19) kL_law_d19 (Nat.le_of_ble_eq_true rfl) ?_
  show jj G kL_law (d + 17) Q (rc4 - 1) (rs4 - 1) 20 [some (.ref G.2.2.2.2.2), some (.ref (oa 0)), some (.ref (F 9)), some (.ref ot), none, none, none] [] M5
  refine jn_iconst (pc := 20) 0 kL_law_d20 (by decide) ?_
  refine jj_istore (pc := 21) kL_law_d21 (Nat.le_of_ble_eq_true rfl) ?_
  show jj G kL_law (d + 17) Q (rc4 - 1) (rs4 - 1) 23 [some (.ref G.2.2.2.2.2), some (.ref (oa 0)), some (.ref (F 9)), some (.ref ot), some (.int (nI (0))), none, none] [] M5
  show jj G kL_law (d + 17) Q (rc4 - 1) (rs4 - 1) 23 [some (.ref G.2.2.2.2.2), some (.ref (oa 0)), some (.ref (F 9)), some (.ref ot), some (.int (nI (0))), none, none] [] M5
  exact law_loop hG hs hN hJ hQ 512 0 (by omega) (by omega) M5 sg0 (nI 0) _ _ _ _ hH
end LW5
