/-! ===== Residues: load (printed by wip/gen/rS8.py) ===== -/
section S8
variable {G : jg} {d : Nat} {Q : jq} {rc rs : Nat} {M : mheap} {wa la cap : Nat → Nat} {N eu dv hi lo dk re rca ln pl ls ps : Nat} {s : Nat → Nat} {V : Nat → Int}
theorem r_load {mx ar b r c ch n w : Nat} {Pl : List Int32} {p : Nat → Nat} (hG : kG G) (hK : KJI wa la cap N hi lo) (hS : KS M wa la cap N eu dv hi lo dk V) (hJ : QJ wa la cap N eu dv hi lo dk re rca) (hR : RST M wa re rca dk ln pl ls ps s) (hM : MXT M wa mx ar b r c) (hb : b + 256 < N) (hb7 : 809 ≤ b) (hr : r ≤ 16) (hcc : c ≤ 16) (hn : n ≤ 16) (hch : M ch = some (.inr 0, Pl.map .int)) (hlp : Pl.length = 16) (hfc : FAR wa la N eu dv hi lo ch) (hP : ∀ j, j < n → Pl.getD j 0 = nI (p j)) (hpc : ∀ j, j < n → p j < c) (hw : w < N) (hw1 : 13 ≤ w) (hw2 : w < 547) (hL0 : V w ≠ 0) (hlL : lc (V w) ≤ 63) (hcp : ∀ q, b ≤ q → q ≤ b + 256 → cap q ≤ 252) (k : ∀ (M' : mheap) (V' : Nat → Int), KS M' wa la cap N eu dv hi lo dk V' → RST M' wa re rca dk r n 16 1 s → EFX (fun x => x = re ∨ x = rca) M M' wa la N eu dv hi lo → V' 547 = ((V w).natAbs : Nat) → (∀ i j, i < r → j < n → V' (rp s 16 1 i j) = V (b + (16 * i + p j)) % ((V w).natAbs : Nat)) → (∀ q, 10 ≤ q → q < 547 ∨ 809 ≤ q → V' q = V q) → Q (.returned none) M' rc rs) : jj G kS_load (d + 5) Q rc rs 0 (jj_ent [.ref re, .ref mx, .ref ch, .int (nI n), .ref (wa w)] 7) [] M := by
  obtain ⟨h809, c547, c548, c553, f1, f2, n1, n2⟩ := id hJ
  obtain ⟨hI, hN, hcap, hdi⟩ := id hK
  have hsp := hR.2.2
  have hre := hR.1
  have hm0 := hM.1
  have hs : STP 16 1 := Or.inl ⟨rfl, rfl⟩
  show jj G kS_load (d + 5) Q rc rs 0 [some (.ref re), some (.ref mx), some (.ref ch), some (.int (nI (n))), some (.ref (wa w)), none, none] [] M
  refine jj_aload_n (pc := 0) kS_load_d0 rfl ?_
  refine jj_aload_n (pc := 1) kS_load_d1 rfl ?_
  refine jj_getf (pc := 2) kS_load_d2 (kfS_M_rows hG) hm0 rfl ?_
  refine jj_putf (pc := 5) kS_load_d5 (kpS_lines hG) hre (by rfl) rfl ?_
  refine jn_gen (fun M101 hM102 => ?_)
  have h103 : M101 mx = some (.inl nM, [.int (nI (r)), .int (nI (c)), .ref (wa (b + 256)), .ref ar]) := by rw [hM102, jj_up_ne _ _ (fun e => by have q1 := hm0; rw [e, hre] at q1; cases q1)]; exact hm0
  have h104 : M101 re = some (.inl nS, [.int (nI (r)), .int (nI (pl)), .int (nI (ls)), .int (nI (ps)), .ref rca, .ref (wa 547), .ref (wa 548), .ref (wa 549), .ref (wa 550), .ref (wa 551), .ref (wa 552), .ref dk]) := by rw [hM102]; exact jj_up_at _ _ _
  refine jj_aload_n (pc := 8) kS_load_d8 rfl ?_
  refine jj_iload_n (pc := 9) kS_load_d9 rfl ?_
  refine jj_putf (pc := 10) kS_load_d10 (kpS_places hG) h104 (by rfl) rfl ?_
  refine jn_gen (fun M105 hM106 => ?_)
  have h107 : M105 mx = some (.inl nM, [.int (nI (r)), .int (nI (c)), .ref (wa (b + 256)), .ref ar]) := by rw [hM106, jj_up_ne _ _ (fun e => by have q1 := h103; rw [e, h104] at q1; cases q1)]; exact h103
  have h108 : M105 re = some (.inl nS, [.int (nI (r)), .int (nI (n)), .int (nI (ls)), .int (nI (ps)), .ref rca, .ref (wa 547), .ref (wa 548), .ref (wa 549), .ref (wa 550), .ref (wa 551), .ref (wa 552), .ref dk]) := by rw [hM106]; exact jj_up_at _ _ _
  refine jj_aload_n (pc := 13) kS_load_d13 rfl ?_
  refine jn_bipush (pc := 14) 16 kS_load_d14 (by decide) ?_
  refine jj_putf (pc := 16) kS_load_d16 (kpS_lineStep hG) h108 (by rfl) rfl ?_
  refine jn_gen (fun M109 hM110 => ?_)
  have h111 : M109 mx = some (.inl nM, [.int (nI (r)), .int (nI (c)), .ref (wa (b + 256)), .ref ar]) := by rw [hM110, jj_up_ne _ _ (fun e => by have q1 := h107; rw [e, h108] at q1; cases q1)]; exact h107
  have h112 : M109 re = some (.inl nS, [.int (nI (r)), .int (nI (n)), .int (nI (16)), .int (nI (ps)), .ref rca, .ref (wa 547), .ref (wa 548), .ref (wa 549), .ref (wa 550), .ref (wa 551), .ref (wa 552), .ref dk]) := by rw [hM110]; exact jj_up_at _ _ _
  refine jj_aload_n (pc := 19) kS_load_d19 rfl ?_
  refine jn_iconst (pc := 20) 1 kS_load_d20 (by decide) ?_
  refine jj_putf (pc := 21) kS_load_d21 (kpS_placeStep hG) h112 (by rfl) rfl ?_
  refine jn_gen (fun M113 hM114 => ?_)
  have h115 : M113 mx = some (.inl nM, [.int (nI (r)), .int (nI (c)), .ref (wa (b + 256)), .ref ar]) := by rw [hM114, jj_up_ne _ _ (fun e => by have q1 := h111; rw [e, h112] at q1; cases q1)]; exact h111
  have h116 : M113 re = some (.inl nS, [.int (nI (r)), .int (nI (n)), .int (nI (16)), .int (nI (1)), .ref rca, .ref (wa 547), .ref (wa 548), .ref (wa 549), .ref (wa 550), .ref (wa 551), .ref (wa 552), .ref dk]) := by rw [hM114]; exact jj_up_at _ _ _
  have hu0 : ∀ x, x ≠ re → M113 x = M x := fun x hx => by rw [hM114, jj_up_ne _ _ hx, hM110, jj_up_ne _ _ hx, hM106, jj_up_ne _ _ hx, hM102, jj_up_ne _ _ hx]
  have hS1 := hS.up f1 n1 hu0
  have hR1 := hR.upo hu0 h116
  have hM1 : MXT M113 wa mx ar b r c := ⟨h115, (hu0 _ (fun e => by have := hM.2; rw [e, hre] at this; cases this)).trans hM.2⟩
  have hch1 : M113 ch = some (.inr 0, Pl.map .int) := (hu0 _ (fun e => by rw [e, hre] at hch; cases hch)).trans hch
  obtain ⟨Ma, eMa⟩ : ∃ W, M113 = W := ⟨_, rfl⟩
  rw [eMa] at hS1 hR1 hM1 hch1 hu0
  rw [eMa]
  have hre1 := hR1.1
  have hm1 := hM1.1
  obtain ⟨T1, t1, hT1, _, _⟩ := hS1.1 547 (by omega)
  show jj G kS_load (d + 5) Q rc rs 24 [some (.ref re), some (.ref mx), some (.ref ch), some (.int (nI (n))), some (.ref (wa w)), none, none] [] Ma
  refine jj_aload_n (pc := 24) kS_load_d24 rfl ?_
  refine jj_getf (pc := 25) kS_load_d25 (kfS_modulus hG) hre1 rfl ?_
  refine jj_aload (pc := 28) kS_load_d28 rfl ?_
  refine jj_callV (pc := 30) (b := (wa 547)) (As := [.ref (wa w)]) kS_load_d30 (kvS_W_copy hG) (kG_cl hG rfl) rfl hT1 rfl rfl rfl (Nat.le_of_ble_eq_true rfl) (Nat.le_of_ble_eq_true rfl) (jj_bare0 rfl) ?_
  refine w_copy hG hI hS1.1 (t := 547) (u := w) (by omega) hw (by rw [c547]; exact lc_room (by omega)) (fun M2 hc2 hw2a => ?_)
  have hS2 := hS1.wt hK (by omega) hw2a hc2
  have hw2e : EF Ma M2 wa la N eu dv hi lo := hw2a.ef (by omega)
  have hR2 := hR1.ef hJ hw2e
  have hM2 := hM1.ef hS1 hw2e
  have hch2 := (hw2e.far hfc).trans hch1
  have hre2 := hR2.1
  have hm2 := hM2.1
  obtain ⟨D5, t5, hD5, hD5b, hD5c, hD5d⟩ := hc2 547 (by omega)
  rw [vup_at] at hD5 hD5d
  show jj G kS_load (d + 5) Q rc rs 33 [some (.ref re), some (.ref mx), some (.ref ch), some (.int (nI (n))), some (.ref (wa w)), none, none] [] M2
  refine jj_aload_n (pc := 33) kS_load_d33 rfl ?_
  refine jj_getf (pc := 34) kS_load_d34 (kfS_modulus hG) hre2 rfl ?_
  refine jn_iconst (pc := 37) 0 kS_load_d37 (by decide) ?_
  refine jj_putf (pc := 38) kS_load_d38 (kpS_W_below hG) hD5 (by decide) rfl ?_
  refine jn_gen (fun M117 hM118 => ?_)
  have h119 : M117 re = some (.inl nS, [.int (nI (r)), .int (nI (n)), .int (nI (16)), .int (nI (1)), .ref rca, .ref (wa 547), .ref (wa 548), .ref (wa 549), .ref (wa 550), .ref (wa 551), .ref (wa 552), .ref dk]) := by rw [hM118, jj_up_ne _ _ (fun e => by have q1 := hre2; rw [e, hD5] at q1; cases q1)]; exact hre2
  have h120 : M117 mx = some (.inl nM, [.int (nI (r)), .int (nI (c)), .ref (wa (b + 256)), .ref ar]) := by rw [hM118, jj_up_ne _ _ (fun e => by have q1 := hm2; rw [e, hD5] at q1; cases q1)]; exact hm2
  have h121 : M117 (wa 547) = some (.inl nW, [.ref (la 547), .int (nI (t5)), .int (nI (0))]) := by rw [hM118]; exact jj_up_at _ _ _
  have hu3 : ∀ x, x ≠ wa 547 → M117 x = M2 x := fun x hx => by rw [hM118, jj_up_ne _ _ hx]
  obtain ⟨M3, eM3⟩ : ∃ W, M117 = W := ⟨_, rfl⟩
  have hD3 := h121
  rw [eM3] at hu3 hD3
  rw [eM3]
  have hWT : WT M2 M3 wa la 547 := fun x h1 _ => hu3 x h1
  have hLa : la 547 ≠ wa 547 := fun e => by rw [e, hD5] at hD5b; cases hD5b
  obtain ⟨m, em⟩ : ∃ m : Int, m = ((V w).natAbs : Nat) := ⟨_, rfl⟩
  rw [← em] at k
  have hm0' : 0 < m := by omega
  have sgm : (nI 0 : Int32) = sg m := by unfold sg; rw [if_neg (by omega)]; rfl
  have hc3x : CW M3 wa la cap N (vup (vup V 547 (V w)) 547 m) := hc2.put hI (by omega) ⟨D5, t5, by rw [← sgm]; exact hD3, (hu3 _ hLa).trans hD5b, hD5c, hD5d.1, by rw [em]; exact hD5d.2.1, hD5d.2.2⟩ hWT
  have hS3x := hS2.wt hK (by omega) hWT hc3x
  have hw3e : EF M2 M3 wa la N eu dv hi lo := hWT.ef (by omega)
  have hR3 := hR2.ef hJ hw3e
  have hM3 := hM2.ef hS2 hw3e
  have hch3 := (hw3e.far hfc).trans hch2
  obtain ⟨V3, eV3⟩ : ∃ W, vup (vup V 547 (V w)) 547 m = W := ⟨_, rfl⟩
  rw [eV3] at hS3x
  have m3 : V3 547 = m := by rw [← eV3, vup_at]
  have o3 : ∀ q, q ≠ 547 → V3 q = V q := fun q h => by rw [← eV3, vup_ne _ _ h, vup_ne _ _ h]
  have lm : lc m ≤ 63 := Nat.le_trans (lc_mono (by omega)) hlL
  have hF3 : EFX (fun x => x = re ∨ x = rca) M M3 wa la N eu dv hi lo := (EFX.up hu0 (Or.inl rfl)).trans ((hw2e.trans hw3e).efx)
  have hre3 := hR3.1
  refine jn_iconst (pc := 41) 0 kS_load_d41 (by decide) ?_
  refine jj_istore (pc := 42) kS_load_d42 (Nat.le_of_ble_eq_true rfl) ?_
  show jj G kS_load (d + 5) Q rc rs 44 [some (.ref re), some (.ref mx), some (.ref ch), some (.int (nI (n))), some (.ref (wa w)), some (.int (nI (0))), none] [] M3
  show jj G kS_load (d + 5) Q rc rs 44 [some (.ref re), some (.ref mx), some (.ref ch), some (.int (nI (n))), some (.ref (wa w)), some (.int (nI (0))), none] [] M3
  have outer : ∀ mu i, r = i + mu → ∀ (oj : Option Value) (M9 : mheap) (V9 : Nat → Int), KS M9 wa la cap N eu dv hi lo dk V9 → EF M3 M9 wa la N eu dv hi lo → (∀ i' j', i' < r → thru n i 0 i' j' → V9 (rp s 16 1 i' j') = V (b + (16 * i' + p j')) % m) → (∀ q, 10 ≤ q → (∀ i' j', i' < r → thru n i 0 i' j' → q ≠ rp s 16 1 i' j') → V9 q = V3 q) → jj G kS_load (d + 5) Q rc rs 44 [some (.ref re), some (.ref mx), some (.ref ch), some (.int (nI (n))), some (.ref (wa w)), some (.int (nI (i))), (oj)] [] M9 := by
    intro mu
    induction mu with
    | zero =>
      intro i hk oj M9 V9 hS9 f9 e9 o9
      have ei : r = i := by omega
      subst ei
      have hR9 := hR3.ef hJ f9
      have hM9 := hM3.ef hS3x f9
      have hre9 := hR9.1
      have hm9 := hM9.1
      have hch9 := (f9.far hfc).trans hch3
      refine jj_iload (pc := 44) kS_load_d44 rfl ?_
      refine jj_aload_n (pc := 46) kS_load_d46 rfl ?_
      refine jj_getf (pc := 47) kS_load_d47 (kfS_lines hG) hre9 rfl ?_
      refine jn_icmp_ge (pc := 50) (tgt := 99) kS_load_d50 (by decide) (by omega) (by omega) (fun _ => ?_) (fun c => by exfalso; omega)
      exact jj_vret (pc := 99) kS_load_d99 rfl (k M9 V9 hS9 hR9 (hF3.trans f9.efx) (by rw [o9 _ (by omega) (fun i' j' h1 h2 => by have := hsp.b hs (show i' < 16 by omega) (show j' < 16 by have := h2.1; omega); omega)]; exact m3) (fun i j hi' hj => e9 i j hi' ⟨hj, Or.inl hi'⟩) (fun q h1 h2 => by rw [o9 q h1 (fun i' j' h3 h4 => by have := hsp.b hs (show i' < 16 by omega) (show j' < 16 by have := h4.1; omega); omega)]; exact o3 q (by omega)))
    | succ mu ih =>
      intro i hk oj M9 V9 hS9 f9 e9 o9
      have hR9 := hR3.ef hJ f9
      have hM9 := hM3.ef hS3x f9
      have hre9 := hR9.1
      have hm9 := hM9.1
      have hch9 := (f9.far hfc).trans hch3
      refine jj_iload (pc := 44) kS_load_d44 rfl ?_
      refine jj_aload_n (pc := 46) kS_load_d46 rfl ?_
      refine jj_getf (pc := 47) kS_load_d47 (kfS_lines hG) hre9 rfl ?_
      refine jn_icmp_ge (pc := 50) (tgt := 99) kS_load_d50 (by decide) (by omega) (by omega) (fun c => by exfalso; omega) (fun _ => ?_)
      refine jn_iconst (pc := 53) 0 kS_load_d53 (by decide) ?_
      refine jj_istore (pc := 54) kS_load_d54 (Nat.le_of_ble_eq_true rfl) ?_
      show jj G kS_load (d + 5) Q rc rs 56 [some (.ref re), some (.ref mx), some (.ref ch), some (.int (nI (n))), some (.ref (wa w)), some (.int (nI (i))), some (.int (nI (0)))] [] M9
      show jj G kS_load (d + 5) Q rc rs 56 [some (.ref re), some (.ref mx), some (.ref ch), some (.int (nI (n))), some (.ref (wa w)), some (.int (nI (i))), some (.int (nI (0)))] [] M9
      have inner : ∀ mu2 j, n = j + mu2 → ∀ (M9 : mheap) (V9 : Nat → Int), KS M9 wa la cap N eu dv hi lo dk V9 → EF M3 M9 wa la N eu dv hi lo → (∀ i' j', i' < r → thru n i j i' j' → V9 (rp s 16 1 i' j') = V (b + (16 * i' + p j')) % m) → (∀ q, 10 ≤ q → (∀ i' j', i' < r → thru n i j i' j' → q ≠ rp s 16 1 i' j') → V9 q = V3 q) → jj G kS_load (d + 5) Q rc rs 56 [some (.ref re), some (.ref mx), some (.ref ch), some (.int (nI (n))), some (.ref (wa w)), some (.int (nI (i))), some (.int (nI (j)))] [] M9 := by
        intro mu2
        induction mu2 with
        | zero =>
          intro j hk2 M9 V9 hS9 f9 e9 o9
          have ej : n = j := by omega
          subst ej
          have hR9 := hR3.ef hJ f9
          have hM9 := hM3.ef hS3x f9
          have hre9 := hR9.1
          have hm9 := hM9.1
          have hch9 := (f9.far hfc).trans hch3
          refine jj_iload (pc := 56) kS_load_d56 rfl ?_
          refine jj_aload_n (pc := 58) kS_load_d58 rfl ?_
          refine jj_getf (pc := 59) kS_load_d59 (kfS_places hG) hre9 rfl ?_
          refine jn_icmp_ge (pc := 62) (tgt := 93) kS_load_d62 (by decide) (by omega) (by omega) (fun _ => ?_) (fun c => by exfalso; omega)
          refine jn_iinc (pc := 93) (i + 1) kS_load_d93 rfl (nI_1 _) ?_
          refine jj_goto (pc := 96) (tgt := 44) kS_load_d96 (by decide) ?_
          show jj G kS_load (d + 5) Q rc rs 44 [some (.ref re), some (.ref mx), some (.ref ch), some (.int (nI (n))), some (.ref (wa w)), some (.int (nI (i + 1))), some (.int (nI (n)))] [] M9
          exact ih (i + 1) (by omega) _ M9 V9 hS9 f9 (fun i' j' h1 h2 => e9 i' j' h1 (thru_row.2 h2)) (fun q h1 h2 => o9 q h1 (fun i' j' h3 h4 => h2 i' j' h3 (thru_row.1 h4)))
        | succ mu2 ih2 =>
          intro j hk2 M9 V9 hS9 f9 e9 o9
          have hR9 := hR3.ef hJ f9
          have hM9 := hM3.ef hS3x f9
          have hre9 := hR9.1
          have hm9 := hM9.1
          have hch9 := (f9.far hfc).trans hch3
          have pj := hpc j (by omega)
          have bij := hsp.b hs (show i < 16 by omega) (show j < 16 by omega)
          have vc : V9 (b + (16 * i + p j)) = V (b + (16 * i + p j)) := by rw [o9 _ (by omega) (fun i' j' h1 h2 => by have := hsp.b hs (show i' < 16 by omega) (show j' < 16 by have := h2.1; omega); omega)]; exact o3 _ (by omega)
          have v7 : V9 547 = m := by rw [o9 _ (by omega) (fun i' j' h1 h2 => by have := hsp.b hs (show i' < 16 by omega) (show j' < 16 by have := h2.1; omega); omega)]; exact m3
          have lcl : lc (V9 (b + (16 * i + p j))) ≤ 252 := Nat.le_trans (hS9.1.lc (by omega)) (hcp _ (by omega) (by omega))
          have cij : cap (rp s 16 1 i j) = 64 := c553 _ bij.1 bij.2
          refine jj_iload (pc := 56) kS_load_d56 rfl ?_
          refine jj_aload_n (pc := 58) kS_load_d58 rfl ?_
          refine jj_getf (pc := 59) kS_load_d59 (kfS_places hG) hre9 rfl ?_
          refine jn_icmp_ge (pc := 62) (tgt := 93) kS_load_d62 (by decide) (by omega) (by omega) (fun c => by exfalso; omega) (fun _ => ?_)
          refine jj_aload_n (pc := 65) kS_load_d65 rfl ?_
          refine jj_aload_n (pc := 66) kS_load_d66 rfl ?_
          refine jj_iload (pc := 67) kS_load_d67 rfl ?_
          refine jj_aload_n (pc := 69) kS_load_d69 rfl ?_
          refine jj_iload (pc := 70) kS_load_d70 rfl ?_
          refine jn_iald (pc := 72) (v := (nI (p j))) kS_load_d72 (kG_t hG rfl) hch9 (by omega) (by omega) (hP j (by omega)) ?_
          refine jj_callV (pc := 73) (b := mx) (As := [.int (nI (i)), .int (nI (p j))]) kS_load_d73 (kvS_M_at hG) (kG_cl hG rfl) rfl hm9 rfl rfl rfl (Nat.le_of_ble_eq_true rfl) (Nat.le_of_ble_eq_true rfl) (jj_bare0 rfl) ?_
          refine m_at hG hM9 (by omega) (by omega) ?_
          show jj G kS_load (d + 5) Q rc rs 76 [some (.ref re), some (.ref mx), some (.ref ch), some (.int (nI (n))), some (.ref (wa w)), some (.int (nI (i))), some (.int (nI (j)))] [.ref (wa (b + (16 * i + p j))), .ref re] M9
          refine jj_aload_n (pc := 76) kS_load_d76 rfl ?_
          refine jj_iload (pc := 77) kS_load_d77 rfl ?_
          refine jj_iload (pc := 79) kS_load_d79 rfl ?_
          refine jj_callV (pc := 81) (b := re) (As := [.int (nI (i)), .int (nI (j))]) kS_load_d81 (kvS_S_at hG) (kG_cl hG rfl) rfl hre9 rfl rfl rfl (Nat.le_of_ble_eq_true rfl) (Nat.le_of_ble_eq_true rfl) (jj_bare0 rfl) ?_
          refine r_at hG hR9 hs (by omega) (by omega) ?_
          show jj G kS_load (d + 5) Q rc rs 84 [some (.ref re), some (.ref mx), some (.ref ch), some (.int (nI (n))), some (.ref (wa w)), some (.int (nI (i))), some (.int (nI (j)))] [.ref (wa (rp s 16 1 i j)), .ref (wa (b + (16 * i + p j))), .ref re] M9
          refine jj_callV (pc := 84) (b := re) (As := [.ref (wa (b + (16 * i + p j))), .ref (wa (rp s 16 1 i j))]) kS_load_d84 (kvS_S_keep hG) (kG_cl hG rfl) rfl hre9 rfl rfl rfl (Nat.le_of_ble_eq_true rfl) (Nat.le_of_ble_eq_true rfl) (jj_bare0 rfl) ?_
          refine r_keep hG hK hS9 hJ hR9 (u := (b + (16 * i + p j))) (t := (rp s 16 1 i j)) (by omega) (by omega) (by omega) (by omega) (by omega) (by omega) lcl (by rw [v7]; exact hm0') (by rw [v7]; exact lm) (fun M8 V8 hS8 at8 ot8 hw8 => ?_)
          have hre8 := (hR9.ef hJ hw8).1
          show jj G kS_load (d + 5) Q rc rs 87 [some (.ref re), some (.ref mx), some (.ref ch), some (.int (nI (n))), some (.ref (wa w)), some (.int (nI (i))), some (.int (nI (j)))] [] M8
          refine jn_iinc (pc := 87) (j + 1) kS_load_d87 rfl (nI_1 _) ?_
          refine jj_goto (pc := 90) (tgt := 56) kS_load_d90 (by decide) ?_
          show jj G kS_load (d + 5) Q rc rs 56 [some (.ref re), some (.ref mx), some (.ref ch), some (.int (nI (n))), some (.ref (wa w)), some (.int (nI (i))), some (.int (nI (j + 1)))] [] M8
          rw [v7, vc] at at8
          refine ih2 (j + 1) (by omega) M8 V8 hS8 (f9.trans hw8) (fun i' j' h1 h2 => ?_) (fun q h1 h2 => ?_)
          · by_cases e : i' = i ∧ j' = j
            · rw [e.1, e.2]; exact at8
            · have hj9 := h2.1
              have := hsp.b hs (show i' < 16 by omega) (show j' < 16 by omega)
              rw [ot8 _ (by omega) (hsp.ne hs (by omega) (by omega) (by omega) (by omega) e)]
              rcases (thru_next (by omega)).1 h2 with h | h
              · exact e9 i' j' h1 h
              · exact absurd h e
          · rw [ot8 q (by omega) (h2 i j (by omega) ((thru_next (by omega)).2 (Or.inr ⟨rfl, rfl⟩)))]
            exact o9 q h1 (fun i' j' h3 h4 => h2 i' j' h3 ((thru_next (by omega)).2 (Or.inl h4)))
      exact inner n 0 (by omega) M9 V9 hS9 f9 e9 o9
  refine outer r 0 (by omega) _ M3 V3 hS3x (fun _ _ _ _ _ _ => rfl) (fun i' j' _ h => ?_) (fun _ _ _ => rfl)
  unfold thru at h
  omega
end S8
