/-! ===== ExactForms: turn, part (printed by wip/gen/rX5.py) ===== -/
/-- the draft was cleared or filled anew -/
theorem XO.draft {M M' : mheap} {wa la cap oa : Nat → Nat} {eu dv hi lo b r c : Nat} {sc : Int32} {R C : Nat → Nat} (h : XO M wa oa sc R C) (hJ : XJ wa la cap oa eu dv hi lo) (hm : MXT M' wa (oa 21) (oa 30) b r c) (hb : b = 2865) (hf : ∀ x, x ≠ oa 21 → (∀ p, p < 3122 → x ≠ wa p ∧ x ≠ la p) → M' x = M x) : ∃ R' C' : Nat → Nat, XO M' wa oa sc R' C' ∧ R' 8 = r ∧ C' 8 = c ∧ (∀ k, k < 8 → R' k = R k ∧ C' k = C k) ∧ XF oa M M' wa la eu dv hi lo := by
  rw [hb] at hm
  have h1 := h.mx (k := 8) (by omega) hm (fun i hi' hne => hf _ (hJ.ne hi' (by omega) hne) (hJ.2.2.1 i hi').1)
  exact ⟨_, _, h1, if_pos rfl, if_pos rfl, fun k hk => ⟨if_neg (by omega), if_neg (by omega)⟩, fun x hx f => hf x (fun e => hx ⟨21, by omega, e⟩) f.1⟩
theorem nsum_addf {f g : Nat → Nat} : ∀ {n : Nat}, nsum (fun i => f i + g i) n = nsum f n + nsum g n
  | 0 => rfl
  | n + 1 => by
    show nsum (fun i => f i + g i) n + (f n + g n) = nsum f n + f n + (nsum g n + g n)
    rw [nsum_addf]
    omega
theorem nsum_swap {f : Nat → Nat → Nat} {c : Nat} : ∀ {r : Nat}, nsum (fun i => nsum (fun j => f i j) c) r = nsum (fun j => nsum (fun i => f i j) r) c
  | 0 => by
    show 0 = _
    induction c with
    | zero => rfl
    | succ c ih => show 0 = nsum _ c + 0; rw [← ih]
  | r + 1 => by
    show nsum (fun i => nsum (fun j => f i j) c) r + nsum (fun j => f r j) c = _
    rw [nsum_swap, ← nsum_addf]
    rfl
theorem NRM.turn {V V' : Nat → Int} {b b' r c : Nat} {q : Nat → Rat} (h : NRM V b r c q) (h1 : V' (b' + 256) = V (b + 256)) (h2 : ∀ i j, i < r → j < c → V' (b' + (16 * j + i)) = V (b + (16 * i + j))) : NRM V' b' c r (fun t => q (t % r * c + t / r)) := by
  refine ⟨by rw [h1]; exact h.1, ⟨by rw [h1]; exact h.2.1.1, fun i j hi hj => ?_⟩, by decide, ⟨_, (Int.one_mul _).symm⟩, fun _ _ _ _ => ⟨_, (Int.one_mul _).symm⟩, fun x x1 x2 => h.2.2.2.2.2 x (by rw [← h1]; exact x1) (fun i' j' _ t => ?_)⟩
  · have e1 : (i * r + j) % r = j := by rw [Nat.mul_comm, Nat.mul_add_mod, Nat.mod_eq_of_lt hj]
    have e2 : (i * r + j) / r = i := by rw [Nat.mul_comm, Nat.mul_add_div (by omega), Nat.div_eq_of_lt hj, Nat.add_zero]
    dsimp only
    rw [h2 j i hj hi, h1, e1, e2]
    exact h.2.1.2 j i hj hi
  · unfold thru at t
    rw [← h2 i' j' (by omega) t.1]
    exact x2 j' i' (Nat.zero_le _) ⟨by omega, Or.inl t.1⟩
theorem FIT.turn {r c : Nat} {q : Nat → Rat} {V V' : Nat → Int} {b b' : Nat} (hf : FIT r c q) (h : NRM V b r c q) (h1 : V' (b' + 256) = V (b + 256)) (h2 : ∀ i j, i < r → j < c → V' (b' + (16 * j + i)) = V (b + (16 * i + j))) : FIT c r (fun t => q (t % r * c + t / r)) := by
  have hn := (h.fit hf.1 hf.2.1).1 hf
  refine ((h.turn h1 h2).fit hf.2.1 hf.1).2 (fun hl => hn ?_)
  rcases hl with hl | ⟨i, j, hi, hj, hl⟩ | hl
  · rw [h1] at hl; exact Or.inl hl
  · rw [h2 j i hj hi] at hl; exact Or.inr (Or.inl ⟨j, i, hj, hi, hl⟩)
  · refine Or.inr (Or.inr ?_)
    rw [h1, nsum_swap, nsum_cong (fun i hi => nsum_cong (fun j hj => show _ = lc (V (b + (16 * i + j))) by rw [h2 i j hi hj]))] at hl
    exact hl
section X5
variable {G : jg} {d : Nat} {Q : jq} {rc rs : Nat} {M : mheap} {wa la cap oa : Nat → Nat} {eu dv hi lo : Nat} {σ : rst}
theorem xp_turn {x y : Int32} (hG : kG G) (hJ : XJ wa la cap oa eu dv hi lo) (hT : XT M wa la cap oa eu dv hi lo σ) (hLG : LG σ) (hrc : 1 ≤ rc) (hrs : 6 ≤ rs) (kr : ∀ (M' : mheap)  (σ' : rst), semTurn σ x y 0 σ' → XT M' wa la cap oa eu dv hi lo σ' → XF oa M M' wa la eu dv hi lo → Q (.returned none) M' rc rs) (kt : ∀ (M' : mheap) (cd ci : Nat), semTurn σ x y cd σ → (cd = 1 ∧ ci = 4) → XT M' wa la cap oa eu dv hi lo σ → XF oa M M' wa la eu dv hi lo → ∀ x, M' x = none → Q (.threw x) (jj_up M' x (.inl ci, [])) (rc - 1) (rs - 6)) : jj G kX_turn (d + 9) Q rc rs 0 (jj_ent [.ref (oa 0), .int x, .int y] 6) [] M := by
  obtain ⟨V, sc, R, C, hS, hO, hV⟩ := id hT
  have hK := hJ.1
  have hI := hK.1
  have hx := hO.1
  show jj G kX_turn (d + 9) Q rc rs 0 [some (.ref (oa 0)), some (.int (x)), some (.int (y)), none, none, none] [] M
  refine jj_aload_n (pc := 0) kX_turn_d0 rfl ?_
  refine jj_iload_n (pc := 1) kX_turn_d1 rfl ?_
  refine jj_callV (pc := 2) (b := (oa 0)) (As := [.int (x)]) kX_turn_d2 (kvX_X_register hG) (kG_cl hG rfl) rfl hx rfl rfl rfl (Nat.le_of_ble_eq_true rfl) (Nat.le_of_ble_eq_true rfl) (jj_bare0 rfl) ?_
  refine x_register hG hO hrc hrs (fun n hn en => ?_) (fun h y hy => kt M 1 4 (Or.inl ⟨fun g => h g.1, rfl, rfl⟩) (by omega) hT (fun _ _ _ => rfl) y hy)
  subst en
  show jj G kX_turn (d + 9) Q rc rs 5 [some (.ref (oa 0)), some (.int (nI (n))), some (.int (y)), none, none, none] [.ref (oa (13 + n))] M
  refine jj_pop (pc := 5) kX_turn_d5 rfl ?_
  refine jj_aload_n (pc := 6) kX_turn_d6 rfl ?_
  refine jj_iload_n (pc := 7) kX_turn_d7 rfl ?_
  refine jj_callV (pc := 8) (b := (oa 0)) (As := [.int (y)]) kX_turn_d8 (kvX_X_register hG) (kG_cl hG rfl) rfl hx rfl rfl rfl (Nat.le_of_ble_eq_true rfl) (Nat.le_of_ble_eq_true rfl) (jj_bare0 rfl) ?_
  refine x_register hG hO hrc hrs (fun m hm em => ?_) (fun h y hy => kt M 1 4 (Or.inl ⟨fun g => h g.2, rfl, rfl⟩) (by omega) hT (fun _ _ _ => rfl) y hy)
  subst em
  show jj G kX_turn (d + 9) Q rc rs 11 [some (.ref (oa 0)), some (.int (nI (n))), some (.int (nI (m))), none, none, none] [.ref (oa (13 + m))] M
  obtain ⟨erm, ecm, s1m, s2m, s3m, s4m, hNm⟩ := hV.1 m hm
  obtain ⟨bm, ebm⟩ : ∃ b, b = 809 + 257 * m := ⟨_, rfl⟩
  have hMm := hO.2.2.2.2.2.2.2 m (by omega)
  rw [← ebm] at hMm hNm
  have hmm := hMm.1
  obtain ⟨rr, err⟩ : ∃ r, R m = r := ⟨_, rfl⟩
  obtain ⟨cc, ecc⟩ : ∃ c, C m = c := ⟨_, rfl⟩
  rw [err] at erm s1m s2m
  rw [ecc] at ecm s3m s4m
  rw [err, ecc] at hMm hmm hNm
  obtain ⟨bd, ebd⟩ : ∃ b, b = 2865 := ⟨_, rfl⟩
  have hMd := hO.dr ebd
  have hmd := hMd.1
  show jj G kX_turn (d + 9) Q rc rs 11 [some (.ref (oa 0)), some (.int (nI (n))), some (.int (nI (m))), none, none, none] [.ref (oa (13 + m))] M
  refine jj_astore_n (pc := 11) kX_turn_d11 (Nat.le_of_ble_eq_true rfl) ?_
  show jj G kX_turn (d + 9) Q rc rs 12 [some (.ref (oa 0)), some (.int (nI (n))), some (.int (nI (m))), some (.ref (oa (13 + m))), none, none] [] M
  refine jj_aload_n (pc := 12) kX_turn_d12 rfl ?_
  refine jj_getf (pc := 13) kX_turn_d13 (kfX_draft hG) hx rfl ?_
  refine jj_aload_n (pc := 16) kX_turn_d16 rfl ?_
  refine jj_getf (pc := 17) kX_turn_d17 (kfX_M_columns hG) hmm rfl ?_
  refine jj_aload_n (pc := 20) kX_turn_d20 rfl ?_
  refine jj_getf (pc := 21) kX_turn_d21 (kfX_M_rows hG) hmm rfl ?_
  refine jj_callV (pc := 24) (b := (oa 21)) (As := [.int (nI (cc)), .int (nI (rr))]) kX_turn_d24 (kvX_M_clear hG) (kG_cl hG rfl) rfl hmd rfl rfl rfl (Nat.le_of_ble_eq_true rfl) (Nat.le_of_ble_eq_true rfl) (jj_bare0 rfl) ?_
  refine m_clear hG hK hS hMd (by omega) (by omega) (by have := (hJ.capw (p := bd + 256) (by omega) (by omega)).2; exact this) s4m s2m (fun M1 V1 hS1 hM1 v1 v0 vo f1 => ?_)
  obtain ⟨R1, C1, hO1, e8, f8, rk1, hF1⟩ := hO.draft hJ hM1 ebd f1
  have hx1 := hO1.1
  have hMd1 := hO1.dr ebd
  rw [e8, f8] at hMd1
  have hmd1 := hMd1.1
  have hMm1 := hO1.2.2.2.2.2.2.2 m (by omega)
  rw [← ebm, (rk1 m hm).1, (rk1 m hm).2, err, ecc] at hMm1
  have hmm1 := hMm1.1
  obtain ⟨T1, t1, hT1, _, _⟩ := hS1.1 (bd + 256) (by omega)
  show jj G kX_turn (d + 9) Q rc rs 27 [some (.ref (oa 0)), some (.int (nI (n))), some (.int (nI (m))), some (.ref (oa (13 + m))), none, none] [] M1
  refine jj_aload_n (pc := 27) kX_turn_d27 rfl ?_
  refine jj_getf (pc := 28) kX_turn_d28 (kfX_draft hG) hx1 rfl ?_
  refine jj_getf (pc := 31) kX_turn_d31 (kfX_M_common hG) hmd1 rfl ?_
  refine jj_aload_n (pc := 34) kX_turn_d34 rfl ?_
  refine jj_getf (pc := 35) kX_turn_d35 (kfX_M_common hG) hmm1 rfl ?_
  have lcm1 : ∀ p, bm ≤ p → p ≤ bm + 256 → (V1 p).natAbs < BB ^ 125 := fun p _ _ => by
    have := hS1.1.wide (p := p) (by omega)
    rw [hJ.cap125 (by omega) (by omega)] at this
    exact this
  have up : ∀ z : Nat, z < BB ^ 125 → z < BB ^ 252 := fun z h => Nat.lt_of_lt_of_le h (Nat.pow_le_pow_right (by decide) (by omega))
  refine jj_callV (pc := 38) (b := (wa (bd + 256))) (As := [.ref (wa (bm + 256))]) kX_turn_d38 (kvX_W_copy hG) (kG_cl hG rfl) rfl hT1 rfl rfl rfl (Nat.le_of_ble_eq_true rfl) (Nat.le_of_ble_eq_true rfl) (jj_bare0 rfl) ?_
  refine w_copy hG hI hS1.1 (t := bd + 256) (u := bm + 256) (by omega) (by omega) (by rw [hJ.cap252 (by omega) (by omega)]; exact up _ (lcm1 _ (by omega) (by omega))) (fun M2 hc2 hw2 => ?_)
  have hS2x := hS1.wt hK (by omega) hw2 hc2
  have hw2e : EF M1 M2 wa la 3122 eu dv hi lo := hw2.ef (by omega)
  have hO2 := hO1.ef hJ hw2e
  have hF2 := hF1.trans (hw2e.efx (X := XAD oa))
  obtain ⟨Vb, eVb⟩ : ∃ W, vup V1 (bd + 256) (V1 (bm + 256)) = W := ⟨_, rfl⟩
  have hS2 : KS M2 wa la cap 3122 eu dv hi lo (oa 3) Vb := by rw [← eVb]; exact hS2x
  have vb0 : Vb (bd + 256) = V (bm + 256) := by rw [← eVb, vup_at]; exact vo _ (by omega)
  have vb1 : ∀ p, p < bd → Vb p = V p := fun p hp => by rw [← eVb, vup_ne _ _ (by omega)]; exact vo _ (Or.inl hp)
  have hx2 := hO2.1
  have hmd2 := (hO2.dr ebd).1
  rw [e8, f8] at hmd2
  have hmm2 := (hO2.2.2.2.2.2.2.2 m (by omega)).1
  rw [← ebm, (rk1 m hm).1, (rk1 m hm).2, err, ecc] at hmm2
  show jj G kX_turn (d + 9) Q rc rs 41 [some (.ref (oa 0)), some (.int (nI (n))), some (.int (nI (m))), some (.ref (oa (13 + m))), none, none] [] M2
  refine jn_iconst (pc := 41) 0 kX_turn_d41 (by decide) ?_
  refine jj_istore (pc := 42) kX_turn_d42 (Nat.le_of_ble_eq_true rfl) ?_
  show jj G kX_turn (d + 9) Q rc rs 44 [some (.ref (oa 0)), some (.int (nI (n))), some (.int (nI (m))), some (.ref (oa (13 + m))), some (.int (nI (0))), none] [] M2
  show jj G kX_turn (d + 9) Q rc rs 44 [some (.ref (oa 0)), some (.int (nI (n))), some (.int (nI (m))), some (.ref (oa (13 + m))), some (.int (nI (0))), none] [] M2
  have fin : ∀ (oj : Option Value) (M9 : mheap) (V9 : Nat → Int), KS M9 wa la cap 3122 eu dv hi lo (oa 3) V9 → EF M2 M9 wa la 3122 eu dv hi lo → (∀ p, 10 ≤ p → (∀ i' j', i' < rr → j' < cc → p ≠ (bd + (16 * j' + i'))) → V9 p = Vb p) → (∀ i' j', i' < rr → j' < cc → V9 (bd + (16 * j' + i')) = Vb (bm + (16 * i' + j'))) → jj G kX_turn (d + 9) Q rc rs 99 [some (.ref (oa 0)), some (.int (nI (n))), some (.int (nI (m))), some (.ref (oa (13 + m))), some (.int (nI (rr))), (oj)] [] M9 := by
    intro oj M9 V9 hS9 f9 o9 v9
    have hO9 := hO2.ef hJ f9
    have hx9 := hO9.1
    have hMd9 := hO9.dr ebd
    rw [e8, f8] at hMd9
    have hmd9 := hMd9.1
    have hMm9 := hO9.2.2.2.2.2.2.2 m (by omega)
    rw [← ebm, (rk1 m hm).1, (rk1 m hm).2, err, ecc] at hMm9
    have hmm9 := hMm9.1
    have ov9 : ∀ p, 13 ≤ p → p < 2865 → V9 p = V p := fun p p1 p2 => by rw [o9 p (by omega) (fun i' j' h1 h2 => by omega)]; exact vb1 p (by omega)
    have hF9 := hF2.trans (f9.efx (X := XAD oa))
    have c9 : V9 (bd + 256) = V (bm + 256) := by rw [o9 _ (by omega) (fun i' j' h1 h2 => by omega)]; exact vb0
    have k9 : ∀ i j, i < rr → j < cc → V9 (bd + (16 * j + i)) = V (bm + (16 * i + j)) := fun i j hi' hj' => by rw [v9 i j hi' hj']; exact vb1 _ (by omega)
    have hNd := hNm.turn c9 k9
    have hLf := hLG m hm
    rw [← erm, ← ecm] at hLf
    have hft := hLf.2.2.turn hNm c9 k9
    have hx9 := hO9.1
    show jj G kX_turn (d + 9) Q rc rs 99 [some (.ref (oa 0)), some (.int (nI (n))), some (.int (nI (m))), some (.ref (oa (13 + m))), some (.int (nI (rr))), (oj)] [] M9
    refine jj_aload_n (pc := 99) kX_turn_d99 rfl ?_
    refine jj_iload_n (pc := 100) kX_turn_d100 rfl ?_
    refine jj_callV (pc := 101) (b := (oa 0)) (As := [.int (nI (n))]) kX_turn_d101 (kvX_X_keepDraft hG) (kG_cl hG rfl) rfl hx9 rfl rfl rfl (Nat.le_of_ble_eq_true rfl) (Nat.le_of_ble_eq_true rfl) (jj_bare0 rfl) ?_
    refine x_keepDraft hG hJ hS9 hO9 (q := (fun t => σ.2.2 m (t % rr * cc + t / rr))) (by omega) (by omega) (by omega) (by omega) hn (by rw [e8, f8, ← ebd]; exact hNd) hrc hrs (fun Mb Vb hfit hSb hOb hNb vb hFb => ?_) (fun hnf y hy => absurd (by rw [e8, f8]; exact hft) hnf)
    rw [e8, f8] at hfit hNb
    show jj G kX_turn (d + 9) Q rc rs 104 [some (.ref (oa 0)), some (.int (nI (n))), some (.int (nI (m))), some (.ref (oa (13 + m))), some (.int (nI (rr))), (oj)] [] Mb
    exact jj_vret (pc := 104) kX_turn_d104 rfl (kr Mb _ (Or.inr ⟨n, m, hn, rfl, hm, rfl, Or.inl ⟨by rw [← erm, ← ecm]; exact hfit, rfl, by rw [← erm, ← ecm]⟩⟩) ⟨Vb, -1, _, _, hSb, hOb, hV.put (n := n) (r := cc) (c := rr) (q := (fun t => σ.2.2 m (t % rr * cc + t / rr))) hn (fun p _ _ p3 => by rw [vb p (by omega) p3]; exact ov9 p (by omega) (by omega)) (fun k hk => by show (if k = n then R1 8 else R1 k) = _; rw [e8, (rk1 k hk).1]) (fun k hk => by show (if k = n then C1 8 else C1 k) = _; rw [f8, (rk1 k hk).2]) (by omega) (by omega) (by omega) (by omega) hNb⟩ (hF9.trans hFb))
  have outer : ∀ mu i, rr = i + mu → ∀ (oj : Option Value) (M9 : mheap) (V9 : Nat → Int), KS M9 wa la cap 3122 eu dv hi lo (oa 3) V9 → EF M2 M9 wa la 3122 eu dv hi lo → (∀ p, 10 ≤ p → (∀ i' j', i' < rr → j' < cc → p ≠ (bd + (16 * j' + i'))) → V9 p = Vb p) → (∀ i' j', i' < rr → j' < cc → ¬ thru cc i 0 i' j' → V9 (bd + (16 * j' + i')) = Vb (bd + (16 * j' + i'))) → (∀ i' j', i' < rr → thru cc i 0 i' j' → V9 (bd + (16 * j' + i')) = Vb (bm + (16 * i' + j'))) → jj G kX_turn (d + 9) Q rc rs 44 [some (.ref (oa 0)), some (.int (nI (n))), some (.int (nI (m))), some (.ref (oa (13 + m))), some (.int (nI (i))), (oj)] [] M9 := by
    intro mu
    induction mu with
    | zero =>
      intro i hk oj M9 V9 hS9 f9 o9 u9 v9
      have e9 : rr = i := by omega
      subst e9
      have hO9 := hO2.ef hJ f9
      have hx9 := hO9.1
      have hMd9 := hO9.dr ebd
      rw [e8, f8] at hMd9
      have hmd9 := hMd9.1
      have hMm9 := hO9.2.2.2.2.2.2.2 m (by omega)
      rw [← ebm, (rk1 m hm).1, (rk1 m hm).2, err, ecc] at hMm9
      have hmm9 := hMm9.1
      refine jj_iload (pc := 44) kX_turn_d44 rfl ?_
      refine jj_aload_n (pc := 46) kX_turn_d46 rfl ?_
      refine jj_getf (pc := 47) kX_turn_d47 (kfX_M_rows hG) hmm9 rfl ?_
      refine jn_icmp_ge (pc := 50) (tgt := 99) kX_turn_d50 (by decide) (by omega) (by omega) (fun _ => ?_) (fun c => by exfalso; omega)
      show jj G kX_turn (d + 9) Q rc rs 99 [some (.ref (oa 0)), some (.int (nI (n))), some (.int (nI (m))), some (.ref (oa (13 + m))), some (.int (nI (rr))), (oj)] [] M9
      exact fin _ M9 V9 hS9 f9 o9 (fun i j hi' hj' => v9 i j hi' ⟨hj', Or.inl hi'⟩)
    | succ mu ih =>
      intro i hk oj M9 V9 hS9 f9 o9 u9 v9
      have hO9 := hO2.ef hJ f9
      have hx9 := hO9.1
      have hMd9 := hO9.dr ebd
      rw [e8, f8] at hMd9
      have hmd9 := hMd9.1
      have hMm9 := hO9.2.2.2.2.2.2.2 m (by omega)
      rw [← ebm, (rk1 m hm).1, (rk1 m hm).2, err, ecc] at hMm9
      have hmm9 := hMm9.1
      refine jj_iload (pc := 44) kX_turn_d44 rfl ?_
      refine jj_aload_n (pc := 46) kX_turn_d46 rfl ?_
      refine jj_getf (pc := 47) kX_turn_d47 (kfX_M_rows hG) hmm9 rfl ?_
      refine jn_icmp_ge (pc := 50) (tgt := 99) kX_turn_d50 (by decide) (by omega) (by omega) (fun c => by exfalso; omega) (fun _ => ?_)
      refine jn_iconst (pc := 53) 0 kX_turn_d53 (by decide) ?_
      refine jj_istore (pc := 54) kX_turn_d54 (Nat.le_of_ble_eq_true rfl) ?_
      show jj G kX_turn (d + 9) Q rc rs 56 [some (.ref (oa 0)), some (.int (nI (n))), some (.int (nI (m))), some (.ref (oa (13 + m))), some (.int (nI (i))), some (.int (nI (0)))] [] M9
      show jj G kX_turn (d + 9) Q rc rs 56 [some (.ref (oa 0)), some (.int (nI (n))), some (.int (nI (m))), some (.ref (oa (13 + m))), some (.int (nI (i))), some (.int (nI (0)))] [] M9
      have inner : ∀ mu2 j, cc = j + mu2 → ∀ (M9 : mheap) (V9 : Nat → Int), KS M9 wa la cap 3122 eu dv hi lo (oa 3) V9 → EF M2 M9 wa la 3122 eu dv hi lo → (∀ p, 10 ≤ p → (∀ i' j', i' < rr → j' < cc → p ≠ (bd + (16 * j' + i'))) → V9 p = Vb p) → (∀ i' j', i' < rr → j' < cc → ¬ thru cc i j i' j' → V9 (bd + (16 * j' + i')) = Vb (bd + (16 * j' + i'))) → (∀ i' j', i' < rr → thru cc i j i' j' → V9 (bd + (16 * j' + i')) = Vb (bm + (16 * i' + j'))) → jj G kX_turn (d + 9) Q rc rs 56 [some (.ref (oa 0)), some (.int (nI (n))), some (.int (nI (m))), some (.ref (oa (13 + m))), some (.int (nI (i))), some (.int (nI (j)))] [] M9 := by
        intro mu2
        induction mu2 with
        | zero =>
          intro j hk2 M9 V9 hS9 f9 o9 u9 v9
          have e9 : cc = j := by omega
          subst e9
          have hO9 := hO2.ef hJ f9
          have hx9 := hO9.1
          have hMd9 := hO9.dr ebd
          rw [e8, f8] at hMd9
          have hmd9 := hMd9.1
          have hMm9 := hO9.2.2.2.2.2.2.2 m (by omega)
          rw [← ebm, (rk1 m hm).1, (rk1 m hm).2, err, ecc] at hMm9
          have hmm9 := hMm9.1
          refine jj_iload (pc := 56) kX_turn_d56 rfl ?_
          refine jj_aload_n (pc := 58) kX_turn_d58 rfl ?_
          refine jj_getf (pc := 59) kX_turn_d59 (kfX_M_columns hG) hmm9 rfl ?_
          refine jn_icmp_ge (pc := 62) (tgt := 93) kX_turn_d62 (by decide) (by omega) (by omega) (fun _ => ?_) (fun c => by exfalso; omega)
          refine jn_iinc (pc := 93) (i + 1) kX_turn_d93 rfl (nI_1 _) ?_
          refine jj_goto (pc := 96) (tgt := 44) kX_turn_d96 (by decide) ?_
          show jj G kX_turn (d + 9) Q rc rs 44 [some (.ref (oa 0)), some (.int (nI (n))), some (.int (nI (m))), some (.ref (oa (13 + m))), some (.int (nI (i + 1))), some (.int (nI (cc)))] [] M9
          exact ih (i + 1) (by omega) _ M9 V9 hS9 f9 o9 (fun i' j' h1 h2 h3 => u9 i' j' h1 h2 (fun h => h3 (thru_row.1 h))) (fun i' j' h1 h2 => v9 i' j' h1 (thru_row.2 h2))
        | succ mu2 ih2 =>
          intro j hk2 M9 V9 hS9 f9 o9 u9 v9
          have hO9 := hO2.ef hJ f9
          have old9 : V9 (bd + (16 * j + i)) = Vb (bd + (16 * j + i)) := u9 i j (by omega) (by omega) (fun h => by unfold thru at h; omega)
          have hx9 := hO9.1
          have hMd9 := hO9.dr ebd
          rw [e8, f8] at hMd9
          have hmd9 := hMd9.1
          have hMm9 := hO9.2.2.2.2.2.2.2 m (by omega)
          rw [← ebm, (rk1 m hm).1, (rk1 m hm).2, err, ecc] at hMm9
          have hmm9 := hMm9.1
          refine jj_iload (pc := 56) kX_turn_d56 rfl ?_
          refine jj_aload_n (pc := 58) kX_turn_d58 rfl ?_
          refine jj_getf (pc := 59) kX_turn_d59 (kfX_M_columns hG) hmm9 rfl ?_
          refine jn_icmp_ge (pc := 62) (tgt := 93) kX_turn_d62 (by decide) (by omega) (by omega) (fun c => by exfalso; omega) (fun _ => ?_)
          refine jj_aload_n (pc := 65) kX_turn_d65 rfl ?_
          refine jj_getf (pc := 66) kX_turn_d66 (kfX_draft hG) hx9 rfl ?_
          refine jj_iload (pc := 69) kX_turn_d69 rfl ?_
          refine jj_iload (pc := 71) kX_turn_d71 rfl ?_
          refine jj_callV (pc := 73) (b := (oa 21)) (As := [.int (nI (j)), .int (nI (i))]) kX_turn_d73 (kvX_M_at hG) (kG_cl hG rfl) rfl hmd9 rfl rfl rfl (Nat.le_of_ble_eq_true rfl) (Nat.le_of_ble_eq_true rfl) (jj_bare0 rfl) ?_
          refine m_at hG hMd9 (by omega) (by omega) ?_
          show jj G kX_turn (d + 9) Q rc rs 76 [some (.ref (oa 0)), some (.int (nI (n))), some (.int (nI (m))), some (.ref (oa (13 + m))), some (.int (nI (i))), some (.int (nI (j)))] [.ref (wa (bd + (16 * j + i)))] M9
          refine jj_aload_n (pc := 76) kX_turn_d76 rfl ?_
          refine jj_iload (pc := 77) kX_turn_d77 rfl ?_
          refine jj_iload (pc := 79) kX_turn_d79 rfl ?_
          refine jj_callV (pc := 81) (b := (oa (13 + m))) (As := [.int (nI (i)), .int (nI (j))]) kX_turn_d81 (kvX_M_at hG) (kG_cl hG rfl) rfl hmm9 rfl rfl rfl (Nat.le_of_ble_eq_true rfl) (Nat.le_of_ble_eq_true rfl) (jj_bare0 rfl) ?_
          refine m_at hG hMm9 (by omega) (by omega) ?_
          show jj G kX_turn (d + 9) Q rc rs 84 [some (.ref (oa 0)), some (.int (nI (n))), some (.int (nI (m))), some (.ref (oa (13 + m))), some (.int (nI (i))), some (.int (nI (j)))] [.ref (wa (bm + (16 * i + j))), .ref (wa (bd + (16 * j + i)))] M9
          obtain ⟨T9, t9, hT9, _, _⟩ := hS9.1 (bd + (16 * j + i)) (by omega)
          have vs : V9 (bm + (16 * i + j)) = Vb (bm + (16 * i + j)) := o9 _ (by omega) (fun i' j' h1 h2 => by omega)
          refine jj_callV (pc := 84) (b := (wa (bd + (16 * j + i)))) (As := [.ref (wa (bm + (16 * i + j)))]) kX_turn_d84 (kvX_W_copy hG) (kG_cl hG rfl) rfl hT9 rfl rfl rfl (Nat.le_of_ble_eq_true rfl) (Nat.le_of_ble_eq_true rfl) (jj_bare0 rfl) ?_
          refine w_copy hG hI hS9.1 (t := (bd + (16 * j + i))) (u := (bm + (16 * i + j))) (by omega) (by omega) (by rw [hJ.cap252 (by omega) (by omega), vs, vb1 _ (by omega), ← vo _ (Or.inl (by omega))]; exact up _ (lcm1 _ (by omega) (by omega))) (fun M8 hc8 hw8 => ?_)
          show jj G kX_turn (d + 9) Q rc rs 87 [some (.ref (oa 0)), some (.int (nI (n))), some (.int (nI (m))), some (.ref (oa (13 + m))), some (.int (nI (i))), some (.int (nI (j)))] [] M8
          have hat : vup V9 (bd + (16 * j + i)) (V9 (bm + (16 * i + j))) (bd + (16 * j + i)) = Vb (bm + (16 * i + j)) := by rw [vup_at, vs]
          have hot : ∀ p, 10 ≤ p → p ≠ (bd + (16 * j + i)) → vup V9 (bd + (16 * j + i)) (V9 (bm + (16 * i + j))) p = V9 p := fun p _ h => vup_ne _ _ h
          refine jn_iinc (pc := 87) (j + 1) kX_turn_d87 rfl (nI_1 _) ?_
          refine jj_goto (pc := 90) (tgt := 56) kX_turn_d90 (by decide) ?_
          show jj G kX_turn (d + 9) Q rc rs 56 [some (.ref (oa 0)), some (.int (nI (n))), some (.int (nI (m))), some (.ref (oa (13 + m))), some (.int (nI (i))), some (.int (nI (j + 1)))] [] M8
          refine ih2 (j + 1) (by omega) M8 _ (hS9.wt hK (by omega) hw8 hc8) (f9.trans (hw8.ef (by omega))) (fun p p1 p2 => ?_) (fun i' j' h1 h2 h3 => ?_) (fun i' j' h1 h2 => ?_)
          · rw [hot p p1 (p2 i j (by omega) (by omega))]
            exact o9 p p1 p2
          · have hne : ¬ (i' = i ∧ j' = j) := fun e => h3 ((thru_next (by omega)).2 (Or.inr e))
            rw [hot _ (by omega) (by omega)]
            exact u9 i' j' h1 h2 (fun h => h3 ((thru_next (by omega)).2 (Or.inl h)))
          · by_cases e : i' = i ∧ j' = j
            · rw [e.1, e.2]; exact hat
            · have hj9 := h2.1
              rw [hot _ (by omega) (by omega)]
              rcases (thru_next (by omega)).1 h2 with h | h
              · exact v9 i' j' h1 h
              · exact absurd h e
      exact inner cc 0 (by omega) M9 V9 hS9 f9 o9 u9 v9
  refine outer rr 0 (by omega) _ M2 Vb hS2 (fun _ _ _ _ _ _ => rfl) (fun _ _ _ => rfl) (fun _ _ _ _ _ => rfl) (fun i' j' _ h => ?_)
  unfold thru at h
  omega
end X5
