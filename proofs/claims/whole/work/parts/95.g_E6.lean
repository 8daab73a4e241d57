/-! ===== Elimination: eliminate, the whole of it (printed by wip/gen/rE6.py) ===== -/
/-- the arrays of the pivots: their columns, and which columns before c have one -/
def PIV (P B : List Int32) (p : Nat → Nat) (rk c : Nat) : Prop := (∀ i, i < rk → P.getD i 0 = nI (p i)) ∧ (∀ i, i < rk → B.getD (p i) 0 = nI 1) ∧ ∀ x, x < c → (∀ i, i < rk → p i ≠ x) → B.getD x 0 = nI 0
theorem PIV.next {P B : List Int32} {p : Nat → Nat} {rk c : Nat} (h : PIV P B p rk c) (hp : ∀ i, i < rk → p i < c) (hB : c < B.length) : PIV P (B.set c (nI 0)) p rk (c + 1) := by
  refine ⟨h.1, fun i hi => ?_, fun x hx hn => ?_⟩
  · rw [gd_set_ne (by have := hp i hi; omega)]; exact h.2.1 i hi
  · by_cases e : x = c
    · rw [e, gd_set_eq hB]
    · rw [gd_set_ne (by omega)]; exact h.2.2 x (by omega) hn
theorem PIV.more {P B : List Int32} {p : Nat → Nat} {rk c : Nat} (h : PIV P B p rk (c + 1)) (hp : ∀ i, i < rk → p i < c) (hP : rk < P.length) (hB : c < B.length) : PIV (P.set rk (nI c)) (B.set c (nI 1)) (fun l => if l = rk then c else p l) (rk + 1) (c + 1) := by
  refine ⟨fun i hi => ?_, fun i hi => ?_, fun x hx hn => ?_⟩
  · dsimp only
    by_cases e : i = rk
    · rw [if_pos e, e, gd_set_eq hP]
    · rw [if_neg e, gd_set_ne (by omega)]; exact h.1 i (by omega)
  · dsimp only
    by_cases e : i = rk
    · rw [if_pos e, gd_set_eq hB]
    · rw [if_neg e, gd_set_ne (by have := hp i (by omega); omega)]; exact h.2.1 i (by omega)
  · have h1 := hn rk (by omega)
    dsimp only at h1
    rw [if_pos rfl] at h1
    rw [gd_set_ne h1]
    refine h.2.2 x hx (fun i hi => ?_)
    have h2 := hn i (by omega)
    dsimp only at h2
    rw [if_neg (by omega)] at h2
    exact h2
theorem lc_w {z : Int} {n : Nat} (h : z.natAbs ≤ n) (hn : n ≤ 2 ^ 2000) : lc z ≤ 63 := by
  refine lc_le (Nat.lt_of_le_of_lt (Nat.le_trans h hn) ?_)
  rw [show BB = 2 ^ 32 from rfl, ← Nat.pow_mul]
  exact Nat.pow_lt_pow_right (by omega) (by omega)
theorem pow_w {K b n : Nat} (h1 : 1 ≤ K) (hb : 1 ≤ b) (hn : n ≤ K) (h : (K * b) ^ K ≤ 2 ^ 2000) : (K * b) ^ n ≤ 2 ^ 2000 := Nat.le_trans (Nat.pow_le_pow_right (Nat.mul_pos h1 hb) hn) h
theorem BAR.rkc {Az Z : imat} {m w c rk sw : Nat} {p : Nat → Nat} {L : Int} {A B E : qmat} (h : BAR Az Z m w c rk sw p L A B E) : rk ≤ c := by
  obtain ⟨_, h2, h3, _⟩ := h.2.1
  have : ∀ i, i < rk → i ≤ p i := by
    intro i
    induction i with
    | zero => intro _; omega
    | succ i ih => intro hi; have := ih (by omega); have := h3 i (i + 1) (by omega) hi; omega
  by_cases e : rk = 0
  · omega
  · have a := this (rk - 1) (by omega)
    have b := h2 (rk - 1) (by omega)
    omega
section E6
variable {G : jg} {d : Nat} {Q : jq} {rc rs : Nat} {M : mheap} {wa la cap : Nat → Nat} {N eu dv hi lo dk el ra pa ia ga rk sw m w : Nat} {P B : List Int32} {g : Nat → Nat} {V : Nat → Int}
theorem e_eliminate {lm : Nat} (hG : kG G) (hK : KJI wa la cap N hi lo) (hS : KS M wa la cap N eu dv hi lo dk V) (hJ : LJ wa la cap N eu dv hi lo dk el ra pa ia ga) (hL : ELT M wa el ra pa ia ga dk rk sw m w P B g) {b : Nat} (hb1 : 1 ≤ b) (hAz : ∀ x, x < m → ∀ y, y < w → (gz V g x y).natAbs ≤ b) (hwt : (min m w * b) ^ min m w ≤ 2 ^ 2000) (h1m : 1 ≤ m) (hm : m ≤ 16) (h1w : 1 ≤ w) (hw : w ≤ 32) (hlm : lm ≤ w) (k : ∀ (M' : mheap) (V' : Nat → Int) (rk' sw' : Nat) (P' B' : List Int32) (g' p : Nat → Nat) (A Bq E : qmat), KS M' wa la cap N eu dv hi lo dk V' → ELT M' wa el ra pa ia ga dk rk' sw' m w P' B' g' → EFX (fun x => x = el ∨ x = pa ∨ x = ia ∨ x = ga) M M' wa la N eu dv hi lo → (∀ q, 13 ≤ q → q ≠ 33 → q < 35 ∨ 547 ≤ q → V' q = V q) → BAR (gz V g) (gz V' g') m w lm rk' sw' p (V' 33) A Bq E → PIV P' B' p rk' w → Q (.returned none) M' rc rs) : jj G kE_eliminate (d + 6) Q rc rs 0 (jj_ent [.ref el, .int (nI lm)] 4) [] M := by
  obtain ⟨h547, c17, c33, c34, c64, f1, f2, f3, f4, f5, n1, n2, n3, n4, n5⟩ := id hJ
  have hI := hK.1
  have hl0 := hL.1
  show jj G kE_eliminate (d + 6) Q rc rs 0 [some (.ref el), some (.int (nI (lm))), none, none] [] M
  refine jj_aload_n (pc := 0) kE_eliminate_d0 rfl ?_
  refine jn_iconst (pc := 1) 0 kE_eliminate_d1 (by decide) ?_
  refine jj_putf (pc := 2) kE_eliminate_d2 (kpE_rank hG) hl0 (by rfl) rfl ?_
  refine jn_gen (fun M101 hM102 => ?_)
  have h103 : M101 el = some (.inl nE, [.ref ra, .ref pa, .ref ia, .ref (wa 33), .int (nI (0)), .int (nI (sw)), .int (nI (m)), .int (nI (w)), .ref ga, .ref (wa 34), .ref dk]) := by rw [hM102]; exact jj_up_at _ _ _
  refine jj_aload_n (pc := 5) kE_eliminate_d5 rfl ?_
  refine jn_iconst (pc := 6) 0 kE_eliminate_d6 (by decide) ?_
  refine jj_putf (pc := 7) kE_eliminate_d7 (kpE_swapped hG) h103 (by decide) rfl ?_
  refine jn_gen (fun M104 hM105 => ?_)
  have h106 : M104 el = some (.inl nE, [.ref ra, .ref pa, .ref ia, .ref (wa 33), .int (nI (0)), .int (nI (0)), .int (nI (m)), .int (nI (w)), .ref ga, .ref (wa 34), .ref dk]) := by rw [hM105]; exact jj_up_at _ _ _
  have hu0 : ∀ x, x ≠ el → M104 x = M x := fun x hx => by rw [hM105, jj_up_ne _ _ hx, hM102, jj_up_ne _ _ hx]
  have hS1 := hS.up f1 n2 hu0
  have hL1 := hL.upo hu0 h106
  obtain ⟨T3, t3, hT3, _, _⟩ := hS1.1 33 (by omega)
  refine jj_aload_n (pc := 10) kE_eliminate_d10 rfl ?_
  refine jj_getf (pc := 11) kE_eliminate_d11 (kfE_last hG) h106 rfl ?_
  refine jj_callV (pc := 14) (b := (wa 33)) (As := []) kE_eliminate_d14 (kvE_W_putOne hG) (kG_cl hG rfl) rfl hT3 rfl rfl rfl (Nat.le_of_ble_eq_true rfl) (Nat.le_of_ble_eq_true rfl) (jj_bare0 rfl) ?_
  refine w_putOne hG hI hS1.1 (t := 33) (by omega) (by omega) (fun M2 hc2 hw2 => ?_)
  have hS2 := hS1.wt hK (by omega) hw2 hc2
  have hL2 := hL1.ef hJ (hw2.ef (by omega))
  have hF2 : EFX (fun x => x = el ∨ x = pa ∨ x = ia ∨ x = ga) M M2 wa la N eu dv hi lo := EFX.trans (EFX.up hu0 (Or.inl rfl)) ((hw2.ef (by omega)).efx)
  have hV2 : ∀ q, q ≠ 33 → vup V 33 1 q = V q := fun q hq => vup_ne _ _ hq
  have hV3 : vup V 33 1 33 = 1 := vup_at _ _ _
  obtain ⟨V2, eV2⟩ : ∃ W, vup V 33 1 = W := ⟨_, rfl⟩
  rw [eV2] at hS2 hV2 hV3
  have hl2 := hL2.1
  show jj G kE_eliminate (d + 6) Q rc rs 17 [some (.ref el), some (.int (nI (lm))), none, none] [] M2
  refine jn_iconst (pc := 17) 0 kE_eliminate_d17 (by decide) ?_
  refine jj_istore_n (pc := 18) kE_eliminate_d18 (Nat.le_of_ble_eq_true rfl) ?_
  show jj G kE_eliminate (d + 6) Q rc rs 19 [some (.ref el), some (.int (nI (lm))), some (.int (nI (0))), none] [] M2
  show jj G kE_eliminate (d + 6) Q rc rs 19 [some (.ref el), some (.int (nI (lm))), some (.int (nI (0))), none] [] M2
  have loop : ∀ mu c, w = c + mu → ∀ (o3 : Option Value) (M9 : mheap) (V9 : Nat → Int) (rk sw : Nat) (P B : List Int32) (g9 p : Nat → Nat) (A Bq E : qmat), KS M9 wa la cap N eu dv hi lo dk V9 → ELT M9 wa el ra pa ia ga dk rk sw m w P B g9 → EFX (fun x => x = el ∨ x = pa ∨ x = ia ∨ x = ga) M M9 wa la N eu dv hi lo → (∀ q, 13 ≤ q → q ≠ 33 → q < 35 ∨ 547 ≤ q → V9 q = V q) → BAR (gz V g) (gz V9 g9) m w (min c lm) rk sw p (V9 33) A Bq E → PIV P B p rk c → jj G kE_eliminate (d + 6) Q rc rs 19 [some (.ref el), some (.int (nI (lm))), some (.int (nI (c))), (o3)] [] M9 := by
    intro mu
    induction mu with
    | zero =>
      intro c hk o3 M9 V9 rk sw P B g9 p A Bq E hS9 hL9 f9 o9 hB9 hP9
      have ec : w = c := by omega
      subst ec
      have hl9 := hL9.1
      refine jj_iload_n (pc := 19) kE_eliminate_d19 rfl ?_
      refine jj_aload_n (pc := 20) kE_eliminate_d20 rfl ?_
      refine jj_getf (pc := 21) kE_eliminate_d21 (kfE_width hG) hl9 rfl ?_
      refine jn_icmp_ge (pc := 24) (tgt := 134) kE_eliminate_d24 (by decide) (by omega) (by omega) (fun _ => ?_) (fun c => by exfalso; omega)
      exact jj_vret (pc := 134) kE_eliminate_d134 rfl (k M9 V9 rk sw P B g9 p A Bq E hS9 hL9 f9 o9 (by rw [Nat.min_eq_right hlm] at hB9; exact hB9) hP9)
    | succ mu ih =>
      intro c hk o3 M9 V9 rk sw P B g9 p A Bq E hS9 hL9 f9 o9 hB9 hP9
      have hl9 := hL9.1
      obtain ⟨hia, lia⟩ := hL9.2.2.2.1
      have lpa := hL9.2.2.1.2
      have hrkm : rk ≤ m := hB9.1.1
      have hpc : ∀ i, i < rk → p i < c := fun i hi => Nat.lt_of_lt_of_le (hB9.2.1.2.1 i hi) (Nat.min_le_left _ _)
      have hP8 := hP9.next hpc (by omega)
      have hsw : sw ≤ 1 := hB9.2.2.2.2.2.2.1.1
      refine jj_iload_n (pc := 19) kE_eliminate_d19 rfl ?_
      refine jj_aload_n (pc := 20) kE_eliminate_d20 rfl ?_
      refine jj_getf (pc := 21) kE_eliminate_d21 (kfE_width hG) hl9 rfl ?_
      refine jn_icmp_ge (pc := 24) (tgt := 134) kE_eliminate_d24 (by decide) (by omega) (by omega) (fun c => by exfalso; omega) (fun _ => ?_)
      refine jj_aload_n (pc := 27) kE_eliminate_d27 rfl ?_
      refine jj_getf (pc := 28) kE_eliminate_d28 (kfE_isPivot hG) hl9 rfl ?_
      refine jj_iload_n (pc := 31) kE_eliminate_d31 rfl ?_
      refine jn_iconst (pc := 32) 0 kE_eliminate_d32 (by decide) ?_
      refine jn_zast (pc := 33) kE_eliminate_d33 (kG_t hG rfl) hia (by omega) (by omega) (by decide) ?_
      refine jn_gen (fun M107 hM108 => ?_)
      have h109 : M107 el = some (.inl nE, [.ref ra, .ref pa, .ref ia, .ref (wa 33), .int (nI (rk)), .int (nI (sw)), .int (nI (m)), .int (nI (w)), .ref ga, .ref (wa 34), .ref dk]) := by rw [hM108, jj_up_ne _ _ (fun e => by have q1 := hl9; rw [e, hia] at q1; cases q1)]; exact hl9
      have h110 : M107 ia = some (.inr 2, ((B).set (c) ((nI (0)))).map .int) := by rw [hM108]; exact jj_up_at _ _ _
      have u1 : ∀ x, x ≠ ia → M107 x = M9 x := fun x hx => by rw [hM108, jj_up_ne _ _ hx]
      have hL8 := hL9.upi u1 h110 (by rw [List.length_set]; exact lia)
      have hS8 := hS9.up f4 n4 u1
      have f8 := f9.trans (EFX.up (X := fun x => x = el ∨ x = pa ∨ x = ia ∨ x = ga) u1 (Or.inr (Or.inr (Or.inl rfl))))
      obtain ⟨M8, eM8⟩ : ∃ W, M107 = W := ⟨_, rfl⟩
      rw [eM8] at hL8 hS8 f8
      rw [eM8]
      have hl8 := hL8.1
      show jj G kE_eliminate (d + 6) Q rc rs 34 [some (.ref el), some (.int (nI (lm))), some (.int (nI (c))), (o3)] [] M8
      have skip : ∀ (o3 : Option Value), BAR (gz V g) (gz V9 g9) m w (min (c + 1) lm) rk sw p (V9 33) A Bq E → jj G kE_eliminate (d + 6) Q rc rs 128 [some (.ref el), some (.int (nI (lm))), some (.int (nI (c))), (o3)] [] M8 := by
        intro o3 hB8
        refine jn_iinc (pc := 128) (c + 1) kE_eliminate_d128 rfl (nI_1 _) ?_
        refine jj_goto (pc := 131) (tgt := 19) kE_eliminate_d131 (by decide) ?_
        show jj G kE_eliminate (d + 6) Q rc rs 19 [some (.ref el), some (.int (nI (lm))), some (.int (nI (c + 1))), (o3)] [] M8
        exact ih (c + 1) (by omega) _ M8 V9 rk sw P _ g9 p A Bq E hS8 hL8 f8 o9 hB8 hP8
      refine jj_iload_n (pc := 34) kE_eliminate_d34 rfl ?_
      refine jj_iload_n (pc := 35) kE_eliminate_d35 rfl ?_
      refine jn_icmp_ge (pc := 36) (tgt := 128) kE_eliminate_d36 (by decide) (by omega) (by omega) (fun c1 => ?_) (fun c1 => ?_)
      · skip
        exact skip _ (by rw [Nat.min_eq_right (by omega)] at hB9 ⊢; exact hB9)
      · skip
        rw [Nat.min_eq_left (show c ≤ lm by omega)] at hB9
        rw [Nat.min_eq_left (show c + 1 ≤ lm by omega)] at skip
        refine jj_aload_n (pc := 39) kE_eliminate_d39 rfl ?_
        refine jj_getf (pc := 40) kE_eliminate_d40 (kfE_rank hG) hl8 rfl ?_
        refine jj_aload_n (pc := 43) kE_eliminate_d43 rfl ?_
        refine jj_getf (pc := 44) kE_eliminate_d44 (kfE_rows hG) hl8 rfl ?_
        refine jn_icmp_ge (pc := 47) (tgt := 128) kE_eliminate_d47 (by decide) (by omega) (by omega) (fun c2 => ?_) (fun c2 => ?_)
        · skip
          exact skip _ (hB9.none (by omega) (fun i a b => by omega))
        · skip
          refine jj_aload_n (pc := 50) kE_eliminate_d50 rfl ?_
          refine jj_iload_n (pc := 51) kE_eliminate_d51 rfl ?_
          refine jj_callV (pc := 52) (b := el) (As := [.int (nI (c))]) kE_eliminate_d52 (kvE_E_findPivot hG) (kG_cl hG rfl) rfl hl8 rfl rfl rfl (Nat.le_of_ble_eq_true rfl) (Nat.le_of_ble_eq_true rfl) (jj_bare0 rfl) ?_
          refine e_findPivot hG hK hS8 hJ hL8 hw hsw (by omega) hm hrkm (fun hz => ?_) (fun M7 pv g' hpv hpm hne _ hS7 hL7 hg' hx7 => ?_)
          · skip
            show jj G kE_eliminate (d + 6) Q rc rs 55 [some (.ref el), some (.int (nI (lm))), some (.int (nI (c))), (o3)] [.int (nI (0))] M8
            refine jn_if_eq (pc := 55) (tgt := 128) kE_eliminate_d55 (by decide) (by omega) (fun _ => ?_) (fun c => by exfalso; omega)
            show jj G kE_eliminate (d + 6) Q rc rs 128 [some (.ref el), some (.int (nI (lm))), some (.int (nI (c))), (o3)] [] M8
            exact skip _ (hB9.none (by omega) (fun i a b => hz i a b))
          · skip
            show jj G kE_eliminate (d + 6) Q rc rs 55 [some (.ref el), some (.int (nI (lm))), some (.int (nI (c))), (o3)] [.int (nI (1))] M7
            refine jn_if_eq (pc := 55) (tgt := 128) kE_eliminate_d55 (by decide) (by omega) (fun c => by exfalso; omega) (fun _ => ?_)
            show jj G kE_eliminate (d + 6) Q rc rs 58 [some (.ref el), some (.int (nI (lm))), some (.int (nI (c))), (o3)] [] M7
            have hGP' := hL7.2.2.2.2.2
            have lpa7 := hL7.2.2.1.2
            have hrk : rk < m := by omega
            have rkc := hB9.rkc
            have hc : c < w := by omega
            have hZ : ∀ i j, j < w → V9 (g' (32 * i + j)) = gz V9 g9 (swp rk pv i) j := fun i j hj => by rw [hg' i j hj]; rfl
            have hZr : ∀ j, j < w → V9 (g' (32 * rk + j)) = gz V9 g9 pv j := fun j hj => by
              rw [hZ rk j hj]
              unfold swp
              rw [if_pos rfl]
            have hK1 : 1 ≤ min m w := by omega
            have hl1 : ∀ i j, rk ≤ i → i < m → j < w → lc (V9 (g' (32 * i + j))) ≤ 63 := fun i j a b hj => by
              rw [hZ i j hj]
              have s1 := swp_ge hpv a
              have s2 : swp rk pv i < m := swp_lt hrk hpm b
              have e9 : min (swp rk pv i) rk = rk := Nat.min_eq_right s1
              have q := hB9.small hAz (by omega) s2 hj (K := min m w) (by omega)
              exact lc_w q (pow_w hK1 hb1 (by omega) hwt)
            have hex : ∀ i j, rk < i → i < m → c < j → j < w → ∃ z : Int, z * V9 33 = V9 (g' (32 * rk + c)) * V9 (g' (32 * i + j)) - V9 (g' (32 * i + c)) * V9 (g' (32 * rk + j)) ∧ lc z ≤ 63 := fun i j a b x1 x2 => by
              obtain ⟨z, q1, q2⟩ := hB9.smallnew hAz hpv hpm hc hne a b x2 (K := min m w) (by omega)
              rw [hZr c hc, hZr j x2, hZ i j x2, hZ i c hc]
              exact ⟨z, q1, lc_w q2 (pow_w hK1 hb1 (by omega) hwt)⟩
            refine e_pivot hG hK hS7 hJ hL7 hw hc hrk hm hl1 hB9.ne hex (fun M6 V6 o6 hS6 hL6 f6 v6 v33 e6 => ?_)
            have hl6 := hL6.1
            show jj G kE_eliminate (d + 6) Q rc rs 128 [some (.ref el), some (.int (nI (lm))), some (.int (nI (c))), (o6)] [] M6
            refine jn_iinc (pc := 128) (c + 1) kE_eliminate_d128 rfl (nI_1 _) ?_
            refine jj_goto (pc := 131) (tgt := 19) kE_eliminate_d131 (by decide) ?_
            show jj G kE_eliminate (d + 6) Q rc rs 19 [some (.ref el), some (.int (nI (lm))), some (.int (nI (c + 1))), (o6)] [] M6
            have keepg : ∀ i j, i < 16 → j < w → (i ≤ rk ∨ j < c) → V6 (g' (32 * i + j)) = V9 (g' (32 * i + j)) := fun i j hi hj hh => by
              have := hGP'.1 (32 * i + j) (by omega)
              exact v6 _ (by omega) (by omega) (fun i' j' a b x1 x2 => hGP'.ne (by omega) (by omega) (by omega) (by omega) (by omega))
            refine ih (c + 1) (by omega) _ M6 V6 (rk + 1) _ _ _ g' (fun l => if l = rk then c else p l) (rswap A rk pv) (fw Bq rk pv c) (gj E rk pv c) hS6 hL6 ((f8.trans (hx7.more (fun x h => by rcases h with h | h <;> simp_all))).trans f6) (fun q a b x1 => ?_) ?_ (hP8.more hpc (by omega) (by rw [List.length_set]; omega))
            · rw [v6 q a b (fun i' j' _ _ _ _ => by have := hGP'.1 (32 * i' + j') (by omega); omega)]
              exact o9 q a b x1
            · rw [Nat.min_eq_left (show c + 1 ≤ lm by omega), v33, hZr c hc]
              refine hB9.step hpv hpm hc hne (fun i hi j hj => ?_) (fun j hj => ?_) (fun i hi him => ⟨fun j hj => ?_, ?_, fun j hj hjw => ?_⟩)
              · show V6 (g' (32 * i + j)) = _
                rw [keepg i j (by omega) hj (Or.inl (by omega)), hZ i j hj]
                unfold swp
                rw [if_neg (by omega), if_neg (by omega)]
              · show V6 (g' (32 * rk + j)) = _
                rw [keepg rk j (by omega) hj (Or.inl (by omega)), hZr j hj]
              · show V6 (g' (32 * i + j)) = _
                rw [keepg i j (by omega) (by omega) (Or.inr hj), hZ i j (by omega)]
                exact hB9.zero (swp_ge hpv (by omega)) (swp_lt hrk hpm him) (by omega) hj
              · exact (e6 i hi him).1
              · have q := (e6 i hi him).2 j hj hjw
                rw [hZr c hc, hZr j hjw, hZ i j hjw, hZ i c hc] at q
                exact q
  refine loop w 0 (by omega) none M2 V2 0 0 P B g (fun _ => 0) (fun i j => ((gz V g i j : Int) : Rat)) (fun i j => ((gz V g i j : Int) : Rat)) (fun i j => ((gz V g i j : Int) : Rat)) hS2 hL2 hF2 (fun q a b _ => hV2 q b) ?_ ⟨fun i h => by omega, fun i h => by omega, fun x h => by omega⟩
  rw [Nat.min_eq_left (by omega), hV3]
  have hGP := hL.2.2.2.2.2
  have hst := BAR.start (gz V g) m w (fun _ => 0)
  refine ⟨hst.1, hst.2.1, hst.2.2.1, fun i hi j hj => ?_, hst.2.2.2.2⟩
  have := hst.2.2.2.1 i hi j hj
  rw [← this]
  have := hGP.1 (32 * i + j) (by omega)
  show ((V2 (g (32 * i + j)) : Int) : Rat) = _
  rw [hV2 _ (by omega)]
  rfl
end E6
