/-! ===== ExactForms: state between calls; make, unit, size, sign, same (printed by wip/gen/rX3.py) ===== -/
/-- what is shown is right -/
def SHW (σ : rst) (V : Nat → Int) (sc : Int32) : Prop := sc = -1 ∨ ∃ k i j, k < 8 ∧ i < σ.1 k ∧ j < σ.2.1 k ∧ sc = nI ((k * 16 + i) * 16 + j) ∧ least (V (809 + 257 * k + (16 * i + j))) (V (809 + 257 * k + 256)) (V 15) (V 16)
def XV (σ : rst) (V : Nat → Int) (sc : Int32) (R C : Nat → Nat) : Prop := (∀ k, k < 8 → R k = σ.1 k ∧ C k = σ.2.1 k ∧ 1 ≤ R k ∧ R k ≤ 16 ∧ 1 ≤ C k ∧ C k ≤ 16 ∧ NRM V (809 + 257 * k) (R k) (C k) (σ.2.2 k)) ∧ SHW σ V sc
/-- the class's state between calls -/
def XT (M : mheap) (wa la cap oa : Nat → Nat) (eu dv hi lo : Nat) (σ : rst) : Prop := ∃ (V : Nat → Int) (sc : Int32) (R C : Nat → Nat), KS M wa la cap 3122 eu dv hi lo (oa 3) V ∧ XO M wa oa sc R C ∧ XV σ V sc R C
theorem XV.keep {σ : rst} {V V' : Nat → Int} {sc : Int32} {R C R' C' : Nat → Nat} (h : XV σ V sc R C) (hv : ∀ p, 809 ≤ p → p < 2865 → V' p = V p) (h15 : V' 15 = V 15) (h16 : V' 16 = V 16) (hR : ∀ k, k < 8 → R' k = R k ∧ C' k = C k) : XV σ V' sc R' C' := by
  refine ⟨fun k hk => ?_, ?_⟩
  · obtain ⟨a, b, c, d, e, f, g⟩ := h.1 k hk
    rw [(hR k hk).1, (hR k hk).2]
    exact ⟨a, b, c, d, e, f, g.congr (hv _ (by omega) (by omega)) (fun i j _ _ => hv _ (by omega) (by omega)) (fun _ _ => rfl)⟩
  · rcases h.2 with h | ⟨k, i, j, h1, h2, h3, h4, h5⟩
    · exact Or.inl h
    · obtain ⟨a, b, c, d, e, f, g⟩ := h.1 k h1
      exact Or.inr ⟨k, i, j, h1, h2, h3, h4, by rw [hv _ (by omega) (by omega), hv _ (by omega) (by omega), h15, h16]; exact h5⟩
theorem XV.put {σ : rst} {V V' : Nat → Int} {sc : Int32} {R C R' C' : Nat → Nat} {n r c : Nat} {q : Nat → Rat} (h : XV σ V sc R C) (hn : n < 8) (hv : ∀ p, 809 ≤ p → p < 2865 → (p < 809 + 257 * n ∨ 809 + 257 * n + 256 < p) → V' p = V p) (hR : ∀ k, k < 8 → R' k = if k = n then r else R k) (hC : ∀ k, k < 8 → C' k = if k = n then c else C k) (h1r : 1 ≤ r) (hr : r ≤ 16) (h1c : 1 ≤ c) (hc : c ≤ 16) (hN : NRM V' (809 + 257 * n) r c q) : XV (rup σ n r c q) V' (-1) R' C' := by
  refine ⟨fun k hk => ?_, Or.inl rfl⟩
  rw [hR k hk, hC k hk]
  show _ = (if k = n then r else σ.1 k) ∧ _ = (if k = n then c else σ.2.1 k) ∧ _ ∧ _ ∧ _ ∧ _ ∧ NRM _ _ _ _ (if k = n then q else σ.2.2 k)
  by_cases e : k = n
  · rw [if_pos e, if_pos e, if_pos e, if_pos e, if_pos e, e]
    exact ⟨rfl, rfl, h1r, hr, h1c, hc, hN⟩
  · rw [if_neg e, if_neg e, if_neg e, if_neg e, if_neg e]
    obtain ⟨a, b, c, d, e', f, g⟩ := h.1 k hk
    exact ⟨a, b, c, d, e', f, g.congr (hv _ (by omega) (by omega) (by omega)) (fun i j _ _ => hv _ (by omega) (by omega) (by omega)) (fun _ _ => rfl)⟩
/-- no refusal to fit where the cells are 0 and 1 -/
theorem NRM.ones {V : Nat → Int} {b r c : Nat} {q : Nat → Rat} (h1 : V (b + 256) = 1) (h2 : ∀ i j, i < r → j < c → ((V (b + (16 * i + j)) : Int) : Rat) = q (i * c + j)) : NRM V b r c q := by
  refine ⟨by omega, ⟨by omega, fun i j hi hj => ?_⟩, by decide, ⟨_, (Int.one_mul _).symm⟩, fun _ _ _ _ => ⟨_, (Int.one_mul _).symm⟩, fun x hx _ => by rw [← h1]; exact hx⟩
  rw [h2 i j hi hj, h1]
  show _ = _ * (1 : Rat)
  grind
section X3
variable {G : jg} {d : Nat} {Q : jq} {rc rs : Nat} {M : mheap} {wa la cap oa : Nat → Nat} {eu dv hi lo : Nat} {σ : rst}
theorem xp_make {x y z : Int32} (hG : kG G) (hJ : XJ wa la cap oa eu dv hi lo) (hT : XT M wa la cap oa eu dv hi lo σ) (hrc : 1 ≤ rc) (hrs : 6 ≤ rs) (kr : ∀ (M' : mheap)  (σ' : rst), semMake σ x y z 0 σ' → XT M' wa la cap oa eu dv hi lo σ' → XF oa M M' wa la eu dv hi lo → Q (.returned none) M' rc rs) (kt : ∀ (M' : mheap) (cd ci : Nat), semMake σ x y z cd σ → (cd = 1 ∧ ci = 4 ∨ cd = 2 ∧ ci = 5) → XT M' wa la cap oa eu dv hi lo σ → XF oa M M' wa la eu dv hi lo → ∀ x, M' x = none → Q (.threw x) (jj_up M' x (.inl ci, [])) (rc - 1) (rs - 6)) : jj G kX_make (d + 9) Q rc rs 0 (jj_ent [.ref (oa 0), .int x, .int y, .int z] 5) [] M := by
  obtain ⟨V, sc, R, C, hS, hO, hV⟩ := id hT
  have hK := hJ.1
  have hI := hK.1
  have hx := hO.1
  show jj G kX_make (d + 9) Q rc rs 0 [some (.ref (oa 0)), some (.int (x)), some (.int (y)), some (.int (z)), none] [] M
  refine jj_aload_n (pc := 0) kX_make_d0 rfl ?_
  refine jj_iload_n (pc := 1) kX_make_d1 rfl ?_
  refine jj_callV (pc := 2) (b := (oa 0)) (As := [.int (x)]) kX_make_d2 (kvX_X_register hG) (kG_cl hG rfl) rfl hx rfl rfl rfl (Nat.le_of_ble_eq_true rfl) (Nat.le_of_ble_eq_true rfl) (jj_bare0 rfl) ?_
  refine x_register hG hO hrc hrs (fun n hn en => ?_) (fun h y hy => kt M 1 4 (Or.inl ⟨h, rfl, rfl⟩) (by omega) hT (fun _ _ _ => rfl) y hy)
  subst en
  show jj G kX_make (d + 9) Q rc rs 5 [some (.ref (oa 0)), some (.int (nI (n))), some (.int (y)), some (.int (z)), none] [.ref (oa (13 + n))] M
  refine jj_astore (pc := 5) kX_make_d5 (Nat.le_of_ble_eq_true rfl) ?_
  show jj G kX_make (d + 9) Q rc rs 7 [some (.ref (oa 0)), some (.int (nI (n))), some (.int (y)), some (.int (z)), some (.ref (oa (13 + n)))] [] M
  refine jj_iload_n (pc := 7) kX_make_d7 rfl ?_
  refine jj_callS (pc := 8) (As := [.int (y)]) kX_make_d8 (kvX_X_isNoSide hG) rfl rfl rfl (Nat.le_of_ble_eq_true rfl) (Nat.le_of_ble_eq_true rfl) (jj_bare0 rfl) ?_
  refine x_isNoSide (fun sy => ?_) (fun sy => ?_)
  · skip
    show jj G kX_make (d + 9) Q rc rs 11 [some (.ref (oa 0)), some (.int (nI (n))), some (.int (y)), some (.int (z)), some (.ref (oa (13 + n)))] [.int (nI (0))] M
    refine jn_if_ne (pc := 11) (tgt := 21) kX_make_d11 (by decide) (by omega) (fun c => by exfalso; omega) (fun _ => ?_)
    refine jj_iload_n (pc := 14) kX_make_d14 rfl ?_
    refine jj_callS (pc := 15) (As := [.int (z)]) kX_make_d15 (kvX_X_isNoSide hG) rfl rfl rfl (Nat.le_of_ble_eq_true rfl) (Nat.le_of_ble_eq_true rfl) (jj_bare0 rfl) ?_
    refine x_isNoSide (fun sz => ?_) (fun sz => ?_)
    · skip
      show jj G kX_make (d + 9) Q rc rs 18 [some (.ref (oa 0)), some (.int (nI (n))), some (.int (y)), some (.int (z)), some (.ref (oa (13 + n)))] [.int (nI (0))] M
      refine jn_if_eq (pc := 18) (tgt := 31) kX_make_d18 (by decide) (by omega) (fun _ => ?_) (fun c => by exfalso; omega)
      obtain ⟨r, r1, r2, er⟩ := id sy
      obtain ⟨c, c1, c2, ec⟩ := id sz
      subst er ec
      obtain ⟨ern, ecn, s1n, s2n, s3n, s4n, hNn⟩ := hV.1 n hn
      obtain ⟨bn, ebn⟩ : ∃ b, b = 809 + 257 * n := ⟨_, rfl⟩
      have hMn := hO.2.2.2.2.2.2.2 n (by omega)
      rw [← ebn] at hMn hNn
      have hmn := hMn.1
      show jj G kX_make (d + 9) Q rc rs 31 [some (.ref (oa 0)), some (.int (nI (n))), some (.int (nI (r))), some (.int (nI (c))), some (.ref (oa (13 + n)))] [] M
      refine jj_aload (pc := 31) kX_make_d31 rfl ?_
      refine jj_iload_n (pc := 33) kX_make_d33 rfl ?_
      refine jj_iload_n (pc := 34) kX_make_d34 rfl ?_
      refine jj_callV (pc := 35) (b := (oa (13 + n))) (As := [.int (nI (r)), .int (nI (c))]) kX_make_d35 (kvX_M_clear hG) (kG_cl hG rfl) rfl hmn rfl rfl rfl (Nat.le_of_ble_eq_true rfl) (Nat.le_of_ble_eq_true rfl) (jj_bare0 rfl) ?_
      refine m_clear hG hK hS hMn (by omega) (by omega) (by have := (hJ.capw (p := bn + 256) (by omega) (by omega)).2; exact this) r2 c2 (fun M1 V1 hS1 hM1 v1 v0 vo f1 => ?_)
      have hNn : NRM V1 bn r c (fun _ => (0 : Rat)) := NRM.ones v1 (fun i j hi' hj => by rw [v0 i j hi' hj]; rfl)
      have hO1 := hO.mx (show n < 9 by omega) (by rw [← ebn]; exact hM1) (fun i hi' hne => f1 _ (hJ.ne hi' (by omega) hne) (hJ.2.2.1 i hi').1)
      have hx1 := hO1.1
      have hF1 : XF oa M M1 wa la eu dv hi lo := fun x hx f => f1 x (fun e => hx ⟨13 + n, by omega, e⟩) f.1
      show jj G kX_make (d + 9) Q rc rs 38 [some (.ref (oa 0)), some (.int (nI (n))), some (.int (nI (r))), some (.int (nI (c))), some (.ref (oa (13 + n)))] [] M1
      refine jj_aload_n (pc := 38) kX_make_d38 rfl ?_
      refine jj_iconst (pc := 39) (v := (-1)) kX_make_d39 (by decide) ?_
      refine jj_putf (pc := 40) kX_make_d40 (kpX_shownCell hG) hx1 (by rfl) rfl ?_
      refine jn_gen (fun M101 hM102 => ?_)
      have h103 : M101 (oa 0) = some (.inl nX, [.ref (oa 1), .ref (oa 2), .ref (oa 21), .ref (oa 3), .ref (oa 4), .ref (oa 9), .ref (oa 11), .ref (oa 12), .int (-1)]) := by rw [hM102]; exact jj_up_at _ _ _
      have hu : ∀ x, x ≠ oa 0 → M101 x = M1 x := fun x hx => by rw [hM102, jj_up_ne _ _ hx]
      exact jj_vret (pc := 43) kX_make_d43 rfl (kr M101 _ (Or.inr ⟨n, hn, rfl, Or.inr ⟨r, c, r1, r2, rfl, c1, c2, rfl, rfl, rfl⟩⟩) ⟨V1, -1, _, _, hS1.up (hJ.2.2.1 0 (by omega)) (hJ.ne (by omega) (by omega) (by omega)) hu, hO1.shw h103 hJ hu, hV.put (n := n) (r := r) (c := c) (q := fun _ => (0 : Rat)) hn (fun p _ _ p3 => vo p (by omega)) (fun _ _ => rfl) (fun _ _ => rfl) (by omega) (by omega) (by omega) (by omega) (by rw [← ebn]; exact hNn)⟩ (hF1.trans (EFX.up hu ⟨0, by omega, rfl⟩)))
    · skip
      show jj G kX_make (d + 9) Q rc rs 18 [some (.ref (oa 0)), some (.int (nI (n))), some (.int (y)), some (.int (z)), some (.ref (oa (13 + n)))] [.int (nI (1))] M
      refine jn_if_eq (pc := 18) (tgt := 31) kX_make_d18 (by decide) (by omega) (fun c => by exfalso; omega) (fun _ => ?_)
      exact jj_throw (pc := 21) (ll := 2) kX_make_d21 kX_make_d24 (Or.inl ⟨kX_make_d25, rfl⟩) kX_make_d27 kX_make_d30 (ktX_rows_and_columns_are_1_to_16 hG) rfl (Nat.le_of_ble_eq_true rfl) (jj_bare0 rfl) hrc hrs (fun a ha => kt M 2 5 (Or.inr ⟨n, hn, rfl, Or.inl ⟨fun h => sz h.2, rfl, rfl⟩⟩) (by omega) hT (fun _ _ _ => rfl) a ha)
  · skip
    show jj G kX_make (d + 9) Q rc rs 11 [some (.ref (oa 0)), some (.int (nI (n))), some (.int (y)), some (.int (z)), some (.ref (oa (13 + n)))] [.int (nI (1))] M
    refine jn_if_ne (pc := 11) (tgt := 21) kX_make_d11 (by decide) (by omega) (fun _ => ?_) (fun c => by exfalso; omega)
    show jj G kX_make (d + 9) Q rc rs 21 [some (.ref (oa 0)), some (.int (nI (n))), some (.int (y)), some (.int (z)), some (.ref (oa (13 + n)))] [] M
    exact jj_throw (pc := 21) (ll := 2) kX_make_d21 kX_make_d24 (Or.inl ⟨kX_make_d25, rfl⟩) kX_make_d27 kX_make_d30 (ktX_rows_and_columns_are_1_to_16 hG) rfl (Nat.le_of_ble_eq_true rfl) (jj_bare0 rfl) hrc hrs (fun a ha => kt M 2 5 (Or.inr ⟨n, hn, rfl, Or.inl ⟨fun h => sy h.1, rfl, rfl⟩⟩) (by omega) hT (fun _ _ _ => rfl) a ha)
theorem unit_cell {n i j : Nat} (hj : j < n) : (if (i * n + j) / n = (i * n + j) % n then (1 : Rat) else 0) = if i = j then 1 else 0 := by
  rw [Nat.mul_comm i n, Nat.mul_add_div (by omega), Nat.div_eq_of_lt hj, Nat.add_zero, Nat.mul_add_mod, Nat.mod_eq_of_lt hj]
theorem unit_nrm {V : Nat → Int} {b n : Nat} (h1 : V (b + 256) = 1) (h2 : ∀ i j, i < n → j < n → V (b + (16 * i + j)) = if i = j then 1 else 0) : NRM V b n n (fun t => if t / n = t % n then (1 : Rat) else 0) := NRM.ones h1 (fun i j hi hj => by
  rw [h2 i j hi hj, unit_cell hj]
  split <;> rfl)
theorem unit_fit {n : Nat} (h : n ≤ 16) : FIT n n (fun t => if t / n = t % n then (1 : Rat) else 0) := by
  have hN := unit_nrm (V := fun p => if p = 256 then 1 else if p / 16 = p % 16 then 1 else 0) (b := 0) (n := n) (by decide) (fun i j hi hj => by
    rw [if_neg (by omega), show (0 + (16 * i + j)) / 16 = i by omega, show (0 + (16 * i + j)) % 16 = j by omega])
  refine (hN.fit h h).2 (fun hl => ?_)
  have one : ∀ p, blen ((fun p => if p = 256 then 1 else if p / 16 = p % 16 then 1 else 0 : Nat → Int) p) ≤ 1 := fun p => by
    dsimp only
    split
    · decide
    · split <;> decide
  rcases hl with hl | ⟨i, j, _, _, hl⟩ | hl
  · have := one (0 + 256); omega
  · have := one (0 + (16 * i + j)); omega
  · have l1 : ∀ p, lc ((fun p => if p = 256 then 1 else if p / 16 = p % 16 then 1 else 0 : Nat → Int) p) ≤ 1 := fun p => by
      unfold lc
      have := one p
      omega
    have s1 : ∀ (f : Nat → Nat) (b m : Nat), (∀ i, f i ≤ b) → nsum f m ≤ m * b := by
      intro f b m hf
      induction m with
      | zero => exact Nat.zero_le _
      | succ m ih =>
        show nsum f m + f m ≤ _
        have := hf m
        rw [Nat.succ_mul]
        omega
    have s2 := s1 (fun i => nsum (fun j => lc ((fun p => if p = 256 then 1 else if p / 16 = p % 16 then 1 else 0 : Nat → Int) (0 + (16 * i + j)))) n) 16 n (fun i => Nat.le_trans (s1 _ 1 n (fun j => l1 _)) (by omega))
    have s3 := l1 (0 + 256)
    omega
theorem xp_unit {x y : Int32} (hG : kG G) (hJ : XJ wa la cap oa eu dv hi lo) (hT : XT M wa la cap oa eu dv hi lo σ) (hrc : 1 ≤ rc) (hrs : 6 ≤ rs) (kr : ∀ (M' : mheap)  (σ' : rst), semUnit σ x y 0 σ' → XT M' wa la cap oa eu dv hi lo σ' → XF oa M M' wa la eu dv hi lo → Q (.returned none) M' rc rs) (kt : ∀ (M' : mheap) (cd ci : Nat), semUnit σ x y cd σ → (cd = 1 ∧ ci = 4 ∨ cd = 2 ∧ ci = 5) → XT M' wa la cap oa eu dv hi lo σ → XF oa M M' wa la eu dv hi lo → ∀ x, M' x = none → Q (.threw x) (jj_up M' x (.inl ci, [])) (rc - 1) (rs - 6)) : jj G kX_unit (d + 9) Q rc rs 0 (jj_ent [.ref (oa 0), .int x, .int y] 4) [] M := by
  obtain ⟨V, sc, R, C, hS, hO, hV⟩ := id hT
  have hK := hJ.1
  have hI := hK.1
  have hx := hO.1
  show jj G kX_unit (d + 9) Q rc rs 0 [some (.ref (oa 0)), some (.int (x)), some (.int (y)), none] [] M
  refine jj_aload_n (pc := 0) kX_unit_d0 rfl ?_
  refine jj_iload_n (pc := 1) kX_unit_d1 rfl ?_
  refine jj_callV (pc := 2) (b := (oa 0)) (As := [.int (x)]) kX_unit_d2 (kvX_X_register hG) (kG_cl hG rfl) rfl hx rfl rfl rfl (Nat.le_of_ble_eq_true rfl) (Nat.le_of_ble_eq_true rfl) (jj_bare0 rfl) ?_
  refine x_register hG hO hrc hrs (fun n hn en => ?_) (fun h y hy => kt M 1 4 (Or.inl ⟨h, rfl, rfl⟩) (by omega) hT (fun _ _ _ => rfl) y hy)
  subst en
  show jj G kX_unit (d + 9) Q rc rs 5 [some (.ref (oa 0)), some (.int (nI (n))), some (.int (y)), none] [.ref (oa (13 + n))] M
  refine jj_astore_n (pc := 5) kX_unit_d5 (Nat.le_of_ble_eq_true rfl) ?_
  show jj G kX_unit (d + 9) Q rc rs 6 [some (.ref (oa 0)), some (.int (nI (n))), some (.int (y)), some (.ref (oa (13 + n)))] [] M
  refine jj_iload_n (pc := 6) kX_unit_d6 rfl ?_
  refine jj_callS (pc := 7) (As := [.int (y)]) kX_unit_d7 (kvX_X_isNoSide hG) rfl rfl rfl (Nat.le_of_ble_eq_true rfl) (Nat.le_of_ble_eq_true rfl) (jj_bare0 rfl) ?_
  refine x_isNoSide (fun sy => ?_) (fun sy => ?_)
  · skip
    show jj G kX_unit (d + 9) Q rc rs 10 [some (.ref (oa 0)), some (.int (nI (n))), some (.int (y)), some (.ref (oa (13 + n)))] [.int (nI (0))] M
    refine jn_if_eq (pc := 10) (tgt := 23) kX_unit_d10 (by decide) (by omega) (fun _ => ?_) (fun c => by exfalso; omega)
    obtain ⟨r, r1, r2, er⟩ := id sy
    subst er
    obtain ⟨ern, ecn, s1n, s2n, s3n, s4n, hNn⟩ := hV.1 n hn
    obtain ⟨bn, ebn⟩ : ∃ b, b = 809 + 257 * n := ⟨_, rfl⟩
    have hMn := hO.2.2.2.2.2.2.2 n (by omega)
    rw [← ebn] at hMn hNn
    have hmn := hMn.1
    show jj G kX_unit (d + 9) Q rc rs 23 [some (.ref (oa 0)), some (.int (nI (n))), some (.int (nI (r))), some (.ref (oa (13 + n)))] [] M
    refine jj_aload_n (pc := 23) kX_unit_d23 rfl ?_
    refine jj_iload_n (pc := 24) kX_unit_d24 rfl ?_
    refine jj_callV (pc := 25) (b := (oa (13 + n))) (As := [.int (nI (r))]) kX_unit_d25 (kvX_M_clearToUnit hG) (kG_cl hG rfl) rfl hmn rfl rfl rfl (Nat.le_of_ble_eq_true rfl) (Nat.le_of_ble_eq_true rfl) (jj_bare0 rfl) ?_
    refine m_unit hG hK hS hMn (by omega) (by omega) (fun p _ _ => (hJ.capw (p := p) (by omega) (by omega)).2) r2 (fun M1 V1 hS1 hM1 v1 v0 vo f1 => ?_)
    have hNn := unit_nrm v1 v0
    have hO1 := hO.mx (show n < 9 by omega) (by rw [← ebn]; exact hM1) (fun i hi' hne => f1 _ (hJ.ne hi' (by omega) hne) (hJ.2.2.1 i hi').1)
    have hx1 := hO1.1
    have hF1 : XF oa M M1 wa la eu dv hi lo := fun x hx f => f1 x (fun e => hx ⟨13 + n, by omega, e⟩) f.1
    show jj G kX_unit (d + 9) Q rc rs 28 [some (.ref (oa 0)), some (.int (nI (n))), some (.int (nI (r))), some (.ref (oa (13 + n)))] [] M1
    refine jj_aload_n (pc := 28) kX_unit_d28 rfl ?_
    refine jj_iconst (pc := 29) (v := (-1)) kX_unit_d29 (by decide) ?_
    refine jj_putf (pc := 30) kX_unit_d30 (kpX_shownCell hG) hx1 (by rfl) rfl ?_
    refine jn_gen (fun M104 hM105 => ?_)
    have h106 : M104 (oa 0) = some (.inl nX, [.ref (oa 1), .ref (oa 2), .ref (oa 21), .ref (oa 3), .ref (oa 4), .ref (oa 9), .ref (oa 11), .ref (oa 12), .int (-1)]) := by rw [hM105]; exact jj_up_at _ _ _
    have hu : ∀ x, x ≠ oa 0 → M104 x = M1 x := fun x hx => by rw [hM105, jj_up_ne _ _ hx]
    exact jj_vret (pc := 33) kX_unit_d33 rfl (kr M104 _ (Or.inr ⟨n, hn, rfl, Or.inr ⟨r, r1, r2, rfl, Or.inl ⟨unit_fit r2, rfl, rfl⟩⟩⟩) ⟨V1, -1, _, _, hS1.up (hJ.2.2.1 0 (by omega)) (hJ.ne (by omega) (by omega) (by omega)) hu, hO1.shw h106 hJ hu, hV.put (n := n) (r := r) (c := r) (q := _) hn (fun p _ _ p3 => vo p (by omega)) (fun _ _ => rfl) (fun _ _ => rfl) (by omega) (by omega) (by omega) (by omega) (by rw [← ebn]; exact hNn)⟩ (hF1.trans (EFX.up hu ⟨0, by omega, rfl⟩)))
  · skip
    show jj G kX_unit (d + 9) Q rc rs 10 [some (.ref (oa 0)), some (.int (nI (n))), some (.int (y)), some (.ref (oa (13 + n)))] [.int (nI (1))] M
    refine jn_if_eq (pc := 10) (tgt := 23) kX_unit_d10 (by decide) (by omega) (fun c => by exfalso; omega) (fun _ => ?_)
    exact jj_throw (pc := 13) (ll := 2) kX_unit_d13 kX_unit_d16 (Or.inl ⟨kX_unit_d17, rfl⟩) kX_unit_d19 kX_unit_d22 (ktX_rows_and_columns_are_1_to_16 hG) rfl (Nat.le_of_ble_eq_true rfl) (jj_bare0 rfl) hrc hrs (fun a ha => kt M 2 5 (Or.inr ⟨n, hn, rfl, Or.inl ⟨sy, rfl, rfl⟩⟩) (by omega) hT (fun _ _ _ => rfl) a ha)
end X3
