/-! ===== ExactForms: state, register, isNoSide, needCell, needWhole (printed by wip/gen/rX1.py) ===== -/
/-- how many limbs a place has -/
def capx (p : Nat) : Nat := if p < 17 then 252 else if p < 33 then 125 else if p = 33 then 64 else if p = 34 then 125 else if p < 548 then 64 else if p < 553 then 252 else if p < 809 then 64 else if p < 2865 then 125 else 252
/-- the addresses of all objects but the numbers', Euclid's and the divider's: 0 the class, 1 registers, 2 every column, 3 desk, 4 elimination, 5 row factors, 6 pivots' columns, 7 which are pivots, 8 grid, 9 residues, 10 their cells, 11 fraction, 12 shown, 13 + k matrix k, 22 + k its cells; the draft is matrix 8 -/
def XAD (oa : Nat → Nat) : Nat → Prop := fun x => ∃ i, i < 31 ∧ x = oa i
def XJ (wa la cap oa : Nat → Nat) (eu dv hi lo : Nat) : Prop := KJI wa la cap 3122 hi lo ∧ (∀ p, p < 3122 → cap p = capx p) ∧ (∀ i, i < 31 → FAR wa la 3122 eu dv hi lo (oa i)) ∧ ∀ i j, i < 31 → j < 31 → oa i = oa j → i = j
theorem XJ.ne {wa la cap oa : Nat → Nat} {eu dv hi lo : Nat} (h : XJ wa la cap oa eu dv hi lo) {i j : Nat} (hi' : i < 31) (hj : j < 31) (n : i ≠ j) : oa i ≠ oa j := fun e => n (h.2.2.2 i j hi' hj e)
theorem XJ.lj {wa la cap oa : Nat → Nat} {eu dv hi lo : Nat} (h : XJ wa la cap oa eu dv hi lo) : LJ wa la cap 3122 eu dv hi lo (oa 3) (oa 4) (oa 5) (oa 6) (oa 7) (oa 8) := by
  refine ⟨by omega, fun p h1 h2 => ?_, ?_, ?_, fun p h1 h2 => ?_, h.2.2.1 4 (by omega), h.2.2.1 5 (by omega), h.2.2.1 6 (by omega), h.2.2.1 7 (by omega), h.2.2.1 8 (by omega), h.ne (by omega) (by omega) (by omega), h.ne (by omega) (by omega) (by omega), h.ne (by omega) (by omega) (by omega), h.ne (by omega) (by omega) (by omega), h.ne (by omega) (by omega) (by omega)⟩
  · rw [h.2.1 p (by omega)]; unfold capx; rw [if_neg (by omega), if_pos h2]
  · rw [h.2.1 33 (by omega)]; rfl
  · rw [h.2.1 34 (by omega)]; rfl
  · rw [h.2.1 p (by omega)]; unfold capx; rw [if_neg (by omega), if_neg (by omega), if_neg (by omega), if_neg (by omega), if_pos (by omega)]
/-- the residues' references: each of the places 553 to 808 once -/
def RSP (s : Nat → Nat) : Prop := (∀ i, i < 256 → 553 ≤ s i ∧ s i < 809) ∧ ∀ i j, i < 256 → j < 256 → s i = s j → i = j
/-- the residues' cells: lines, places, steps -/
def RST (M : mheap) (wa : Nat → Nat) (re rca dk ln pl ls ps : Nat) (s : Nat → Nat) : Prop := M re = some (.inl nS, [.int (nI ln), .int (nI pl), .int (nI ls), .int (nI ps), .ref rca, .ref (wa 547), .ref (wa 548), .ref (wa 549), .ref (wa 550), .ref (wa 551), .ref (wa 552), .ref dk]) ∧ M rca = some (.inr 3, (List.range 256).map (fun i => Value.ref (wa (s i)))) ∧ RSP s
/-- all objects of the class but the desk and the numbers; sc: which cell is shown; R, C: the matrices' sides -/
def XO (M : mheap) (wa oa : Nat → Nat) (sc : Int32) (R C : Nat → Nat) : Prop := M (oa 0) = some (.inl nX, [.ref (oa 1), .ref (oa 2), .ref (oa 21), .ref (oa 3), .ref (oa 4), .ref (oa 9), .ref (oa 11), .ref (oa 12), .int sc]) ∧ M (oa 1) = some (.inr 4, (List.range 8).map (fun k => Value.ref (oa (13 + k)))) ∧ M (oa 2) = some (.inr 0, ((List.range 16).map nI).map .int) ∧ M (oa 11) = some (.inl nF, [.ref (wa 13), .ref (wa 14), .ref (oa 3)]) ∧ M (oa 12) = some (.inl nF, [.ref (wa 15), .ref (wa 16), .ref (oa 3)]) ∧ (∃ rk sw m w P B g, ELT M wa (oa 4) (oa 5) (oa 6) (oa 7) (oa 8) (oa 3) rk sw m w P B g) ∧ (∃ ln pl ls ps s, RST M wa (oa 9) (oa 10) (oa 3) ln pl ls ps s) ∧ ∀ k, k < 9 → MXT M wa (oa (13 + k)) (oa (22 + k)) (809 + 257 * k) (R k) (C k)
abbrev XF (oa : Nat → Nat) (M M' : mheap) (wa la : Nat → Nat) (eu dv hi lo : Nat) : Prop := EFX (XAD oa) M M' wa la 3122 eu dv hi lo
section XOS
variable {M M' : mheap} {wa la cap oa : Nat → Nat} {eu dv hi lo : Nat} {sc sc' : Int32} {R C : Nat → Nat} {V : Nat → Int}
theorem XJ.keep (h : XJ wa la cap oa eu dv hi lo) {X : Nat → Prop} (hf : EFX X M M' wa la 3122 eu dv hi lo) {i : Nat} (hi' : i < 31) (hx : ¬ X (oa i)) : M' (oa i) = M (oa i) := hf _ hx (h.2.2.1 i hi')
theorem ELT.cells {el ra pa ia ga dk rk sw m w : Nat} {P B : List Int32} {g : Nat → Nat} (h : ELT M wa el ra pa ia ga dk rk sw m w P B g) (h1 : M' el = M el) (h2 : M' ra = M ra) (h3 : M' pa = M pa) (h4 : M' ia = M ia) (h5 : M' ga = M ga) : ELT M' wa el ra pa ia ga dk rk sw m w P B g := ⟨h1.trans h.1, h2.trans h.2.1, ⟨h3.trans h.2.2.1.1, h.2.2.1.2⟩, ⟨h4.trans h.2.2.2.1.1, h.2.2.2.1.2⟩, h5.trans h.2.2.2.2.1, h.2.2.2.2.2⟩
theorem XO.kept (h : XO M wa oa sc R C) (hk : ∀ i, i < 31 → M' (oa i) = M (oa i)) : XO M' wa oa sc R C := by
  obtain ⟨h1, h2, h3, h4, h5, ⟨rk, sw, m, w, P, B, g, h6⟩, ⟨ln, pl, ls, ps, s, h7, h8, h9⟩, h10⟩ := h
  exact ⟨(hk 0 (by omega)).trans h1, (hk 1 (by omega)).trans h2, (hk 2 (by omega)).trans h3, (hk 11 (by omega)).trans h4, (hk 12 (by omega)).trans h5, ⟨rk, sw, m, w, P, B, g, h6.cells (hk 4 (by omega)) (hk 5 (by omega)) (hk 6 (by omega)) (hk 7 (by omega)) (hk 8 (by omega))⟩, ⟨ln, pl, ls, ps, s, (hk 9 (by omega)).trans h7, (hk 10 (by omega)).trans h8, h9⟩, fun k h => ⟨(hk (13 + k) (by omega)).trans (h10 k h).1, (hk (22 + k) (by omega)).trans (h10 k h).2⟩⟩
theorem XO.ef (h : XO M wa oa sc R C) (hJ : XJ wa la cap oa eu dv hi lo) (hf : EF M M' wa la 3122 eu dv hi lo) : XO M' wa oa sc R C := h.kept (fun i hi' => hf.far (hJ.2.2.1 i hi'))
/-- matrix k is another -/
theorem XO.mx {k r c : Nat} (h : XO M wa oa sc R C) (hk : k < 9) (hm : MXT M' wa (oa (13 + k)) (oa (22 + k)) (809 + 257 * k) r c) (hf : ∀ i, i < 31 → i ≠ 13 + k → M' (oa i) = M (oa i)) : XO M' wa oa sc (fun i => if i = k then r else R i) (fun i => if i = k then c else C i) := by
  obtain ⟨h1, h2, h3, h4, h5, ⟨rk, sw, m, w, P, B, g, h6⟩, ⟨ln, pl, ls, ps, s, h7, h8, h9⟩, h10⟩ := h
  refine ⟨(hf 0 (by omega) (by omega)).trans h1, (hf 1 (by omega) (by omega)).trans h2, (hf 2 (by omega) (by omega)).trans h3, (hf 11 (by omega) (by omega)).trans h4, (hf 12 (by omega) (by omega)).trans h5, ⟨rk, sw, m, w, P, B, g, h6.cells (hf 4 (by omega) (by omega)) (hf 5 (by omega) (by omega)) (hf 6 (by omega) (by omega)) (hf 7 (by omega) (by omega)) (hf 8 (by omega) (by omega))⟩, ⟨ln, pl, ls, ps, s, (hf 9 (by omega) (by omega)).trans h7, (hf 10 (by omega) (by omega)).trans h8, h9⟩, fun i hi' => ?_⟩
  by_cases e : i = k
  · dsimp only
    rw [e, if_pos rfl, if_pos rfl]; exact hm
  · dsimp only
    rw [if_neg e, if_neg e]
    exact ⟨(hf (13 + i) (by omega) (by omega)).trans (h10 i hi').1, (hf (22 + i) (by omega) (by omega)).trans (h10 i hi').2⟩
theorem XO.el {rk sw m w : Nat} {P B : List Int32} {g : Nat → Nat} (h : XO M wa oa sc R C) (hm : ELT M' wa (oa 4) (oa 5) (oa 6) (oa 7) (oa 8) (oa 3) rk sw m w P B g) (hf : ∀ i, i < 31 → i ≠ 4 → i ≠ 6 → i ≠ 7 → i ≠ 8 → M' (oa i) = M (oa i)) : XO M' wa oa sc R C := by
  obtain ⟨h1, h2, h3, h4, h5, _, ⟨ln, pl, ls, ps, s, h7, h8, h9⟩, h10⟩ := h
  exact ⟨(hf 0 (by omega) (by omega) (by omega) (by omega) (by omega)).trans h1, (hf 1 (by omega) (by omega) (by omega) (by omega) (by omega)).trans h2, (hf 2 (by omega) (by omega) (by omega) (by omega) (by omega)).trans h3, (hf 11 (by omega) (by omega) (by omega) (by omega) (by omega)).trans h4, (hf 12 (by omega) (by omega) (by omega) (by omega) (by omega)).trans h5, ⟨rk, sw, m, w, P, B, g, hm⟩, ⟨ln, pl, ls, ps, s, (hf 9 (by omega) (by omega) (by omega) (by omega) (by omega)).trans h7, (hf 10 (by omega) (by omega) (by omega) (by omega) (by omega)).trans h8, h9⟩, fun k h => ⟨(hf (13 + k) (by omega) (by omega) (by omega) (by omega) (by omega)).trans (h10 k h).1, (hf (22 + k) (by omega) (by omega) (by omega) (by omega) (by omega)).trans (h10 k h).2⟩⟩
theorem XO.re {ln pl ls ps : Nat} {s : Nat → Nat} (h : XO M wa oa sc R C) (hm : RST M' wa (oa 9) (oa 10) (oa 3) ln pl ls ps s) (hf : ∀ i, i < 31 → i ≠ 9 → i ≠ 10 → M' (oa i) = M (oa i)) : XO M' wa oa sc R C := by
  obtain ⟨h1, h2, h3, h4, h5, ⟨rk, sw, m, w, P, B, g, h6⟩, _, h10⟩ := h
  exact ⟨(hf 0 (by omega) (by omega) (by omega)).trans h1, (hf 1 (by omega) (by omega) (by omega)).trans h2, (hf 2 (by omega) (by omega) (by omega)).trans h3, (hf 11 (by omega) (by omega) (by omega)).trans h4, (hf 12 (by omega) (by omega) (by omega)).trans h5, ⟨rk, sw, m, w, P, B, g, h6.cells (hf 4 (by omega) (by omega) (by omega)) (hf 5 (by omega) (by omega) (by omega)) (hf 6 (by omega) (by omega) (by omega)) (hf 7 (by omega) (by omega) (by omega)) (hf 8 (by omega) (by omega) (by omega))⟩, ⟨ln, pl, ls, ps, s, hm⟩, fun k h => ⟨(hf (13 + k) (by omega) (by omega) (by omega)).trans (h10 k h).1, (hf (22 + k) (by omega) (by omega) (by omega)).trans (h10 k h).2⟩⟩
/-- another cell is shown -/
theorem XO.shw (h : XO M wa oa sc R C) (h0 : M' (oa 0) = some (.inl nX, [.ref (oa 1), .ref (oa 2), .ref (oa 21), .ref (oa 3), .ref (oa 4), .ref (oa 9), .ref (oa 11), .ref (oa 12), .int sc'])) (hJ : XJ wa la cap oa eu dv hi lo) (hf : ∀ x, x ≠ oa 0 → M' x = M x) : XO M' wa oa sc' R C := by
  obtain ⟨h1, h2, h3, h4, h5, ⟨rk, sw, m, w, P, B, g, h6⟩, ⟨ln, pl, ls, ps, s, h7, h8, h9⟩, h10⟩ := h
  have n : ∀ i, i < 31 → i ≠ 0 → M' (oa i) = M (oa i) := fun i hi' hn => hf _ (hJ.ne hi' (by omega) hn)
  exact ⟨h0, (n 1 (by omega) (by omega)).trans h2, (n 2 (by omega) (by omega)).trans h3, (n 11 (by omega) (by omega)).trans h4, (n 12 (by omega) (by omega)).trans h5, ⟨rk, sw, m, w, P, B, g, h6.cells (n 4 (by omega) (by omega)) (n 5 (by omega) (by omega)) (n 6 (by omega) (by omega)) (n 7 (by omega) (by omega)) (n 8 (by omega) (by omega))⟩, ⟨ln, pl, ls, ps, s, (n 9 (by omega) (by omega)).trans h7, (n 10 (by omega) (by omega)).trans h8, h9⟩, fun k h => ⟨(n (13 + k) (by omega) (by omega)).trans (h10 k h).1, (n (22 + k) (by omega) (by omega)).trans (h10 k h).2⟩⟩
end XOS
section X1
variable {G : jg} {d : Nat} {Q : jq} {rc rs : Nat} {M : mheap} {wa la cap oa : Nat → Nat} {eu dv hi lo : Nat} {V : Nat → Int} {sc : Int32} {R C : Nat → Nat}
theorem x_register {x : Int32} (hG : kG G) (hO : XO M wa oa sc R C) (hrc : 1 ≤ rc) (hrs : 6 ≤ rs) (k : ∀ n, n < 8 → x = nI n → Q (.returned (some (.ref (oa (13 + n))))) M rc rs) (kt : ¬ isReg x → ∀ x, M x = none → Q (.threw x) (jj_up M x (.inl 4, [])) (rc - 1) (rs - 6)) : jj G kX_register (d + 8) Q rc rs 0 (jj_ent [.ref (oa 0), .int x] 2) [] M := by
  show jj G kX_register (d + 8) Q rc rs 0 [some (.ref (oa 0)), some (.int (x))] [] M
  refine jj_iload_n (pc := 0) kX_register_d0 rfl ?_
  refine jj_if_lt (pc := 1) (tgt := 10) kX_register_d1 (by decide) (fun c1 => ?_) (fun c1 => ?_)
  · skip
    show jj G kX_register (d + 8) Q rc rs 10 [some (.ref (oa 0)), some (.int (x))] [] M
    exact jj_throw (pc := 10) (ll := 3) kX_register_d10 kX_register_d13 (Or.inr ⟨kX_register_d14, rfl⟩) kX_register_d17 kX_register_d20 (ktX_no_such_register hG) rfl (Nat.le_of_ble_eq_true rfl) (jj_bare0 rfl) hrc hrs (fun y hy => kt (isReg_not (Or.inl c1)) y hy)
  · skip
    refine jj_iload_n (pc := 4) kX_register_d4 rfl ?_
    refine jn_bipush (pc := 5) 8 kX_register_d5 (by decide) ?_
    refine jj_icmp_lt (pc := 7) (tgt := 21) kX_register_d7 (by decide) (fun c2 => ?_) (fun c2 => ?_)
    · skip
      obtain ⟨n, hn, rfl⟩ := isReg_of c1 (Int32.not_le.mpr c2)
      show jj G kX_register (d + 8) Q rc rs 21 [some (.ref (oa 0)), some (.int (nI (n)))] [] M
      refine jj_aload_n (pc := 21) kX_register_d21 rfl ?_
      refine jj_getf (pc := 22) kX_register_d22 (kfX_registers hG) hO.1 rfl ?_
      refine jj_iload_n (pc := 25) kX_register_d25 rfl ?_
      refine jj_aald (pc := 26) (i := n) kX_register_d26 (kG_t hG rfl) hO.2.1 rfl (by rw [List.length_map, List.length_range]; decide) (by rw [List.getElem?_map, List.getElem?_range hn]; rfl) ?_
      show jj G kX_register (d + 8) Q rc rs 27 [some (.ref (oa 0)), some (.int (nI (n)))] [.ref (oa (13 + n))] M
      exact jj_aret (pc := 27) kX_register_d27 rfl (by first | exact Or.inl ⟨_, rfl⟩ | exact Or.inr ⟨_, rfl⟩) (k n hn rfl)
    · skip
      show jj G kX_register (d + 8) Q rc rs 10 [some (.ref (oa 0)), some (.int (x))] [] M
      exact jj_throw (pc := 10) (ll := 3) kX_register_d10 kX_register_d13 (Or.inr ⟨kX_register_d14, rfl⟩) kX_register_d17 kX_register_d20 (ktX_no_such_register hG) rfl (Nat.le_of_ble_eq_true rfl) (jj_bare0 rfl) hrc hrs (fun y hy => kt (isReg_not (Or.inr (Int32.not_lt.mp c2))) y hy)
theorem isSide_of {x : Int32} (h1 : ¬ x < nI 1) (h2 : x ≤ nI 16) : isSide x := by
  have h0 : ¬ x < 0 := fun h => h1 (Int32.lt_trans h (by decide))
  obtain ⟨n, hn, e⟩ := nI_small (n := 17) (by omega) h0 (fun h => absurd (Int32.le_trans h h2) (by decide))
  refine ⟨n, ?_, by omega, e⟩
  rcases (show n = 0 ∨ 1 ≤ n by omega) with g | g
  · exact absurd (by rw [e, g]; decide) h1
  · exact g
theorem isSide_not {x : Int32} (h : x < nI 1 ∨ ¬ x ≤ nI 16) : ¬ isSide x := fun ⟨n, h1, h2, e⟩ => by
  rw [e] at h
  rcases h with h | h
  · rw [nI_lt_iff (by omega) (by omega)] at h; omega
  · rw [nI_le_iff (by omega) (by omega)] at h; omega
theorem x_isNoSide {x : Int32} (k0 : isSide x → Q (.returned (some (.int (nI 0)))) M rc rs) (k1 : ¬ isSide x → Q (.returned (some (.int (nI 1)))) M rc rs) : jj G kX_isNoSide d Q rc rs 0 (jj_ent [.int x] 1) [] M := by
  show jj G kX_isNoSide (d) Q rc rs 0 [some (.int (x))] [] M
  refine jj_iload_n (pc := 0) kX_isNoSide_d0 rfl ?_
  refine jn_iconst (pc := 1) 1 kX_isNoSide_d1 (by decide) ?_
  refine jj_icmp_lt (pc := 2) (tgt := 11) kX_isNoSide_d2 (by decide) (fun c1 => ?_) (fun c1 => ?_)
  · skip
    refine jn_iconst (pc := 11) 1 kX_isNoSide_d11 (by decide) ?_
    refine jj_goto (pc := 12) (tgt := 16) kX_isNoSide_d12 (by decide) ?_
    exact jj_iret (pc := 16) kX_isNoSide_d16 rfl (by rfl) (k1 (isSide_not (Or.inl c1)))
  · skip
    refine jj_iload_n (pc := 5) kX_isNoSide_d5 rfl ?_
    refine jn_bipush (pc := 6) 16 kX_isNoSide_d6 (by decide) ?_
    refine jj_icmp_le (pc := 8) (tgt := 15) kX_isNoSide_d8 (by decide) (fun c2 => ?_) (fun c2 => ?_)
    · skip
      refine jn_iconst (pc := 15) 0 kX_isNoSide_d15 (by decide) ?_
      exact jj_iret (pc := 16) kX_isNoSide_d16 rfl (by rfl) (k0 (isSide_of c1 c2))
    · skip
      refine jn_iconst (pc := 11) 1 kX_isNoSide_d11 (by decide) ?_
      refine jj_goto (pc := 12) (tgt := 16) kX_isNoSide_d12 (by decide) ?_
      exact jj_iret (pc := 16) kX_isNoSide_d16 rfl (by rfl) (k1 (isSide_not (Or.inr c2)))
theorem x_needCell {mx ar b r c : Nat} {y z : Int32} (hG : kG G) (hM : MXT M wa mx ar b r c) (hr : r ≤ 16) (hcc : c ≤ 16) (hrc : 1 ≤ rc) (hrs : 6 ≤ rs) (k : ∀ i j, i < r → y = nI i → j < c → z = nI j → Q (.returned none) M rc rs) (kt : ¬ (∃ i j, i < r ∧ y = nI i ∧ j < c ∧ z = nI j) → ∀ x, M x = none → Q (.threw x) (jj_up M x (.inl 4, [])) (rc - 1) (rs - 6)) : jj G kX_needCell (d + 8) Q rc rs 0 (jj_ent [.ref mx, .int y, .int z] 3) [] M := by
  have lt : ∀ (n m : Nat), n < m → m ≤ 16 → nI n < 0 → False := fun n m h1 h2 h => by
    rw [show (0 : Int32) = nI 0 from rfl, nI_lt_iff (by omega) (by omega)] at h
    omega
  have le : ∀ (n m : Nat), n < m → m ≤ 16 → nI m ≤ nI n → False := fun n m h1 h2 h => by
    rw [nI_le_iff (by omega) (by omega)] at h
    omega
  show jj G kX_needCell (d + 8) Q rc rs 0 [some (.ref mx), some (.int (y)), some (.int (z))] [] M
  refine jj_iload_n (pc := 0) kX_needCell_d0 rfl ?_
  refine jj_if_lt (pc := 1) (tgt := 24) kX_needCell_d1 (by decide) (fun c1 => ?_) (fun c1 => ?_)
  · skip
    show jj G kX_needCell (d + 8) Q rc rs 24 [some (.ref mx), some (.int (y)), some (.int (z))] [] M
    exact jj_throw (pc := 24) (ll := 3) kX_needCell_d24 kX_needCell_d27 (Or.inr ⟨kX_needCell_d28, rfl⟩) kX_needCell_d31 kX_needCell_d34 (ktX_no_such_row_or_column hG) rfl (Nat.le_of_ble_eq_true rfl) (jj_bare0 rfl) hrc hrs (fun a ha => kt (fun h => by obtain ⟨i, j, h1, e1, h2, e2⟩ := h; rw [e1] at c1; exact lt _ _ h1 hr c1) a ha)
  · skip
    refine jj_iload_n (pc := 4) kX_needCell_d4 rfl ?_
    refine jj_aload_n (pc := 5) kX_needCell_d5 rfl ?_
    refine jj_getf (pc := 6) kX_needCell_d6 (kfX_M_rows hG) hM.1 rfl ?_
    refine jj_icmp_ge (pc := 9) (tgt := 24) kX_needCell_d9 (by decide) (fun c2 => ?_) (fun c2 => ?_)
    · skip
      show jj G kX_needCell (d + 8) Q rc rs 24 [some (.ref mx), some (.int (y)), some (.int (z))] [] M
      exact jj_throw (pc := 24) (ll := 3) kX_needCell_d24 kX_needCell_d27 (Or.inr ⟨kX_needCell_d28, rfl⟩) kX_needCell_d31 kX_needCell_d34 (ktX_no_such_row_or_column hG) rfl (Nat.le_of_ble_eq_true rfl) (jj_bare0 rfl) hrc hrs (fun a ha => kt (fun h => by obtain ⟨i, j, h1, e1, h2, e2⟩ := h; rw [e1] at c2; exact le _ _ h1 hr c2) a ha)
    · skip
      refine jj_iload_n (pc := 12) kX_needCell_d12 rfl ?_
      refine jj_if_lt (pc := 13) (tgt := 24) kX_needCell_d13 (by decide) (fun c3 => ?_) (fun c3 => ?_)
      · skip
        show jj G kX_needCell (d + 8) Q rc rs 24 [some (.ref mx), some (.int (y)), some (.int (z))] [] M
        exact jj_throw (pc := 24) (ll := 3) kX_needCell_d24 kX_needCell_d27 (Or.inr ⟨kX_needCell_d28, rfl⟩) kX_needCell_d31 kX_needCell_d34 (ktX_no_such_row_or_column hG) rfl (Nat.le_of_ble_eq_true rfl) (jj_bare0 rfl) hrc hrs (fun a ha => kt (fun h => by obtain ⟨i, j, h1, e1, h2, e2⟩ := h; rw [e2] at c3; exact lt _ _ h2 hcc c3) a ha)
      · skip
        refine jj_iload_n (pc := 16) kX_needCell_d16 rfl ?_
        refine jj_aload_n (pc := 17) kX_needCell_d17 rfl ?_
        refine jj_getf (pc := 18) kX_needCell_d18 (kfX_M_columns hG) hM.1 rfl ?_
        refine jj_icmp_lt (pc := 21) (tgt := 35) kX_needCell_d21 (by decide) (fun c4 => ?_) (fun c4 => ?_)
        · skip
          obtain ⟨i, hi', e1⟩ := nI_small (by omega) c1 c2
          obtain ⟨j, hj, e2⟩ := nI_small (by omega) c3 (Int32.not_le.mpr c4)
          exact jj_vret (pc := 35) kX_needCell_d35 rfl (k i j hi' e1 hj e2)
        · skip
          show jj G kX_needCell (d + 8) Q rc rs 24 [some (.ref mx), some (.int (y)), some (.int (z))] [] M
          exact jj_throw (pc := 24) (ll := 3) kX_needCell_d24 kX_needCell_d27 (Or.inr ⟨kX_needCell_d28, rfl⟩) kX_needCell_d31 kX_needCell_d34 (ktX_no_such_row_or_column hG) rfl (Nat.le_of_ble_eq_true rfl) (jj_bare0 rfl) hrc hrs (fun a ha => kt (fun h => by obtain ⟨i, j, h1, e1, h2, e2⟩ := h; rw [e2] at c4; exact c4 (by rw [nI_lt_iff (by omega) (by omega)]; exact h2)) a ha)
theorem x_needWhole {mx ar b r c N : Nat} (hG : kG G) (hI : CI wa la cap N) (hc : CW M wa la cap N V) (hM : MXT M wa mx ar b r c) (hb : b + 256 < N) (hrc : 1 ≤ rc) (hrs : 6 ≤ rs) (k : V (b + 256) = 1 → Q (.returned none) M rc rs) (kt : V (b + 256) ≠ 1 → ∀ x, M x = none → Q (.threw x) (jj_up M x (.inl 5, [])) (rc - 1) (rs - 6)) : jj G kX_needWhole (d + 8) Q rc rs 0 (jj_ent [.ref mx] 1) [] M := by
  obtain ⟨T, t, hT, _, _⟩ := hc (b + 256) hb
  show jj G kX_needWhole (d + 8) Q rc rs 0 [some (.ref mx)] [] M
  refine jj_aload_n (pc := 0) kX_needWhole_d0 rfl ?_
  refine jj_getf (pc := 1) kX_needWhole_d1 (kfX_M_common hG) hM.1 rfl ?_
  refine jj_callV (pc := 4) (b := (wa (b + 256))) (As := []) kX_needWhole_d4 (kvX_W_isOne hG) (kG_cl hG rfl) rfl hT rfl rfl rfl (Nat.le_of_ble_eq_true rfl) (Nat.le_of_ble_eq_true rfl) (jj_bare0 rfl) ?_
  refine w_isOne hG hI hc hb (fun c1 => ?_) (fun c1 => ?_)
  · skip
    show jj G kX_needWhole (d + 8) Q rc rs 7 [some (.ref mx)] [.int (nI (1))] M
    refine jn_if_ne (pc := 7) (tgt := 21) kX_needWhole_d7 (by decide) (by omega) (fun _ => ?_) (fun c => by exfalso; omega)
    exact jj_vret (pc := 21) kX_needWhole_d21 rfl (k c1)
  · skip
    show jj G kX_needWhole (d + 8) Q rc rs 7 [some (.ref mx)] [.int (nI (0))] M
    refine jn_if_ne (pc := 7) (tgt := 21) kX_needWhole_d7 (by decide) (by omega) (fun c => by exfalso; omega) (fun _ => ?_)
    show jj G kX_needWhole (d + 8) Q rc rs 10 [some (.ref mx)] [] M
    exact jj_throw (pc := 10) (ll := 3) kX_needWhole_d10 kX_needWhole_d13 (Or.inr ⟨kX_needWhole_d14, rfl⟩) kX_needWhole_d17 kX_needWhole_d20 (ktX_some_cell_is_not_whole hG) rfl (Nat.le_of_ble_eq_true rfl) (jj_bare0 rfl) hrc hrs (fun y hy => kt c1 y hy)
end X1
