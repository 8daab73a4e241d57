/-! ===== Elimination: state, at, put (printed by wip/gen/rE1.py) ===== -/
/-- an address that none of those who reckon writes -/
def FAR (wa la : Nat → Nat) (N eu dv hi lo x : Nat) : Prop := (∀ p, p < N → x ≠ wa p ∧ x ≠ la p) ∧ x ≠ hi ∧ x ≠ lo ∧ x ≠ eu ∧ x ≠ dv
/-- the frame of what reckons and writes the cells X too -/
def EFX (X : Nat → Prop) (M M' : mheap) (wa la : Nat → Nat) (N eu dv hi lo : Nat) : Prop := ∀ x, ¬ X x → FAR wa la N eu dv hi lo x → M' x = M x
section FARS
variable {M M1 M' : mheap} {wa la cap : Nat → Nat} {N eu dv hi lo dk x : Nat} {X Y : Nat → Prop} {V : Nat → Int}
theorem EF.far (h : EF M M' wa la N eu dv hi lo) (f : FAR wa la N eu dv hi lo x) : M' x = M x := h x f.1 f.2.1 f.2.2.1 f.2.2.2.1 f.2.2.2.2
theorem EF.efx (h : EF M M' wa la N eu dv hi lo) : EFX X M M' wa la N eu dv hi lo := fun _ _ f => h.far f
theorem EFX.trans (h : EFX X M M1 wa la N eu dv hi lo) (h2 : EFX X M1 M' wa la N eu dv hi lo) : EFX X M M' wa la N eu dv hi lo := fun x a f => (h2 x a f).trans (h x a f)
theorem EFX.more (h : EFX X M M' wa la N eu dv hi lo) (hm : ∀ x, X x → Y x) : EFX Y M M' wa la N eu dv hi lo := fun x a f => h x (fun c => a (hm x c)) f
theorem EFX.up {y : Nat} (h : ∀ x, x ≠ y → M' x = M x) (hy : X y) : EFX X M M' wa la N eu dv hi lo := fun x a _ => h x (fun e => a (by rw [e]; exact hy))
/-- the desk's state bears a write far off -/
theorem KS.up {y : Nat} (hS : KS M wa la cap N eu dv hi lo dk V) (f : FAR wa la N eu dv hi lo y) (hd : y ≠ dk) (h : ∀ x, x ≠ y → M' x = M x) : KS M' wa la cap N eu dv hi lo dk V := by
  obtain ⟨hc, ⟨r, px, pf, py, po, ps, od, hU⟩, hk⟩ := hS
  obtain ⟨f1, f2, f3, f4, f5⟩ := f
  obtain ⟨h1, ⟨d1, ⟨H, d2, lH⟩, L, d3, lL⟩, h3, a, b, c, e, h4⟩ := hU
  refine ⟨hc.kept (fun p hp => ⟨h _ (Ne.symm (f1 p hp).1), h _ (Ne.symm (f1 p hp).2)⟩), ⟨r, px, pf, py, po, ps, od, h1, ⟨?_, ⟨H, ?_, lH⟩, L, ?_, lL⟩, h3, a, b, c, e, ?_⟩, ?_⟩
  · rw [h _ (Ne.symm f5)]; exact d1
  · rw [h _ (Ne.symm f2)]; exact d2
  · rw [h _ (Ne.symm f3)]; exact d3
  · rw [h _ (Ne.symm f4)]; exact h4
  · rw [h _ (Ne.symm hd)]; exact hk
end FARS
/-- the grid's references: each of the places 35 to 546 once -/
def GP (g : Nat → Nat) : Prop := (∀ i, i < 512 → 35 ≤ g i ∧ g i < 547) ∧ ∀ i j, i < 512 → j < 512 → g i = g j → i = j
theorem GP.ne {g : Nat → Nat} (h : GP g) {i x i' x' : Nat} (hi : i < 16) (hx : x < 32) (hi' : i' < 16) (hx' : x' < 32) (hn : ¬ (i = i' ∧ x = x')) : g (32 * i + x) ≠ g (32 * i' + x') := fun e => by
  have := h.2 _ _ (by omega) (by omega) e
  omega
/-- what never changes of the elimination: last 33, the other factor 34, row factors from 17 on -/
def LJ (wa la cap : Nat → Nat) (N eu dv hi lo dk el ra pa ia ga : Nat) : Prop := 547 ≤ N ∧ (∀ p, 17 ≤ p → p < 33 → cap p = 125) ∧ cap 33 = 64 ∧ cap 34 = 125 ∧ (∀ p, 35 ≤ p → p < 547 → cap p = 64) ∧ FAR wa la N eu dv hi lo el ∧ FAR wa la N eu dv hi lo ra ∧ FAR wa la N eu dv hi lo pa ∧ FAR wa la N eu dv hi lo ia ∧ FAR wa la N eu dv hi lo ga ∧ ra ≠ ga ∧ (el ≠ dk ∧ pa ≠ dk ∧ ia ≠ dk ∧ ga ≠ dk)
/-- the elimination's cells: rank, swapped, rows, width, pivots' columns, which columns have one, the grid's places -/
def ELT (M : mheap) (wa : Nat → Nat) (el ra pa ia ga dk rk sw m w : Nat) (P B : List Int32) (g : Nat → Nat) : Prop := M el = some (.inl nE, [.ref ra, .ref pa, .ref ia, .ref (wa 33), .int (nI rk), .int (nI sw), .int (nI m), .int (nI w), .ref ga, .ref (wa 34), .ref dk]) ∧ M ra = some (.inr 3, (List.range 16).map (fun i => Value.ref (wa (17 + i)))) ∧ (M pa = some (.inr 0, P.map .int) ∧ P.length = 16) ∧ (M ia = some (.inr 2, B.map .int) ∧ B.length = 32) ∧ M ga = some (.inr 3, (List.range 512).map (fun i => Value.ref (wa (g i)))) ∧ GP g
theorem ELT.ef {M M' : mheap} {wa la cap : Nat → Nat} {N eu dv hi lo dk el ra pa ia ga rk sw m w : Nat} {P B : List Int32} {g : Nat → Nat} (h : ELT M wa el ra pa ia ga dk rk sw m w P B g) (hJ : LJ wa la cap N eu dv hi lo dk el ra pa ia ga) (hf : EF M M' wa la N eu dv hi lo) : ELT M' wa el ra pa ia ga dk rk sw m w P B g := by
  obtain ⟨h1, h2, ⟨h3, l3⟩, ⟨h4, l4⟩, h5, h6⟩ := h
  obtain ⟨_, _, _, _, _, f1, f2, f3, f4, f5, _, _⟩ := hJ
  exact ⟨(hf.far f1).trans h1, (hf.far f2).trans h2, ⟨(hf.far f3).trans h3, l3⟩, ⟨(hf.far f4).trans h4, l4⟩, (hf.far f5).trans h5, h6⟩
section E1
variable {G : jg} {d : Nat} {Q : jq} {rc rs : Nat} {M : mheap} {wa la cap : Nat → Nat} {N eu dv hi lo dk el ra pa ia ga rk sw m w : Nat} {P B : List Int32} {g : Nat → Nat} {V : Nat → Int}
theorem e_at {i j : Nat} (hG : kG G) (hL : ELT M wa el ra pa ia ga dk rk sw m w P B g) (hi16 : i < 16) (hj16 : j < 32) (k : Q (.returned (some (.ref (wa (g (32 * i + j)))))) M rc rs) : jj G kE_at d Q rc rs 0 (jj_ent [.ref el, .int (nI i), .int (nI j)] 3) [] M := by
  obtain ⟨h1, _, _, _, h5, _⟩ := hL
  show jj G kE_at (d) Q rc rs 0 [some (.ref el), some (.int (nI (i))), some (.int (nI (j)))] [] M
  refine jj_aload_n (pc := 0) kE_at_d0 rfl ?_
  refine jj_getf (pc := 1) kE_at_d1 (kfE_grid hG) h1 rfl ?_
  refine jj_iload_n (pc := 4) kE_at_d4 rfl ?_
  refine jn_bipush (pc := 5) 32 kE_at_d5 (by decide) ?_
  refine jn_imul (pc := 7) (32 * i) kE_at_d7 (by omega) ?_
  refine jj_iload_n (pc := 8) kE_at_d8 rfl ?_
  refine jn_iadd (pc := 9) (32 * i + j) kE_at_d9 (by omega) ?_
  refine jj_aald (pc := 10) (i := 32 * i + j) kE_at_d10 (kG_t hG rfl) h5 rfl (by rw [List.length_map, List.length_range]; decide) (by rw [List.getElem?_map, List.getElem?_range (by omega)]; rfl) ?_
  exact jj_aret (pc := 11) kE_at_d11 rfl (by first | exact Or.inl ⟨_, rfl⟩ | exact Or.inr ⟨_, rfl⟩) k
theorem blen_cap {M : mheap} {wa la cap : Nat → Nat} {N p : Nat} {V : Nat → Int} (hI : CI wa la cap N) (hc : CW M wa la cap N V) (hp : p < N) : blen (V p) < 64000 := by
  have h1 := hc.lc hp
  have h2 := hI.2.2 p hp
  have h3 : (blen (V p) + 31) / 32 ≤ cap p := h1
  omega
theorem lc_2000 {z : Int} (h : blen z ≤ 2000) : lc z ≤ 63 := by
  unfold lc
  omega
theorem e_put {i j u : Nat} (hG : kG G) (hK : KJI wa la cap N hi lo) (hS : KS M wa la cap N eu dv hi lo dk V) (hJ : LJ wa la cap N eu dv hi lo dk el ra pa ia ga) (hL : ELT M wa el ra pa ia ga dk rk sw m w P B g) (hi16 : i < 16) (hj16 : j < 32) (hu : u < N) (hrc : 1 ≤ rc) (hrs : 6 ≤ rs) (k : ∀ M', CW M' wa la cap N (vup V (g (32 * i + j)) (V u)) → WT M M' wa la (g (32 * i + j)) → blen (V u) ≤ 2000 → Q (.returned none) M' rc rs) (kt : 2000 < blen (V u) → ∀ x, M x = none → Q (.threw x) (jj_up M x (.inl 6, [])) (rc - 1) (rs - 6)) : jj G kE_put (d + 8) Q rc rs 0 (jj_ent [.ref el, .int (nI i), .int (nI j), .ref (wa u)] 4) [] M := by
  have hI := hK.1
  have hc := hS.1
  have hB := blen_cap hI hc hu
  obtain ⟨h547, _, _, _, hc64, _⟩ := id hJ
  have hg := hL.2.2.2.2.2.1 (32 * i + j) (by omega)
  obtain ⟨T, t, hT, _, _⟩ := hc u hu
  obtain ⟨T1, t1, hT1, _, _⟩ := hc (g (32 * i + j)) (by omega)
  show jj G kE_put (d + 8) Q rc rs 0 [some (.ref el), some (.int (nI (i))), some (.int (nI (j))), some (.ref (wa u))] [] M
  refine jj_aload_n (pc := 0) kE_put_d0 rfl ?_
  refine jj_callV (pc := 1) (b := (wa u)) (As := []) kE_put_d1 (kvE_W_bits hG) (kG_cl hG rfl) rfl hT rfl rfl rfl (Nat.le_of_ble_eq_true rfl) (Nat.le_of_ble_eq_true rfl) (jj_bare0 rfl) ?_
  refine w_bits hG hI hc hu ?_
  show jj G kE_put (d + 8) Q rc rs 4 [some (.ref el), some (.int (nI (i))), some (.int (nI (j))), some (.ref (wa u))] [.int (nI (blen (V u)))] M
  refine jn_sipush (pc := 4) 2000 kE_put_d4 (by decide) ?_
  refine jn_icmp_le (pc := 7) (tgt := 20) kE_put_d7 (by decide) (by omega) (by omega) (fun c => ?_) (fun c => ?_)
  · skip
    refine jj_aload_n (pc := 20) kE_put_d20 rfl ?_
    refine jj_iload_n (pc := 21) kE_put_d21 rfl ?_
    refine jj_iload_n (pc := 22) kE_put_d22 rfl ?_
    refine jj_callV (pc := 23) (b := el) (As := [.int (nI (i)), .int (nI (j))]) kE_put_d23 (kvE_E_at hG) (kG_cl hG rfl) rfl hL.1 rfl rfl rfl (Nat.le_of_ble_eq_true rfl) (Nat.le_of_ble_eq_true rfl) (jj_bare0 rfl) ?_
    refine e_at hG hL hi16 hj16 ?_
    show jj G kE_put (d + 8) Q rc rs 26 [some (.ref el), some (.int (nI (i))), some (.int (nI (j))), some (.ref (wa u))] [.ref (wa (g (32 * i + j)))] M
    refine jj_aload_n (pc := 26) kE_put_d26 rfl ?_
    refine jj_callV (pc := 27) (b := (wa (g (32 * i + j)))) (As := [.ref (wa u)]) kE_put_d27 (kvE_W_copy hG) (kG_cl hG rfl) rfl hT1 rfl rfl rfl (Nat.le_of_ble_eq_true rfl) (Nat.le_of_ble_eq_true rfl) (jj_bare0 rfl) ?_
    refine w_copy hG hI hc (t := g (32 * i + j)) (u := u) (by omega) hu (by rw [hc64 _ hg.1 hg.2]; exact Nat.lt_of_lt_of_le (lc_lt _) (Nat.pow_le_pow_right (by decide) (by have := lc_2000 c; omega))) (fun M1 hc1 hw1 => ?_)
    show jj G kE_put (d + 8) Q rc rs 30 [some (.ref el), some (.int (nI (i))), some (.int (nI (j))), some (.ref (wa u))] [] M1
    exact jj_vret (pc := 30) kE_put_d30 rfl (k M1 hc1 hw1 c)
  · skip
    exact jj_throw (pc := 10) (ll := 2) kE_put_d10 kE_put_d13 (Or.inl ⟨kE_put_d14, rfl⟩) kE_put_d16 kE_put_d19 (ktE_WEIGHT_is_above_2000 hG) rfl (Nat.le_of_ble_eq_true rfl) (jj_bare0 rfl) hrc hrs (fun x hx => kt (by omega) x hx)
end E1
