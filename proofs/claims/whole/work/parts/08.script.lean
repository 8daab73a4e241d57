/-! ===== THE SCRIPT, and the law's own start and end ===== -/
/-- the script: L ints -/
def jj_scr (G : jg) (L : Nat) (xs : Nat → Int32) : Prop := ∃ scr : Cell, G.2.2.2.2.1[G.2.2.2.2.2]? = some scr ∧ scr.vm ≠ .unknown ∧ scr.slots.size = L ∧ L < 2 ^ 31 ∧ ∀ j, j < L → scr.slots[j]? = some (.int (xs j))
section JS
variable {G : jg} {Y : jm} {d : Nat} {Q : jq} {rc rs pc : Nat} {L : List (Option Value)} {st : List Value} {M : mheap}
theorem jj_scr_at {H : Heap} (A : jj_rel G M H) {scr : Cell} (h : G.2.2.2.2.1[G.2.2.2.2.2]? = some scr) : H[G.2.2.2.2.2]? = some scr := by
  rw [A.2.1.1 _ (Array.getElem?_eq_some_iff.mp h).1]; exact h
theorem jj_slen {N b : Nat} {xs : Nat → Int32} (hd : decode Y.2.1 pc = .ok (.arraylength, 1)) (hs : jj_scr G N xs) (hb : b = G.2.2.2.2.2) (kk : jj G Y d Q rc rs (pc + 1) L (.int (nI N) :: st) M) : jj G Y d Q rc rs pc L (.ref b :: st) M := by
  intro p l e R s m args below meth c H locs cells slots ls F A B C E1 E2 E3 E4
  have kw := kk p l e R s m args below meth c H locs cells slots ls F A B C E1 E2 E3 E4
  obtain ⟨f1, f2, f3, f4, f5, f6, f7, f8, f9, f10, f11, f12, f13⟩ := F
  obtain ⟨scr, h1, h2, h3, h4, h5⟩ := hs
  subst hb
  exact W.alen f1 f2 (jj_scr_at A h1) (f13.2.2.2.2.2.2 scr h1) (by rw [h3]; rfl) rfl rfl hd kw
theorem jj_sld {N b i : Nat} {xs : Nat → Int32} {x : Int32} (hd : decode Y.2.1 pc = .ok (.iaload, 1)) (hs : jj_scr G N xs) (hb : b = G.2.2.2.2.2) (hx : x = nI i) (hi : i < N) (kk : jj G Y d Q rc rs (pc + 1) L (.int (xs i) :: st) M) : jj G Y d Q rc rs pc L (.int x :: .ref b :: st) M := by
  intro p l e R s m args below meth c H locs cells slots ls F A B C E1 E2 E3 E4
  have kw := kk p l e R s m args below meth c H locs cells slots ls F A B C E1 E2 E3 E4
  obtain ⟨f1, f2, f3, f4, f5, f6, f7, f8, f9, f10, f11, f12, f13⟩ := F
  obtain ⟨scr, h1, h2, h3, h4, h5⟩ := hs
  subst hb
  subst hx
  have ec : (nI i).toNatClampNeg = i := nI_clamp (by omega)
  exact W.iald f1 f2 (jj_scr_at A h1) (f13.2.2.2.2.2.2 scr h1) h2 (by rw [h3]; exact vp_in_nI hi h4) (by rw [ec]; exact h5 i hi) rfl rfl hd kw
/-- class numbers for a list of classes -/
theorem jj_nums {s : State} : ∀ (l : List vw_C), (∀ q ∈ l, ∃ (cC : ClassId) (iS : Nat → Nat), u_Kn s q.1 q.2.1 q.2.2 cC iS) → ∃ D : va_G, ∀ (k : Nat) (q : vw_C), l[k]? = some q → u_Kn s q.1 q.2.1 q.2.2 (D.1 k) (D.2 k) := by
  intro l
  induction l with
  | nil => intro _; exact ⟨(fun _ => 0, fun _ _ => 0), fun k q h => by simp at h⟩
  | cons a t ih =>
    intro h
    obtain ⟨cC, iS, h1⟩ := h a List.mem_cons_self
    obtain ⟨D, hD⟩ := ih (fun q hq => h q (List.mem_cons_of_mem _ hq))
    refine ⟨(fun k => match k with | 0 => cC | k + 1 => D.1 k, fun k => match k with | 0 => iS | k + 1 => D.2 k), fun k q hk => ?_⟩
    cases k with
    | zero => simp at hk; subst hk; exact h1
    | succ k => exact hD k q (by simpa using hk)
theorem jj_arrs {s : State} : ∀ (l : List FieldType), (∀ ty ∈ l, ∃ cA : ClassId, ArrOfT s cA ty ∧ va_RA s cA ty) → ∃ tys : List (ClassId × FieldType), tys.map (·.2) = l ∧ ∀ (k : Nat) (q : ClassId × FieldType), tys[k]? = some q → ArrOfT s q.1 q.2 ∧ va_RA s q.1 q.2 := by
  intro l
  induction l with
  | nil => intro _; exact ⟨[], rfl, fun k q h => by simp at h⟩
  | cons a t ih =>
    intro h
    obtain ⟨cA, h1⟩ := h a List.mem_cons_self
    obtain ⟨tys, e, hD⟩ := ih (fun q hq => h q (List.mem_cons_of_mem _ hq))
    refine ⟨(cA, a) :: tys, by simp [e], fun k q hk => ?_⟩
    cases k with
    | zero => simp at hk; subst hk; exact h1
    | succ k => exact hD k q (by simpa using hk)
theorem jj_arrP {s : State} {args : Array Value} {ty : FieldType} (hp : ∀ C, ty ≠ .object C) (h : (Cond.arrayClass ty).before args s = true) : ∃ cA : ClassId, ArrOfT s cA ty ∧ va_RA s cA ty := by
  obtain ⟨c, k, comp, h1, h2, h3⟩ := Cond.arrayClass_spec h
  refine ⟨c, fun n z => ⟨(fun q h => by cases h), k, h2, comp, h3⟩, ?_⟩
  cases ty with
  | object C => exact absurd rfl (hp C)
  | _ => exact h1
theorem jj_arrO {s : State} {args : Array Value} {C : String} (h : (Cond.arrayOver (.object C)).before args s = true) : ∃ cA : ClassId, ArrOfT s cA (.object C) ∧ va_RA s cA (.object C) := by
  obtain ⟨comp, c, k, h1, h2, h3, h4, h5⟩ := Cond.arrayOver_spec h
  exact ⟨c, fun n z => ⟨(fun q h => by cases h), k, h3, comp, h4⟩, k, comp, h3, h4, h1, h5⟩
end JS
