/-! ===== the reference's Forms: their state ===== -/
/-- o with its Fractions f, whose Wholes are w; two arrays of columns and rows, two numbers -/
def OC (M : mheap) (o f w ca ra : Nat) (CA RA : List Int32) (fi se : Int32) : Prop :=
  M o = some (.inl nRO, [.ref f, .ref w, .ref ca, .ref ra, .int fi, .int se]) ∧ M ca = some (.inr 0, CA.map .int) ∧ M ra = some (.inr 0, RA.map .int) ∧ ca ≠ ra ∧ ¬ FO M f o ∧ ¬ FO M f ca ∧ ¬ FO M f ra
theorem OC.ff {M M' : mheap} {o f w ca ra : Nat} {CA RA : List Int32} {fi se : Int32} (h : OC M o f w ca ra CA RA fi se) (hf : FF M M' f) : OC M' o f w ca ra CA RA fi se := by
  obtain ⟨h1, h2, h3, h4, h5, h6, h7⟩ := h
  obtain ⟨a1, a2⟩ := hf o (by rw [h1]; exact fun e => by cases e) h5
  obtain ⟨b1, b2⟩ := hf ca (by rw [h2]; exact fun e => by cases e) h6
  obtain ⟨c1, c2⟩ := hf ra (by rw [h3]; exact fun e => by cases e) h7
  exact ⟨a1.trans h1, b1.trans h2, c1.trans h3, h4, a2, b2, c2⟩
/-- what belongs to o -/
def OO (M : mheap) (o q : Nat) : Prop := q = o ∨ ∃ f w ca ra l, M o = some (.inl nRO, .ref f :: .ref w :: .ref ca :: .ref ra :: l) ∧ (FO M f q ∨ q = ca ∨ q = ra)
/-- all cells but those of o are as they were, and are not o's now -/
def OF (M M' : mheap) (o : Nat) : Prop := ∀ q, M q ≠ none → ¬ OO M o q → M' q = M q ∧ ¬ OO M' o q
theorem OF.refl (M : mheap) (o : Nat) : OF M M o := fun _ _ h => ⟨rfl, h⟩
theorem OF.trans {M M1 M2 : mheap} {o : Nat} (h1 : OF M M1 o) (h2 : OF M1 M2 o) : OF M M2 o := by
  intro q hq ho
  obtain ⟨e1, o1⟩ := h1 q hq ho
  obtain ⟨e2, o2⟩ := h2 q (by rw [e1]; exact hq) o1
  exact ⟨e2.trans e1, o2⟩
theorem OO.of {M : mheap} {o f w ca ra q : Nat} {CA RA : List Int32} {fi se : Int32} (h : OC M o f w ca ra CA RA fi se) : OO M o q ↔ (q = o ∨ FO M f q ∨ q = ca ∨ q = ra) := by
  constructor
  · rintro (e | ⟨f', w', ca', ra', l, e, g⟩)
    · exact Or.inl e
    · rw [h.1] at e
      simp only [Option.some.injEq, Prod.mk.injEq, List.cons.injEq, Value.ref.injEq] at e
      obtain ⟨-, rfl, rfl, rfl, rfl, -⟩ := e
      exact Or.inr g
  · rintro (e | g)
    · exact Or.inl e
    · exact Or.inr ⟨f, w, ca, ra, _, h.1, g⟩
section OST
variable {M M' : mheap} {o f w ca ra vv pv : Nat} {CA RA V P : List Int32} {fi se up low rk : Int32} {t : Nat}
theorem OF.ofFF (h : OC M o f w ca ra CA RA fi se) (hf : FF M M' f) : OF M M' o := by
  intro q hq ho
  have ho' := fun g => ho ((OO.of h).mpr g)
  obtain ⟨e, o1⟩ := hf q hq (fun g => ho' (Or.inr (Or.inl g)))
  refine ⟨e, fun g => ?_⟩
  rcases (OO.of (h.ff hf)).mp g with g | g | g
  · exact ho' (Or.inl g)
  · exact o1 g
  · exact ho' (Or.inr (Or.inr g))
/-- f does not see the other cells -/
theorem FO.other {a q : Nat} {x : mcell} (hC : FC M f w vv pv V t up low P rk) (ha : ¬ FO M f a) : FO (jj_up M a x) f q ↔ FO M f q := by
  have hf : f ≠ a := fun e => ha (Or.inl e.symm)
  have hw : w ≠ a := fun e => ha ((FO.of hC).mpr (Or.inr (Or.inl (Or.inl e.symm))))
  have hr : ∀ q, RO (jj_up M a x) w q ↔ RO M w q := fun q => by unfold RO; rw [jj_up_ne _ _ hw]
  unfold FO
  rw [jj_up_ne _ _ hf]
  constructor
  · rintro (e | ⟨w', vv', pv', a', b', c', l', e, g⟩)
    · exact Or.inl e
    · refine Or.inr ⟨w', vv', pv', a', b', c', l', e, ?_⟩
      have ew : w' = w := by rw [hC.1] at e; simp only [Option.some.injEq, Prod.mk.injEq, List.cons.injEq, Value.ref.injEq] at e; exact e.2.1.symm
      rw [ew] at g ⊢
      rw [hr] at g
      exact g
  · rintro (e | ⟨w', vv', pv', a', b', c', l', e, g⟩)
    · exact Or.inl e
    · refine Or.inr ⟨w', vv', pv', a', b', c', l', e, ?_⟩
      have ew : w' = w := by rw [hC.1] at e; simp only [Option.some.injEq, Prod.mk.injEq, List.cons.injEq, Value.ref.injEq] at e; exact e.2.1.symm
      rw [ew] at g ⊢
      rw [hr]
      exact g
theorem FC.other {a : Nat} {x : mcell} (hC : FC M f w vv pv V t up low P rk) (ha : ¬ FO M f a) : FC (jj_up M a x) f w vv pv V t up low P rk := by
  have hx := fun g => ha ((FO.of hC).mpr g)
  obtain ⟨h1, h2, h3, h4, h5, h6, h7⟩ := id hC
  have hw : a ≠ w := fun e => hx (Or.inr (Or.inl (Or.inl e)))
  exact ⟨by rw [jj_up_ne _ _ (fun e => hx (Or.inl e.symm))]; exact h1, by rw [jj_up_ne _ _ (fun e => hx (Or.inr (Or.inr (Or.inl e.symm))))]; exact h2, by rw [jj_up_ne _ _ (fun e => hx (Or.inr (Or.inr (Or.inr e.symm))))]; exact h3, h4, fun g => h5 ((RO.upd hw).mp g), fun g => h6 ((RO.upd hw).mp g), fun g => h7 ((RO.upd hw).mp g)⟩
theorem FO.notRO {q : Nat} (hC : FC M f w vv pv V t up low P rk) (ha : ¬ FO M f q) : ¬ RO M w q := fun g => ha ((FO.of hC).mpr (Or.inr (Or.inl g)))
/-- new ints in o's own fields -/
theorem OC.puto (h : OC M o f w ca ra CA RA fi se) (hC : FC M f w vv pv V t up low P rk) {fi' se' : Int32} : OC (jj_up M o (.inl nRO, [.ref f, .ref w, .ref ca, .ref ra, .int fi', .int se'])) o f w ca ra CA RA fi' se' := by
  obtain ⟨h1, h2, h3, h4, h5, h6, h7⟩ := h
  have e1 : ca ≠ o := fun e => by rw [e, h1] at h2; cases h2
  have e2 : ra ≠ o := fun e => by rw [e, h1] at h3; cases h3
  exact ⟨jj_up_at _ _ _, by rw [jj_up_ne _ _ e1]; exact h2, by rw [jj_up_ne _ _ e2]; exact h3, h4, fun g => h5 ((FO.other hC h5).mp g), fun g => h6 ((FO.other hC h5).mp g), fun g => h7 ((FO.other hC h5).mp g)⟩
theorem OC.putc (h : OC M o f w ca ra CA RA fi se) (hC : FC M f w vv pv V t up low P rk) {CA' : List Int32} : OC (jj_up M ca (.inr 0, CA'.map .int)) o f w ca ra CA' RA fi se := by
  obtain ⟨h1, h2, h3, h4, h5, h6, h7⟩ := h
  have e1 : o ≠ ca := fun e => by rw [← e, h1] at h2; cases h2
  exact ⟨by rw [jj_up_ne _ _ e1]; exact h1, jj_up_at _ _ _, by rw [jj_up_ne _ _ (fun e => h4 e.symm)]; exact h3, h4, fun g => h5 ((FO.other hC h6).mp g), fun g => h6 ((FO.other hC h6).mp g), fun g => h7 ((FO.other hC h6).mp g)⟩
theorem OC.putr (h : OC M o f w ca ra CA RA fi se) (hC : FC M f w vv pv V t up low P rk) {RA' : List Int32} : OC (jj_up M ra (.inr 0, RA'.map .int)) o f w ca ra CA RA' fi se := by
  obtain ⟨h1, h2, h3, h4, h5, h6, h7⟩ := h
  have e1 : o ≠ ra := fun e => by rw [← e, h1] at h3; cases h3
  exact ⟨by rw [jj_up_ne _ _ e1]; exact h1, by rw [jj_up_ne _ _ h4]; exact h2, jj_up_at _ _ _, h4, fun g => h5 ((FO.other hC h7).mp g), fun g => h6 ((FO.other hC h7).mp g), fun g => h7 ((FO.other hC h7).mp g)⟩
theorem OF.put {a : Nat} {x : mcell} {CA' RA' : List Int32} {fi' se' : Int32} (h : OC M o f w ca ra CA RA fi se) (hC : FC M f w vv pv V t up low P rk) (ha : a = o ∨ a = ca ∨ a = ra) (h' : OC (jj_up M a x) o f w ca ra CA' RA' fi' se') : OF M (jj_up M a x) o := by
  intro q hq ho
  have ho' := fun g => ho ((OO.of h).mpr g)
  have hna : ¬ FO M f a := by
    rcases ha with e | e | e
    · rw [e]; exact h.2.2.2.2.1
    · rw [e]; exact h.2.2.2.2.2.1
    · rw [e]; exact h.2.2.2.2.2.2
  refine ⟨jj_up_ne _ _ (fun e => ho' (by rcases ha with g | g | g <;> simp [e, g])), fun g => ?_⟩
  rcases (OO.of h').mp g with g | g | g
  · exact ho' (Or.inl g)
  · exact ho' (Or.inr (Or.inl ((FO.other hC hna).mp g)))
  · exact ho' (Or.inr (Or.inr g))
end OST
