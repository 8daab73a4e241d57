/-! ===== the reference's Fractions: their state, what they leave alone ===== -/
/-- f with its Wholes w, its heads V (their top t), the last fraction, the pivots P and the rank -/
def FC (M : mheap) (f w vv pv : Nat) (V : List Int32) (t : Nat) (up low : Int32) (P : List Int32) (rk : Int32) : Prop :=
  M f = some (.inl nRF, [.ref w, .ref vv, .int (nI t), .int up, .int low, .ref pv, .int rk]) ∧ M vv = some (.inr 0, V.map .int) ∧ M pv = some (.inr 0, P.map .int) ∧ vv ≠ pv ∧ ¬ RO M w f ∧ ¬ RO M w vv ∧ ¬ RO M w pv
/-- what belongs to f -/
def FO (M : mheap) (f q : Nat) : Prop := q = f ∨ ∃ w vv pv a b c l, M f = some (.inl nRF, .ref w :: .ref vv :: a :: b :: c :: .ref pv :: l) ∧ (RO M w q ∨ q = vv ∨ q = pv)
/-- all cells but those of f are as they were, and are not f's now -/
def FF (M M' : mheap) (f : Nat) : Prop := ∀ q, M q ≠ none → ¬ FO M f q → M' q = M q ∧ ¬ FO M' f q
theorem FF.refl (M : mheap) (f : Nat) : FF M M f := fun _ _ h => ⟨rfl, h⟩
theorem FF.trans {M M1 M2 : mheap} {f : Nat} (h1 : FF M M1 f) (h2 : FF M1 M2 f) : FF M M2 f := by
  intro q hq ho
  obtain ⟨e1, o1⟩ := h1 q hq ho
  obtain ⟨e2, o2⟩ := h2 q (by rw [e1]; exact hq) o1
  exact ⟨e2.trans e1, o2⟩
theorem FO.of {M : mheap} {f w vv pv q : Nat} {V P : List Int32} {t : Nat} {up low rk : Int32} (h : FC M f w vv pv V t up low P rk) : FO M f q ↔ (q = f ∨ RO M w q ∨ q = vv ∨ q = pv) := by
  constructor
  · rintro (e | ⟨w', vv', pv', a, b, c, l, e, g⟩)
    · exact Or.inl e
    · rw [h.1] at e
      simp only [Option.some.injEq, Prod.mk.injEq, List.cons.injEq, Value.ref.injEq] at e
      obtain ⟨-, rfl, rfl, -, -, -, rfl, -⟩ := e
      exact Or.inr g
  · rintro (e | g)
    · exact Or.inl e
    · exact Or.inr ⟨w, vv, pv, _, _, _, _, h.1, g⟩
section FST
variable {M M' : mheap} {f w vv pv : Nat} {V P : List Int32} {t : Nat} {up low rk : Int32}
theorem FC.rf (h : FC M f w vv pv V t up low P rk) (hf : RF M M' w) : FC M' f w vv pv V t up low P rk := by
  obtain ⟨h1, h2, h3, h4, h5, h6, h7⟩ := h
  obtain ⟨a1, a2⟩ := hf f (by rw [h1]; exact fun e => by cases e) h5
  obtain ⟨b1, b2⟩ := hf vv (by rw [h2]; exact fun e => by cases e) h6
  obtain ⟨c1, c2⟩ := hf pv (by rw [h3]; exact fun e => by cases e) h7
  exact ⟨a1.trans h1, b1.trans h2, c1.trans h3, h4, a2, b2, c2⟩
theorem FF.ofRF (h : FC M f w vv pv V t up low P rk) (hf : RF M M' w) : FF M M' f := by
  intro q hq ho
  have ho' := fun g => ho ((FO.of h).mpr g)
  obtain ⟨e, o⟩ := hf q hq (fun g => ho' (Or.inr (Or.inl g)))
  refine ⟨e, fun g => ?_⟩
  rcases (FO.of (h.rf hf)).mp g with g | g | g
  · exact ho' (Or.inl g)
  · exact o g
  · exact ho' (Or.inr (Or.inr g))
theorem RO.upd {a q : Nat} {x : mcell} (hn : a ≠ w) : RO (jj_up M a x) w q ↔ RO M w q := by
  unfold RO
  rw [jj_up_ne _ _ (fun e => hn e.symm)]
theorem RW.other {D : List Int32} {T a : Nat} {v2 : Value} {x : mcell} (h : RW M w D T v2) (hn : ¬ RO M w a) : RW (jj_up M a x) w D T v2 := by
  obtain ⟨dd, h1, h2⟩ := h
  exact ⟨dd, by rw [jj_up_ne _ _ (fun e => hn (Or.inl e.symm))]; exact h1, by rw [jj_up_ne _ _ (fun e => hn (Or.inr ⟨_, by rw [← e]; exact h1⟩))]; exact h2⟩
theorem RS.other {D : List Int32} {T a cm X Z rc rs : Nat} {v2 : Value} {x : mcell} (h : RS M w D T v2 cm X Z rc rs) (hn : ¬ RO M w a) : RS (jj_up M a x) w D T v2 cm X Z rc rs := ⟨h.1.other hn, h.2⟩
/-- new ints in f's own fields -/
theorem FC.putf (h : FC M f w vv pv V t up low P rk) {t' : Nat} {up' low' rk' : Int32} : FC (jj_up M f (.inl nRF, [.ref w, .ref vv, .int (nI t'), .int up', .int low', .ref pv, .int rk'])) f w vv pv V t' up' low' P rk' := by
  obtain ⟨h1, h2, h3, h4, h5, h6, h7⟩ := h
  have fw : f ≠ w := fun e => h5 (Or.inl e)
  have fv : vv ≠ f := fun e => by rw [e, h1] at h2; cases h2
  have fp : pv ≠ f := fun e => by rw [e, h1] at h3; cases h3
  exact ⟨jj_up_at _ _ _, by rw [jj_up_ne _ _ fv]; exact h2, by rw [jj_up_ne _ _ fp]; exact h3, h4, fun g => h5 ((RO.upd fw).mp g), fun g => h6 ((RO.upd fw).mp g), fun g => h7 ((RO.upd fw).mp g)⟩
theorem FF.putf (h : FC M f w vv pv V t up low P rk) {t' : Nat} {up' low' rk' : Int32} : FF M (jj_up M f (.inl nRF, [.ref w, .ref vv, .int (nI t'), .int up', .int low', .ref pv, .int rk'])) f := by
  intro q hq ho
  have ho' := fun g => ho ((FO.of h).mpr g)
  have fw : f ≠ w := fun e => h.2.2.2.2.1 (Or.inl e)
  refine ⟨jj_up_ne _ _ (fun e => ho' (Or.inl e)), fun g => ?_⟩
  rcases (FO.of (h.putf (t' := t') (up' := up') (low' := low') (rk' := rk'))).mp g with g | g | g
  · exact ho' (Or.inl g)
  · exact ho' (Or.inr (Or.inl ((RO.upd fw).mp g)))
  · exact ho' (Or.inr (Or.inr g))
/-- other ints in its heads, or among its pivots -/
theorem FC.putv (h : FC M f w vv pv V t up low P rk) {V' : List Int32} : FC (jj_up M vv (.inr 0, V'.map .int)) f w vv pv V' t up low P rk := by
  obtain ⟨h1, h2, h3, h4, h5, h6, h7⟩ := h
  have fw : vv ≠ w := fun e => h6 (Or.inl e)
  have fv : f ≠ vv := fun e => by rw [← e, h1] at h2; cases h2
  exact ⟨by rw [jj_up_ne _ _ fv]; exact h1, jj_up_at _ _ _, by rw [jj_up_ne _ _ (fun e => h4 e.symm)]; exact h3, h4, fun g => h5 ((RO.upd fw).mp g), fun g => h6 ((RO.upd fw).mp g), fun g => h7 ((RO.upd fw).mp g)⟩
theorem FC.putp (h : FC M f w vv pv V t up low P rk) {P' : List Int32} : FC (jj_up M pv (.inr 0, P'.map .int)) f w vv pv V t up low P' rk := by
  obtain ⟨h1, h2, h3, h4, h5, h6, h7⟩ := h
  have fw : pv ≠ w := fun e => h7 (Or.inl e)
  have fv : f ≠ pv := fun e => by rw [← e, h1] at h3; cases h3
  exact ⟨by rw [jj_up_ne _ _ fv]; exact h1, by rw [jj_up_ne _ _ h4]; exact h2, jj_up_at _ _ _, h4, fun g => h5 ((RO.upd fw).mp g), fun g => h6 ((RO.upd fw).mp g), fun g => h7 ((RO.upd fw).mp g)⟩
theorem FF.puta (h : FC M f w vv pv V t up low P rk) {a : Nat} {x : mcell} {V' P' : List Int32} (ha : a = vv ∨ a = pv) (h' : FC (jj_up M a x) f w vv pv V' t up low P' rk) : FF M (jj_up M a x) f := by
  intro q hq ho
  have ho' := fun g => ho ((FO.of h).mpr g)
  have aw : a ≠ w := fun e => by
    rcases ha with g | g
    · exact h.2.2.2.2.2.1 (Or.inl (by rw [← g]; exact e))
    · exact h.2.2.2.2.2.2 (Or.inl (by rw [← g]; exact e))
  refine ⟨jj_up_ne _ _ (fun e => ho' (by rcases ha with g | g <;> simp [e, g])), fun g => ?_⟩
  rcases (FO.of h').mp g with g | g | g
  · exact ho' (Or.inl g)
  · exact ho' (Or.inr (Or.inl ((RO.upd aw).mp g)))
  · exact ho' (Or.inr (Or.inr g))
theorem FF.putv (h : FC M f w vv pv V t up low P rk) {V' : List Int32} : FF M (jj_up M vv (.inr 0, V'.map .int)) f := FF.puta h (Or.inl rfl) h.putv
theorem FF.putp (h : FC M f w vv pv V t up low P rk) {P' : List Int32} : FF M (jj_up M pv (.inr 0, P'.map .int)) f := FF.puta h (Or.inr rfl) h.putp
end FST
/-- a fraction in the work area: its upper part at p, its lower part at l -/
def FQ (D : List Int32) (T p l : Nat) (q : Rat) : Prop := RI D T p q.num ∧ RI D T l (q.den : Int) ∧ (q.den = 1 → l = 1)
theorem FQ.congr {D D' : List Int32} {T T' p l : Nat} {q : Rat} (h : FQ D T p l q) (hT : T ≤ T') (e : ∀ i, i < T → D'.getD i 0 = D.getD i 0) : FQ D' T' p l q := ⟨h.1.congr hT e, h.2.1.congr hT e, h.2.2⟩
/-- a matrix at a: r rows, c columns, the cells q -/
def MT (D : List Int32) (T : Nat) (V : List Int32) (t a r c : Nat) (q : Nat → Rat) : Prop := a + 2 + 2 * (r * c) ≤ t ∧ V.getD a 0 = nI r ∧ V.getD (a + 1) 0 = nI c ∧ ∀ i, i < r * c → ∃ p l, V.getD (a + 2 + 2 * i) 0 = nI p ∧ V.getD (a + 3 + 2 * i) 0 = nI l ∧ FQ D T p l (q i)
theorem MT.congr {D D' : List Int32} {T T' : Nat} {V V' : List Int32} {t t' a r c : Nat} {q : Nat → Rat} (h : MT D T V t a r c q) (hT : T ≤ T') (e : ∀ i, i < T → D'.getD i 0 = D.getD i 0) (ht : t ≤ t') (eV : ∀ i, i < t → V'.getD i 0 = V.getD i 0) : MT D' T' V' t' a r c q := by
  obtain ⟨h1, h2, h3, h4⟩ := h
  refine ⟨by omega, by rw [eV _ (by omega)]; exact h2, by rw [eV _ (by omega)]; exact h3, fun i hi => ?_⟩
  obtain ⟨p, l, g1, g2, g3⟩ := h4 i hi
  exact ⟨p, l, by rw [eV _ (by omega)]; exact g1, by rw [eV _ (by omega)]; exact g2, g3.congr hT e⟩
