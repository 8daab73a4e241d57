/-! ===== two Fractions side by side ===== -/
/-- nothing belongs to both -/
def SP (M : mheap) (f g : Nat) : Prop := ∀ q, FO M g q → ¬ FO M f q
/-- the other Fractions g: its Wholes u with the digits E, its heads -/
def FG (M : mheap) (f g u vg pg de : Nat) (E : List Int32) (TE : Nat) (v3 : Value) (Vg : List Int32) (tg : Nat) (upg lowg : Int32) (Pg : List Int32) (rkg : Int32) : Prop := FC M g u vg pg Vg tg upg lowg Pg rkg ∧ M u = some (.inl nRW, [.ref de, .int (nI TE), v3]) ∧ M de = some (.inr 0, E.map .int) ∧ SP M f g
section FGS
variable {M M' : mheap} {f g u vg pg de w vv pv : Nat} {E Vg Pg V P : List Int32} {TE tg t : Nat} {v3 : Value} {upg lowg rkg up low rk : Int32}
theorem FG.ro (h : FG M f g u vg pg de E TE v3 Vg tg upg lowg Pg rkg) : ¬ FO M f g ∧ ¬ FO M f u ∧ ¬ FO M f de ∧ ¬ FO M f vg ∧ ¬ FO M f pg := by
  obtain ⟨h1, h2, h3, h4⟩ := h
  refine ⟨h4 _ (Or.inl rfl), h4 _ ((FO.of h1).mpr (Or.inr (Or.inl (Or.inl rfl)))), h4 _ ((FO.of h1).mpr (Or.inr (Or.inl (Or.inr ⟨_, h2⟩)))), h4 _ ((FO.of h1).mpr (Or.inr (Or.inr (Or.inl rfl)))), h4 _ ((FO.of h1).mpr (Or.inr (Or.inr (Or.inr rfl))))⟩
theorem FG.ff (h : FG M f g u vg pg de E TE v3 Vg tg upg lowg Pg rkg) (hf : FF M M' f) : FG M' f g u vg pg de E TE v3 Vg tg upg lowg Pg rkg := by
  obtain ⟨n1, n2, n3, n4, n5⟩ := h.ro
  obtain ⟨h1, h2, h3, h4⟩ := h
  obtain ⟨c1, c2, c3, c4, c5, c6, c7⟩ := id h1
  obtain ⟨a1, a2⟩ := hf g (by rw [c1]; exact fun e => by cases e) n1
  obtain ⟨b1, b2⟩ := hf u (by rw [h2]; exact fun e => by cases e) n2
  obtain ⟨d1, d2⟩ := hf de (by rw [h3]; exact fun e => by cases e) n3
  obtain ⟨e1, e2⟩ := hf vg (by rw [c2]; exact fun e => by cases e) n4
  obtain ⟨f1, f2⟩ := hf pg (by rw [c3]; exact fun e => by cases e) n5
  have hro : ∀ q, RO M' u q ↔ RO M u q := fun q => by unfold RO; rw [b1]
  have hc : FC M' g u vg pg Vg tg upg lowg Pg rkg := ⟨a1.trans c1, e1.trans c2, f1.trans c3, c4, fun x => c5 ((hro _).mp x), fun x => c6 ((hro _).mp x), fun x => c7 ((hro _).mp x)⟩
  refine ⟨hc, b1.trans h2, d1.trans h3, fun q hq => ?_⟩
  rcases (FO.of hc).mp hq with x | x | x | x
  · rw [x]; exact a2
  · rcases (hro q).mp x with y | ⟨l, y⟩
    · rw [y]; exact b2
    · rw [h2] at y
      simp only [Option.some.injEq, Prod.mk.injEq, List.cons.injEq, Value.ref.injEq] at y
      rw [← y.2.1]; exact d2
  · rw [x]; exact e2
  · rw [x]; exact f2
theorem FG.nro (h : FG M f g u vg pg de E TE v3 Vg tg upg lowg Pg rkg) (hC : FC M f w vv pv V t up low P rk) : ¬ RO M w u ∧ ¬ RO M w de := ⟨FO.notRO hC h.ro.2.1, FO.notRO hC h.ro.2.2.1⟩
end FGS
