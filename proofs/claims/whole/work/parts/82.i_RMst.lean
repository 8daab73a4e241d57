/-! ===== the reference's whole state: nine Fractions side by side ===== -/
/-- f with its Wholes: all its cells -/
def FB (M : mheap) (f w vv pv dd : Nat) (D : List Int32) (T : Nat) (v2 : Value) (V : List Int32) (t : Nat) (up low : Int32) (P : List Int32) (rk : Int32) : Prop := FC M f w vv pv V t up low P rk ∧ M w = some (.inl nRW, [.ref dd, .int (nI T), v2]) ∧ M dd = some (.inr 0, D.map .int)
section FBS
variable {M M' : mheap} {f w vv pv dd : Nat} {D V P : List Int32} {T t : Nat} {v2 : Value} {up low rk : Int32}
theorem FB.own (h : FB M f w vv pv dd D T v2 V t up low P rk) {q : Nat} : FO M f q ↔ (q = f ∨ q = w ∨ q = dd ∨ q = vv ∨ q = pv) := by
  rw [FO.of h.1]
  constructor
  · rintro (e | (e | ⟨l, e⟩) | e | e)
    · exact Or.inl e
    · exact Or.inr (Or.inl e)
    · rw [h.2.1] at e
      simp only [Option.some.injEq, Prod.mk.injEq, List.cons.injEq, Value.ref.injEq] at e
      exact Or.inr (Or.inr (Or.inl e.2.1.symm))
    · exact Or.inr (Or.inr (Or.inr (Or.inl e)))
    · exact Or.inr (Or.inr (Or.inr (Or.inr e)))
  · rintro (e | e | e | e | e)
    · exact Or.inl e
    · exact Or.inr (Or.inl (Or.inl e))
    · exact Or.inr (Or.inl (Or.inr ⟨_, by rw [e]; exact h.2.1⟩))
    · exact Or.inr (Or.inr (Or.inl e))
    · exact Or.inr (Or.inr (Or.inr e))
theorem FB.has (h : FB M f w vv pv dd D T v2 V t up low P rk) {q : Nat} (hq : FO M f q) : M q ≠ none := by
  rcases h.own.mp hq with e | e | e | e | e
  · rw [e, h.1.1]; exact fun x => by cases x
  · rw [e, h.2.1]; exact fun x => by cases x
  · rw [e, h.2.2]; exact fun x => by cases x
  · rw [e, h.1.2.1]; exact fun x => by cases x
  · rw [e, h.1.2.2.1]; exact fun x => by cases x
theorem FB.eq (h : FB M f w vv pv dd D T v2 V t up low P rk) (e : ∀ q, FO M f q → M' q = M q) : FB M' f w vv pv dd D T v2 V t up low P rk ∧ ∀ q, FO M' f q ↔ FO M f q := by
  have ef := e f (h.own.mpr (Or.inl rfl))
  have ew := e w (h.own.mpr (Or.inr (Or.inl rfl)))
  have ed := e dd (h.own.mpr (Or.inr (Or.inr (Or.inl rfl))))
  have ev := e vv (h.own.mpr (Or.inr (Or.inr (Or.inr (Or.inl rfl)))))
  have ep := e pv (h.own.mpr (Or.inr (Or.inr (Or.inr (Or.inr rfl)))))
  obtain ⟨c1, c2, c3, c4, c5, c6, c7⟩ := id h.1
  have hro : ∀ q, RO M' w q ↔ RO M w q := fun q => by unfold RO; rw [ew]
  have h' : FB M' f w vv pv dd D T v2 V t up low P rk := ⟨⟨ef.trans c1, ev.trans c2, ep.trans c3, c4, fun x => c5 ((hro _).mp x), fun x => c6 ((hro _).mp x), fun x => c7 ((hro _).mp x)⟩, ew.trans h.2.1, ed.trans h.2.2⟩
  exact ⟨h', fun q => by rw [h.own, h'.own]⟩
end FBS
/-- what an area holds, how much it may still make -/
def AK (M : mheap) (f cm cv pt zt : Nat) (A : List Int32 → Nat → List Int32 → Nat → Prop) : Prop := ∃ (w vv pv dd : Nat) (D : List Int32) (T : Nat) (v2 : Value) (V : List Int32) (t : Nat) (up low : Int32) (P : List Int32) (rk : Int32) (jE jV : Nat), FB M f w vv pv dd D T v2 V t up low P rk ∧ (T ≤ D.length ∧ D.getD 0 0 = 0 ∧ 3 ≤ T ∧ RI D 3 1 1 ∧ t ≤ V.length ∧ P.length = 64) ∧ A D T V t ∧ cm = D.length * 2 ^ jE ∧ cm < 16777216 ∧ 0 < D.length ∧ cv = V.length * 2 ^ jV ∧ cv < 16777216 ∧ 0 < V.length ∧ pt = rpot cm D.length + rpot cv V.length ∧ zt = jE + jV
theorem AK.eq {M M' : mheap} {f cm cv pt zt : Nat} {A : List Int32 → Nat → List Int32 → Nat → Prop} (h : AK M f cm cv pt zt A) (e : ∀ q, FO M f q → M' q = M q) : AK M' f cm cv pt zt A ∧ ∀ q, FO M' f q ↔ FO M f q := by
  obtain ⟨w, vv, pv, dd, D, T, v2, V, t, up, low, P, rk, jE, jV, h1, h2⟩ := h
  obtain ⟨a, b⟩ := h1.eq e
  exact ⟨⟨w, vv, pv, dd, D, T, v2, V, t, up, low, P, rk, jE, jV, a, h2⟩, b⟩
theorem AK.has {M : mheap} {f cm cv pt zt q : Nat} {A : List Int32 → Nat → List Int32 → Nat → Prop} (h : AK M f cm cv pt zt A) (hq : FO M f q) : M q ≠ none := by
  obtain ⟨w, vv, pv, dd, D, T, v2, V, t, up, low, P, rk, jE, jV, h1, h2⟩ := h
  exact h1.has hq
theorem AK.mono {M : mheap} {f cm cv pt zt : Nat} {A B : List Int32 → Nat → List Int32 → Nat → Prop} (h : AK M f cm cv pt zt A) (hA : ∀ D T V t, A D T V t → B D T V t) : AK M f cm cv pt zt B := by
  obtain ⟨w, vv, pv, dd, D, T, v2, V, t, up, low, P, rk, jE, jV, h1, h2, h3, h4⟩ := h
  exact ⟨w, vv, pv, dd, D, T, v2, V, t, up, low, P, rk, jE, jV, h1, h2, hA _ _ _ _ h3, h4⟩
theorem AK.opn {M : mheap} {f cm cv pt zt X' Z' rc rs : Nat} {A : List Int32 → Nat → List Int32 → Nat → Prop} (h : AK M f cm cv pt zt A) (hX : pt + X' ≤ rs) (hZ : zt + Z' ≤ rc) : ∃ (w vv pv dd : Nat) (D : List Int32) (T : Nat) (v2 : Value) (V : List Int32) (t : Nat) (up low : Int32) (P : List Int32) (rk : Int32) (X Z : Nat), FB M f w vv pv dd D T v2 V t up low P rk ∧ RS M w D T v2 cm X Z rc rs ∧ FXB cv V X Z X' Z' ∧ 3 ≤ T ∧ RI D 3 1 1 ∧ t ≤ V.length ∧ P.length = 64 ∧ A D T V t := by
  obtain ⟨w, vv, pv, dd, D, T, v2, V, t, up, low, P, rk, jE, jV, h1, ⟨b1, b2, b3, b4, b5, b6⟩, h3, c1, c2, c3, c4, c5, c6, c7, c8⟩ := h
  refine ⟨w, vv, pv, dd, D, T, v2, V, t, up, low, P, rk, rpot cv V.length + X', jV + Z', h1, ⟨⟨dd, h1.2.1, h1.2.2⟩, ⟨jE, c1, c2, c3, by omega, by omega⟩, b1, b2, by omega⟩, ⟨jV, c4, c5, c6, rfl, rfl⟩, b3, b4, b5, b6, h3⟩
theorem AK.close {M : mheap} {f w vv pv cm cv X Z X' Z' rc rs : Nat} {D : List Int32} {T : Nat} {v2 : Value} {V : List Int32} {t : Nat} {up low : Int32} {P : List Int32} {rk : Int32} {A : List Int32 → Nat → List Int32 → Nat → Prop} (hC : FC M f w vv pv V t up low P rk) (hS : RS M w D T v2 cm X Z rc rs) (hX : FXB cv V X Z X' Z') (h3 : 3 ≤ T) (h1 : RI D 3 1 1) (ht : t ≤ V.length) (hP : P.length = 64) (hA : A D T V t) : ∃ pt zt, AK M f cm cv pt zt A ∧ pt + X' ≤ rs ∧ zt + Z' ≤ rc := by
  obtain ⟨⟨dd, a1, a2⟩, ⟨jE, c1, c2, c3, c4, c5⟩, b1, b2, b3⟩ := hS
  obtain ⟨jV, d1, d2, d3, d4, d5⟩ := hX
  exact ⟨rpot cm D.length + rpot cv V.length, jE + jV, ⟨w, vv, pv, dd, D, T, v2, V, t, up, low, P, rk, jE, jV, ⟨hC, a1, a2⟩, ⟨b1, b2, h3, h1, ht, hP⟩, hA, c1, c2, c3, d1, d2, d3, rfl, rfl⟩, by omega, by omega⟩
def cmF (k : Nat) : Nat := if k = 0 then 2097152 else 131072
def cvF (k : Nat) : Nat := if k = 0 then 8192 else 4096
/-- all of the reference but the area i: F 0 .. F 8 are Fractions, F 9 the object, F 10 its Forms, F 11 its store, F 12 and F 13 the Forms' arrays -/
def RPX (M : mheap) (F : Nat → Nat) (code : Int32) (i : Nat) (pt zt : Nat → Nat) (A : Nat → List Int32 → Nat → List Int32 → Nat → Prop) : Prop :=
  M (F 9) = some (.inl nR, [.int code, .ref (F 0), .ref (F 10), .ref (F 11)]) ∧ M (F 11) = some (.inr 5, (List.range 8).map (fun k => Value.ref (F (k + 1)))) ∧ (∀ k, 9 ≤ k → k < 14 → M (F k) ≠ none) ∧ (∀ k, k < 9 → k ≠ i → AK M (F k) (cmF k) (cvF k) (pt k) (zt k) (A k)) ∧ (∀ j k, j < 9 → k < 9 → j ≠ k → SP M (F j) (F k)) ∧ ∀ j k, j < 9 → 9 ≤ k → k < 14 → ¬ FO M (F j) (F k)
/-- what belongs to the reference -/
def OWN (M : mheap) (F : Nat → Nat) (q : Nat) : Prop := (∃ k, 9 ≤ k ∧ k < 14 ∧ q = F k) ∨ ∃ k, k < 9 ∧ FO M (F k) q
/-- all cells but the reference's are as they were, and are not its own now -/
def RTF (M M' : mheap) (F : Nat → Nat) : Prop := ∀ q, M q ≠ none → ¬ OWN M F q → M' q = M q ∧ ¬ OWN M' F q
theorem RTF.refl (M : mheap) (F : Nat → Nat) : RTF M M F := fun _ _ h => ⟨rfl, h⟩
theorem RTF.trans {M M1 M2 : mheap} {F : Nat → Nat} (h1 : RTF M M1 F) (h2 : RTF M1 M2 F) : RTF M M2 F := by
  intro q hq ho
  obtain ⟨e1, o1⟩ := h1 q hq ho
  obtain ⟨e2, o2⟩ := h2 q (by rw [e1]; exact hq) o1
  exact ⟨e2.trans e1, o2⟩
section RPS
variable {M M' : mheap} {F : Nat → Nat} {code : Int32} {i : Nat} {pt zt : Nat → Nat} {A : Nat → List Int32 → Nat → List Int32 → Nat → Prop}
/-- one step of the whole state: what the cells outside the area i do, and what the area i owns -/
theorem RPX.step {code' : Int32} (h : RPX M F code i pt zt A) (hi : i < 9) (h9 : M' (F 9) = some (.inl nR, [.int code', .ref (F 0), .ref (F 10), .ref (F 11)])) (h11 : M' (F 11) = M (F 11)) (hs : ∀ k, 9 ≤ k → k < 14 → M' (F k) ≠ none) (hk : ∀ k, k < 9 → k ≠ i → ∀ q, FO M (F k) q → M' q = M q) (ho : ∀ q, M q ≠ none → ¬ FO M (F i) q → (∀ k, 9 ≤ k → k < 14 → q ≠ F k) → ¬ FO M' (F i) q) (ho9 : ∀ k, 9 ≤ k → k < 14 → ¬ FO M' (F i) (F k)) : RPX M' F code' i pt zt A ∧ ∀ k, k < 9 → k ≠ i → ∀ q, FO M' (F k) q ↔ FO M (F k) q := by
  obtain ⟨a1, a2, a3, a4, a5, a6⟩ := h
  have e1 : ∀ k, k < 9 → k ≠ i → AK M' (F k) (cmF k) (cvF k) (pt k) (zt k) (A k) := fun k h1 h2 => ((a4 k h1 h2).eq (hk k h1 h2)).1
  have e2 : ∀ k, k < 9 → k ≠ i → ∀ q, FO M' (F k) q ↔ FO M (F k) q := fun k h1 h2 => ((a4 k h1 h2).eq (hk k h1 h2)).2
  have e3 : ∀ k, k < 9 → k ≠ i → SP M' (F i) (F k) := fun k h1 h2 q hq => by
    have h3 := (e2 k h1 h2 q).mp hq
    exact ho q ((a4 k h1 h2).has h3) (a5 i k hi h1 (fun e => h2 e.symm) q h3) (fun j j1 j2 e => a6 k j h1 j1 j2 (by rw [← e]; exact h3))
  refine ⟨⟨h9, h11.trans a2, hs, e1, fun j k hj hk2 hne => ?_, fun j k hj k1 k2 => ?_⟩, e2⟩
  · by_cases c1 : j = i
    · rw [c1]; exact e3 k hk2 (fun e => hne (c1.trans e.symm))
    · by_cases c2 : k = i
      · rw [c2]; exact fun q hq hq2 => e3 j hj c1 q hq2 hq
      · exact fun q hq hq2 => a5 j k hj hk2 hne q ((e2 k hk2 c2 q).mp hq) ((e2 j hj c1 q).mp hq2)
  · by_cases c1 : j = i
    · rw [c1]; exact ho9 k k1 k2
    · exact fun hq => a6 j k hj k1 k2 ((e2 j hj c1 _).mp hq)
theorem RPX.ff (h : RPX M F code i pt zt A) (hi : i < 9) (hf : FF M M' (F i)) : RPX M' F code i pt zt A ∧ RTF M M' F := by
  obtain ⟨a1, a2, a3, a4, a5, a6⟩ := id h
  have e9 : ∀ k, 9 ≤ k → k < 14 → M' (F k) = M (F k) ∧ ¬ FO M' (F i) (F k) := fun k k1 k2 => hf (F k) (a3 k k1 k2) (a6 i k hi k1 k2)
  obtain ⟨b1, b2⟩ := h.step (M' := M') (code' := code) hi ((e9 9 (by decide) (by decide)).1.trans a1) (e9 11 (by decide) (by decide)).1 (fun k k1 k2 => by rw [(e9 k k1 k2).1]; exact a3 k k1 k2) (fun k k1 k2 q hq => (hf q ((a4 k k1 k2).has hq) (a5 i k hi k1 (fun e => k2 e.symm) q hq)).1) (fun q q1 q2 _ => (hf q q1 q2).2) (fun k k1 k2 => (e9 k k1 k2).2)
  refine ⟨b1, fun q hq ho => ?_⟩
  obtain ⟨c1, c2⟩ := hf q hq (fun g => ho (Or.inr ⟨i, hi, g⟩))
  refine ⟨c1, ?_⟩
  rintro (⟨k, k1, k2, e⟩ | ⟨k, k1, g⟩)
  · exact ho (Or.inl ⟨k, k1, k2, e⟩)
  · by_cases c : k = i
    · rw [c] at g; exact c2 g
    · exact ho (Or.inr ⟨k, k1, (b2 k k1 c q).mp g⟩)
/-- another code -/
theorem RPX.cod {code' : Int32} {w vv pv t : Nat} {V P : List Int32} {up low rk : Int32} (h : RPX M F code i pt zt A) (hi : i < 9) (hC : FC M (F i) w vv pv V t up low P rk) (h11 : F 11 ≠ F 9) : RPX (jj_up M (F 9) (.inl nR, [.int code', .ref (F 0), .ref (F 10), .ref (F 11)])) F code' i pt zt A ∧ RTF M (jj_up M (F 9) (.inl nR, [.int code', .ref (F 0), .ref (F 10), .ref (F 11)])) F := by
  obtain ⟨a1, a2, a3, a4, a5, a6⟩ := id h
  have hn := a6 i 9 hi (by decide) (by decide)
  obtain ⟨b1, b2⟩ := h.step (M' := jj_up M (F 9) (.inl nR, [.int code', .ref (F 0), .ref (F 10), .ref (F 11)])) (code' := code') hi (jj_up_at _ _ _) (jj_up_ne _ _ h11) (fun k k1 k2 => by
    by_cases e : F k = F 9
    · rw [e, jj_up_at]; exact fun x => by cases x
    · rw [jj_up_ne _ _ e]; exact a3 k k1 k2) (fun k k1 k2 q hq => jj_up_ne _ _ (fun e => a6 k 9 k1 (by decide) (by decide) (by rw [← e]; exact hq))) (fun q _ q2 _ g => q2 ((FO.other hC hn).mp g)) (fun k k1 k2 g => a6 i k hi k1 k2 ((FO.other hC hn).mp g))
  refine ⟨b1, fun q hq ho => ?_⟩
  refine ⟨jj_up_ne _ _ (fun e => ho (Or.inl ⟨9, by decide, by decide, e⟩)), ?_⟩
  rintro (⟨k, k1, k2, e⟩ | ⟨k, k1, g⟩)
  · exact ho (Or.inl ⟨k, k1, k2, e⟩)
  · by_cases c : k = i
    · rw [c] at g; exact ho (Or.inr ⟨i, hi, (FO.other hC hn).mp g⟩)
    · exact ho (Or.inr ⟨k, k1, (b2 k k1 c q).mp g⟩)
/-- a step of the Forms -/
theorem RPX.of {w : Nat} {CA RA CA' RA' : List Int32} {fi se fi' se' : Int32} (h : RPX M F code 0 pt zt A) (hO : OC M (F 10) (F 0) w (F 12) (F 13) CA RA fi se) (hO' : OC M' (F 10) (F 0) w (F 12) (F 13) CA' RA' fi' se') (hf : OF M M' (F 10)) : RPX M' F code 0 pt zt A ∧ RTF M M' F := by
  obtain ⟨a1, a2, a3, a4, a5, a6⟩ := id h
  have n1 : F 9 ≠ F 10 := fun e => by have := a1; rw [e, hO.1] at this; cases this
  have n2 : F 9 ≠ F 12 := fun e => by have := a1; rw [e, hO.2.1] at this; cases this
  have n3 : F 9 ≠ F 13 := fun e => by have := a1; rw [e, hO.2.2.1] at this; cases this
  have n4 : F 11 ≠ F 10 := fun e => by have := a2; rw [e, hO.1] at this; cases this
  have n5 : F 11 ≠ F 12 := fun e => by have := a2; rw [e, hO.2.1] at this; cases this
  have n6 : F 11 ≠ F 13 := fun e => by have := a2; rw [e, hO.2.2.1] at this; cases this
  have hno : ∀ q, ¬ FO M (F 0) q → q ≠ F 10 → q ≠ F 12 → q ≠ F 13 → ¬ OO M (F 10) q := fun q q1 q2 q3 q4 g => by
    rcases (OO.of hO).mp g with g | g | g | g
    · exact q2 g
    · exact q1 g
    · exact q3 g
    · exact q4 g
  obtain ⟨c1, c2⟩ := hf (F 9) (a3 9 (by decide) (by decide)) (hno _ (a6 0 9 (by decide) (by decide) (by decide)) n1 n2 n3)
  obtain ⟨d1, d2⟩ := hf (F 11) (a3 11 (by decide) (by decide)) (hno _ (a6 0 11 (by decide) (by decide) (by decide)) n4 n5 n6)
  have hoo : ∀ q, ¬ OO M' (F 10) q → ¬ FO M' (F 0) q := fun q q1 q2 => q1 ((OO.of hO').mpr (Or.inr (Or.inl q2)))
  obtain ⟨b1, b2⟩ := h.step (M' := M') (code' := code) (by decide) (c1.trans a1) d1 (fun k k1 k2 => by
    rcases (show k = 9 ∨ k = 10 ∨ k = 11 ∨ k = 12 ∨ k = 13 by omega) with e | e | e | e | e <;> subst e
    · rw [c1, a1]; exact fun x => by cases x
    · rw [hO'.1]; exact fun x => by cases x
    · rw [d1, a2]; exact fun x => by cases x
    · rw [hO'.2.1]; exact fun x => by cases x
    · rw [hO'.2.2.1]; exact fun x => by cases x) (fun k k1 k2 q hq => (hf q ((a4 k k1 k2).has hq) (hno q (a5 0 k (by decide) k1 (fun e => k2 e.symm) q hq) (fun e => a6 k 10 k1 (by decide) (by decide) (by rw [← e]; exact hq)) (fun e => a6 k 12 k1 (by decide) (by decide) (by rw [← e]; exact hq)) (fun e => a6 k 13 k1 (by decide) (by decide) (by rw [← e]; exact hq)))).1) (fun q q1 q2 q3 => hoo q (hf q q1 (hno q q2 (q3 10 (by decide) (by decide)) (q3 12 (by decide) (by decide)) (q3 13 (by decide) (by decide)))).2) (fun k k1 k2 => by
    rcases (show k = 9 ∨ k = 10 ∨ k = 11 ∨ k = 12 ∨ k = 13 by omega) with e | e | e | e | e <;> subst e
    · exact hoo _ c2
    · exact hO'.2.2.2.2.1
    · exact hoo _ d2
    · exact hO'.2.2.2.2.2.1
    · exact hO'.2.2.2.2.2.2)
  refine ⟨b1, fun q hq ho => ?_⟩
  have hq0 : ¬ OO M (F 10) q := hno q (fun g => ho (Or.inr ⟨0, by decide, g⟩)) (fun e => ho (Or.inl ⟨10, by decide, by decide, e⟩)) (fun e => ho (Or.inl ⟨12, by decide, by decide, e⟩)) (fun e => ho (Or.inl ⟨13, by decide, by decide, e⟩))
  obtain ⟨f1, f2⟩ := hf q hq hq0
  refine ⟨f1, ?_⟩
  rintro (⟨k, k1, k2, e⟩ | ⟨k, k1, g⟩)
  · exact ho (Or.inl ⟨k, k1, k2, e⟩)
  · by_cases c : k = 0
    · rw [c] at g; exact hoo q f2 g
    · exact ho (Or.inr ⟨k, k1, (b2 k k1 c q).mp g⟩)
/-- the other Fractions, as move wants them -/
theorem RPX.fg (h : RPX M F code i pt zt A) (hi : i < 9) {k : Nat} (hk : k < 9) (hki : k ≠ i) : ∃ (u vg pg de : Nat) (E : List Int32) (TE : Nat) (v3 : Value) (Vg : List Int32) (tg : Nat) (upg lowg : Int32) (Pg : List Int32) (rkg : Int32), FG M (F i) (F k) u vg pg de E TE v3 Vg tg upg lowg Pg rkg ∧ TE ≤ E.length ∧ E.length < 16777216 ∧ Vg.length < 16777216 ∧ tg ≤ Vg.length ∧ 3 ≤ TE ∧ RI E 3 1 1 ∧ E.getD 0 0 = 0 ∧ A k E TE Vg tg := by
  obtain ⟨w, vv, pv, dd, D, T, v2, V, t, up, low, P, rk, jE, jV, h1, ⟨b1, b2, b3, b4, b5, b6⟩, h3, c1, c2, c3, c4, c5, c6, c7, c8⟩ := h.2.2.2.1 k hk hki
  have x1 : D.length ≤ cmF k := by rw [c1]; exact Nat.le_mul_of_pos_right _ (Nat.pow_pos (by decide))
  have x2 : V.length ≤ cvF k := by rw [c4]; exact Nat.le_mul_of_pos_right _ (Nat.pow_pos (by decide))
  exact ⟨w, vv, pv, dd, D, T, v2, V, t, up, low, P, rk, ⟨h1.1, h1.2.1, h1.2.2, h.2.2.2.2.1 i k hi hk (fun e => hki e.symm)⟩, b1, by omega, by omega, b5, b3, b4, b2, h3⟩
/-- an area is put back -/
theorem RPX.put (h : RPX M F code i pt zt A) (hi : i < 9) {p z : Nat} {B : List Int32 → Nat → List Int32 → Nat → Prop} (ha : AK M (F i) (cmF i) (cvF i) p z B) {j : Nat} (hj : 9 ≤ j) : RPX M F code j (fun k => if k = i then p else pt k) (fun k => if k = i then z else zt k) (fun k => if k = i then B else A k) := by
  obtain ⟨a1, a2, a3, a4, a5, a6⟩ := h
  refine ⟨a1, a2, a3, fun k k1 _ => ?_, a5, a6⟩
  show AK M (F k) (cmF k) (cvF k) (if k = i then p else pt k) (if k = i then z else zt k) (if k = i then B else A k)
  by_cases c : k = i
  · rw [if_pos c, if_pos c, if_pos c, c]; exact ha
  · rw [if_neg c, if_neg c, if_neg c]; exact a4 k k1 c
theorem RPX.take (h : RPX M F code i pt zt A) (hi : 9 ≤ i) (j : Nat) : RPX M F code j pt zt A := ⟨h.1, h.2.1, h.2.2.1, fun k k1 _ => h.2.2.2.1 k k1 (by omega), h.2.2.2.2⟩
end RPS
theorem nsum_same {f g : Nat → Nat} : ∀ {n : Nat}, (∀ k, k < n → f k = g k) → nsum f n = nsum g n
  | 0, _ => rfl
  | n + 1, h => by
    show nsum f n + f n = nsum g n + g n
    rw [nsum_same (fun k hk => h k (by omega)), h n (by omega)]
theorem nsum_split {f : Nat → Nat} {i : Nat} : ∀ {n : Nat}, i < n → nsum f n = f i + nsum (fun k => if k = i then 0 else f k) n
  | 0, h => absurd h (Nat.not_lt_zero _)
  | n + 1, h => by
    show nsum f n + f n = f i + (nsum (fun k => if k = i then 0 else f k) n + if n = i then 0 else f n)
    by_cases c : n = i
    · rw [if_pos c, ← c]
      have : nsum (fun k => if k = n then 0 else f k) n = nsum f n := nsum_same (fun k hk => if_neg (by omega))
      omega
    · rw [if_neg c, nsum_split (show i < n by omega)]
      omega
