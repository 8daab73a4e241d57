/-! ===== the reference between two calls ===== -/
/-- rows, columns and cells of all registers -/
abbrev rst := (Nat → Nat) × (Nat → Nat) × (Nat → Nat → Rat)
def SA (σ : rst) : Nat → List Int32 → Nat → List Int32 → Nat → Prop := fun k D T V t => k = 0 ∨ MX D T V t 0 (σ.1 (k - 1)) (σ.2.1 (k - 1)) 3 (σ.2.2 (k - 1))
/-- a matrix that a register may hold -/
def FIT (R c : Nat) (q : Nat → Rat) : Prop := R ≤ 16 ∧ c ≤ 16 ∧ fitC q (R * c) ∧ limbC q (R * c) ≤ 20000
def LG (σ : rst) : Prop := ∀ k, k < 8 → 1 ≤ σ.1 k ∧ 1 ≤ σ.2.1 k ∧ FIT (σ.1 k) (σ.2.1 k) (σ.2.2 k)
def rup (σ : rst) (k R c : Nat) (q : Nat → Rat) : rst := (fun i => if i = k then R else σ.1 i, fun i => if i = k then c else σ.2.1 i, fun i => if i = k then q else σ.2.2 i)
theorem LG.rup {σ : rst} {k R c : Nat} {q : Nat → Rat} (h : LG σ) (h1 : 1 ≤ R) (h2 : 1 ≤ c) (hf : FIT R c q) : LG (rup σ k R c q) := by
  intro i hi
  show 1 ≤ (if i = k then R else σ.1 i) ∧ 1 ≤ (if i = k then c else σ.2.1 i) ∧ FIT (if i = k then R else σ.1 i) (if i = k then c else σ.2.1 i) (if i = k then q else σ.2.2 i)
  by_cases e : i = k
  · rw [if_pos e, if_pos e, if_pos e]; exact ⟨h1, h2, hf⟩
  · rw [if_neg e, if_neg e, if_neg e]; exact h i hi
def RT (M : mheap) (F : Nat → Nat) (code : Int32) (σ : rst) (X Z rc rs : Nat) : Prop := ∃ (pt zt : Nat → Nat) (w : Nat) (l : List Value) (CA RA : List Int32) (fi se : Int32), RPX M F code 9 pt zt (SA σ) ∧ M (F 0) = some (.inl nRF, .ref w :: l) ∧ OC M (F 10) (F 0) w (F 12) (F 13) CA RA fi se ∧ CA.length = 64 ∧ RA.length = 64 ∧ nsum pt 9 + X ≤ rs ∧ nsum zt 9 + Z ≤ rc
/-- what the other areas may still make -/
def oth (i : Nat) (pt : Nat → Nat) (X : Nat) : Nat := nsum (fun k => if k = i then 0 else pt k) 9 + X
section RTS
variable {M M' : mheap} {F : Nat → Nat} {code : Int32} {σ : rst} {X Z rc rs : Nat}
theorem RT.opn (h : RT M F code σ X Z rc rs) : ∃ (pt zt : Nat → Nat) (w vv pv : Nat) (D : List Int32) (T : Nat) (v2 : Value) (V : List Int32) (t : Nat) (up low : Int32) (P : List Int32) (rk : Int32) (CA RA : List Int32) (fi se : Int32) (X1 Z1 : Nat), RPX M F code 0 pt zt (SA σ) ∧ OC M (F 10) (F 0) w (F 12) (F 13) CA RA fi se ∧ CA.length = 64 ∧ RA.length = 64 ∧ FC M (F 0) w vv pv V t up low P rk ∧ RS M w D T v2 2097152 X1 Z1 rc rs ∧ FXB 8192 V X1 Z1 (oth 0 pt X) (oth 0 zt Z) ∧ 3 ≤ T ∧ RI D 3 1 1 ∧ t ≤ V.length ∧ P.length = 64 := by
  obtain ⟨pt, zt, w, l, CA, RA, fi, se, h1, h2, h3, h4, h5, h6, h7⟩ := h
  have s1 := nsum_split (f := pt) (show 0 < 9 by decide)
  have s2 := nsum_split (f := zt) (show 0 < 9 by decide)
  obtain ⟨w', vv, pv, dd, D, T, v2, V, t, up, low, P, rk, X1, Z1, a1, a2, a3, a4, a5, a6, a7, a8⟩ := (h1.2.2.2.1 0 (by decide) (by decide)).opn (X' := oth 0 pt X) (Z' := oth 0 zt Z) (rc := rc) (rs := rs) (by unfold oth; omega) (by unfold oth; omega)
  have ew : w = w' := by
    have := a1.1.1
    rw [h2] at this
    simp only [Option.some.injEq, Prod.mk.injEq, List.cons.injEq, Value.ref.injEq] at this
    exact this.2.1
  subst ew
  exact ⟨pt, zt, w, vv, pv, D, T, v2, V, t, up, low, P, rk, CA, RA, fi, se, X1, Z1, h1.take (by decide) 0, h3, h4, h5, a1.1, a2, a3, a4, a5, a6, a7⟩
theorem nsum_put {f : Nat → Nat} {i p : Nat} (hi : i < 9) : nsum (fun k => if k = i then p else f k) 9 = p + nsum (fun k => if k = i then 0 else f k) 9 := by
  rw [nsum_split hi, if_pos rfl]
  congr 1
  exact nsum_same (fun k _ => by by_cases c : k = i <;> simp [c])
theorem RPX.mono {i : Nat} {pt zt : Nat → Nat} {A B : Nat → List Int32 → Nat → List Int32 → Nat → Prop} (h : RPX M F code i pt zt A) (hA : ∀ k, k < 9 → ∀ D T V t, A k D T V t → B k D T V t) : RPX M F code i pt zt B := ⟨h.1, h.2.1, h.2.2.1, fun k k1 k2 => (h.2.2.2.1 k k1 k2).mono (hA k k1), h.2.2.2.2⟩
theorem RT.cls {pt zt : Nat → Nat} {w vv pv : Nat} {D : List Int32} {T : Nat} {v2 : Value} {V : List Int32} {t : Nat} {up low : Int32} {P : List Int32} {rk : Int32} {CA RA : List Int32} {fi se : Int32} {X1 Z1 : Nat} (hP : RPX M F code 0 pt zt (SA σ)) (hO : OC M (F 10) (F 0) w (F 12) (F 13) CA RA fi se) (hCA : CA.length = 64) (hRA : RA.length = 64) (hC : FC M (F 0) w vv pv V t up low P rk) (hS : RS M w D T v2 2097152 X1 Z1 rc rs) (hX : FXB 8192 V X1 Z1 (oth 0 pt X) (oth 0 zt Z)) (h3 : 3 ≤ T) (h1 : RI D 3 1 1) (ht : t ≤ V.length) (hP6 : P.length = 64) : RT M F code σ X Z rc rs := by
  obtain ⟨p, z, a1, a2, a3⟩ := AK.close (A := SA σ 0) hC hS hX h3 h1 ht hP6 (Or.inl rfl)
  refine ⟨_, _, w, _, CA, RA, fi, se, (hP.put (by decide) (j := 9) a1 (by decide)).mono (fun k _ D T V t g => ?_), hC.1, hO, hCA, hRA, ?_, ?_⟩
  · by_cases c : k = 0
    · exact Or.inl c
    · rw [if_neg c] at g; exact g
  · rw [nsum_put (by decide)]; unfold oth at a2; omega
  · rw [nsum_put (by decide)]; unfold oth at a3; omega
/-- a new code -/
theorem RPX.refuse {code' : Int32} {pt zt : Nat → Nat} {A : Nat → List Int32 → Nat → List Int32 → Nat → Prop} {w vv pv : Nat} {D : List Int32} {T : Nat} {v2 : Value} {V : List Int32} {t : Nat} {up low : Int32} {P : List Int32} {rk : Int32} {CA RA : List Int32} {fi se : Int32} {X1 Z1 cm : Nat} (hP : RPX M F code 0 pt zt A) (hO : OC M (F 10) (F 0) w (F 12) (F 13) CA RA fi se) (hC : FC M (F 0) w vv pv V t up low P rk) (hS : RS M w D T v2 cm X1 Z1 rc rs) (hM : M' = jj_up M (F 9) (.inl nR, [.int code', .ref (F 0), .ref (F 10), .ref (F 11)])) : RPX M' F code' 0 pt zt A ∧ OC M' (F 10) (F 0) w (F 12) (F 13) CA RA fi se ∧ FC M' (F 0) w vv pv V t up low P rk ∧ RS M' w D T v2 cm X1 Z1 rc rs ∧ RTF M M' F := by
  subst hM
  have hn := hP.2.2.2.2.2 0 9 (by decide) (by decide) (by decide)
  have h11 : F 11 ≠ F 9 := fun e => by have := hP.2.1; rw [e, hP.1] at this; cases this
  obtain ⟨b1, b2⟩ := hP.cod (code' := code') (by decide) hC h11
  obtain ⟨o1, o2, o3, o4, o5, o6, o7⟩ := hO
  have n1 : F 10 ≠ F 9 := fun e => by rw [e, hP.1] at o1; cases o1
  have n2 : F 12 ≠ F 9 := fun e => by rw [e, hP.1] at o2; cases o2
  have n3 : F 13 ≠ F 9 := fun e => by rw [e, hP.1] at o3; cases o3
  refine ⟨b1, ⟨by rw [jj_up_ne _ _ n1]; exact o1, by rw [jj_up_ne _ _ n2]; exact o2, by rw [jj_up_ne _ _ n3]; exact o3, o4, fun g => o5 ((FO.other hC hn).mp g), fun g => o6 ((FO.other hC hn).mp g), fun g => o7 ((FO.other hC hn).mp g)⟩, hC.other hn, hS.other (FO.notRO hC hn), b2⟩
end RTS
theorem st_at {F : Nat → Nat} {k : Nat} (h : k < 8) : ((List.range 8).map (fun k => Value.ref (F (k + 1))))[k]? = some (.ref (F (k + 1))) := by
  rw [List.getElem?_map, List.getElem?_range h]; rfl
def isReg (x : Int32) : Prop := ∃ n, n < 8 ∧ x = nI n
theorem isReg_nI {n : Nat} (h : n < 8) : isReg (nI n) := ⟨n, h, rfl⟩
theorem isReg_of {x : Int32} (h0 : ¬ x < 0) (h8 : ¬ nI 8 ≤ x) : isReg x := by
  obtain ⟨n, hn, e⟩ := nI_of h0
  refine ⟨n, ?_, e⟩
  rcases Nat.lt_or_ge n 8 with g | g
  · exact g
  · exact absurd (by rw [e]; exact nI_le g hn) h8
theorem isReg_not {x : Int32} (h : x < 0 ∨ nI 8 ≤ x) : ¬ isReg x := fun ⟨n, hn, e⟩ => by
  rcases h with g | g
  · rw [e] at g; exact nI_pos (by omega) g
  · rw [e] at g; exact nI_ge hn (by decide) g
/-- sizes of what a register holds -/
theorem lcmf_dvd' {z : Int} {f : Nat → Nat} : ∀ {n j : Nat}, j < n → (f j : Int) ∣ lcmf z f n
  | 0, j, h => absurd h (Nat.not_lt_zero _)
  | n + 1, j, h => by
    show (f j : Int) ∣ (Int.lcm (lcmf z f n) (f n : Int) : Int)
    by_cases c : j = n
    · rw [c]; exact Int.dvd_lcm_right ..
    · exact Int.dvd_trans (lcmf_dvd' (show j < n by omega)) (Int.dvd_lcm_left ..)
theorem fit_sizes {q : Nat → Rat} {n : Nat} (h : fitC q n) {j : Nat} (hj : j < n) : ZB 267 (q j).num ∧ ZB 267 ((q j).den : Int) ∧ (q j).num.natAbs ≤ (lcmf 1 (fun j => (q j).den) n / ((q j).den : Int) * (q j).num).natAbs := by
  have hL := h.1 n (Nat.le_refl _)
  have h0 : 0 < lcmf 1 (fun j => (q j).den) n := lcmf_pos (by decide) (fun i _ => (q i).den_pos)
  have hd : ((q j).den : Int) ∣ lcmf 1 (fun j => (q j).den) n := lcmf_dvd' (f := fun j => (q j).den) hj
  have hd0 : 0 < ((q j).den : Int) := by have := (q j).den_pos; omega
  have hle := Int.le_of_dvd h0 hd
  have hq1 : 0 < lcmf 1 (fun j => (q j).den) n / ((q j).den : Int) := by
    obtain ⟨e, he⟩ := hd
    rw [he, Int.mul_ediv_cancel_left _ (by omega)]
    rcases (show 0 < e ∨ e ≤ 0 by omega) with g | g
    · exact g
    · have := Int.mul_nonpos_of_nonneg_of_nonpos (Int.le_of_lt hd0) g
      omega
  have hn : (q j).num.natAbs ≤ (lcmf 1 (fun j => (q j).den) n / ((q j).den : Int) * (q j).num).natAbs := by
    rw [Int.natAbs_mul]
    exact Nat.le_mul_of_pos_left _ (by omega)
  refine ⟨?_, ?_, hn⟩
  · have := blen_ZB (h.2 j hj)
    unfold ZB at *
    omega
  · have := blen_ZB hL
    unfold ZB at *
    omega
