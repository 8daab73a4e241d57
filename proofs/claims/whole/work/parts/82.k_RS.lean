/-! ===== from the work area to a register and back ===== -/
section RKS
variable {M M' : mheap} {F : Nat → Nat} {code : Int32} {σ : rst} {X Z rc rs : Nat}
theorem nsum_const (S : Nat) : ∀ n, nsum (fun _ => S) n = n * S
  | 0 => (Nat.zero_mul S).symm
  | n + 1 => by
    show nsum (fun _ => S) n + S = _
    rw [nsum_const S n, Nat.succ_mul]
theorem oth_put {i j p X : Nat} {pt : Nat → Nat} (hi : i < 9) (hj : j < 9) : (if j = i then p else pt j) + oth j (fun k => if k = i then p else pt k) X = p + oth i pt X := by
  have h1 := nsum_split (f := fun k => if k = i then p else pt k) hj
  have h2 := nsum_put (f := pt) (p := p) hi
  unfold oth
  try dsimp only at h1
  try dsimp only
  omega
theorem to_store {pt zt : Nat → Nat} {w vv pv : Nat} {D : List Int32} {T : Nat} {v2 : Value} {V : List Int32} {t : Nat} {up low : Int32} {P : List Int32} {rk : Int32} {X1 Z1 : Nat} {B : List Int32 → Nat → List Int32 → Nat → Prop} (hP : RPX M F code 0 pt zt (SA σ)) (hC : FC M (F 0) w vv pv V t up low P rk) (hS : RS M w D T v2 2097152 X1 Z1 rc rs) (hX : FXB 8192 V X1 Z1 (oth 0 pt X) (oth 0 zt Z)) (h3 : 3 ≤ T) (h1 : RI D 3 1 1) (ht : t ≤ V.length) (hP6 : P.length = 64) (hB : B D T V t) {k : Nat} (hk : k < 8) : ∃ (pt zt : Nat → Nat) (u vg pg : Nat) (E : List Int32) (TE : Nat) (v3 : Value) (Vg : List Int32) (tg : Nat) (upg lowg : Int32) (Pg : List Int32) (rkg : Int32) (X2 Z2 : Nat), RPX M F code (k + 1) pt zt (fun j => if j = 0 then B else SA σ j) ∧ FC M (F (k + 1)) u vg pg Vg tg upg lowg Pg rkg ∧ RS M u E TE v3 131072 X2 Z2 rc rs ∧ FXB 4096 Vg X2 Z2 (oth (k + 1) pt X) (oth (k + 1) zt Z) ∧ 3 ≤ TE ∧ RI E 3 1 1 ∧ tg ≤ Vg.length ∧ Pg.length = 64 := by
  obtain ⟨p, z, a1, a2, a3⟩ := AK.close (A := B) hC hS hX h3 h1 ht hP6 hB
  have hp := hP.put (by decide) (j := 9) a1 (by decide)
  have s1 := oth_put (i := 0) (j := k + 1) (p := p) (pt := pt) (X := X) (by decide) (by omega)
  have s2 := oth_put (i := 0) (j := k + 1) (p := z) (pt := zt) (X := Z) (by decide) (by omega)
  obtain ⟨u, vg, pg, de, E, TE, v3, Vg, tg, upg, lowg, Pg, rkg, X2, Z2, b1, b2, b3, b4, b5, b6, b7, -⟩ := (hp.2.2.2.1 (k + 1) (by omega) (by omega)).opn (X' := oth (k + 1) (fun k => if k = 0 then p else pt k) X) (Z' := oth (k + 1) (fun k => if k = 0 then z else zt k) Z) (rc := rc) (rs := rs) (by dsimp only; omega) (by dsimp only; omega)
  rw [show cmF (k + 1) = 131072 from if_neg (by omega)] at b2
  rw [show cvF (k + 1) = 4096 from if_neg (by omega)] at b3
  exact ⟨_, _, u, vg, pg, E, TE, v3, Vg, tg, upg, lowg, Pg, rkg, X2, Z2, hp.take (by decide) (k + 1), b1.1, b2, b3, b4, b5, b6, b7⟩
theorem from_store {pt zt : Nat → Nat} {k : Nat} (hk : k < 8) {A : Nat → List Int32 → Nat → List Int32 → Nat → Prop} {u vg pg : Nat} {E : List Int32} {TE : Nat} {v3 : Value} {Vg : List Int32} {tg : Nat} {upg lowg : Int32} {Pg : List Int32} {rkg : Int32} {X2 Z2 R c : Nat} {q : Nat → Rat} {w : Nat} {l : List Value} {CA RA : List Int32} {fi se : Int32} (hP : RPX M F code (k + 1) pt zt A) (hA : ∀ j, j < 9 → j ≠ k + 1 → ∀ D T V t, A j D T V t → SA σ j D T V t) (hC : FC M (F (k + 1)) u vg pg Vg tg upg lowg Pg rkg) (hS : RS M u E TE v3 131072 X2 Z2 rc rs) (hX : FXB 4096 Vg X2 Z2 (oth (k + 1) pt X) (oth (k + 1) zt Z)) (h3 : 3 ≤ TE) (h1 : RI E 3 1 1) (ht : tg ≤ Vg.length) (hP6 : Pg.length = 64) (hm : MX E TE Vg tg 0 R c 3 q) (h0 : M (F 0) = some (.inl nRF, .ref w :: l)) (hO : OC M (F 10) (F 0) w (F 12) (F 13) CA RA fi se) (hCA : CA.length = 64) (hRA : RA.length = 64) : RT M F code (rup σ k R c q) X Z rc rs := by
  have ecm : cmF (k + 1) = 131072 := if_neg (by omega)
  have ecv : cvF (k + 1) = 4096 := if_neg (by omega)
  obtain ⟨p, z, a1, a2, a3⟩ := AK.close (A := fun D T V t => MX D T V t 0 R c 3 q) hC hS hX h3 h1 ht hP6 hm
  rw [← ecm, ← ecv] at a1
  refine ⟨_, _, w, l, CA, RA, fi, se, (hP.put (by omega) (j := 9) a1 (by decide)).mono (fun j hj D T V t g => ?_), h0, hO, hCA, hRA, ?_, ?_⟩
  · by_cases c1 : j = k + 1
    · rw [if_pos c1] at g
      refine Or.inr ?_
      show MX D T V t 0 (if j - 1 = k then R else σ.1 (j - 1)) (if j - 1 = k then c else σ.2.1 (j - 1)) 3 (if j - 1 = k then q else σ.2.2 (j - 1))
      rw [if_pos (by omega), if_pos (by omega), if_pos (by omega)]
      exact g
    · rw [if_neg c1] at g
      rcases hA j hj c1 D T V t g with e | e
      · exact Or.inl e
      · by_cases c0 : j = 0
        · exact Or.inl c0
        · refine Or.inr ?_
          show MX D T V t 0 (if j - 1 = k then R else σ.1 (j - 1)) (if j - 1 = k then c else σ.2.1 (j - 1)) 3 (if j - 1 = k then q else σ.2.2 (j - 1))
          rw [if_neg (by omega), if_neg (by omega), if_neg (by omega)]
          exact e
  · rw [nsum_put (by omega)]; unfold oth at a2; omega
  · rw [nsum_put (by omega)]; unfold oth at a3; omega
/-- the Forms do not see a step of a register -/
theorem OC.store {pt zt : Nat → Nat} {k w : Nat} {l : List Value} {A : Nat → List Int32 → Nat → List Int32 → Nat → Prop} {CA RA : List Int32} {fi se : Int32} (hk : k < 8) (hP : RPX M F code (k + 1) pt zt A) (hO : OC M (F 10) (F 0) w (F 12) (F 13) CA RA fi se) (h0 : M (F 0) = some (.inl nRF, .ref w :: l)) (hf : FF M M' (F (k + 1))) : OC M' (F 10) (F 0) w (F 12) (F 13) CA RA fi se ∧ M' (F 0) = some (.inl nRF, .ref w :: l) := by
  obtain ⟨a1, a2, a3, a4, a5, a6⟩ := id hP
  have hq : ∀ q, FO M (F 0) q → M' q = M q := fun q hq => (hf q ((a4 0 (by decide) (by omega)).has hq) (a5 (k + 1) 0 (by omega) (by decide) (by omega) q hq)).1
  have e2 := ((a4 0 (by decide) (by omega)).eq hq).2
  obtain ⟨o1, o2, o3, o4, o5, o6, o7⟩ := hO
  have x : ∀ j, 9 ≤ j → j < 14 → M' (F j) = M (F j) := fun j j1 j2 => (hf (F j) (a3 j j1 j2) (a6 (k + 1) j (by omega) j1 j2)).1
  exact ⟨⟨(x 10 (by decide) (by decide)).trans o1, (x 12 (by decide) (by decide)).trans o2, (x 13 (by decide) (by decide)).trans o3, o4, fun g => o5 ((e2 _).mp g), fun g => o6 ((e2 _).mp g), fun g => o7 ((e2 _).mp g)⟩, (hq (F 0) (Or.inl rfl)).trans h0⟩
end RKS
section RKE
variable {M M' : mheap} {F : Nat → Nat} {code : Int32} {pt zt : Nat → Nat} {A : Nat → List Int32 → Nat → List Int32 → Nat → Prop} {r f o st ca ra : Nat}
theorem RPX.ffe (e0 : F 0 = f) (h : RPX M F code 0 pt zt A) (hf : FF M M' f) : RPX M' F code 0 pt zt A := (h.ff (by decide) (by rw [e0]; exact hf)).1
theorem RPX.rte (e0 : F 0 = f) (h : RPX M F code 0 pt zt A) (hf : FF M M' f) : RTF M M' F := (h.ff (by decide) (by rw [e0]; exact hf)).2
theorem RPX.rr {i : Nat} (e0 : F 0 = f) (e9 : F 9 = r) (e10 : F 10 = o) (e11 : F 11 = st) (h : RPX M F code i pt zt A) : M r = some (.inl nR, [.int code, .ref f, .ref o, .ref st]) := by rw [← e9, ← e0, ← e10, ← e11]; exact h.1
theorem RPX.ss {i : Nat} (e11 : F 11 = st) (h : RPX M F code i pt zt A) : M st = some (.inr 5, (List.range 8).map (fun k => Value.ref (F (k + 1)))) := by rw [← e11]; exact h.2.1
end RKE
theorem MKP.mono {Q : jq} {M : mheap} {f w pv : Nat} {D V : List Int32} {t : Nat} {P : List Int32} {rk : Int32} {T cm cv X' Z' r c E E' : Nat} {q : Nat → Rat} (h : MKP Q M f w pv D V t P rk T cm cv X' Z' r c E' q) (hE : E ≤ E') : MKP Q M f w pv D V t P rk T cm cv X' Z' r c E q := by
  intro M' vv' D' T' V' up' low' X1 Z1 v2' rc' rs' a1 a2 a3 a4 a5
  exact h M' vv' D' T' V' up' low' X1 Z1 v2' rc' rs' a1 a2 a3 a4 (Nat.le_trans a5 hE)
