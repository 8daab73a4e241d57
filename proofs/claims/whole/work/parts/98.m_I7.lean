/-! ===== Matrix: the constructor, in INI's form (printed by wip/gen/rI7.py) ===== -/
section I7
variable {G : jg} {d : Nat} {Q : jq} {rc rs : Nat} {M : mheap} {ad : Nat → Nat} {D : Nat → Prop}
theorem mx_init {ob ko b c ka : Nat} (hG : kG G) (hc1 : 1 ≤ c) (hc2 : c < 2000) (hob : M ob = some (.inl nM, [.int (nI 0), .int (nI 0), .null, .null])) (hJ : INI M ad D) (eo : ad ko = ob) (dko : D ko) (k6 : 6244 ≤ ko) (hka : 6244 ≤ ka) (hb : b + 256 < 3122) (hcap : ∀ i, i ≤ 256 → capx (b + i) = c ∧ vx (b + i) = if i = 256 then 1 else 0) (hd : ∀ k, D k → (k < 2 * b ∨ 2 * (b + 257) ≤ k) ∧ k ≠ ka) (hrc : 515 ≤ rc) (hrs : 256 + 257 * (3 + c) ≤ rs) (k : ∀ (M' : mheap) (ad' : Nat → Nat) (rc' rs' : Nat), INI M' ad' (fun k => D k ∨ k = ka ∨ (2 * b ≤ k ∧ k < 2 * (b + 257))) → (∀ k, D k → ad' k = ad k) → MXT M' (fun p => ad' (2 * p)) ob (ad' ka) b 1 1 → (∀ x, x ≠ ob → M x ≠ none → M' x = M x) → rc ≤ rc' + 515 → rs ≤ rs' + (256 + 257 * (3 + c)) → Q (.returned none) M' rc' rs') : jj G kM_init (d + 2) Q rc rs 0 (jj_ent [.ref ob, .int (nI c)] 3) [] M := by
  refine m_init (b := b) (ka := ka) hG hc1 hc2 hob hJ.1 (by omega) hrc hrs (fun M' ad' rc' rs' L g mx w f c9 s9 => k M' ad' rc' rs' ⟨L, fun p hp d1 d2 => ?_⟩ (fun k hk => g k (hd k hk).2 (hd k hk).1) mx f c9 s9)
  by_cases r : b ≤ p ∧ p < b + 257
  · have hi6 : p - b ≤ 256 := by omega
    have h1 := w (p - b) hi6
    have h2 := hcap (p - b) hi6
    rw [show b + (p - b) = p by omega] at h1 h2
    rw [h2.1, h2.2]
    exact h1
  · have q1 : D (2 * p) := by
      rcases d1 with h | h | h
      · exact h
      · omega
      · omega
    have q2 : D (2 * p + 1) := by
      rcases d2 with h | h | h
      · exact h
      · omega
      · omega
    have wh := hJ.2 p hp q1 q2
    rw [g _ (hd _ q1).2 (hd _ q1).1, g _ (hd _ q2).2 (hd _ q2).1]
    refine wh.same (f _ (fun e => ?_) wh.used.1) (f _ (fun e => ?_) wh.used.2)
    · have := hJ.1.2 _ _ q1 dko (e.trans eo.symm); omega
    · have := hJ.1.2 _ _ q2 dko (e.trans eo.symm); omega
theorem mx_make {ob ko b c ka : Nat} (hc1 : 1 ≤ c) (hc2 : c < 2000) (hka : 6244 ≤ ka) (hb : b + 256 < 3122) (hcap : ∀ i, i ≤ 256 → capx (b + i) = c ∧ vx (b + i) = if i = 256 then 1 else 0) (hG : kG G) (hob : M ob = some (.inl nM, [.int (nI 0), .int (nI 0), .null, .null])) (hJ : INI M ad D) (eo : ad ko = ob) (dko : D ko) (k6 : 6244 ≤ ko) (hd : ∀ k, D k → (k < 2 * b ∨ 2 * (b + 257) ≤ k) ∧ k ≠ ka) (hrc : 515 ≤ rc) (hrs : 256 + 257 * (3 + c) ≤ rs) (k : ∀ (M' : mheap) (ad' : Nat → Nat) (rc' rs' : Nat), INI M' ad' (fun k => D k ∨ k = ka ∨ (2 * b ≤ k ∧ k < 2 * (b + 257))) → (∀ k, D k → ad' k = ad k) → M' ob = some (.inl nM, [.int (nI 1), .int (nI 1), .ref (ad' (2 * (b + 256))), .ref (ad' ka)]) → M' (ad' ka) = some (.inr 3, (List.range 256).map (fun i => Value.ref (ad' (2 * (b + i))))) → (∀ x, x ≠ ob → M x ≠ none → M' x = M x) → rc ≤ rc' + 515 → rs ≤ rs' + (256 + 257 * (3 + c)) → Q (.returned none) M' rc' rs') : jj G kM_init (d + 2) Q rc rs 0 (jj_ent [.ref ob, .int (nI c)] 3) [] M :=
  mx_init hG hc1 hc2 hob hJ eo dko k6 hka hb hcap hd hrc hrs (fun M' ad' rc' rs' L g mx f c9 s9 => k M' ad' rc' rs' L g mx.1 mx.2 f c9 s9)
theorem capx_reg {k i : Nat} (hk : k < 8) (hi6 : i ≤ 256) : capx (809 + 257 * k + i) = 125 ∧ vx (809 + 257 * k + i) = if i = 256 then 1 else 0 := by
  refine ⟨?_, ?_⟩
  · unfold capx
    (repeat' split) <;> omega
  · unfold vx
    (repeat' split) <;> omega
theorem capx_dr {i : Nat} (hi6 : i ≤ 256) : capx (2865 + i) = 252 ∧ vx (2865 + i) = if i = 256 then 1 else 0 := by
  refine ⟨?_, ?_⟩
  · unfold capx
    (repeat' split) <;> omega
  · unfold vx
    (repeat' split) <;> omega
end I7
