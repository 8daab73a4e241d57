/-! ===== determinants by the first row, turned over; whole ones; what lies in the lattice ===== -/
theorem qsum_head (f : Nat → Rat) : ∀ n, qsum f (n + 1) = f 0 + qsum (fun i => f (i + 1)) n
  | 0 => by show 0 + f 0 = f 0 + 0; grind
  | n + 1 => by
    show qsum f (n + 1) + f (n + 1) = f 0 + (qsum (fun i => f (i + 1)) n + f (n + 1))
    rw [qsum_head f n]
    grind
theorem skp_ss (i r : Nat) : skp (i + 1) (r + 1) = skp i r + 1 := by
  unfold skp
  by_cases h : r < i
  · rw [if_pos h, if_pos (by omega)]
  · rw [if_neg h, if_neg (by omega)]
theorem det_row : ∀ (n : Nat) (M : qmat), det (n + 1) M = qsum (fun j => sgq j * M 0 j * det n (fun r c => M (r + 1) (skp j c))) (n + 1)
  | 0, M => rfl
  | n + 1, M => by
    rw [det_succ, qsum_head (fun i => sgq i * M i 0 * det (n + 1) (fun r c => M (skp i r) (c + 1))) (n + 1), qsum_head (fun j => sgq j * M 0 j * det (n + 1) (fun r c => M (r + 1) (skp j c))) (n + 1)]
    congr 1
    have e1 : ∀ i, i < n + 1 → sgq (i + 1) * M (i + 1) 0 * det (n + 1) (fun r c => M (skp (i + 1) r) (c + 1)) = qsum (fun j => sgq (i + 1) * M (i + 1) 0 * (sgq j * M 0 (j + 1) * det n (fun r c => M (skp i r + 1) (skp j c + 1)))) (n + 1) := by
      intro i hi
      rw [det_row n (fun r c => M (skp (i + 1) r) (c + 1)), qsum_mul]
      refine qsum_congr (fun j hj => ?_)
      have : (fun r c => M (skp (i + 1) (r + 1)) (skp j c + 1)) = fun r c => M (skp i r + 1) (skp j c + 1) := by
        funext r c
        rw [skp_ss]
      rw [this]
      rfl
    have e2 : ∀ j, j < n + 1 → sgq (j + 1) * M 0 (j + 1) * det (n + 1) (fun r c => M (r + 1) (skp (j + 1) c)) = qsum (fun i => sgq (i + 1) * M (i + 1) 0 * (sgq j * M 0 (j + 1) * det n (fun r c => M (skp i r + 1) (skp j c + 1)))) (n + 1) := by
      intro j hj
      rw [det_succ, qsum_mul]
      refine qsum_congr (fun i hi => ?_)
      have : (fun r c => M (skp i r + 1) (skp (j + 1) (c + 1))) = fun r c => M (skp i r + 1) (skp j c + 1) := by
        funext r c
        rw [skp_ss]
      rw [this, sgq_succ, sgq_succ, show skp (j + 1) 0 = 0 from rfl]
      generalize det n _ = x
      grind
    rw [qsum_congr e1, qsum_congr e2, qsum_comm]
theorem det_T : ∀ (n : Nat) (M : qmat), det n (fun i j => M j i) = det n M
  | 0, _ => rfl
  | n + 1, M => by
    rw [det_row n M, det_succ]
    refine qsum_congr (fun i hi => ?_)
    have := det_T n (fun r c => M (r + 1) (skp i c))
    rw [← this]
def isZ (q : Rat) : Prop := ∃ z : Int, q = (z : Rat)
theorem isZ_add {a b : Rat} (ha : isZ a) (hb : isZ b) : isZ (a + b) := by
  obtain ⟨x, rfl⟩ := ha
  obtain ⟨y, rfl⟩ := hb
  exact ⟨x + y, by rw [Rat.intCast_add]⟩
theorem isZ_mul {a b : Rat} (ha : isZ a) (hb : isZ b) : isZ (a * b) := by
  obtain ⟨x, rfl⟩ := ha
  obtain ⟨y, rfl⟩ := hb
  exact ⟨x * y, by rw [Rat.intCast_mul]⟩
theorem isZ_sum {f : Nat → Rat} : ∀ {n : Nat}, (∀ i, i < n → isZ (f i)) → isZ (qsum f n)
  | 0, _ => ⟨0, rfl⟩
  | n + 1, h => isZ_add (isZ_sum (fun i hi => h i (by omega))) (h n (Nat.lt_succ_self n))
theorem isZ_sgq (i : Nat) : isZ (sgq i) := by
  unfold sgq
  split
  · exact ⟨1, rfl⟩
  · exact ⟨-1, by decide⟩
theorem isZ_det : ∀ {n : Nat} {M : qmat}, (∀ i, i < n → ∀ j, j < n → isZ (M i j)) → isZ (det n M)
  | 0, _, _ => ⟨1, rfl⟩
  | n + 1, M, h => isZ_sum (fun i hi => isZ_mul (isZ_mul (isZ_sgq i) (h i hi 0 (by omega))) (isZ_det (fun r hr c hc => h _ (skp_lt hr) _ (by omega))))
theorem det_linsum {n : Nat} {M : qmat} {k : Nat} (hk : k < n) {a : Nat → Rat} {u : Nat → Nat → Rat} : ∀ {m : Nat}, det n (rput M k (fun j => qsum (fun i => a i * u i j) m)) = qsum (fun i => a i * det n (rput M k (u i))) m
  | 0 => by
    have e : (fun j => qsum (fun i => a i * u i j) 0) = fun j => (0 : Rat) * M k j + 0 * M k j := by funext j; show (0 : Rat) = _; grind
    rw [e, det_lin hk]
    show _ = (0 : Rat)
    grind
  | m + 1 => by
    have e : (fun j => qsum (fun i => a i * u i j) (m + 1)) = fun j => (1 : Rat) * qsum (fun i => a i * u i j) m + a m * u m j := by funext j; show _ + _ = _; grind
    rw [e, det_lin hk, det_linsum hk]
    show _ = qsum _ m + a m * _
    grind
/-- the unit rows -/
def qunit (i : Nat) : Nat → Rat := fun j => if j = i then 1 else 0
/-- cofactors: a whole combination of the rows gives the determinant in the column j and 0 elsewhere -/
theorem det_adjug {n : Nat} {M : qmat} {j : Nat} (hj : j < n) : ∀ k, k < n → qsum (fun i => det n (rput (fun a b => M b a) j (qunit i)) * M i k) n = if k = j then det n M else 0 := by
  intro k hk
  have e : det n (rput (fun a b => M b a) j (fun i => M i k)) = qsum (fun i => M i k * det n (rput (fun a b => M b a) j (qunit i))) n := by
    rw [← det_linsum hj]
    refine det_congr (fun a _ b hb => ?_)
    by_cases h : a = j
    · subst h
      rw [rput_at, rput_at, qsum_one hb (fun i _ hne => by unfold qunit; rw [if_neg (fun e => hne e.symm)]; grind)]
      unfold qunit
      rw [if_pos rfl]
      grind
    · rw [rput_ne _ _ _ h, rput_ne _ _ _ h]
  have e2 : qsum (fun i => det n (rput (fun a b => M b a) j (qunit i)) * M i k) n = qsum (fun i => M i k * det n (rput (fun a b => M b a) j (qunit i))) n := qsum_congr (fun i _ => by grind)
  rw [e2, ← e]
  by_cases h : k = j
  · subst h
    rw [if_pos rfl, ← det_T n M]
    have : rput (fun a b => M b a) k (fun i => M i k) = fun a b => M b a := rput_self (fun a b => M b a) k
    rw [this]
  · rw [if_neg h]
    exact det_same hj hk (fun e => h e.symm) (fun b _ => by rw [rput_at, rput_ne _ _ _ h])
theorem isZ_qunit (i j : Nat) : isZ (qunit i j) := by
  unfold qunit
  split
  · exact ⟨1, rfl⟩
  · exact ⟨0, rfl⟩
theorem isZ_cof {n : Nat} {M : qmat} {j i : Nat} (h : ∀ i, i < n → ∀ j, j < n → isZ (M i j)) : isZ (det n (rput (fun a b => M b a) j (qunit i))) := isZ_det (fun a ha b hb => by
  unfold rput
  split
  · exact isZ_qunit i b
  · exact h b hb a ha)
