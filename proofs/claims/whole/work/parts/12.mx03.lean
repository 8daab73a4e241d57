/-! ===== determinants, by the first column ===== -/
/-- the numbers without i -/
def skp (i r : Nat) : Nat := if r < i then r else r + 1
def sgq (i : Nat) : Rat := if i % 2 = 0 then 1 else -1
theorem sgq_succ (i : Nat) : sgq (i + 1) = -sgq i := by
  unfold sgq
  by_cases h : i % 2 = 0
  · rw [if_pos h, if_neg (by omega)]
  · rw [if_neg h, if_pos (by omega)]; grind
def det : Nat → qmat → Rat
  | 0, _ => 1
  | n + 1, M => qsum (fun i => sgq i * M i 0 * det n (fun r c => M (skp i r) (c + 1))) (n + 1)
theorem det_succ (n : Nat) (M : qmat) : det (n + 1) M = qsum (fun i => sgq i * M i 0 * det n (fun r c => M (skp i r) (c + 1))) (n + 1) := rfl
theorem skp_lt {i r n : Nat} (h : r < n) : skp i r < n + 1 := by unfold skp; split <;> omega
theorem det_congr : ∀ {n : Nat} {M N : qmat}, (∀ i, i < n → ∀ j, j < n → M i j = N i j) → det n M = det n N
  | 0, _, _, _ => rfl
  | n + 1, M, N, h => by
    rw [det_succ, det_succ]
    refine qsum_congr (fun i hi => ?_)
    rw [h i hi 0 (by omega), det_congr (fun r hr c hc => h _ (skp_lt hr) _ (by omega))]
/-- M with the row k changed to v -/
def rput (M : qmat) (k : Nat) (v : Nat → Rat) : qmat := fun i j => if i = k then v j else M i j
theorem rput_at (M : qmat) (k : Nat) (v : Nat → Rat) (j : Nat) : rput M k v k j = v j := if_pos rfl
theorem rput_ne (M : qmat) {k i : Nat} (v : Nat → Rat) (j : Nat) (h : i ≠ k) : rput M k v i j = M i j := if_neg h
theorem rput_self (M : qmat) (k : Nat) : rput M k (M k) = M := by
  funext i j
  unfold rput
  split
  · rename_i h; rw [h]
  · rfl
/-- what is left of a changed row when the row i and the first column go -/
theorem rput_skp (M : qmat) (v : Nat → Rat) {i k : Nat} (h : i ≠ k) : (fun r c => rput M k v (skp i r) (c + 1)) = rput (fun r c => M (skp i r) (c + 1)) (if k < i then k else k - 1) (fun c => v (c + 1)) := by
  funext r c
  unfold rput skp
  show (if (if r < i then r else r + 1) = k then v (c + 1) else M (if r < i then r else r + 1) (c + 1)) = if r = (if k < i then k else k - 1) then v (c + 1) else M (if r < i then r else r + 1) (c + 1)
  by_cases h1 : r < i
  · rw [if_pos h1]
    by_cases h2 : k < i
    · rw [if_pos h2]
    · rw [if_neg h2, if_neg (show ¬ r = k by omega), if_neg (show ¬ r = k - 1 by omega)]
  · rw [if_neg h1]
    by_cases h2 : k < i
    · rw [if_pos h2, if_neg (show ¬ r + 1 = k by omega), if_neg (show ¬ r = k by omega)]
    · rw [if_neg h2]
      by_cases h3 : r + 1 = k
      · rw [if_pos h3, if_pos (by omega)]
      · rw [if_neg h3, if_neg (by omega)]
theorem rput_skp_same (M : qmat) (v : Nat → Rat) (i : Nat) : (fun r c => rput M i v (skp i r) (c + 1)) = (fun r c => M (skp i r) (c + 1)) := by
  funext r c
  unfold rput skp
  split
  · rw [if_neg (by omega)]
  · rw [if_neg (by omega)]
theorem det_lin : ∀ {n : Nat} {M : qmat} {k : Nat} {u v : Nat → Rat} {a b : Rat}, k < n → det n (rput M k (fun j => a * u j + b * v j)) = a * det n (rput M k u) + b * det n (rput M k v)
  | 0, _, _, _, _, _, _, h => by omega
  | n + 1, M, k, u, v, a, b, hk => by
    rw [det_succ, det_succ, det_succ, qsum_mul, qsum_mul, ← qsum_add]
    refine qsum_congr (fun i hi => ?_)
    by_cases e : i = k
    · subst e
      rw [rput_skp_same, rput_skp_same, rput_skp_same, rput_at, rput_at, rput_at]
      grind
    · rw [rput_skp M _ e, rput_skp M _ e, rput_skp M _ e, rput_ne _ _ _ e, rput_ne _ _ _ e, rput_ne _ _ _ e]
      have := det_lin (n := n) (M := fun r c => M (skp i r) (c + 1)) (k := if k < i then k else k - 1) (u := fun c => u (c + 1)) (v := fun c => v (c + 1)) (a := a) (b := b) (by split <;> omega)
      rw [this]
      grind
/-- two rows one behind the other that are the same -/
theorem det_adj : ∀ {n : Nat} {M : qmat} {k : Nat}, k + 1 < n → (∀ j, j < n → M k j = M (k + 1) j) → det n M = 0
  | 0, _, _, h, _ => by omega
  | n + 1, M, k, hk, h => by
    rw [det_succ]
    -- all but two of the sum are 0
    have hz : ∀ i, i < n + 1 → i ≠ k → i ≠ k + 1 → det n (fun r c => M (skp i r) (c + 1)) = 0 := fun i hi h1 h2 => by
      refine det_adj (k := if k < i then k else k - 1) (by split <;> omega) (fun j hj => ?_)
      show M (skp i _) (j + 1) = M (skp i _) (j + 1)
      unfold skp
      by_cases g : k < i
      · rw [if_pos g, if_pos (show k < i by omega), if_pos (show k + 1 < i by omega)]
        exact h (j + 1) (by omega)
      · rw [if_neg g, if_neg (show ¬ k - 1 < i by omega), if_neg (show ¬ k - 1 + 1 < i by omega), show k - 1 + 1 = k by omega]
        exact h (j + 1) (by omega)
    have same : (fun r c => M (skp k r) (c + 1)) = fun r c => M (skp k r) (c + 1) := rfl
    have e1 : det n (fun r c => M (skp (k + 1) r) (c + 1)) = det n (fun r c => M (skp k r) (c + 1)) := by
      refine det_congr (fun r hr c hc => ?_)
      show M (skp (k + 1) r) (c + 1) = M (skp k r) (c + 1)
      unfold skp
      by_cases g : r = k
      · subst g
        rw [if_pos (by omega), if_neg (by omega)]
        exact h (c + 1) (by omega)
      · by_cases g2 : r < k
        · rw [if_pos (by omega), if_pos g2]
        · rw [if_neg (by omega), if_neg g2]
    have two : ∀ (f : Nat → Rat) (m : Nat), k + 1 < m → (∀ i, i < m → i ≠ k → i ≠ k + 1 → f i = 0) → qsum f m = f k + f (k + 1) := by
      intro f m
      induction m with
      | zero => intro h; omega
      | succ m ih =>
        intro h1 h2
        show qsum f m + f m = _
        by_cases g : k + 1 = m
        · subst g
          rw [qsum_one (Nat.lt_succ_self k) (fun i hi hne => h2 i (by omega) hne (by omega))]
        · rw [ih (by omega) (fun i hi => h2 i (by omega)), h2 m (by omega) (by omega) (by omega)]
          grind
    rw [two _ (n + 1) hk (fun i hi h1 h2 => by rw [hz i hi h1 h2]; grind), e1, sgq_succ, h 0 (by omega)]
    grind
/-- M with the rows i and k changed for each other -/
def rswap (M : qmat) (i k : Nat) : qmat := fun r => M (if r = i then k else if r = k then i else r)
theorem det_swap_adj {n : Nat} {M : qmat} {k : Nat} (hk : k + 1 < n) : det n (rswap M k (k + 1)) = -det n M := by
  -- the rows k and k + 1 both their sum
  have key : ∀ u v : Nat → Rat, det n (rput (rput M k u) (k + 1) v) = -det n (rput (rput M k v) (k + 1) u) := by
    intro u v
    have h0 : det n (rput (rput M k (fun j => 1 * u j + 1 * v j)) (k + 1) (fun j => 1 * u j + 1 * v j)) = 0 := det_adj hk (fun j _ => by rw [rput_at, rput_ne _ _ _ (by omega), rput_at])
    have comm : ∀ a b : Nat → Rat, rput (rput M k a) (k + 1) b = rput (rput M (k + 1) b) k a := by
      intro a b
      funext i j
      unfold rput
      by_cases h1 : i = k + 1
      · rw [if_pos h1, if_neg (by omega), if_pos h1]
      · rw [if_neg h1, if_neg h1]
    have z : ∀ a : Nat → Rat, det n (rput (rput M k a) (k + 1) a) = 0 := fun a => det_adj hk (fun j _ => by rw [rput_at, rput_ne _ _ _ (by omega), rput_at])
    rw [det_lin hk, comm, comm, det_lin (by omega), det_lin (by omega), ← comm, ← comm, ← comm, ← comm, z, z] at h0
    grind
  have e1 : rswap M k (k + 1) = rput (rput M k (M (k + 1))) (k + 1) (M k) := by
    funext i j
    unfold rswap rput
    by_cases h1 : i = k + 1
    · rw [if_pos h1, if_neg (by omega), if_pos h1]
    · rw [if_neg h1]
      by_cases h2 : i = k
      · rw [if_pos h2, if_neg h1, if_pos h2]
      · rw [if_neg h2, if_neg h1, if_neg h2]
  rw [e1, key, rput_self]
  have : rput M (k + 1) (M (k + 1)) = M := rput_self M (k + 1)
  rw [this]
theorem det_eqrows {n : Nat} : ∀ (d : Nat) {M : qmat} {i : Nat}, i + d + 1 < n → (∀ j, j < n → M i j = M (i + d + 1) j) → det n M = 0
  | 0, M, i, h, e => det_adj h e
  | d + 1, M, i, h, e => by
    -- swap the upper one down
    have h1 := det_swap_adj (n := n) (M := M) (k := i + d + 1) (by omega)
    have h2 : det n (rswap M (i + d + 1) (i + d + 1 + 1)) = 0 := det_eqrows d (i := i) (by omega) (fun j hj => by
      show M _ j = M _ j
      rw [if_neg (by omega), if_neg (by omega), if_pos rfl]
      exact e j hj)
    rw [h2] at h1
    grind
theorem det_same {n : Nat} {M : qmat} {i k : Nat} (hi : i < n) (hk : k < n) (hik : i ≠ k) (e : ∀ j, j < n → M i j = M k j) : det n M = 0 := by
  rcases Nat.lt_or_ge i k with h | h
  · exact det_eqrows (k - i - 1) (i := i) (by omega) (fun j hj => by rw [show i + (k - i - 1) + 1 = k by omega]; exact e j hj)
  · exact det_eqrows (i - k - 1) (i := k) (by omega) (fun j hj => by rw [show k + (i - k - 1) + 1 = i by omega]; exact (e j hj).symm)
/-- a multiple of the row l more in the row k -/
theorem det_addrow {n : Nat} {M : qmat} {k l : Nat} {a : Rat} (hk : k < n) (hl : l < n) (hkl : k ≠ l) : det n (rput M k (fun j => M k j + a * M l j)) = det n M := by
  have e : (fun j => M k j + a * M l j) = fun j => 1 * M k j + a * M l j := by funext j; grind
  rw [e, det_lin hk, rput_self]
  have : det n (rput M k (fun j => M l j)) = 0 := det_same hk hl hkl (fun j _ => by rw [rput_at, rput_ne _ _ _ (fun h => hkl h.symm)])
  rw [this]
  grind
theorem det_swap {n : Nat} {M : qmat} {i k : Nat} (hi : i < n) (hk : k < n) (hik : i ≠ k) : det n (rswap M i k) = -det n M := by
  have key : ∀ u v : Nat → Rat, det n (rput (rput M i u) k v) = -det n (rput (rput M i v) k u) := by
    intro u v
    have comm : ∀ a b : Nat → Rat, rput (rput M i a) k b = rput (rput M k b) i a := by
      intro a b
      funext x j
      unfold rput
      by_cases h1 : x = k
      · rw [if_pos h1, if_neg (by omega), if_pos h1]
      · rw [if_neg h1, if_neg h1]
    have z : ∀ a : Nat → Rat, det n (rput (rput M i a) k a) = 0 := fun a => det_same hi hk hik (fun j _ => by rw [rput_at, rput_ne _ _ _ hik, rput_at])
    have h0 := z (fun j => 1 * u j + 1 * v j)
    rw [det_lin hk, comm, comm, det_lin hi, det_lin hi, ← comm, ← comm, ← comm, ← comm, z, z] at h0
    grind
  have e1 : rswap M i k = rput (rput M i (M k)) k (M i) := by
    funext x j
    unfold rswap rput
    by_cases h1 : x = k
    · by_cases h2 : x = i
      · omega
      · rw [if_neg h2, if_pos h1, if_pos h1]
    · rw [if_neg h1]
      by_cases h2 : x = i
      · rw [if_pos h2, if_neg h1, if_pos h2]
      · rw [if_neg h2, if_neg h1, if_neg h2]
  rw [e1, key, rput_self, rput_self]
/-- nothing below the diagonal -/
def qprod (f : Nat → Rat) : Nat → Rat
  | 0 => 1
  | n + 1 => qprod f n * f n
theorem qprod_head (f : Nat → Rat) : ∀ n, qprod f (n + 1) = f 0 * qprod (fun i => f (i + 1)) n
  | 0 => by show 1 * f 0 = f 0 * 1; grind
  | n + 1 => by
    show qprod f (n + 1) * f (n + 1) = f 0 * (qprod (fun i => f (i + 1)) n * f (n + 1))
    rw [qprod_head f n]
    grind
theorem det_tri : ∀ {n : Nat} {M : qmat}, (∀ i, i < n → ∀ j, j < i → M i j = 0) → det n M = qprod (fun i => M i i) n
  | 0, _, _ => rfl
  | n + 1, M, h => by
    rw [det_succ, qsum_one (k := 0) (by omega) (fun i hi hne => by rw [h i hi 0 (by omega)]; grind), qprod_head]
    have e : det n (fun r c => M (skp 0 r) (c + 1)) = qprod (fun i => M (i + 1) (i + 1)) n := det_tri (fun i hi j hj => h (i + 1) (by omega) (j + 1) (by omega))
    rw [e]
    show 1 * M 0 0 * _ = _
    grind
