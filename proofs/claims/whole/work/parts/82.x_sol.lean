/-! ===== solutions, kernels: what the reference's forms say ===== -/
/-- a relation between columns goes over to combinations of rows -/
theorem rel_span {A B : qmat} {r s N n c : Nat} {X : Nat → Rat} (hc : c < N) (hn : n ≤ N) (h : rowsIn A r B s N) (hB : ∀ i, i < s → B i c = qsum (fun k => B i k * X k) n) : ∀ i, i < r → A i c = qsum (fun k => A i k * X k) n := by
  intro i hi
  obtain ⟨d, hd⟩ := h i hi
  rw [hd c hc]
  have e1 : qsum (fun l => d l * B l c) s = qsum (fun l => qsum (fun k => d l * (B l k * X k)) n) s := qsum_congr (fun l hl => by rw [hB l hl, qsum_mul])
  rw [e1, qsum_comm]
  exact qsum_congr (fun k hk => by
    rw [hd k (by omega)]
    have e2 : qsum (fun l => d l * B l k) s * X k = qsum (fun l => X k * (d l * B l k)) s := by rw [show ∀ a b : Rat, a * b = b * a from fun a b => by grind, qsum_mul]
    rw [e2]
    exact qsum_congr (fun l _ => by grind))
/-- A X = B -/
def solves (A B X : qmat) (m n nb : Nat) : Prop := ∀ i, i < m → ∀ j, j < nb → B i j = qsum (fun k => A i k * X k j) n
/-- X is 0 but in the rows of pivots -/
def onPiv (X : qmat) (n nb rk : Nat) (p : Nat → Nat) : Prop := ∀ i, i < n → (∀ k, k < rk → p k ≠ i) → ∀ j, j < nb → X i j = 0
section SOL
variable {A B AB E : qmat} {m n nb N rk : Nat} {p : Nat → Nat}
theorem sec_rref (h : SEC AB E m n N rk p) (hN : n ≤ N) (hA : ∀ i, i < m → ∀ j, j < n → AB i j = A i j) : rref E n rk p ∧ rowsIn E rk A m n ∧ rowsIn A m E rk n ∧ rk ≤ m := by
  obtain ⟨h1, h2, h3⟩ := h
  refine ⟨gjinv_rref h1, fun i hi => ?_, ?_, h1.1⟩
  · obtain ⟨c, hc⟩ := h2 i (Nat.lt_of_lt_of_le hi h1.1)
    exact ⟨c, fun j hj => by rw [hc j (by omega)]; exact qsum_congr (fun k hk => by rw [hA k hk j hj])⟩
  · refine rowsIn_cut (s := m) (fun i hi => ?_) h1.1 (fun i a b j hj => h1.2.2.2.2.2.2 i a b j hj)
    obtain ⟨c, hc⟩ := h3 i hi
    exact ⟨c, fun j hj => by rw [← hA i hi j hj]; exact hc j (by omega)⟩
theorem sec_none (h : SEC AB E m n N rk p) (hN : n + nb = N) (hA : ∀ i, i < m → ∀ j, j < n → AB i j = A i j) (hB : ∀ i, i < m → ∀ j, j < nb → AB i (n + j) = B i j) (hne : ¬ ∀ r' k', rk ≤ r' → r' < m → n ≤ k' → k' < N → E r' k' = 0) (X : qmat) : ¬ solves A B X m n nb := by
  intro hX
  apply hne
  intro r' k' a1 a2 a3 a4
  have hrel : ∀ i, i < m → AB i k' = qsum (fun k => AB i k * X k (k' - n)) n := fun i hi => by
    have := hB i hi (k' - n) (by omega)
    rw [show n + (k' - n) = k' by omega] at this
    rw [this, hX i hi (k' - n) (by omega)]
    exact qsum_congr (fun k hk => by rw [hA i hi k hk])
  rw [rel_span a4 (by omega) h.2.1 hrel r' a2]
  exact qsum_zero (fun k hk => by rw [h.1.2.2.2.2.2.2 r' a1 a2 k hk]; grind)
theorem sec_sol (h : SEC AB E m n N rk p) (hN : n + nb = N) (hA : ∀ i, i < m → ∀ j, j < n → AB i j = A i j) (hB : ∀ i, i < m → ∀ j, j < nb → AB i (n + j) = B i j) (hz : ∀ r' k', rk ≤ r' → r' < m → n ≤ k' → k' < N → E r' k' = 0) : solves A B (solF E rk p n) m n nb ∧ onPiv (solF E rk p n) n nb rk p := by
  obtain ⟨g1, g2, g3, g4, g5, g6, g7⟩ := h.1
  refine ⟨fun i hi j hj => ?_, fun i _ hi j _ => solF_none hi⟩
  have hrel : ∀ r', r' < m → E r' (n + j) = qsum (fun k => E r' k * solF E rk p n k j) n := fun r' hr' => by
    have e1 : qsum (fun k => E r' k * solF E rk p n k j) n = qsum (fun l => E r' (p l) * E l (n + j)) rk := by
      unfold solF
      have e2 : qsum (fun k => E r' k * qsum (fun l => if p l = k then E l (n + j) else 0) rk) n = qsum (fun k => qsum (fun l => E r' k * (if p l = k then E l (n + j) else 0)) rk) n := qsum_congr (fun k _ => by rw [qsum_mul])
      rw [e2, qsum_comm]
      refine qsum_congr (fun l hl => ?_)
      rw [qsum_one (k := p l) (g2 l hl) (fun k _ hne => by rw [if_neg (fun e => hne e.symm)]; grind), if_pos rfl]
    rw [e1]
    by_cases c : r' < rk
    · rw [qsum_one (k := r') c (fun l hl hne => by rw [g6 r' l hr' hl (fun e => hne e.symm)]; grind), g5 r' c]; grind
    · rw [hz r' (n + j) (by omega) hr' (by omega) (by omega), qsum_zero (fun l hl => by rw [g7 r' (by omega) hr' (p l) (g2 l hl)]; grind)]
  have h9 := rel_span (show n + j < N by omega) (by omega) h.2.2 hrel i hi
  rw [← hB i hi j hj, h9]
  exact qsum_congr (fun k hk => by rw [hA i hi k hk])
/-- with a right inverse all columns have pivots -/
theorem sec_full (h : SEC AB E n n N rk p) (hN : n + n = N) (hA : ∀ i, i < n → ∀ j, j < n → AB i j = A i j) (hB : ∀ i, i < n → ∀ j, j < n → AB i (n + j) = if i = j then 1 else 0) (hr : rk < n) (X : qmat) : ¬ solves A (fun i j => if i = j then (1 : Rat) else 0) X n n n := by
  intro hX
  obtain ⟨g1, g2, g3, g4, g5, g6, g7⟩ := h.1
  have hz : ∀ r', rk ≤ r' → r' < n → ∀ k', k' < N → E r' k' = 0 := fun r' a1 a2 k' a4 => by
    by_cases c : k' < n
    · exact g7 r' a1 a2 k' c
    · exact Classical.byContradiction fun hne => sec_none (nb := n) h hN hA hB (fun hall => hne (hall r' k' a1 a2 (by omega) a4)) X hX
  have hin : rowsIn AB n E rk N := rowsIn_cut h.2.2 g1 (fun i a b j hj => hz i a b j hj)
  have hm := minor_le (k := n) (x := fun i => i) (y := fun i => n + i) hin (fun i hi => hi) (fun i hi => by omega) (fun e => by
    have hd : det n (fun a b => AB a (n + b)) = qprod (fun i => (1 : Rat)) n := by
      rw [det_congr (N := fun a b => if a = b then (1 : Rat) else 0) (fun a ha b hb => hB a ha b hb), det_tri (fun a ha b hb => if_neg (by omega))]
      exact qprod_congr (fun i _ => if_pos rfl)
    rw [hd] at e
    have : ∀ n, qprod (fun _ => (1 : Rat)) n = 1 := fun n => by
      induction n with
      | zero => rfl
      | succ n ih => show qprod (fun _ => (1 : Rat)) n * 1 = 1; rw [ih]; grind
    rw [this] at e
    exact absurd e (by decide))
  omega
end SOL
/-- the kernel's echelon form -/
def kerE (A K : qmat) (m n f : Nat) (p : Nat → Nat) : Prop := rref K n f p ∧ (∀ i, i < f → inKer A m n (K i)) ∧ ∀ w, inKer A m n w → ∃ c : Nat → Rat, ∀ j, j < n → w j = qsum (fun k => c k * K k j) f
theorem kec_zero {A E : qmat} {m n r : Nat} {p q : Nat → Nat} (h : KEC A E m n r 0 p q) : ∀ w, inKer A m n w → ∀ j, j < n → w j = 0 := fun w hw j hj => by
  obtain ⟨h1, h2, h3, h4, h5⟩ := h
  obtain ⟨c, hc⟩ := ker_span h1 h4 (kerF_ker h4) (inKer_rows h3 hw)
  rw [hc j hj]; rfl
theorem kec_some {A E A' : qmat} {m n r f rk : Nat} {p q g : Nat → Nat} (h : KEC A E m n r f p q) (hg : gjinv A' f n rk g) (h1 : rowsIn A' f (kerF E r p q) f n) (h2 : rowsIn (kerF E r p q) f A' f n) : rk = f ∧ kerE A A' m n f g := by
  obtain ⟨k1, k2, k3, k4, k5⟩ := h
  have hK := kerF_ker (E := E) k4
  have hcut : rowsIn (kerF E r p q) f A' rk n := rowsIn_cut h2 hg.1 (fun i a b j hj => hg.2.2.2.2.2.2 i a b j hj)
  have hle := minor_le (k := f) (x := fun i => i) (y := q) hcut (fun i hi => hi) (fun i hi => k4.2.2.1 i hi) (fun e => by
    have hd : det f (fun a b => kerF E r p q a (q b)) = qprod (fun i => (1 : Rat)) f := by
      rw [det_congr (N := fun a b => if b = a then (1 : Rat) else 0) (fun a ha b hb => hK.1 a ha b hb), det_tri (fun a ha b hb => if_neg (by omega))]
      exact qprod_congr (fun i _ => if_pos rfl)
    rw [hd] at e
    have : ∀ n, qprod (fun _ => (1 : Rat)) n = 1 := fun n => by
      induction n with
      | zero => rfl
      | succ n ih => show qprod (fun _ => (1 : Rat)) n * 1 = 1; rw [ih]; grind
    rw [this] at e
    exact absurd e (by decide))
  have hrk : rk = f := by have := hg.1; omega
  refine ⟨hrk, by rw [← hrk]; exact gjinv_rref hg, fun i hi => ?_, fun w hw => ?_⟩
  · obtain ⟨c, hc⟩ := h1 i hi
    intro a ha
    have e1 : qsum (fun j => A a j * A' i j) n = qsum (fun j => qsum (fun k => c k * (A a j * kerF E r p q k j)) f) n := qsum_congr (fun j hj => by
      rw [hc j hj, qsum_mul]
      exact qsum_congr (fun k _ => by grind))
    rw [e1, qsum_comm]
    exact qsum_zero (fun k hk => by
      rw [← qsum_mul, inKer_rows k2 (ker_in k1 k4 hK hk) a ha]; grind)
  · obtain ⟨c, hc⟩ := ker_span k1 k4 hK (inKer_rows k3 hw)
    have hin : rowsIn (fun _ => w) 1 (kerF E r p q) f n := fun _ _ => ⟨c, hc⟩
    exact rowsIn_trans hin h2 0 (by decide)
/-! what the calls answer -/
def heavy2 (q qb : Nat → Rat) (m n nb : Nat) : Prop := hvy (min m (n + nb)) (nmax (fun k => max (rowL q n k (rowD qb nb k (rowD q n k 1))) (rowL qb nb k (rowD qb nb k (rowD q n k 1)))) m)
/-- a result with an answer -/
def fin2 (σ : rst) (k full R c : Nat) (q : Nat → Rat) (a cd v : Nat) (σ' : rst) : Prop := (FIT R c q ∧ cd = 0 ∧ v = a ∧ σ' = rup σ k R c q) ∨ (¬ FIT R c q ∧ cd = full ∧ v = 0 ∧ σ' = σ)
def semKer (σ : rst) (x y : Int32) (cd v : Nat) (σ' : rst) : Prop := (¬ reg2 x y ∧ cd = 1 ∧ v = 0 ∧ σ' = σ) ∨ ∃ k i, k < 8 ∧ x = nI k ∧ i < 8 ∧ y = nI i ∧ ((heavy1 (σ.2.2 i) (σ.1 i) (σ.2.1 i) ∧ cd = 2 ∧ v = 0 ∧ σ' = σ) ∨ (¬ heavy1 (σ.2.2 i) (σ.1 i) (σ.2.1 i) ∧ (((∀ w, inKer (qA (σ.2.2 i) (σ.2.1 i)) (σ.1 i) (σ.2.1 i) w → ∀ j, j < σ.2.1 i → w j = 0) ∧ cd = 0 ∧ v = 0 ∧ σ' = σ) ∨ ∃ K f p, 0 < f ∧ f ≤ σ.2.1 i ∧ kerE (qA (σ.2.2 i) (σ.2.1 i)) K (σ.1 i) (σ.2.1 i) f p ∧ fin2 σ k 2 f (σ.2.1 i) (mcut K f (σ.2.1 i)) f cd v σ')))
def semSolve (σ : rst) (x y z : Int32) (cd v : Nat) (σ' : rst) : Prop := (¬ reg3 x y z ∧ cd = 1 ∧ v = 0 ∧ σ' = σ) ∨ ∃ k i j, k < 8 ∧ x = nI k ∧ i < 8 ∧ y = nI i ∧ j < 8 ∧ z = nI j ∧ ((σ.1 i ≠ σ.1 j ∧ cd = 2 ∧ v = 0 ∧ σ' = σ) ∨ (σ.1 i = σ.1 j ∧ ((heavy2 (σ.2.2 i) (σ.2.2 j) (σ.1 i) (σ.2.1 i) (σ.2.1 j) ∧ cd = 3 ∧ v = 0 ∧ σ' = σ) ∨ (¬ heavy2 (σ.2.2 i) (σ.2.2 j) (σ.1 i) (σ.2.1 i) (σ.2.1 j) ∧ (((∀ X, ¬ solves (qA (σ.2.2 i) (σ.2.1 i)) (qA (σ.2.2 j) (σ.2.1 j)) X (σ.1 i) (σ.2.1 i) (σ.2.1 j)) ∧ cd = 0 ∧ v = 0 ∧ σ' = σ) ∨ ∃ E rk p X, rref E (σ.2.1 i) rk p ∧ rowsIn E rk (qA (σ.2.2 i) (σ.2.1 i)) (σ.1 i) (σ.2.1 i) ∧ rowsIn (qA (σ.2.2 i) (σ.2.1 i)) (σ.1 i) E rk (σ.2.1 i) ∧ solves (qA (σ.2.2 i) (σ.2.1 i)) (qA (σ.2.2 j) (σ.2.1 j)) X (σ.1 i) (σ.2.1 i) (σ.2.1 j) ∧ onPiv X (σ.2.1 i) (σ.2.1 j) rk p ∧ fin2 σ k 3 (σ.2.1 i) (σ.2.1 j) (mcut X (σ.2.1 i) (σ.2.1 j)) 1 cd v σ')))))
def qunitm (n : Nat) : Nat → Rat := fun t => if t / n = t % n then (1 : Rat) else 0
def semInv (σ : rst) (x y : Int32) (cd v : Nat) (σ' : rst) : Prop := (¬ reg2 x y ∧ cd = 1 ∧ v = 0 ∧ σ' = σ) ∨ ∃ k i, k < 8 ∧ x = nI k ∧ i < 8 ∧ y = nI i ∧ ((σ.1 i ≠ σ.2.1 i ∧ cd = 2 ∧ v = 0 ∧ σ' = σ) ∨ (σ.1 i = σ.2.1 i ∧ ((heavy2 (σ.2.2 i) (qunitm (σ.1 i)) (σ.1 i) (σ.1 i) (σ.1 i) ∧ cd = 3 ∧ v = 0 ∧ σ' = σ) ∨ (¬ heavy2 (σ.2.2 i) (qunitm (σ.1 i)) (σ.1 i) (σ.1 i) (σ.1 i) ∧ (((∀ X, ¬ solves (qA (σ.2.2 i) (σ.1 i)) (fun a b => if a = b then (1 : Rat) else 0) X (σ.1 i) (σ.1 i) (σ.1 i)) ∧ cd = 0 ∧ v = 0 ∧ σ' = σ) ∨ ∃ X, solves (qA (σ.2.2 i) (σ.1 i)) (fun a b => if a = b then (1 : Rat) else 0) X (σ.1 i) (σ.1 i) (σ.1 i) ∧ fin2 σ k 3 (σ.1 i) (σ.1 i) (mcut X (σ.1 i) (σ.1 i)) 1 cd v σ')))))
/-- all cells whole -/
def allWhole (q : Nat → Rat) (n : Nat) : Prop := ∀ k, k < n → (q k).den = 1
/-- a matrix of whole numbers, the first r rows, the others 0 -/
def zcut (H : imat) (r n : Nat) : Nat → Rat := fun t => if t / n < r then ((H (t / n) (t % n) : Int) : Rat) else 0
def semHerm (σ : rst) (x y : Int32) (cd v : Nat) (σ' : rst) : Prop := (¬ reg2 x y ∧ cd = 1 ∧ v = 0 ∧ σ' = σ) ∨ ∃ k i, k < 8 ∧ x = nI k ∧ i < 8 ∧ y = nI i ∧ ((¬ allWhole (σ.2.2 i) (σ.1 i * σ.2.1 i) ∧ cd = 2 ∧ v = 0 ∧ σ' = σ) ∨ (allWhole (σ.2.2 i) (σ.1 i * σ.2.1 i) ∧ ((heavy1 (σ.2.2 i) (σ.1 i) (σ.2.1 i) ∧ cd = 3 ∧ v = 0 ∧ σ' = σ) ∨ (¬ heavy1 (σ.2.2 i) (σ.1 i) (σ.2.1 i) ∧ ∃ (Bz H : imat) (r : Nat) (p : Nat → Nat), (∀ a b, a < σ.1 i → b < σ.2.1 i → σ.2.2 i (a * σ.2.1 i + b) = ((Bz a b : Int) : Rat)) ∧ hermF H (σ.2.1 i) r p ∧ rowsZ H r Bz (σ.1 i) (σ.2.1 i) ∧ rowsZ Bz (σ.1 i) H r (σ.2.1 i) ∧ r ≤ σ.1 i ∧ fin2 σ k 3 (σ.1 i) (σ.2.1 i) (zcut H r (σ.2.1 i)) r cd v σ'))))
def semSmith (σ : rst) (x y : Int32) (cd v : Nat) (σ' : rst) : Prop := (¬ reg2 x y ∧ cd = 1 ∧ v = 0 ∧ σ' = σ) ∨ ∃ k i, k < 8 ∧ x = nI k ∧ i < 8 ∧ y = nI i ∧ ((¬ allWhole (σ.2.2 i) (σ.1 i * σ.2.1 i) ∧ cd = 2 ∧ v = 0 ∧ σ' = σ) ∨ (allWhole (σ.2.2 i) (σ.1 i * σ.2.1 i) ∧ ((heavy1 (σ.2.2 i) (σ.1 i) (σ.2.1 i) ∧ cd = 3 ∧ v = 0 ∧ σ' = σ) ∨ (¬ heavy1 (σ.2.2 i) (σ.1 i) (σ.2.1 i) ∧ ∃ (Bz : imat) (s : Nat → Int) (r : Nat), (∀ a b, a < σ.1 i → b < σ.2.1 i → σ.2.2 i (a * σ.2.1 i + b) = ((Bz a b : Int) : Rat)) ∧ (∀ i j, i ≤ j → s i ∣ s j) ∧ (∀ i, 0 ≤ s i) ∧ eqvZ (fun a b => if a = b then s a else 0) Bz (σ.1 i) (σ.2.1 i) ∧ (∀ j, j < min (σ.1 i) (σ.2.1 i) → (s j = 0 ↔ r ≤ j)) ∧ r ≤ min (σ.1 i) (σ.2.1 i) ∧ fin2 σ k 3 (σ.1 i) (σ.2.1 i) (fun t => if t / σ.2.1 i = t % σ.2.1 i ∧ t / σ.2.1 i < σ.1 i then (s (t / σ.2.1 i) : Rat) else 0) r cd v σ'))))
