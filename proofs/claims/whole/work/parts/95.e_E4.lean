/-! ===== Elimination: swapRows, findPivot (printed by wip/gen/rE4.py) ===== -/
/-- the grid with the first x cells of the rows i and k exchanged -/
def gsw (g : Nat → Nat) (i k x : Nat) : Nat → Nat := fun n => if n / 32 = i ∧ n % 32 < x then g (32 * k + n % 32) else if n / 32 = k ∧ n % 32 < x then g (32 * i + n % 32) else g n
theorem gsw_zero (g : Nat → Nat) (i k : Nat) : gsw g i k 0 = g := by
  funext n
  unfold gsw
  rw [if_neg (by omega), if_neg (by omega)]
theorem gsw_at (g : Nat → Nat) {i k x a b : Nat} (hb : b < 32) (hx : b < x) : gsw g i k x (32 * a + b) = g (32 * swp i k a + b) := by
  unfold gsw swp
  have e1 : (32 * a + b) / 32 = a := by omega
  have e2 : (32 * a + b) % 32 = b := by omega
  rw [e1, e2]
  by_cases c1 : a = i
  · rw [if_pos ⟨c1, hx⟩, if_pos c1]
  · rw [if_neg (fun h => c1 h.1), if_neg c1]
    by_cases c2 : a = k
    · rw [if_pos ⟨c2, hx⟩, if_pos c2]
    · rw [if_neg (fun h => c2 h.1), if_neg c2]
theorem gsw_far (g : Nat → Nat) {i k x a b : Nat} (hb : b < 32) (hx : x ≤ b) : gsw g i k x (32 * a + b) = g (32 * a + b) := by
  unfold gsw
  rw [if_neg (by omega), if_neg (by omega)]
theorem gsw_form (g : Nat → Nat) (i k x n : Nat) : ∃ n2, (n < 512 → i < 16 → k < 16 → n2 < 512) ∧ gsw g i k x n = g n2 ∧ n2 % 32 = n % 32 ∧ n2 / 32 = (if n % 32 < x then swp i k (n / 32) else n / 32) := by
  unfold gsw swp
  by_cases c0 : n % 32 < x
  · by_cases c1 : n / 32 = i
    · exact ⟨32 * k + n % 32, fun _ _ _ => by omega, by rw [if_pos ⟨c1, c0⟩], by omega, by rw [if_pos c0, if_pos c1]; omega⟩
    · by_cases c2 : n / 32 = k
      · exact ⟨32 * i + n % 32, fun _ _ _ => by omega, by rw [if_neg (fun h => c1 h.1), if_pos ⟨c2, c0⟩], by omega, by rw [if_pos c0, if_neg c1, if_pos c2]; omega⟩
      · exact ⟨n, fun h _ _ => h, by rw [if_neg (fun h => c1 h.1), if_neg (fun h => c2 h.1)], rfl, by rw [if_pos c0, if_neg c1, if_neg c2]⟩
  · exact ⟨n, fun h _ _ => h, by rw [if_neg (fun h => c0 h.2), if_neg (fun h => c0 h.2)], rfl, by rw [if_neg c0]⟩
theorem swp_inj {i k a b : Nat} (h : swp i k a = swp i k b) : a = b := by rw [← swp_swp i k a, h, swp_swp]
theorem GP.sw {g : Nat → Nat} (h : GP g) {i k x : Nat} (hi : i < 16) (hk : k < 16) : GP (gsw g i k x) := by
  refine ⟨fun n hn => ?_, fun n n' hn hn' e => ?_⟩
  · obtain ⟨n2, h1, h2, _⟩ := gsw_form g i k x n
    rw [h2]; exact h.1 _ (h1 hn hi hk)
  · obtain ⟨a, h1, h2, h3, h4⟩ := gsw_form g i k x n
    obtain ⟨b, k1, k2, k3, k4⟩ := gsw_form g i k x n'
    rw [h2, k2] at e
    have e2 := h.2 _ _ (h1 hn hi hk) (k1 hn' hi hk) e
    rw [← e2] at k3 k4
    have e3 : n % 32 = n' % 32 := by omega
    rw [h4, e3] at k4
    have e4 : n / 32 = n' / 32 := by
      split at k4
      · exact swp_inj k4
      · exact k4
    omega
theorem range_set {f f' : Nat → Value} {n i : Nat} {v : Value} (hv : f' i = v) (hf : ∀ x, x < n → x ≠ i → f' x = f x) : ((List.range n).map f).set i v = (List.range n).map f' := by
  apply List.ext_getElem?
  intro x
  by_cases hx : x < n
  · by_cases e : x = i
    · subst e
      rw [List.getElem?_set_self (by rw [List.length_map, List.length_range]; exact hx), List.getElem?_map, List.getElem?_range hx, ← hv]
      rfl
    · rw [List.getElem?_set_ne (Ne.symm e), List.getElem?_map, List.getElem?_map, List.getElem?_range hx]
      show some _ = some _
      rw [hf x hx e]
  · rw [List.getElem?_eq_none (by rw [List.length_set, List.length_map, List.length_range]; omega), List.getElem?_eq_none (by rw [List.length_map, List.length_range]; omega)]
section E4
variable {G : jg} {d : Nat} {Q : jq} {rc rs : Nat} {M : mheap} {wa la cap : Nat → Nat} {N eu dv hi lo dk el ra pa ia ga rk sw m w : Nat} {P B : List Int32} {g : Nat → Nat} {V : Nat → Int}
theorem ELT.upg {M' : mheap} {g' : Nat → Nat} (hL : ELT M wa el ra pa ia ga dk rk sw m w P B g) (hr : ra ≠ ga) (hu : ∀ x, x ≠ ga → M' x = M x) (hg : M' ga = some (.inr 3, (List.range 512).map (fun i => Value.ref (wa (g' i))))) (hp : GP g') : ELT M' wa el ra pa ia ga dk rk sw m w P B g' := by
  obtain ⟨h1, h2, ⟨h3, l3⟩, ⟨h4, l4⟩, h5, h6⟩ := hL
  exact ⟨(hu _ (fun e => by rw [e, h5] at h1; cases h1)).trans h1, (hu _ hr).trans h2, ⟨(hu _ (fun e => by rw [e, h5] at h3; cases h3)).trans h3, l3⟩, ⟨(hu _ (fun e => by rw [e, h5] at h4; cases h4)).trans h4, l4⟩, hg, hp⟩
theorem ELT.upo {M' : mheap} {rk' sw' m' w' : Nat} (hL : ELT M wa el ra pa ia ga dk rk sw m w P B g) (hu : ∀ x, x ≠ el → M' x = M x) (hg : M' el = some (.inl nE, [.ref ra, .ref pa, .ref ia, .ref (wa 33), .int (nI rk'), .int (nI sw'), .int (nI m'), .int (nI w'), .ref ga, .ref (wa 34), .ref dk])) : ELT M' wa el ra pa ia ga dk rk' sw' m' w' P B g := by
  obtain ⟨h1, h2, ⟨h3, l3⟩, ⟨h4, l4⟩, h5, h6⟩ := hL
  exact ⟨hg, (hu _ (fun e => by rw [e, h1] at h2; cases h2)).trans h2, ⟨(hu _ (fun e => by rw [e, h1] at h3; cases h3)).trans h3, l3⟩, ⟨(hu _ (fun e => by rw [e, h1] at h4; cases h4)).trans h4, l4⟩, (hu _ (fun e => by rw [e, h1] at h5; cases h5)).trans h5, h6⟩
theorem e_swapRows {i k : Nat} (hG : kG G) (hK : KJI wa la cap N hi lo) (hS : KS M wa la cap N eu dv hi lo dk V) (hJ : LJ wa la cap N eu dv hi lo dk el ra pa ia ga) (hL : ELT M wa el ra pa ia ga dk rk sw m w P B g) (hw : w ≤ 32) (hsw : sw ≤ 1) (hi16 : i < 16) (hk : k < 16) (hik : i ≠ k) (kk : ∀ M', KS M' wa la cap N eu dv hi lo dk V → ELT M' wa el ra pa ia ga dk rk (1 - sw) m w P B (gsw g i k w) → EFX (fun x => x = el ∨ x = ga) M M' wa la N eu dv hi lo → Q (.returned none) M' rc rs) : jj G kE_swapRows (d + 1) Q rc rs 0 (jj_ent [.ref el, .int (nI i), .int (nI k)] 5) [] M := by
  obtain ⟨h547, c17, c33, c34, c64, f1, f2, f3, f4, f5, n1, n2, n3, n4, n5⟩ := id hJ
  have hGP := hL.2.2.2.2.2
  show jj G kE_swapRows (d + 1) Q rc rs 0 [some (.ref el), some (.int (nI (i))), some (.int (nI (k))), none, none] [] M
  refine jn_iconst (pc := 0) 0 kE_swapRows_d0 (by decide) ?_
  refine jj_istore_n (pc := 1) kE_swapRows_d1 (Nat.le_of_ble_eq_true rfl) ?_
  show jj G kE_swapRows (d + 1) Q rc rs 2 [some (.ref el), some (.int (nI (i))), some (.int (nI (k))), some (.int (nI (0))), none] [] M
  show jj G kE_swapRows (d + 1) Q rc rs 2 [some (.ref el), some (.int (nI (i))), some (.int (nI (k))), some (.int (nI (0))), none] [] M
  have loop : ∀ mu x, w = x + mu → ∀ (ob : Option Value) (M9 : mheap), KS M9 wa la cap N eu dv hi lo dk V → ELT M9 wa el ra pa ia ga dk rk sw m w P B (gsw g i k x) → EFX (fun x => x = el ∨ x = ga) M M9 wa la N eu dv hi lo → jj G kE_swapRows (d + 1) Q rc rs 2 [some (.ref el), some (.int (nI (i))), some (.int (nI (k))), some (.int (nI (x))), (ob)] [] M9 := by
    intro mu
    induction mu with
    | zero =>
      intro x hx ob M9 hS9 hL9 f9
      have ew : w = x := by omega
      subst ew
      refine jj_iload_n (pc := 2) kE_swapRows_d2 rfl ?_
      refine jj_aload_n (pc := 3) kE_swapRows_d3 rfl ?_
      refine jj_getf (pc := 4) kE_swapRows_d4 (kfE_width hG) hL9.1 rfl ?_
      refine jn_icmp_ge (pc := 7) (tgt := 54) kE_swapRows_d7 (by decide) (by omega) (by omega) (fun _ => ?_) (fun c => by exfalso; omega)
      refine jj_aload_n (pc := 54) kE_swapRows_d54 rfl ?_
      refine jj_aload_n (pc := 55) kE_swapRows_d55 rfl ?_
      refine jj_getf (pc := 56) kE_swapRows_d56 (kfE_swapped hG) hL9.1 rfl ?_
      refine jn_if_ne (pc := 59) (tgt := 66) kE_swapRows_d59 (by decide) (by omega) (fun cs => ?_) (fun cs => ?_)
      · skip
        refine jn_iconst (pc := 66) 0 kE_swapRows_d66 (by decide) ?_
        refine jj_putf (pc := 67) kE_swapRows_d67 (kpE_swapped hG) hL9.1 (by decide) rfl ?_
        refine jn_gen (fun M101 hM102 => ?_)
        have h103 : M101 el = some (.inl nE, [.ref ra, .ref pa, .ref ia, .ref (wa 33), .int (nI (rk)), .int (nI (0)), .int (nI (m)), .int (nI (w)), .ref ga, .ref (wa 34), .ref dk]) := by rw [hM102]; exact jj_up_at _ _ _
        have hu : ∀ x, x ≠ el → M101 x = M9 x := fun x hx => by rw [hM102, jj_up_ne _ _ hx]
        exact jj_vret (pc := 70) kE_swapRows_d70 rfl (kk M101 (hS9.up f1 n2 hu) (hL9.upo hu (by rw [h103, show 1 - sw = 0 by omega])) (f9.trans (EFX.up hu (Or.inl rfl))))
      · skip
        refine jn_iconst (pc := 62) 1 kE_swapRows_d62 (by decide) ?_
        refine jj_goto (pc := 63) (tgt := 67) kE_swapRows_d63 (by decide) ?_
        refine jj_putf (pc := 67) kE_swapRows_d67 (kpE_swapped hG) hL9.1 (by decide) rfl ?_
        refine jn_gen (fun M104 hM105 => ?_)
        have h106 : M104 el = some (.inl nE, [.ref ra, .ref pa, .ref ia, .ref (wa 33), .int (nI (rk)), .int (nI (1)), .int (nI (m)), .int (nI (w)), .ref ga, .ref (wa 34), .ref dk]) := by rw [hM105]; exact jj_up_at _ _ _
        have hu : ∀ x, x ≠ el → M104 x = M9 x := fun x hx => by rw [hM105, jj_up_ne _ _ hx]
        exact jj_vret (pc := 70) kE_swapRows_d70 rfl (kk M104 (hS9.up f1 n2 hu) (hL9.upo hu (by rw [h106, show 1 - sw = 1 by omega])) (f9.trans (EFX.up hu (Or.inl rfl))))
    | succ mu ih =>
      intro x hx ob M9 hS9 hL9 f9
      refine jj_iload_n (pc := 2) kE_swapRows_d2 rfl ?_
      refine jj_aload_n (pc := 3) kE_swapRows_d3 rfl ?_
      refine jj_getf (pc := 4) kE_swapRows_d4 (kfE_width hG) hL9.1 rfl ?_
      refine jn_icmp_ge (pc := 7) (tgt := 54) kE_swapRows_d7 (by decide) (by omega) (by omega) (fun c => by exfalso; omega) (fun _ => ?_)
      refine jj_aload_n (pc := 10) kE_swapRows_d10 rfl ?_
      refine jj_iload_n (pc := 11) kE_swapRows_d11 rfl ?_
      refine jj_iload_n (pc := 12) kE_swapRows_d12 rfl ?_
      refine jj_callV (pc := 13) (b := el) (As := [.int (nI (i)), .int (nI (x))]) kE_swapRows_d13 (kvE_E_at hG) (kG_cl hG rfl) rfl hL9.1 rfl rfl rfl (Nat.le_of_ble_eq_true rfl) (Nat.le_of_ble_eq_true rfl) (jj_bare0 rfl) ?_
      refine e_at hG hL9 (by omega) (by omega) ?_
      rw [gsw_far g (by omega) (Nat.le_refl x)]
      show jj G kE_swapRows (d + 1) Q rc rs 16 [some (.ref el), some (.int (nI (i))), some (.int (nI (k))), some (.int (nI (x))), (ob)] [.ref (wa (g (32 * i + x)))] M9
      refine jj_astore (pc := 16) kE_swapRows_d16 (Nat.le_of_ble_eq_true rfl) ?_
      show jj G kE_swapRows (d + 1) Q rc rs 18 [some (.ref el), some (.int (nI (i))), some (.int (nI (k))), some (.int (nI (x))), some (.ref (wa (g (32 * i + x))))] [] M9
      refine jj_aload_n (pc := 18) kE_swapRows_d18 rfl ?_
      refine jj_getf (pc := 19) kE_swapRows_d19 (kfE_grid hG) hL9.1 rfl ?_
      refine jj_iload_n (pc := 22) kE_swapRows_d22 rfl ?_
      refine jn_bipush (pc := 23) 32 kE_swapRows_d23 (by decide) ?_
      refine jn_imul (pc := 25) (32 * i) kE_swapRows_d25 (by omega) ?_
      refine jj_iload_n (pc := 26) kE_swapRows_d26 rfl ?_
      refine jn_iadd (pc := 27) (32 * i + x) kE_swapRows_d27 (by omega) ?_
      refine jj_aload_n (pc := 28) kE_swapRows_d28 rfl ?_
      refine jj_iload_n (pc := 29) kE_swapRows_d29 rfl ?_
      refine jj_iload_n (pc := 30) kE_swapRows_d30 rfl ?_
      refine jj_callV (pc := 31) (b := el) (As := [.int (nI (k)), .int (nI (x))]) kE_swapRows_d31 (kvE_E_at hG) (kG_cl hG rfl) rfl hL9.1 rfl rfl rfl (Nat.le_of_ble_eq_true rfl) (Nat.le_of_ble_eq_true rfl) (jj_bare0 rfl) ?_
      refine e_at hG hL9 (by omega) (by omega) ?_
      rw [gsw_far g (by omega) (Nat.le_refl x)]
      show jj G kE_swapRows (d + 1) Q rc rs 34 [some (.ref el), some (.int (nI (i))), some (.int (nI (k))), some (.int (nI (x))), some (.ref (wa (g (32 * i + x))))] [.ref (wa (g (32 * k + x))), .int (nI (32 * i + x)), .ref ga] M9
      have hga := hL9.2.2.2.2.1
      have b1 := hGP.1 (32 * i + x) (by omega)
      have b2 := hGP.1 (32 * k + x) (by omega)
      obtain ⟨T1, t1, hT1, _, _⟩ := hS9.1 (g (32 * i + x)) (by omega)
      obtain ⟨T2, t2, hT2, _, _⟩ := hS9.1 (g (32 * k + x)) (by omega)
      have hel := hL9.1
      refine jj_aast (pc := 34) (i := 32 * i + x) kE_swapRows_d34 (kG_cl hG rfl) (kG_t hG rfl) hga hT2 rfl (by rw [List.length_map, List.length_range]; decide) (by rw [List.length_map, List.length_range]; omega) ?_
      refine jn_gen (fun M1 hM1 => ?_)
      have u1 : ∀ y, y ≠ ga → M1 y = M9 y := fun y hy => by rw [hM1, jj_up_ne _ _ hy]
      have nel : el ≠ ga := fun e => by rw [e, hga] at hel; cases hel
      have hel1 := (u1 _ nel).trans hel
      have hga1 : M1 ga = some (.inr 3, (List.range 512).map (fun n => Value.ref (wa (if n = 32 * i + x then g (32 * k + x) else gsw g i k x n)))) := by
        rw [hM1, jj_up_at]
        refine congrArg some (congrArg (Prod.mk _) (range_set ?_ (fun y _ hy => ?_)))
        · rw [if_pos rfl]
        · rw [if_neg hy]
      have hT1b : M1 (wa (g (32 * i + x))) = _ := (u1 _ (Ne.symm (f5.1 _ (by omega)).1)).trans hT1
      show jj G kE_swapRows (d + 1) Q rc rs 35 [some (.ref el), some (.int (nI (i))), some (.int (nI (k))), some (.int (nI (x))), some (.ref (wa (g (32 * i + x))))] [] M1
      refine jj_aload_n (pc := 35) kE_swapRows_d35 rfl ?_
      refine jj_getf (pc := 36) kE_swapRows_d36 (kfE_grid hG) hel1 rfl ?_
      refine jj_iload_n (pc := 39) kE_swapRows_d39 rfl ?_
      refine jn_bipush (pc := 40) 32 kE_swapRows_d40 (by decide) ?_
      refine jn_imul (pc := 42) (32 * k) kE_swapRows_d42 (by omega) ?_
      refine jj_iload_n (pc := 43) kE_swapRows_d43 rfl ?_
      refine jn_iadd (pc := 44) (32 * k + x) kE_swapRows_d44 (by omega) ?_
      refine jj_aload (pc := 45) kE_swapRows_d45 rfl ?_
      refine jj_aast (pc := 47) (i := 32 * k + x) kE_swapRows_d47 (kG_cl hG rfl) (kG_t hG rfl) hga1 hT1b rfl (by rw [List.length_map, List.length_range]; decide) (by rw [List.length_map, List.length_range]; omega) ?_
      refine jn_gen (fun M2 hM2 => ?_)
      have u2 : ∀ y, y ≠ ga → M2 y = M9 y := fun y hy => by rw [hM2, jj_up_ne _ _ hy]; exact u1 y hy
      have hga2 : M2 ga = some (.inr 3, (List.range 512).map (fun n => Value.ref (wa (gsw g i k (x + 1) n)))) := by
        rw [hM2, jj_up_at]
        refine congrArg some (congrArg (Prod.mk _) (range_set ?_ (fun y hy1 hy => ?_)))
        · rw [gsw_at g (by omega) (by omega)]
          unfold swp
          rw [if_neg (Ne.symm hik), if_pos rfl]
        · by_cases e : y = 32 * i + x
          · rw [if_pos e, e, gsw_at g (by omega) (by omega)]
            unfold swp
            rw [if_pos rfl]
          · rw [if_neg e]
            refine congrArg Value.ref (congrArg wa ?_)
            obtain ⟨a, b, hb, rfl⟩ : ∃ a b, b < 32 ∧ y = 32 * a + b := ⟨y / 32, y % 32, by omega, by omega⟩
            rcases Nat.lt_trichotomy b x with c | c | c
            · rw [gsw_at g hb (by omega), gsw_at g hb c]
            · subst c
              rw [gsw_at g hb (by omega), gsw_far g hb (Nat.le_refl _)]
              unfold swp
              rw [if_neg (by omega), if_neg (by omega)]
            · rw [gsw_far g hb (by omega), gsw_far g hb (by omega)]
      show jj G kE_swapRows (d + 1) Q rc rs 48 [some (.ref el), some (.int (nI (i))), some (.int (nI (k))), some (.int (nI (x))), some (.ref (wa (g (32 * i + x))))] [] M2
      refine jn_iinc (pc := 48) (x + 1) kE_swapRows_d48 rfl (nI_1 _) ?_
      refine jj_goto (pc := 51) (tgt := 2) kE_swapRows_d51 (by decide) ?_
      show jj G kE_swapRows (d + 1) Q rc rs 2 [some (.ref el), some (.int (nI (i))), some (.int (nI (k))), some (.int (nI (x + 1))), some (.ref (wa (g (32 * i + x))))] [] M2
      exact ih (x + 1) (by omega) _ M2 (hS9.up f5 n5 u2) (hL9.upg n1 u2 hga2 (hGP.sw hi16 hk)) (f9.trans (EFX.up u2 (Or.inr rfl)))
  exact loop w 0 (by omega) _ M hS (by rw [gsw_zero]; exact hL) (fun _ _ _ => rfl)
theorem e_findPivot {c : Nat} (hG : kG G) (hK : KJI wa la cap N hi lo) (hS : KS M wa la cap N eu dv hi lo dk V) (hJ : LJ wa la cap N eu dv hi lo dk el ra pa ia ga) (hL : ELT M wa el ra pa ia ga dk rk sw m w P B g) (hw : w ≤ 32) (hsw : sw ≤ 1) (hcw : c < 32) (hm : m ≤ 16) (hrk : rk ≤ m) (k0 : (∀ i, rk ≤ i → i < m → V (g (32 * i + c)) = 0) → Q (.returned (some (.int (nI 0)))) M rc rs) (k1 : ∀ (M' : mheap) (pv : Nat) (g' : Nat → Nat), rk ≤ pv → pv < m → V (g (32 * pv + c)) ≠ 0 → (∀ i, rk ≤ i → i < pv → V (g (32 * i + c)) = 0) → KS M' wa la cap N eu dv hi lo dk V → ELT M' wa el ra pa ia ga dk rk (if pv = rk then sw else 1 - sw) m w P B g' → (∀ i j, j < w → g' (32 * i + j) = g (32 * swp rk pv i + j)) → EFX (fun x => x = el ∨ x = ga) M M' wa la N eu dv hi lo → Q (.returned (some (.int (nI 1)))) M' rc rs) : jj G kE_findPivot (d + 2) Q rc rs 0 (jj_ent [.ref el, .int (nI c)] 3) [] M := by
  obtain ⟨hI, hN, hcap, hdi⟩ := id hK
  have h547 := hJ.1
  have hGP := hL.2.2.2.2.2
  have hl0 := hL.1
  have hc0 := hS.1
  show jj G kE_findPivot (d + 2) Q rc rs 0 [some (.ref el), some (.int (nI (c))), none] [] M
  refine jj_aload_n (pc := 0) kE_findPivot_d0 rfl ?_
  refine jj_getf (pc := 1) kE_findPivot_d1 (kfE_rank hG) hl0 rfl ?_
  refine jj_istore_n (pc := 4) kE_findPivot_d4 (Nat.le_of_ble_eq_true rfl) ?_
  show jj G kE_findPivot (d + 2) Q rc rs 5 [some (.ref el), some (.int (nI (c))), some (.int (nI (rk)))] [] M
  show jj G kE_findPivot (d + 2) Q rc rs 5 [some (.ref el), some (.int (nI (c))), some (.int (nI (rk)))] [] M
  have loop : ∀ mu i, m = i + mu → rk ≤ i → (∀ i', rk ≤ i' → i' < i → V (g (32 * i' + c)) = 0) → jj G kE_findPivot (d + 2) Q rc rs 5 [some (.ref el), some (.int (nI (c))), some (.int (nI (i)))] [] M := by
    intro mu
    induction mu with
    | zero =>
      intro i hx hri hz
      have ei : m = i := by omega
      subst ei
      refine jj_iload_n (pc := 5) kE_findPivot_d5 rfl ?_
      refine jj_aload_n (pc := 6) kE_findPivot_d6 rfl ?_
      refine jj_getf (pc := 7) kE_findPivot_d7 (kfE_rows hG) hl0 rfl ?_
      refine jn_icmp_ge (pc := 10) (tgt := 50) kE_findPivot_d10 (by decide) (by omega) (by omega) (fun _ => ?_) (fun c => by exfalso; omega)
      refine jn_iconst (pc := 50) 0 kE_findPivot_d50 (by decide) ?_
      exact jj_iret (pc := 51) kE_findPivot_d51 rfl (by rfl) (k0 hz)
    | succ mu ih =>
      intro i hx hri hz
      have b1 := hGP.1 (32 * i + c) (by omega)
      refine jj_iload_n (pc := 5) kE_findPivot_d5 rfl ?_
      refine jj_aload_n (pc := 6) kE_findPivot_d6 rfl ?_
      refine jj_getf (pc := 7) kE_findPivot_d7 (kfE_rows hG) hl0 rfl ?_
      refine jn_icmp_ge (pc := 10) (tgt := 50) kE_findPivot_d10 (by decide) (by omega) (by omega) (fun c => by exfalso; omega) (fun _ => ?_)
      refine jj_aload_n (pc := 13) kE_findPivot_d13 rfl ?_
      refine jj_iload_n (pc := 14) kE_findPivot_d14 rfl ?_
      refine jj_iload_n (pc := 15) kE_findPivot_d15 rfl ?_
      refine jj_callV (pc := 16) (b := el) (As := [.int (nI (i)), .int (nI (c))]) kE_findPivot_d16 (kvE_E_at hG) (kG_cl hG rfl) rfl hl0 rfl rfl rfl (Nat.le_of_ble_eq_true rfl) (Nat.le_of_ble_eq_true rfl) (jj_bare0 rfl) ?_
      refine e_at hG hL (by omega) hcw ?_
      show jj G kE_findPivot (d + 2) Q rc rs 19 [some (.ref el), some (.int (nI (c))), some (.int (nI (i)))] [.ref (wa (g (32 * i + c)))] M
      obtain ⟨Tn107, tn107, hTn107, _, _, hZn107⟩ := hc0 (g (32 * i + c)) (by omega)
      have eZn107 := hZn107.cnt
      subst eZn107
      have bZn107 := hc0.lc (p := (g (32 * i + c))) (by omega)
      have bYn107 := hI.2.2 (g (32 * i + c)) (by omega)
      refine jj_getf (pc := 19) kE_findPivot_d19 (kfE_W_count hG) hTn107 rfl ?_
      refine jn_if_le (pc := 22) (tgt := 44) kE_findPivot_d22 (by decide) (by omega) (fun c1 => ?_) (fun c1 => ?_)
      · skip
        refine jn_iinc (pc := 44) (i + 1) kE_findPivot_d44 rfl (nI_1 _) ?_
        refine jj_goto (pc := 47) (tgt := 5) kE_findPivot_d47 (by decide) ?_
        show jj G kE_findPivot (d + 2) Q rc rs 5 [some (.ref el), some (.int (nI (c))), some (.int (nI (i + 1)))] [] M
        refine ih (i + 1) (by omega) (by omega) (fun i' a b => ?_)
        by_cases e : i' = i
        · rw [e]; exact lc_nil (by omega)
        · exact hz i' a (by omega)
      · skip
        have hne : V (g (32 * i + c)) ≠ 0 := lc_pos (by omega)
        refine jj_iload_n (pc := 25) kE_findPivot_d25 rfl ?_
        refine jj_aload_n (pc := 26) kE_findPivot_d26 rfl ?_
        refine jj_getf (pc := 27) kE_findPivot_d27 (kfE_rank hG) hl0 rfl ?_
        refine jn_icmp_le (pc := 30) (tgt := 42) kE_findPivot_d30 (by decide) (by omega) (by omega) (fun c2 => ?_) (fun c2 => ?_)
        · skip
          have e : i = rk := by omega
          refine jn_iconst (pc := 42) 1 kE_findPivot_d42 (by decide) ?_
          exact jj_iret (pc := 43) kE_findPivot_d43 rfl (by rfl) (k1 M i g hri (by omega) hne hz hS (by rw [if_pos e]; exact hL) (fun a j _ => by rw [e, swp_self]) (fun _ _ _ => rfl))
        · skip
          refine jj_aload_n (pc := 33) kE_findPivot_d33 rfl ?_
          refine jj_iload_n (pc := 34) kE_findPivot_d34 rfl ?_
          refine jj_aload_n (pc := 35) kE_findPivot_d35 rfl ?_
          refine jj_getf (pc := 36) kE_findPivot_d36 (kfE_rank hG) hl0 rfl ?_
          refine jj_callV (pc := 39) (b := el) (As := [.int (nI (i)), .int (nI (rk))]) kE_findPivot_d39 (kvE_E_swapRows hG) (kG_cl hG rfl) rfl hl0 rfl rfl rfl (Nat.le_of_ble_eq_true rfl) (Nat.le_of_ble_eq_true rfl) (jj_bare0 rfl) ?_
          refine e_swapRows hG hK hS hJ hL hw hsw (by omega) (by omega) (by omega) (fun M1 hS1 hL1 hx1 => ?_)
          show jj G kE_findPivot (d + 2) Q rc rs 42 [some (.ref el), some (.int (nI (c))), some (.int (nI (i)))] [] M1
          refine jn_iconst (pc := 42) 1 kE_findPivot_d42 (by decide) ?_
          exact jj_iret (pc := 43) kE_findPivot_d43 rfl (by rfl) (k1 M1 i _ hri (by omega) hne hz hS1 (by rw [if_neg (by omega)]; exact hL1) (fun a j hj => by rw [gsw_at g (by omega) hj, swp_comm]) hx1)
  exact loop (m - rk) rk (by omega) (Nat.le_refl _) (fun i' a b => by omega)
end E4
