/-! ===== two matrices side by side: the grid after append, and the weight ===== -/
theorem rowD2_eq {q qb : Nat → Rat} {n nb i : Nat} : rowD qb nb i (rowD q n i 1) = rowD q n i 1 * (rowD qb nb i 1).tdiv (sgc (rowD q n i 1) (rowD qb nb i 1)) := by
  have p1 : 0 < rowD q n i 1 := rowD_pos (by decide)
  have p2 : 0 < rowD qb nb i 1 := rowD_pos (by decide)
  have p3 : 0 < rowD qb nb i (rowD q n i 1) := rowD_pos p1
  have hm := meet_eq (a := rowD q n i 1) (b := rowD qb nb i 1) p1 rfl
  have p4 : 0 < rowD q n i 1 * (rowD qb nb i 1).tdiv (sgc (rowD q n i 1) (rowD qb nb i 1)) := Int.mul_pos p1 (tdiv_pos p2 sgc_dvd.2 (sgc_pos p1))
  refine Int.dvd_antisymm (by omega) (by omega) ?_ ?_
  · refine lcmf_least (f := fun j => (qb (i * nb + j)).den) ⟨_, rfl⟩ (fun j hj => ?_)
    rw [hm]
    exact Int.dvd_trans (rowD_dvd hj) ⟨_, rfl⟩
  · refine lcm_dvd' p1 p2 rfl lcmf_start (rowD_lcm (fun j hj => rowD_dvd hj))
section LN2
variable {V V1 V2 : Nat → Int} {b b2 r c c2 i : Nat} {g : Nat → Nat} {q qb : Nat → Rat}
/-- the grid's row i: both rows, times the least common multiple of their factors -/
def RWS (Z : imat) (q qb : Nat → Rat) (c c2 i : Nat) : Prop := (∀ j, j < c → Z i j = rowD qb c2 i (rowD q c i 1) / ((q (i * c + j)).den : Int) * (q (i * c + j)).num ∧ ((Z i j : Int) : Rat) = ((rowD qb c2 i (rowD q c i 1) : Int) : Rat) * q (i * c + j)) ∧ ∀ j, j < c2 → Z i (c + j) = rowD qb c2 i (rowD q c i 1) / ((qb (i * c2 + j)).den : Int) * (qb (i * c2 + j)).num ∧ ((Z i (c + j) : Int) : Rat) = ((rowD qb c2 i (rowD q c i 1) : Int) : Rat) * qb (i * c2 + j)
theorem left_whole {x lf : Int} {j : Nat} (hj : j < c) (hlf : lf = (rowD qb c2 i 1).tdiv (sgc (rowD q c i 1) (rowD qb c2 i 1))) (hx : ((x : Int) : Rat) = ((rowD q c i 1 : Int) : Rat) * q (i * c + j)) : x * lf = rowD qb c2 i (rowD q c i 1) / ((q (i * c + j)).den : Int) * (q (i * c + j)).num ∧ ((x * lf : Int) : Rat) = ((rowD qb c2 i (rowD q c i 1) : Int) : Rat) * q (i * c + j) := by
  have e : ((x * lf : Int) : Rat) = ((rowD qb c2 i (rowD q c i 1) : Int) : Rat) * q (i * c + j) := by
    rw [rowD2_eq, ← hlf, Rat.intCast_mul, Rat.intCast_mul, hx]
    grind
  refine ⟨?_, e⟩
  apply Rat.intCast_inj.mp
  rw [e]
  exact cell_times (Int.dvd_trans (rowD_dvd hj) lcmf_start)
theorem right_whole {x rf : Int} {gg : Int} {j : Nat} (h : NRM V b2 r c2 qb) (hi : i < r) (hj : j < c2) (hg : CDV V b2 c2 i (i + 1) 0 gg) (hrf : rf = (rowD q c i 1).tdiv (sgc (rowD q c i 1) (rowD qb c2 i 1))) (hx : x * gg = V (b2 + (16 * i + j)) * rf) : x = rowD qb c2 i (rowD q c i 1) / ((qb (i * c2 + j)).den : Int) * (qb (i * c2 + j)).num ∧ ((x : Int) : Rat) = ((rowD qb c2 i (rowD q c i 1) : Int) : Rat) * qb (i * c2 + j) := by
  have p1 : 0 < rowD q c i 1 := rowD_pos (by decide)
  have e1 := cdv_row h hi hg
  have e2 := h.2.1.2 i j hi hj
  have n := rat_ne (show gg ≠ 0 by have := hg.1; omega)
  have hm := meet_eq (a := rowD q c i 1) (b := rowD qb c2 i 1) p1 rfl
  have e : ((x : Int) : Rat) = ((rowD qb c2 i (rowD q c i 1) : Int) : Rat) * qb (i * c2 + j) := by
    rw [rowD2_eq, hm, ← hrf, Rat.intCast_mul]
    have e3 : ((x * gg : Int) : Rat) = ((V (b2 + (16 * i + j)) * rf : Int) : Rat) := by rw [hx]
    rw [Rat.intCast_mul, Rat.intCast_mul, e2, ← e1, Rat.intCast_mul] at e3
    grind
  refine ⟨?_, e⟩
  apply Rat.intCast_inj.mp
  rw [e]
  exact cell_times (rowD_dvd hj)
theorem rowa_link (h1 : NRM V b r c q) (h2 : NRM V1 b2 r c2 qb) (hi : i < r) (hR : ROWD V V1 b c 0 g i) (hA : ROWA V1 V2 b2 c2 c g i) : RWS (gz V2 g) q qb c c2 i := by
  obtain ⟨gg, fo, hg, hfo, hl, hr⟩ := hA
  have ef := rowd_fac h1 hi hR
  have e2 : fo = rowD qb c2 i 1 := by
    have e := cdv_row h2 hi hg
    have := hg.1
    exact Int.eq_of_mul_eq_mul_right (by omega) (hfo.trans e.symm)
  rw [ef, e2] at hl hr
  refine ⟨fun j hj => ?_, fun j hj => ?_⟩
  · show V2 (g (32 * i + j)) = _ ∧ _
    have hc := (rowd_cell h1 hi hR hj).2
    have e0 : bcol 0 c j = j := by unfold bcol; rw [if_neg (by omega)]
    rw [e0] at hc
    have := left_whole (qb := qb) (c2 := c2) hj rfl hc
    have e9 := (hl j hj).1
    rw [← show gz V2 g i j = V2 (g (32 * i + j)) from rfl] at e9 ⊢
    rw [e9]
    exact this
  · exact right_whole h2 hi hj hg rfl (hr j hj).1
theorem nmax_append {f : Nat → Nat} {a : Nat} : ∀ {n : Nat}, nmax f (a + n) = max (nmax f a) (nmax (fun j => f (a + j)) n)
  | 0 => by show nmax f a = max _ 0; omega
  | n + 1 => by
    show max (nmax f (a + n)) (f (a + n)) = max (nmax f a) (max (nmax (fun j => f (a + j)) n) (f (a + n)))
    rw [nmax_append]
    omega
theorem glong2_eq {Z : imat} (h : ∀ i, i < r → RWS Z q qb c c2 i) : glong Z r (c + c2) = nmax (fun k => max (rowL q c k (rowD qb c2 k (rowD q c k 1))) (rowL qb c2 k (rowD qb c2 k (rowD q c k 1)))) r := by
  refine nmax_cong (fun i hi => ?_)
  rw [nmax_append]
  obtain ⟨h1, h2⟩ := h i hi
  have e1 : nmax (fun j => blen (Z i j)) c = rowL q c i (rowD qb c2 i (rowD q c i 1)) := nmax_cong (fun j hj => by rw [(h1 j hj).1])
  have e2 : nmax (fun j => blen (Z i (c + j))) c2 = rowL qb c2 i (rowD qb c2 i (rowD q c i 1)) := nmax_cong (fun j hj => by rw [(h2 j hj).1])
  rw [e1, e2]
theorem heavy2_of {k : Nat} (h1r : 1 ≤ r) (h1c : 1 ≤ c) (hi : i < r) (hb : 2000 < k) (hk : k ≤ rowL q c i (rowD qb c2 i (rowD q c i 1)) ∨ k ≤ rowL qb c2 i (rowD qb c2 i (rowD q c i 1))) : heavy2 q qb r c c2 := by
  refine hvy_of (by omega) (Nat.lt_of_lt_of_le hb ?_)
  refine Nat.le_trans ?_ (nmax_ge (f := fun k => max (rowL q c k (rowD qb c2 k (rowD q c k 1))) (rowL qb c2 k (rowD qb c2 k (rowD q c k 1)))) hi)
  show k ≤ max _ _
  omega
theorem toow_heavy2 (h : NRM V b r c q) (h1r : 1 ≤ r) (h1c : 1 ≤ c) (hT : TOOW V b r c) : heavy2 q qb r c c2 := by
  obtain ⟨i, j, gg, x, hi, hj, hg, hx, hb⟩ := hT
  have hc := cell_whole h hi hj hg hx
  have hl := (left_whole (qb := qb) (c2 := c2) hj rfl hc.2).1
  refine heavy2_of h1r h1c hi (Nat.lt_of_lt_of_le hb ?_) (Or.inl (nmax_ge (f := fun j => blen (rowD qb c2 i (rowD q c i 1) / ((q (i * c + j)).den : Int) * (q (i * c + j)).num)) hj))
  rw [← hl]
  refine blen_mono ?_
  rw [Int.natAbs_mul]
  have p1 : 0 < rowD q c i 1 := rowD_pos (by decide)
  have p2 : 0 < rowD qb c2 i 1 := rowD_pos (by decide)
  have := tdiv_pos p2 (sgc_dvd (a := rowD q c i 1)).2 (sgc_pos p1)
  exact Nat.le_mul_of_pos_right _ (by omega)
theorem tooa_heavy2 (h1 : NRM V b r c q) (h2 : NRM V1 b2 r c2 qb) (h1r : 1 ≤ r) (h1c : 1 ≤ c) (hR : ∀ i, i < r → ROWD V V1 b c 0 g i) (hT : TOOA V1 b2 r c2 c g) : heavy2 q qb r c c2 := by
  obtain ⟨i, gg, fo, hi, hg, hfo, ht⟩ := hT
  have ef := rowd_fac h1 hi (hR i hi)
  have e2 : fo = rowD qb c2 i 1 := by
    have e := cdv_row h2 hi hg
    have := hg.1
    exact Int.eq_of_mul_eq_mul_right (by omega) (hfo.trans e.symm)
  rw [ef, e2] at ht
  rcases ht with ⟨j, hj, hb⟩ | ⟨j, x, hj, hx, hb⟩
  · have hc := (rowd_cell h1 hi (hR i hi) hj).2
    have e0 : bcol 0 c j = j := by unfold bcol; rw [if_neg (by omega)]
    rw [e0] at hc
    have hl := (left_whole (qb := qb) (c2 := c2) hj rfl hc).1
    refine heavy2_of h1r h1c hi hb (Or.inl ?_)
    rw [show V1 (g (32 * i + j)) = gz V1 g i j from rfl, hl]
    exact nmax_ge (f := fun j => blen (rowD qb c2 i (rowD q c i 1) / ((q (i * c + j)).den : Int) * (q (i * c + j)).num)) hj
  · have hl := (right_whole h2 hi hj hg rfl hx).1
    refine heavy2_of h1r h1c hi hb (Or.inr ?_)
    rw [hl]
    exact nmax_ge (f := fun j => blen (rowD qb c2 i (rowD q c i 1) / ((qb (i * c2 + j)).den : Int) * (qb (i * c2 + j)).num)) hj
/-- the joint elimination in the reference's words -/
theorem bar_sec {Az Z : imat} {rk sw : Nat} {p : Nat → Nat} {L : Int} {A B E : qmat} (h : BAR Az Z r (c + c2) c rk sw p L A B E) (hw : ∀ i, i < r → RWS Az q qb c c2 i) : SEC (qAB q qb c c2) E r c (c + c2) rk p := by
  obtain ⟨σ', τ', h6, h6a⟩ := h.2.2.2.2.2.1
  obtain ⟨q1, q2⟩ := rows_scaled (A := A) (Q := qAB q qb c c2) (n := c + c2) (f := fun i => ((rowD qb c2 i (rowD q c i 1) : Int) : Rat)) h6 (fun i hi' j hj' => by
    rw [h6a i hi' j]
    obtain ⟨w1, w2⟩ := hw _ (h6.1 i hi').1
    unfold qAB
    by_cases e : j < c
    · rw [if_pos e]; exact (w1 j e).2
    · rw [if_neg e]
      have := (w2 (j - c) (by omega)).2
      rw [show c + (j - c) = j by omega] at this
      exact this) (fun i hi' => rat_ne (by have := rowD_pos (q := qb) (n := c2) (i := i) (rowD_pos (q := q) (n := c) (i := i) (z := 1) (by decide)); omega))
  exact ⟨h.2.1, rowsIn_trans h.2.2.2.2.2.2.2.1 q1, rowsIn_trans q2 h.2.2.2.2.2.2.2.2⟩
end LN2
