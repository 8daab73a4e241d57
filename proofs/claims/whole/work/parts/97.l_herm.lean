/-! ===== the Hermite form: what the class reckons is the form ===== -/
theorem BAR.congr {Az Z Z' : imat} {m w c rk sw : Nat} {p : Nat → Nat} {L : Int} {A B E : qmat} (h : BAR Az Z m w c rk sw p L A B E) (e : ∀ i, i < m → ∀ j, j < w → Z' i j = Z i j) : BAR Az Z' m w c rk sw p L A B E := ⟨h.1, h.2.1, h.2.2.1, fun i hi j hj => by rw [e i hi j hj]; exact h.2.2.2.1 i hi j hj, h.2.2.2.2⟩
theorem NRM.whole {V : Nat → Int} {b r c : Nat} {q : Nat → Rat} (h : NRM V b r c q) : V (b + 256) = 1 ↔ allWhole q (r * c) := by
  rw [h.lcm]
  constructor
  · intro e t ht
    have hd : ((q t).den : Int) ∣ lcmf 1 (fun t => (q t).den) (r * c) := lcmf_dvd' (f := fun t => (q t).den) ht
    rw [e] at hd
    have := Int.le_of_dvd (by decide) hd
    have := (q t).den_pos
    omega
  · intro e
    have : lcmf 1 (fun t => (q t).den) (r * c) = lcmf 1 (fun _ => 1) (r * c) := lcmf_cong (fun t ht => e t ht)
    rw [this, lcmf_one]
theorem colInv_start {B : imat} {s n : Nat} {R : Int} (h : ∀ k, k < n → inZ (fun j => if j = k then R else 0) B s n) : colInv B B s n 0 R := fun v => by
  constructor
  · rintro ⟨⟨c, hc⟩, h0⟩
    refine ⟨h0, fun j hj => by omega, c, fun _ => 0, fun j _ hj => ?_⟩
    rw [hc j hj, Int.mul_zero, Int.add_zero, Nat.sub_zero]
    exact isum_congr (fun i _ => by rw [Nat.zero_add])
  · rintro ⟨h0, _, c, z, hz⟩
    refine ⟨inZ_mod (lo := 0) (d := R) (u := fun j => isum (fun i => c i * B i j) s) (fun k _ hk => h k hk) ⟨c, fun _ _ => rfl⟩ (fun j hj => by omega) (fun j _ hj => ⟨z j, ?_⟩), h0⟩
    rw [hz j (Nat.zero_le _) hj, Nat.sub_zero]
    have : isum (fun i => c i * B (0 + i) j) s = isum (fun i => c i * B i j) s := isum_congr (fun i _ => by rw [Nat.zero_add])
    rw [this]
    omega
/-- the lattice of the pivots' columns -/
theorem bar_herm {Bz Z : imat} {rr cc rk sw : Nat} {p : Nat → Nat} {L : Int} {A B E : qmat} (h : BAR Bz Z rr cc cc rk sw p L A B E) : ∃ T H : imat, hermF T rk rk (fun i => i) ∧ rowsZ T rk (fun i k => Bz i (p k)) rr rk ∧ (∀ t, t < rk → ∀ v, inZ v (fun i k => Bz i (p k)) rr rk → (∀ j, j < t → v j = 0) → T t t ∣ v t) ∧ tailD T rk 0 ∣ ((L.natAbs : Nat) : Int) ∧ colInv (fun i k => Bz i (p k)) (fun i k => Bz i (p k)) rr rk 0 ((L.natAbs : Nat) : Int) ∧ (∀ i, i < rk → ∀ j, j < cc → ((H i j : Int) : Rat) = qsum (fun k => ((T i k : Int) : Rat) * E k j) rk) ∧ hermF H cc rk p ∧ rowsZ H rk Bz rr cc ∧ rowsZ Bz rr H rk cc := by
  have hrr := h.1.1
  have hrf := h.rrf (Nat.le_refl _)
  have hL := h.lastdet (Nat.le_refl _)
  have hL0 := h.ne
  obtain ⟨σ', τ', h6, h6a⟩ := h.2.2.2.2.2.1
  -- the rows of the minor
  have hP : det rk (zq (fun a b => Bz (σ' a) (p b))) = ((L : Int) : Rat) := by
    rw [hL]
    exact det_congr (fun a ha b _ => (h6a a (by omega) (p b)).symm)
  have hPB : rowsZ (fun a b => Bz (σ' a) (p b)) rk (fun i k => Bz i (p k)) rr rk := fun a ha => ⟨fun k => if k = σ' a then 1 else 0, fun j _ => by
    rw [isum_one (h6.1 a (by omega)).1 (fun x _ hx => by dsimp only; rw [if_neg hx, Int.zero_mul])]
    dsimp only
    rw [if_pos rfl, Int.one_mul]⟩
  have hd : ∀ k, k < rk → inZ (fun j => if j = k then ((L.natAbs : Nat) : Int) else 0) (fun i k => Bz i (p k)) rr rk := fun k hk => by
    have h1 := inZ_trans (det_in hP hk) hPB
    rcases (show ((L.natAbs : Nat) : Int) = L ∨ ((L.natAbs : Nat) : Int) = -1 * L by omega) with e | e
    · exact inZ_congr h1 (fun j _ => by rw [e])
    · refine inZ_congr (inZ_smul (-1) h1) (fun j _ => ?_)
      by_cases c : j = k
      · rw [if_pos c, if_pos c, e]
      · rw [if_neg c, if_neg c]; rfl
  obtain ⟨T, t1, t2, t3, t4⟩ := herm_exists (d := ((L.natAbs : Nat) : Int)) (by omega) hd
  have hA := rows_scaled (A := A) (Q := zq Bz) (n := cc) (f := fun _ => 1) h6 (fun i hi j _ => by rw [h6a i hi j]; show _ = 1 * _; rw [Rat.one_mul]; rfl) (fun _ _ => by decide)
  obtain ⟨H, e1, e2, e3, e4⟩ := herm_build hrf (rowsIn_trans hA.2 (h.rowsA h.bz)) t1 t2 t3
  refine ⟨T, H, t1, t2, t4, ?_, colInv_start hd, e1, e2, e3, e4⟩
  have hu := det_upper (k := rk) (P := T) (fun i hi j hj => t1.1.2.2.1 i hi j hj)
  have hdv := det_lat hu hP (rowsZ_trans hPB t3)
  have e : tailD T rk 0 = zprod (fun i => T i i) rk := by
    unfold tailD
    rw [Nat.sub_zero]
    exact zprod_congr (fun i _ => by rw [Nat.zero_add])
  rw [e]
  exact Int.dvd_natAbs.mpr hdv
