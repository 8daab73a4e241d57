/-! ===== whole numbers in the work area ===== -/
theorem nI_div {a : Nat} (h : a < 2 ^ 31) : nI a / 32768 = nI (a / 32768) := Int32.toInt_inj.mp (by
  rw [Int32.toInt_div, nI_toInt h, nI_toInt (show a / 32768 < 2 ^ 31 by omega), show (32768 : Int32).toInt = 32768 by decide, Int.tdiv_eq_ediv_of_nonneg (by omega)]
  rw [Int.bmod_eq_of_le (by omega) (by omega)]
  omega)
theorem kcRW_i32768 {G : jg} (h : kG G) : Cond.constant "ExactFormsModel$Wholes" 58 (32768) ∈ G.2.2.2.1 := kG_w h kI7 169 rfl rfl
theorem nI_rem {a : Nat} (h : a < 2 ^ 31) : nI a - nI a / 32768 * 32768 = nI (a % 32768) := by
  rw [nI_div h]
  have e : nI a = nI (a % 32768) + nI (a / 32768) * 32768 := by
    rw [show (32768 : Int32) = nI 32768 from rfl]
    unfold nI
    rw [← Int32.ofNat_mul, ← Int32.ofNat_add]
    congr 1
    omega
  rw [e, Int32.add_sub_cancel]
def sgnI (z : Int32) (v : Nat) : Int := if z = 0 then (v : Int) else -(v : Int)
/-- the number z stands at p, below T -/
def RI (D : List Int32) (T p : Nat) (z : Int) : Prop := ∃ r, (p + r < T ∧ (r = 0 → p = 0)) ∧ D.getD p 0 = (if z < 0 then -nI r else nI r) ∧ RD D p r ∧ (0 < r → D.getD (p + r) 0 ≠ 0) ∧ rnat D p r = z.natAbs
theorem RI.congr {D D' : List Int32} {T T' p : Nat} {z : Int} (h : RI D T p z) (hT : T ≤ T') (e : ∀ i, i < T → D'.getD i 0 = D.getD i 0) : RI D' T' p z := by
  obtain ⟨r, h1, h2, h3, h4, h5⟩ := h
  have e' : ∀ i, 0 < i → i ≤ r → D'.getD (p + i) 0 = D.getD (p + i) 0 := fun i _ h => e _ (by omega)
  refine ⟨r, by omega, (e p (by omega)).trans h2, h3.congr e', fun h => ?_, (rnat_congr e').trans h5⟩
  rw [e _ (by omega)]
  exact h4 h
theorem RI.zero {D : List Int32} {T : Nat} (h : D.getD 0 0 = 0) (hT : 0 < T) : RI D T 0 0 := ⟨0, ⟨hT, fun _ => rfl⟩, h, fun i h1 h2 => by omega, fun h => absurd h (Nat.lt_irrefl 0), rfl⟩
theorem nI_iabs {r : Nat} {z : Int} {v : Int32} (hr : r < 2 ^ 31) (h : v = if z < 0 then -nI r else nI r) : iabs v = nI r := by
  subst h
  have h1 : ¬ nI r < 0 := Int32.not_lt.mpr (nI_le (Nat.zero_le r) hr)
  split
  · unfold iabs
    by_cases h0 : r = 0
    · subst h0; decide
    · have : -nI r < 0 := by
        rw [Int32.lt_iff_toInt_lt, Int32.toInt_neg, nI_toInt hr, show (0 : Int32).toInt = 0 by decide, Int.bmod_eq_of_le (by omega) (by omega)]
        omega
      rw [if_pos this, Int32.neg_neg]
  · unfold iabs
    rw [if_neg h1]
theorem rtrim_RI {D : List Int32} {T n r : Nat} {z : Int32} (hT : T + n < D.length) (hD : RD D T n) (e : rtrim D T n = r) (hr : 0 < r) : RI (D.set T (if z = 0 then nI r else -nI r)) (T + r + 1) T (sgnI z (rnat D T n)) := by
  have hrn : r ≤ n := e ▸ rtrim_le D T n
  have hv : rnat D T r = rnat D T n := by rw [← e]; exact rnat_rtrim D T n
  have hz : D.getD (T + r) 0 ≠ 0 := by have := rtrim_nz (D := D) (T := T) (n := n) (by omega); rw [e] at this; exact this
  have hp : rnat D T r ≠ 0 := fun h => by have := (rnat_eq0 (hD.less hrn) (fun _ => hz)).mp h; omega
  have e' : ∀ v i, 0 < i → i ≤ r → (D.set T v).getD (T + i) 0 = D.getD (T + i) 0 := fun v i _ _ => gd_set_ne (by omega)
  refine ⟨r, by omega, ?_, (hD.less hrn).congr (e' _), fun _ => by rw [gd_set_ne (by omega)]; exact hz, ?_⟩
  · rw [gd_set_eq (by omega)]
    unfold sgnI
    by_cases h : z = 0
    · rw [if_pos h, if_pos h, if_neg (by omega)]
    · rw [if_neg h, if_neg h, if_pos (by omega)]
  · rw [rnat_congr (e' _), hv]
    unfold sgnI
    split <;> omega
section RV
variable {G : jg} {d : Nat} {Q : jq} {rc rs : Nat} {M : mheap} {w : Nat} {v2 : Value} {D : List Int32}
theorem rs_fin {T n : Nat} {z : Int32} (hG : kG G) (hS : RW M w D T v2) (hl : D.length < 2 ^ 31) (hT : T + n < D.length) (hD : RD D T n) (h0 : D.getD 0 0 = 0) (hT0 : 0 < T)
    (k : ∀ M' D' T' p, RW M' w D' T' v2 → D'.length = D.length → T ≤ T' ∧ (p = 0 ∨ T ≤ p) → T' ≤ T + n + 1 → (∀ i, i < T → D'.getD i 0 = D.getD i 0) → RF M M' w → RI D' T' p (sgnI z (rnat D T n)) → Q (.returned (some (.int (nI p)))) M' rc rs) : jj G kRW_finish d Q rc rs 0 (jj_ent [.ref w, .int (nI n), .int z] 5) [] M := by
  refine rs_finish hG hS hl hT (fun h => ?_) (fun r M' h1 h2 hS' hf => ?_)
  · have hv : rnat D T n = 0 := by rw [← rnat_rtrim, h]; rfl
    refine k M D T 0 hS rfl ⟨Nat.le_refl T, Or.inl rfl⟩ (by omega) (fun _ _ => rfl) (RF.refl M w) ?_
    rw [hv, show sgnI z 0 = 0 by unfold sgnI; split <;> rfl]
    exact RI.zero h0 hT0
  · have hrn : r ≤ n := h1 ▸ rtrim_le D T n
    exact k M' _ _ T hS' (List.length_set ..) (by omega) (by omega) (fun i hi => gd_set_ne (by omega)) hf (rtrim_RI hT hD h1 h2)
end RV
