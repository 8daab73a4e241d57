/-! ===== the reference's Wholes: its state, what it may still make, what it leaves alone ===== -/
/-- the work area w holds the ints D, its top is T -/
def RW (M : mheap) (w : Nat) (D : List Int32) (T : Nat) (v2 : Value) : Prop := ∃ dd, M w = some (.inl nRW, [.ref dd, .int (nI T), v2]) ∧ M dd = some (.inr 0, D.map .int)
/-- room for it to grow to cm ints, and X slots, Z cells besides -/
def RB (cm X Z rc rs : Nat) (D : List Int32) : Prop := ∃ j, cm = D.length * 2 ^ j ∧ cm < 16777216 ∧ 0 < D.length ∧ j + Z ≤ rc ∧ rpot cm D.length + X ≤ rs
/-- w and its array -/
def RO (M : mheap) (w q : Nat) : Prop := q = w ∨ ∃ l, M w = some (.inl nRW, .ref q :: l)
/-- all cells but w and its array are as they were, and are not its array now -/
def RF (M M' : mheap) (w : Nat) : Prop := ∀ q, M q ≠ none → ¬ RO M w q → M' q = M q ∧ ¬ RO M' w q
/-- ints beyond those that were there are 0 -/
def RX (D D' : List Int32) : Prop := ∃ z, D' = D ++ List.replicate z 0
theorem RX.at {D D' : List Int32} (h : RX D D') (i : Nat) : D'.getD i 0 = D.getD i 0 := by
  obtain ⟨z, rfl⟩ := h
  simp only [List.getD_eq_getElem?_getD]
  by_cases hi : i < D.length
  · rw [List.getElem?_append_left hi]
  · rw [List.getElem?_append_right (by omega), List.getElem?_replicate, List.getElem?_eq_none (by omega)]
    split <;> rfl
theorem RX.len {D D' : List Int32} (h : RX D D') : D.length ≤ D'.length := by
  obtain ⟨z, rfl⟩ := h
  simp
theorem RB.cap {cm X Z rc rs : Nat} {D : List Int32} (h : RB cm X Z rc rs D) : D.length ≤ cm ∧ cm < 16777216 := by
  obtain ⟨j, h1, h2, h3, -⟩ := h
  exact ⟨by rw [h1]; exact Nat.le_mul_of_pos_right _ (Nat.pow_pos (by decide)), h2⟩
theorem RB.same {cm X Z rc rs : Nat} {D D' : List Int32} (h : RB cm X Z rc rs D) (e : D'.length = D.length) : RB cm X Z rc rs D' := by
  obtain ⟨j, h1, h2, h3, h4, h5⟩ := h
  exact ⟨j, by rw [e]; exact h1, h2, by omega, h4, by rw [e]; exact h5⟩
theorem RF.refl (M : mheap) (w : Nat) : RF M M w := fun _ _ h => ⟨rfl, h⟩
theorem RF.trans {M M1 M2 : mheap} {w : Nat} (h1 : RF M M1 w) (h2 : RF M1 M2 w) : RF M M2 w := by
  intro q hq ho
  obtain ⟨e1, o1⟩ := h1 q hq ho
  obtain ⟨e2, o2⟩ := h2 q (by rw [e1]; exact hq) o1
  exact ⟨e2.trans e1, o2⟩
/-- a write into its array, or into its own fields -/
theorem RF.put {M : mheap} {w dd : Nat} {v : List Value} {x : mcell} (hw : M w = some (.inl nRW, .ref dd :: v)) (hwd : w ≠ dd) : RF M (jj_up M dd x) w := by
  intro q hq ho
  have h1 : q ≠ w := fun e => ho (Or.inl e)
  have h2 : q ≠ dd := fun e => ho (Or.inr ⟨v, by rw [e]; exact hw⟩)
  refine ⟨jj_up_ne _ _ h2, fun h => ?_⟩
  rcases h with h | ⟨l, h⟩
  · exact h1 h
  · rw [jj_up_ne _ _ hwd, hw] at h
    have e : dd = q := by simp at h; exact h.1
    exact h2 e.symm
theorem RF.top {M : mheap} {w dd : Nat} {v v' : List Value} (hw : M w = some (.inl nRW, .ref dd :: v)) : RF M (jj_up M w (.inl nRW, .ref dd :: v')) w := by
  intro q hq ho
  have h1 : q ≠ w := fun e => ho (Or.inl e)
  have h2 : q ≠ dd := fun e => ho (Or.inr ⟨v, by rw [e]; exact hw⟩)
  refine ⟨jj_up_ne _ _ h1, fun h => ?_⟩
  rcases h with h | ⟨l, h⟩
  · exact h1 h
  · rw [jj_up_at] at h
    have e : dd = q := by simp at h; exact h.1
    exact h2 e.symm
section RWS
variable {G : jg} {d : Nat} {Q : jq} {rc rs : Nat} {M : mheap} {w : Nat} {v2 : Value} {D : List Int32}
theorem rs_room {T n cm X Z : Nat} (hG : kG G) (hS : RW M w D T v2) (hB : RB cm X Z rc rs D) (hT : T + n ≤ cm)
    (k : ∀ M' D' rc' rs', RW M' w D' T v2 → RB cm X Z rc' rs' D' → T + n ≤ D'.length → RX D D' → RF M M' w → Q (.returned none) M' rc' rs') : jj G kRW_room (d + 2) Q rc rs 0 (jj_ent [.ref w, .int (nI n)] 3) [] M := by
  obtain ⟨dd, hw, hd⟩ := hS
  obtain ⟨j, b1, b2, b3, b4, b5⟩ := id hB
  refine rw_room hG hw hd b3 b1 b2 hT b4 b5 (fun h => ?_) (fun b i h1 h2 h3 h4 h5 => ?_)
  · exact k M D rc rs ⟨dd, hw, hd⟩ hB h ⟨0, by simp⟩ (RF.refl M w)
  · have hwb : w ≠ b := fun e => by subst e; rw [hw] at h2; cases h2
    have hle : D.length ≤ D.length * 2 ^ (i + 1) := Nat.le_mul_of_pos_right _ (Nat.pow_pos (by decide))
    have hlen : (D ++ List.replicate (D.length * 2 ^ (i + 1) - D.length) 0).length = D.length * 2 ^ (i + 1) := by simp; omega
    refine k _ _ _ _ ⟨b, jj_up_at _ _ _, by rw [jj_up_ne _ _ (Ne.symm hwb)]; exact jj_up_at _ _ _⟩ ⟨j - (i + 1), ?_, b2, by omega, by omega, by rw [hlen]; exact h5⟩ (by omega) ⟨_, rfl⟩ (fun q hq ho => ?_)
    · rw [hlen, Nat.mul_assoc, ← Nat.pow_add, show i + 1 + (j - (i + 1)) = j by omega]
      exact b1
    · have hqb : q ≠ b := fun e => hq (by rw [e]; exact h2)
      have hqw : q ≠ w := fun e => ho (Or.inl e)
      refine ⟨by rw [jj_up_ne _ _ hqw, jj_up_ne _ _ hqb], fun h => ?_⟩
      rcases h with h | ⟨l, h⟩
      · exact hqw h
      · rw [jj_up_at] at h
        have e : b = q := by simp at h; exact h.1
        exact hqb e.symm
theorem rs_finish {T n : Nat} {z : Int32} (hG : kG G) (hS : RW M w D T v2) (hl : D.length < 2 ^ 31) (hT : T + n < D.length)
    (k0 : rtrim D T n = 0 → Q (.returned (some (.int 0))) M rc rs)
    (k1 : ∀ r M', rtrim D T n = r → 0 < r → RW M' w (D.set T (if z = 0 then nI r else -nI r)) (T + r + 1) v2 → RF M M' w → Q (.returned (some (.int (nI T)))) M' rc rs) : jj G kRW_finish d Q rc rs 0 (jj_ent [.ref w, .int (nI n), .int z] 5) [] M := by
  obtain ⟨dd, hw, hd⟩ := hS
  have hwd : w ≠ dd := fun e => by subst e; rw [hw] at hd; cases hd
  refine rw_finish hG hw hd hl hwd hT k0 (fun r h1 h2 => ?_)
  exact k1 r _ h1 h2 ⟨dd, jj_up_at _ _ _, by rw [jj_up_ne _ _ (Ne.symm hwd)]; exact jj_up_at _ _ _⟩ ((RF.put hw hwd).trans (RF.top (v := [.int (nI T), v2]) (by rw [jj_up_ne _ _ hwd]; exact hw)))
end RWS
