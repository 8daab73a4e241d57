/-! ===== the ledger of the constructors; Whole's constructor (printed by wip/gen/rI1.py) ===== -/
def adu (ad : Nat → Nat) (k a : Nat) : Nat → Nat := fun l => if l = k then a else ad l
theorem adu_at (ad : Nat → Nat) (k a : Nat) : adu ad k a k = a := by unfold adu; rw [if_pos rfl]
theorem adu_ne (ad : Nat → Nat) {k a l : Nat} (h : l ≠ k) : adu ad k a l = ad l := by unfold adu; rw [if_neg h]
/-- every key of D has an address in use, no two the same -/
def LB (M : mheap) (ad : Nat → Nat) (D : Nat → Prop) : Prop := (∀ k, D k → M (ad k) ≠ none) ∧ ∀ k l, D k → D l → ad k = ad l → k = l
theorem LB.add {M M' : mheap} {ad : Nat → Nat} {D : Nat → Prop} {k a : Nat} (h : LB M ad D) (ha : M a = none) (hM : ∀ x, M x ≠ none → M' x ≠ none) (hM' : M' a ≠ none) : LB M' (adu ad k a) (fun l => D l ∨ l = k) := by
  refine ⟨fun l hl => ?_, fun l l' hl hl' e => ?_⟩
  · by_cases c : l = k
    · rw [c, adu_at]; exact hM'
    · rw [adu_ne ad c]
      rcases hl with hl | hl
      · exact hM _ (h.1 l hl)
      · exact absurd hl c
  · by_cases c : l = k
    · by_cases c' : l' = k
      · rw [c, c']
      · rw [c, adu_at, adu_ne ad c'] at e
        rcases hl' with hl' | hl'
        · exact absurd (e ▸ ha) (h.1 l' hl')
        · exact absurd hl' c'
    · by_cases c' : l' = k
      · rw [c', adu_at, adu_ne ad c] at e
        rcases hl with hl | hl
        · exact absurd (e ▸ ha) (h.1 l hl)
        · exact absurd hl c
      · rw [adu_ne ad c, adu_ne ad c'] at e
        rcases hl with hl | hl
        · rcases hl' with hl' | hl'
          · exact h.2 l l' hl hl' e
          · exact absurd hl' c'
        · exact absurd hl c
theorem LB.weak {M : mheap} {ad : Nat → Nat} {D D' : Nat → Prop} (h : LB M ad D) (hd : ∀ k, D' k → D k) : LB M ad D' := ⟨fun k hk => h.1 k (hd k hk), fun k l hk hl => h.2 k l (hd k hk) (hd l hl)⟩
theorem LB.grow {M M' : mheap} {ad : Nat → Nat} {D : Nat → Prop} (h : LB M ad D) (hM : ∀ x, M x ≠ none → M' x ≠ none) : LB M' ad D := ⟨fun k hk => hM _ (h.1 k hk), h.2⟩
/-- a new Whole at a, its limbs at b -/
def NWH (M M2 : mheap) (a b c : Nat) : Prop := M a = none ∧ M b = none ∧ a ≠ b ∧ M2 a = some (.inl nW, [.ref b, .int (nI 0), .int (sg 0)]) ∧ M2 b = some (.inr 0, (List.replicate c (0 : Int32)).map .int) ∧ ∀ x, x ≠ a → x ≠ b → M2 x = M x
theorem NWH.mk {M : mheap} {a b c : Nat} {X : (Nat ⊕ Nat) × List Value} (ha : M a = none) (hb : jj_up M a X b = none) : NWH M (jj_up (jj_up (jj_up M a X) b (.inr 0, (List.replicate c (0 : Int32)).map .int)) a (.inl nW, [.ref b, .int 0, .int 0])) a b c := by
  have hne : b ≠ a := fun e => by rw [e, jj_up_at] at hb; cases hb
  refine ⟨ha, by rw [jj_up_ne _ _ hne] at hb; exact hb, hne.symm, jj_up_at _ _ _, by rw [jj_up_ne _ _ hne, jj_up_at], fun x h1 h2 => by rw [jj_up_ne _ _ h1, jj_up_ne _ _ h2, jj_up_ne _ _ h1]⟩
theorem NWH.kept {M M2 : mheap} {a b c x : Nat} (h : NWH M M2 a b c) (hx : M x ≠ none) : M2 x = M x := h.2.2.2.2.2 x (fun e => hx (e ▸ h.1)) (fun e => hx (e ▸ h.2.1))
theorem NWH.more {M M2 : mheap} {a b c x : Nat} (h : NWH M M2 a b c) (hx : M x ≠ none) : M2 x ≠ none := by rw [h.kept hx]; exact hx
theorem zeros_LW {c : Nat} : LW (List.replicate c (0 : Int32)) 0 0 := ⟨Nat.zero_le _, rfl, fun h => absurd h (Nat.lt_irrefl 0)⟩
theorem NWH.wh {M M2 : mheap} {a b c : Nat} (h : NWH M M2 a b c) : WH M2 a b c 0 := ⟨List.replicate c 0, 0, h.2.2.2.1, h.2.2.2.2.1, List.length_replicate, zeros_LW⟩
theorem LB.whole {M M2 : mheap} {ad : Nat → Nat} {D : Nat → Prop} {a b c p : Nat} (h : LB M ad D) (hn : NWH M M2 a b c) : LB M2 (adu (adu ad (2 * p) a) (2 * p + 1) b) (fun k => (D k ∨ k = 2 * p) ∨ k = 2 * p + 1) := by
  have h1 : LB (jj_up M a (.inl nW, [])) (adu ad (2 * p) a) (fun k => D k ∨ k = 2 * p) := h.add hn.1 (fun x hx => by
    rw [jj_up_ne _ _ (show x ≠ a from fun e => hx (by rw [e]; exact hn.1))]; exact hx) (by rw [jj_up_at]; exact fun e => by cases e)
  refine h1.add (by rw [jj_up_ne _ _ (Ne.symm hn.2.2.1)]; exact hn.2.1) (fun x hx => ?_) (by rw [hn.2.2.2.2.1]; exact fun e => by cases e)
  by_cases c1 : x = a
  · rw [c1, hn.2.2.2.1]; exact fun e => by cases e
  · rw [jj_up_ne _ _ c1] at hx
    exact hn.more hx
theorem WH.same {M M' : mheap} {a l L : Nat} {z : Int} (h : WH M a l L z) (e1 : M' a = M a) (e2 : M' l = M l) : WH M' a l L z := by
  obtain ⟨D, c, h1, h2, h3⟩ := h
  exact ⟨D, c, e1.trans h1, e2.trans h2, h3⟩
theorem WH.used {M : mheap} {a l L : Nat} {z : Int} (h : WH M a l L z) : M a ≠ none ∧ M l ≠ none := by
  obtain ⟨D, c, h1, h2, h3⟩ := h
  exact ⟨(by rw [h1]; exact fun e => (by cases e)), (by rw [h2]; exact fun e => (by cases e))⟩
section I1
variable {G : jg} {d : Nat} {Q : jq} {rc rs : Nat} {M : mheap}
theorem w_init {w c : Nat} (hG : kG G) (hw : M w = some (.inl nW, [.null, .int 0, .int 0])) (hc : c < 16777216) (h1 : 1 ≤ rc) (h2 : c ≤ rs) (k : ∀ b, M b = none → Q (.returned none) (jj_up (jj_up M b (.inr 0, (List.replicate c (0 : Int32)).map .int)) w (.inl nW, [.ref b, .int 0, .int 0])) (rc - 1) (rs - c)) : jj G kW_init (d + 1) Q rc rs 0 (jj_ent [.ref w, .int (nI c)] 2) [] M := by
  show jj G kW_init (d + 1) Q rc rs 0 [some (.ref w), some (.int (nI c))] [] M
  refine jj_aload_n (pc := 0) kW_init_d0 rfl ?_
  refine jj_objInit (pc := 1) kW_init_d1 (koW_obj hG) (ko_inst hG) (ko_code hG) rfl (Nat.le_of_ble_eq_true rfl) ?_
  refine jj_aload_n (pc := 4) kW_init_d4 rfl ?_
  refine jj_iload_n (pc := 5) kW_init_d5 rfl ?_
  refine jj_newa (pc := 6) (j := 0) (n := c) (ty := .int) kW_init_d6 rfl (kG_t hG rfl) (fun C h => by cases h) (ka_int hG) rfl hc h1 h2 (fun b hb => ?_)
  have hne : w ≠ b := fun e => by subst e; rw [hw] at hb; cases hb
  refine jj_putF (pc := 8) kW_init_d8 (kpW_limbs hG) rfl (by rw [jj_up_ne _ _ hne]; exact hw) rfl rfl ?_
  refine jj_vret (pc := 11) kW_init_d11 rfl ?_
  have e : (List.replicate c (0 : Int32)).map Value.int = List.replicate c (defaultValue .int) := by rw [List.map_replicate]; rfl
  have := k b hb
  rw [e] at this
  exact this
end I1
