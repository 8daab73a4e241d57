/-! ===== ExactForms behind its constructor (printed by wip/gen/rI9.py) ===== -/
section I9
variable {G : jg} {d : Nat} {Q : jq} {rc rs : Nat} {M : mheap}
theorem capx_lt (p : Nat) : capx p < 2000 := by
  unfold capx
  (repeat' split) <;> omega
theorem xj_of {M' : mheap} {ad : Nat → Nat} (J : INI M' ad (fun k => k < 6279)) : XJ (fun p => ad (2 * p)) (fun p => ad (2 * p + 1)) capx (fun i => ad (6244 + i)) (ad 6275) (ad 6276) (ad 6277) (ad 6278) := by
  have inj : ∀ k l, k < 6279 → l < 6279 → ad k = ad l → k = l := J.1.2
  refine ⟨⟨⟨fun p q hp hq e => ?_, fun p q hp hq e => ?_, fun p _ => capx_lt p⟩, by decide, fun p hp => ?_, fun e => ?_, fun p hp => ⟨fun e => ?_, fun e => ?_⟩⟩, fun _ _ => rfl, fun i hi => ⟨fun p hp => ⟨fun e => ?_, fun e => ?_⟩, fun e => ?_, fun e => ?_, fun e => ?_, fun e => ?_⟩, fun i j hi hj e => ?_⟩
  · have := inj _ _ (by omega) (by omega) e; omega
  · have := inj _ _ (by omega) (by omega) e; omega
  · unfold capx; rw [if_pos (by omega)]
  · have := inj _ _ (by omega) (by omega) e; omega
  · have := inj _ _ (by omega) (by omega) e; omega
  · have := inj _ _ (by omega) (by omega) e; omega
  · have := inj _ _ (by omega) (by omega) e; omega
  · have := inj _ _ (by omega) (by omega) e; omega
  · have := inj _ _ (by omega) (by omega) e; omega
  · have := inj _ _ (by omega) (by omega) e; omega
  · have := inj _ _ (by omega) (by omega) e; omega
  · have := inj _ _ (by omega) (by omega) e; omega
  · have := inj _ _ (by omega) (by omega) e; omega
theorem vx_one {k : Nat} (hk : k < 8) : vx (809 + 257 * k + 256) = 1 := by unfold vx; rw [if_pos (by omega)]
theorem vx_cell {k : Nat} (hk : k < 8) : vx (809 + 257 * k + (16 * 0 + 0)) = 0 := by unfold vx; rw [if_neg (by omega)]
theorem gp_start : GP (fun i => 35 + i) := ⟨fun i hi => ⟨by show 35 ≤ 35 + i; omega, by show 35 + i < 547; omega⟩, fun i j _ _ e => by have e' : 35 + i = 35 + j := e; omega⟩
theorem rsp_start : RSP (fun i => 553 + i) := ⟨fun i hi => ⟨by show 553 ≤ 553 + i; omega, by show 553 + i < 809; omega⟩, fun i j _ _ e => by have e' : 553 + i = 553 + j := e; omega⟩
theorem x_init {ob : Nat} (hG : kG G) (hob : M ob = some (.inl nX, [.null, .null, .null, .null, .null, .null, .null, .null, .int (nI 0)])) (hrc : 6278 ≤ rc) (hrs : 391833 ≤ rs) (k : ∀ (M' : mheap) (wa la oa : Nat → Nat) (eu dv hi lo rc' rs' : Nat), XJ wa la capx oa eu dv hi lo → oa 0 = ob → XT M' wa la capx oa eu dv hi lo sg0 → (∀ x, x ≠ ob → M x ≠ none → M' x = M x) → rc ≤ rc' + 6278 → rs ≤ rs' + 391833 → Q (.returned none) M' rc' rs') : jj G kX_init (d + 4) Q rc rs 0 (jj_ent [.ref ob] 2) [] M := by
  refine x_init0 hG hob hrc hrs (fun M' ad rc' rs' J' eo cl a45 a46 XP MX f c s => ?_)
  obtain ⟨h6265, h6274, h6247, h6276, h6277, h6278, h6275, h6248, h6249, h6250, h6251, h6252, h6253, h6254, h6255, h6256⟩ := XP
  refine k M' (fun p => ad (2 * p)) (fun p => ad (2 * p + 1)) (fun i => ad (6244 + i)) (ad 6275) (ad 6276) (ad 6277) (ad 6278) rc' rs' (xj_of J') eo ⟨vx, -1, fun _ => 1, fun _ => 1, ⟨fun p hp => J'.2 p hp (by omega) (by omega), ⟨1, 2, 3, 4, 5, 6, 0, ⟨by decide, by decide, by decide, by decide, by decide, by decide, by decide, by decide, by decide, by decide, by decide, by decide, by decide, by decide, by decide, by decide, by decide, by decide, by decide, by decide, by decide, by decide, by decide, by decide, by decide, by decide, by decide, by decide⟩, ⟨h6276, ⟨_, h6277, List.length_replicate⟩, ⟨_, h6278, List.length_replicate⟩⟩, by decide, 0, 0, 0, 0, h6275⟩, h6247⟩, ⟨(by rw [show (fun i => ad (6244 + i)) 0 = ob from eo]; exact cl), ?_, a46, h6255, h6256, ⟨0, 0, 0, 0, _, _, fun i => 35 + i, h6248, h6249, ⟨h6250, List.length_replicate⟩, ⟨h6251, List.length_replicate⟩, h6252, gp_start⟩, ⟨0, 0, 16, 1, fun i => 553 + i, h6253, h6254, rsp_start⟩, fun k hk => ?_⟩, ?_⟩ f c s
  · rw [a45]
    refine congrArg some (congrArg (Prod.mk _) (List.map_congr_left (fun l hl => ?_)))
    show Value.ref (ad (6257 + l)) = Value.ref (ad (6244 + (13 + l)))
    rw [show 6257 + l = 6244 + (13 + l) by omega]
  · show MXT M' (fun p => ad (2 * p)) (ad (6244 + (13 + k))) (ad (6244 + (22 + k))) (809 + 257 * k) 1 1
    by_cases c8 : k = 8
    · subst c8
      exact ⟨h6265, h6274⟩
    · rw [show 6244 + (13 + k) = 6257 + k by omega, show 6244 + (22 + k) = 6266 + k by omega]
      exact MX k (by omega)
  · refine ⟨fun k hk => ⟨rfl, rfl, Nat.le_refl _, (show 1 ≤ 16 by decide), Nat.le_refl _, (show 1 ≤ 16 by decide), NRM.ones (vx_one hk) (fun i j hi hj => ?_)⟩, Or.inl rfl⟩
    have hi' : i < 1 := hi
    have hj' : j < 1 := hj
    have ei : i = 0 := by omega
    have ej : j = 0 := by omega
    subst ei ej
    rw [vx_cell hk]
    rfl
/-- the addresses of the class -/
def XCL (wa la oa : Nat → Nat) (eu dv hi lo x : Nat) : Prop := (∃ p, p < 3122 ∧ (x = wa p ∨ x = la p)) ∨ x = hi ∨ x = lo ∨ x = eu ∨ x = dv ∨ XAD oa x
theorem XF.kept {M' : mheap} {wa la oa : Nat → Nat} {eu dv hi lo x : Nat} (h : XF oa M M' wa la eu dv hi lo) (hx : ¬ XCL wa la oa eu dv hi lo x) : M' x = M x := by
  refine h x (fun e => hx (Or.inr (Or.inr (Or.inr (Or.inr (Or.inr e)))))) ⟨fun p hp => ⟨fun e => hx (Or.inl ⟨p, hp, Or.inl e⟩), fun e => hx (Or.inl ⟨p, hp, Or.inr e⟩)⟩, fun e => hx (Or.inr (Or.inl e)), fun e => hx (Or.inr (Or.inr (Or.inl e))), fun e => hx (Or.inr (Or.inr (Or.inr (Or.inl e)))), fun e => hx (Or.inr (Or.inr (Or.inr (Or.inr (Or.inl e)))))⟩
theorem XT.same {M' : mheap} {wa la cap oa : Nat → Nat} {eu dv hi lo : Nat} {σ : rst} (h : XT M wa la cap oa eu dv hi lo σ) (e : ∀ x, XCL wa la oa eu dv hi lo x → M' x = M x) : XT M' wa la cap oa eu dv hi lo σ := by
  obtain ⟨V, sc, R, C, ⟨k1, ⟨r, px, pf, py, po, ps, od, u1, ⟨u2, ⟨H, u3, u4⟩, ⟨L, u5, u6⟩⟩, u7, a, b, c, d9, u8⟩, k3⟩, ⟨o1, o2, o3, o4, o5, ⟨rk, sw, m, w, P, B, g, l1, l2, ⟨l3, l4⟩, ⟨l5, l6⟩, l7, l8⟩, ⟨ln, pl, ls, ps', s, q1, q2, q3⟩, o8⟩, v⟩ := h
  have ew : ∀ p, p < 3122 → M' (wa p) = M (wa p) := fun p hp => e _ (Or.inl ⟨p, hp, Or.inl rfl⟩)
  have el : ∀ p, p < 3122 → M' (la p) = M (la p) := fun p hp => e _ (Or.inl ⟨p, hp, Or.inr rfl⟩)
  have eo : ∀ i, i < 31 → M' (oa i) = M (oa i) := fun i hi => e _ (Or.inr (Or.inr (Or.inr (Or.inr (Or.inr ⟨i, hi, rfl⟩)))))
  have e1 : M' hi = M hi := e _ (Or.inr (Or.inl rfl))
  have e2 : M' lo = M lo := e _ (Or.inr (Or.inr (Or.inl rfl)))
  have e3 : M' eu = M eu := e _ (Or.inr (Or.inr (Or.inr (Or.inl rfl))))
  have e4 : M' dv = M dv := e _ (Or.inr (Or.inr (Or.inr (Or.inr (Or.inl rfl)))))
  exact ⟨V, sc, R, C, ⟨fun p hp => (k1 p hp).same (ew p hp) (el p hp), ⟨r, px, pf, py, po, ps, od, u1, ⟨e4.trans u2, ⟨H, e1.trans u3, u4⟩, ⟨L, e2.trans u5, u6⟩⟩, u7, a, b, c, d9, e3.trans u8⟩, (eo 3 (by decide)).trans k3⟩, ⟨(eo 0 (by decide)).trans o1, (eo 1 (by decide)).trans o2, (eo 2 (by decide)).trans o3, (eo 11 (by decide)).trans o4, (eo 12 (by decide)).trans o5, ⟨rk, sw, m, w, P, B, g, (eo 4 (by decide)).trans l1, (eo 5 (by decide)).trans l2, ⟨(eo 6 (by decide)).trans l3, l4⟩, ⟨(eo 7 (by decide)).trans l5, l6⟩, (eo 8 (by decide)).trans l7, l8⟩, ⟨ln, pl, ls, ps', s, (eo 9 (by decide)).trans q1, (eo 10 (by decide)).trans q2, q3⟩, fun k hk => ⟨(eo (13 + k) (by omega)).trans (o8 k hk).1, (eo (22 + k) (by omega)).trans (o8 k hk).2⟩⟩, v⟩
theorem XT.used {wa la cap oa : Nat → Nat} {eu dv hi lo x : Nat} {σ : rst} (h : XT M wa la cap oa eu dv hi lo σ) (hx : XCL wa la oa eu dv hi lo x) : M x ≠ none := by
  obtain ⟨V, sc, R, C, ⟨k1, ⟨r, px, pf, py, po, ps, od, u1, ⟨u2, ⟨H, u3, u4⟩, ⟨L, u5, u6⟩⟩, u7, a, b, c, d9, u8⟩, k3⟩, ⟨o1, o2, o3, o4, o5, ⟨rk, sw, m, w, P, B, g, l1, l2, ⟨l3, l4⟩, ⟨l5, l6⟩, l7, l8⟩, ⟨ln, pl, ls, ps', s, q1, q2, q3⟩, o8⟩, v⟩ := h
  rcases hx with ⟨p, hp, e | e⟩ | e | e | e | e | ⟨i, hi, e⟩
  · rw [e]; exact (k1 p hp).used.1
  · rw [e]; exact (k1 p hp).used.2
  · rw [e, u3]; exact fun e => (by cases e)
  · rw [e, u5]; exact fun e => (by cases e)
  · rw [e, u8]; exact fun e => (by cases e)
  · rw [e, u2]; exact fun e => (by cases e)
  · rw [e]
    rcases (show i = 0 ∨ i = 1 ∨ i = 2 ∨ i = 3 ∨ i = 4 ∨ i = 5 ∨ i = 6 ∨ i = 7 ∨ i = 8 ∨ i = 9 ∨ i = 10 ∨ i = 11 ∨ i = 12 ∨ (13 ≤ i ∧ i < 22) ∨ 22 ≤ i by omega) with c | c | c | c | c | c | c | c | c | c | c | c | c | c | c
    · rw [c, o1]; exact fun e => (by cases e)
    · rw [c, o2]; exact fun e => (by cases e)
    · rw [c, o3]; exact fun e => (by cases e)
    · rw [c, k3]; exact fun e => (by cases e)
    · rw [c, l1]; exact fun e => (by cases e)
    · rw [c, l2]; exact fun e => (by cases e)
    · rw [c, l3]; exact fun e => (by cases e)
    · rw [c, l5]; exact fun e => (by cases e)
    · rw [c, l7]; exact fun e => (by cases e)
    · rw [c, q1]; exact fun e => (by cases e)
    · rw [c, q2]; exact fun e => (by cases e)
    · rw [c, o4]; exact fun e => (by cases e)
    · rw [c, o5]; exact fun e => (by cases e)
    · have := (o8 (i - 13) (by omega)).1
      rw [show 13 + (i - 13) = i by omega] at this
      rw [this]; exact fun e => (by cases e)
    · have := (o8 (i - 22) (by omega)).2
      rw [show 22 + (i - 22) = i by omega] at this
      rw [this]; exact fun e => (by cases e)
end I9
