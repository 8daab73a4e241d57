/-! ===== the law: class and reference side by side (printed by wip/gen/rL1.py) ===== -/
section LW1
variable {M M' : mheap} {F : Nat → Nat} {code code' : Int32} {σ σ' : rst} {X Z rc rs rc' rs' : Nat}
theorem OWN.used {q : Nat} (h : RT M F code σ X Z rc rs) (hq : OWN M F q) : M q ≠ none := by
  obtain ⟨pt, zt, w, l, CA, RA, fi, se, hP, h2, hO, h4, h5, h6, h7⟩ := h
  rcases hq with ⟨k, k1, k2, e⟩ | ⟨k, k1, g⟩
  · rw [e]; exact hP.2.2.1 k k1 k2
  · exact (hP.2.2.2.1 k k1 (by omega)).has g
theorem RT.same (h : RT M F code σ X Z rc rs) (e : ∀ q, OWN M F q → M' q = M q) : RT M' F code σ X Z rc rs ∧ ∀ q, OWN M' F q ↔ OWN M F q := by
  obtain ⟨pt, zt, w, l, CA, RA, fi, se, hP, h2, hO, h4, h5, h6, h7⟩ := h
  obtain ⟨a1, a2, a3, a4, a5, a6⟩ := id hP
  have e9 : ∀ k, 9 ≤ k → k < 14 → M' (F k) = M (F k) := fun k k1 k2 => e _ (Or.inl ⟨k, k1, k2, rfl⟩)
  have ek : ∀ k, k < 9 → ∀ q, FO M (F k) q → M' q = M q := fun k k1 q g => e _ (Or.inr ⟨k, k1, g⟩)
  have fo : ∀ k, k < 9 → ∀ q, FO M' (F k) q ↔ FO M (F k) q := fun k k1 => ((a4 k k1 (by omega)).eq (ek k k1)).2
  have hP' : RPX M' F code 9 pt zt (SA σ) := ⟨(e9 9 (by decide) (by decide)).trans a1, (e9 11 (by decide) (by decide)).trans a2, fun k k1 k2 => by rw [e9 k k1 k2]; exact a3 k k1 k2, fun k k1 k2 => ((a4 k k1 k2).eq (ek k k1)).1, fun j k j1 k1 hne q g1 g2 => a5 j k j1 k1 hne q ((fo k k1 q).mp g1) ((fo j j1 q).mp g2), fun j k j1 k1 k2 g => a6 j k j1 k1 k2 ((fo j j1 _).mp g)⟩
  obtain ⟨o1, o2, o3, o4, o5, o6, o7⟩ := hO
  have f0 : M' (F 0) = M (F 0) := ek 0 (by decide) _ (Or.inl rfl)
  refine ⟨⟨pt, zt, w, l, CA, RA, fi, se, hP', f0.trans h2, ⟨(e9 10 (by decide) (by decide)).trans o1, (e9 12 (by decide) (by decide)).trans o2, (e9 13 (by decide) (by decide)).trans o3, o4, fun g => o5 ((fo 0 (by decide) _).mp g), fun g => o6 ((fo 0 (by decide) _).mp g), fun g => o7 ((fo 0 (by decide) _).mp g)⟩, h4, h5, h6, h7⟩, fun q => ?_⟩
  constructor
  · rintro (⟨k, k1, k2, g⟩ | ⟨k, k1, g⟩)
    · exact Or.inl ⟨k, k1, k2, g⟩
    · exact Or.inr ⟨k, k1, (fo k k1 q).mp g⟩
  · rintro (⟨k, k1, k2, g⟩ | ⟨k, k1, g⟩)
    · exact Or.inl ⟨k, k1, k2, g⟩
    · exact Or.inr ⟨k, k1, (fo k k1 q).mpr g⟩
theorem RT.less (h : RT M F code σ (X + 6) (Z + 1) rc rs) (h1 : rc ≤ rc' + 1) (h2 : rs ≤ rs' + 6) : RT M F code σ X Z rc' rs' := by
  obtain ⟨pt, zt, w, l, CA, RA, fi, se, hP, h2', hO, h4, h5, h6, h7⟩ := h
  exact ⟨pt, zt, w, l, CA, RA, fi, se, hP, h2', hO, h4, h5, by omega, by omega⟩
theorem RT.room (h : RT M F code σ X Z rc rs) : X ≤ rs ∧ Z ≤ rc := by
  obtain ⟨pt, zt, w, l, CA, RA, fi, se, hP, h2', hO, h4, h5, h6, h7⟩ := h
  exact ⟨by omega, by omega⟩
theorem RT.cell (h : RT M F code σ X Z rc rs) : M (F 9) = some (.inl nR, [.int code, .ref (F 0), .ref (F 10), .ref (F 11)]) := by
  obtain ⟨pt, zt, w, l, CA, RA, fi, se, hP, h2', hO, h4, h5, h6, h7⟩ := h
  exact hP.1
end LW1
/-- the class holds σx, the reference σ; nothing belongs to both, out to none -/
def HW (M : mheap) (wa la oa F : Nat → Nat) (eu dv hi lo ot : Nat) (σx σ : rst) (code : Int32) (X Z rc rs : Nat) : Prop := XT M wa la capx oa eu dv hi lo σx ∧ RT M F code σ X Z rc rs ∧ LG σ ∧ (∀ x, XCL wa la oa eu dv hi lo x → ¬ OWN M F x) ∧ (∃ v : Int64, M ot = some (.inr 1, [.long v])) ∧ ¬ XCL wa la oa eu dv hi lo ot ∧ ¬ OWN M F ot
section LW2
variable {M M' : mheap} {wa la oa F : Nat → Nat} {eu dv hi lo ot : Nat} {σ σ' σx : rst} {code code' : Int32} {X Z rc rs rc' rs' : Nat}
theorem HW.keep (h : HW M wa la oa F eu dv hi lo ot σx σ code X Z rc rs) (e : ∀ q, M q ≠ none → M' q = M q) : HW M' wa la oa F eu dv hi lo ot σx σ code X Z rc rs := by
  obtain ⟨h1, h2, h3, h4, ⟨v, h5⟩, h6, h7⟩ := h
  obtain ⟨r1, r2⟩ := h2.same (M' := M') (fun q hq => e q (OWN.used h2 hq))
  exact ⟨h1.same (fun x hx => e x (h1.used hx)), r1, h3, fun x hx g => h4 x hx ((r2 x).mp g), ⟨v, (e ot (by rw [h5]; exact fun e => (by cases e))).trans h5⟩, h6, fun g => h7 ((r2 _).mp g)⟩
theorem HW.cls (h : HW M wa la oa F eu dv hi lo ot σx σ code X Z rc rs) (hx : XT M' wa la capx oa eu dv hi lo σ') (hf : XF oa M M' wa la eu dv hi lo) : HW M' wa la oa F eu dv hi lo ot σ' σ code X Z rc rs := by
  obtain ⟨h1, h2, h3, h4, ⟨v, h5⟩, h6, h7⟩ := h
  obtain ⟨r1, r2⟩ := h2.same (M' := M') (fun q hq => hf.kept (fun g => h4 q g hq))
  exact ⟨hx, r1, h3, fun x hx g => h4 x hx ((r2 x).mp g), ⟨v, (hf.kept h6).trans h5⟩, h6, fun g => h7 ((r2 _).mp g)⟩
theorem HW.less (h : HW M wa la oa F eu dv hi lo ot σx σ code (X + 6) (Z + 1) rc rs) (e1 : rc ≤ rc' + 1) (e2 : rs ≤ rs' + 6) : HW M wa la oa F eu dv hi lo ot σx σ code X Z rc' rs' := ⟨h.1, h.2.1.less e1 e2, h.2.2⟩
theorem HW.thr {x : Nat} {c : mcell} (h : HW M wa la oa F eu dv hi lo ot σx σ code X Z rc rs) (hx : M x = none) : HW (jj_up M x c) wa la oa F eu dv hi lo ot σx σ code X Z rc rs := h.keep (fun q hq => jj_up_ne _ _ (fun e => hq (by rw [e]; exact hx)))
theorem HW.ref (h : HW M wa la oa F eu dv hi lo ot σ' σ code X Z rc rs) (hr : RT M' F code' σ' X Z rc' rs') (hf : RTF M M' F) (hL : LG σ') : HW M' wa la oa F eu dv hi lo ot σ' σ' code' X Z rc' rs' ∧ M' ot = M ot := by
  obtain ⟨h1, h2, h3, h4, ⟨v, h5⟩, h6, h7⟩ := h
  have ho := hf ot (by rw [h5]; exact fun e => (by cases e)) h7
  exact ⟨⟨h1.same (fun x hx => (hf x (h1.used hx) (h4 x hx)).1), hr, hL, fun x hx => (hf x (h1.used hx) (h4 x hx)).2, ⟨v, ho.1.trans h5⟩, h6, ho.2⟩, ho.1⟩
theorem HW.out (h : HW M wa la oa F eu dv hi lo ot σx σ code X Z rc rs) (v : Int64) : HW (jj_up M ot (.inr 1, [.long v])) wa la oa F eu dv hi lo ot σx σ code X Z rc rs := by
  obtain ⟨h1, h2, h3, h4, h5, h6, h7⟩ := h
  obtain ⟨r1, r2⟩ := h2.same (M' := jj_up M ot (.inr 1, [.long v])) (fun q hq => jj_up_ne _ _ (fun e => h7 (by rw [← e]; exact hq)))
  exact ⟨h1.same (fun x hx => jj_up_ne _ _ (fun e => h6 (by rw [← e]; exact hx))), r1, h3, fun x hx g => h4 x hx ((r2 x).mp g), ⟨v, jj_up_at _ _ _⟩, h6, fun g => h7 ((r2 _).mp g)⟩
theorem HW.ob (h : HW M wa la oa F eu dv hi lo ot σx σ code X Z rc rs) : ∃ fs, M (oa 0) = some (.inl nX, fs) := by
  obtain ⟨V, sc, R, C, k1, k2, k3⟩ := h.1
  exact ⟨_, k2.1⟩
theorem semSolve_v {x y z : Int32} {cd v : Nat} (h : semSolve σ x y z cd v σ') : v ≤ 1 := by
  rcases h with ⟨-, -, h, -⟩ | ⟨k, i, j, -, -, -, -, -, -, h⟩
  · omega
  · rcases h with ⟨-, -, h, -⟩ | ⟨-, h⟩
    · omega
    · rcases h with ⟨-, -, h, -⟩ | ⟨-, h⟩
      · omega
      · rcases h with ⟨-, -, h, -⟩ | ⟨E, rk, p, Y, -, -, -, -, -, h⟩
        · omega
        · rcases h with ⟨-, -, h, -⟩ | ⟨-, -, h, -⟩ <;> omega
theorem semInv_v {x y : Int32} {cd v : Nat} (h : semInv σ x y cd v σ') : v ≤ 1 := by
  rcases h with ⟨-, -, h, -⟩ | ⟨k, i, -, -, -, -, h⟩
  · omega
  · rcases h with ⟨-, -, h, -⟩ | ⟨-, h⟩
    · omega
    · rcases h with ⟨-, -, h, -⟩ | ⟨-, h⟩
      · omega
      · rcases h with ⟨-, -, h, -⟩ | ⟨Y, -, h⟩
        · omega
        · rcases h with ⟨-, -, h, -⟩ | ⟨-, -, h, -⟩ <;> omega
theorem semSame_v {x y : Int32} {cd v : Nat} (h : semSame σ x y cd v) : v ≤ 1 := by
  rcases h with ⟨-, -, h⟩ | ⟨k, i, -, -, -, -, -, h, -⟩
  · omega
  · exact h
end LW2
theorem rp_thrown2 {G : jg} {d : Nat} {Q : jq} {rc rs : Nat} {M : mheap} {r f o st : Nat} {code : Int32} (hG : kG G) (hr : M r = some (.inl nR, [.int (code), .ref f, .ref o, .ref st])) (k : Q (.returned (some (.int code))) M rc rs) : jj G kR_thrown (d + 1) Q rc rs 0 (jj_ent [.ref r] 1) [] M := by
  show jj G kR_thrown (d + 1) Q rc rs 0 [some (.ref r)] [] M
  refine jj_aload_n (pc := 0) kR_thrown_d0 rfl ?_
  refine jj_getf (pc := 1) kR_thrown_d1 (kfR_code hG) hr rfl ?_
  exact jj_iret (pc := 4) kR_thrown_d4 rfl (by rfl) k
theorem kcL_IOB {G : jg} (h : kG G) : Cond.classLink "ExactFormsLaw" 13 "java/lang/IndexOutOfBoundsException" ∈ G.2.2.2.1 := kG_w h kI2 139 rfl rfl
theorem kcL_IAE {G : jg} (h : kG G) : Cond.classLink "ExactFormsLaw" 15 "java/lang/IllegalArgumentException" ∈ G.2.2.2.1 := kG_w h kI2 140 rfl rfl
theorem kcL_UOE {G : jg} (h : kG G) : Cond.classLink "ExactFormsLaw" 21 "java/lang/UnsupportedOperationException" ∈ G.2.2.2.1 := kG_w h kI3 16 rfl rfl
theorem kncL_IOB_IAE {G : jg} (h : kG G) : Cond.not (.castable "java/lang/IndexOutOfBoundsException" "java/lang/IllegalArgumentException") ∈ G.2.2.2.1 := kG_n h (List.mem_of_getElem? (i := 0) rfl)
theorem kncL_IOB_UOE {G : jg} (h : kG G) : Cond.not (.castable "java/lang/IndexOutOfBoundsException" "java/lang/UnsupportedOperationException") ∈ G.2.2.2.1 := kG_n h (List.mem_of_getElem? (i := 1) rfl)
theorem kncL_IAE_IOB {G : jg} (h : kG G) : Cond.not (.castable "java/lang/IllegalArgumentException" "java/lang/IndexOutOfBoundsException") ∈ G.2.2.2.1 := kG_n h (List.mem_of_getElem? (i := 2) rfl)
theorem kncL_IAE_UOE {G : jg} (h : kG G) : Cond.not (.castable "java/lang/IllegalArgumentException" "java/lang/UnsupportedOperationException") ∈ G.2.2.2.1 := kG_n h (List.mem_of_getElem? (i := 3) rfl)
theorem kncL_UOE_IOB {G : jg} (h : kG G) : Cond.not (.castable "java/lang/UnsupportedOperationException" "java/lang/IndexOutOfBoundsException") ∈ G.2.2.2.1 := kG_n h (List.mem_of_getElem? (i := 4) rfl)
theorem kncL_UOE_IAE {G : jg} (h : kG G) : Cond.not (.castable "java/lang/UnsupportedOperationException" "java/lang/IllegalArgumentException") ∈ G.2.2.2.1 := kG_n h (List.mem_of_getElem? (i := 5) rfl)
