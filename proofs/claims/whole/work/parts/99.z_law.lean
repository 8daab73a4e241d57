-- ===== end of PART A; then your names; then what follows =====
/-! THE CLAIM OUT OF ONE WALK OF THE LAW'S BODY. Your part is whole_start (and what it stands on); all else here is the same for every law, but numbers. -/
def R_law : String := "ExactFormsLaw"
def lw_P (b : Addr) (xs : List Int32) (args : Array Value) (s : State) : Prop := args = #[.ref b] ∧ s.IntsAt b xs ∧ xs.length ≤ 4096 ∧ (Jvm.Cond.and given_1 narrow_1).before args s = true
def lw_Q (_ : Array Value) (s : State) (o : Outcome) (t : State) : Prop := o = .returned (some (.int 1)) ∧ Framed s o t [] 601024 7293034
def lw_Z (below : List Frame) (a : Array Value) (s : State) : State → Prop := fun t => ∃ o, t.status = .running ∧ Ended t below o ∧ lw_Q a s o t
/-- the law's own end, with 1 on the stack, nothing written that was there before, its room as the claim has it -/
theorem lw_ret {p : Program} {l : Launch} {e : Env} {s : State} {m : MethodId} {below : List Frame} {meth : Method} {c : Code} {b : Nat} (hx : p.tables.exec = Jvm.exec) (hb : c.code = code) (hr : meth.sig.returnType = ret) (hlocks : meth.locks = false) {pc : Nat} {H : Heap} {ls : Array Slot} (hdg : decode code pc = .ok (.ireturn, 1)) : W p l e room_1 s m #[Value.ref b] below meth c H [] 601024 7293034 (lw_Z below #[Value.ref b] s) (F0 m pc ls [.int 1]) := by
  intro T hT X
  obtain ⟨fs, hret, hrun, hended, hW, hframe⟩ := X.leave (v := some (.int 1)) (hlocks := hlocks) (fun h => by rw [hr] at h; cases h)
  have hmeth' : T.vm.method? m = some meth := X.method'
  refine ⟨T.setFrames fs, ?_, .returned (some (.int 1)), hrun, hended, rfl, ⟨_, rfl⟩, hW, hframe⟩
  jvm_step X.here [X.here.top, hx, hb, hdg, hmeth', hr, ret, narrow_b1]
  (try refine ⟨rfl, ?_⟩); (try refine ⟨rfl, ?_⟩)
  first | (intro acts; rw [hret _ acts rfl rfl rfl]) | rw [hret _ _ rfl rfl rfl]
  exact Steps.refl _
/-- what holds at the law's entry: the machine, the code, the tables' words (any of lw_tbl by 'hts w (by decide +kernel)'), the script of L ints xs at the cell b, what the Statement gives of the start (any of its parts by flat_of_before) -/
def lw_At (p : Program) (s : State) (m : MethodId) (meth : Method) (c : Code) (b L : Nat) (xs : Nat → Int32) : Prop :=
  p.tables.exec = Jvm.exec ∧ c.code = code ∧ meth.sig.returnType = ret ∧ c.maxLocals = 7 ∧ s.vm.findClass R_law = some m.cls ∧ (∀ w ∈ lw_tbl, w.before #[Value.ref b] s = true) ∧ va_X b L xs s s.heap ∧ b < s.heap.size ∧ meth.locks = false ∧ (Jvm.Cond.and given_1 narrow_1).before #[Value.ref b] s = true
/-! ===== the walk of the law, out of law_main ===== -/
theorem kW0_in : ∀ w ∈ u_ws "ExactFormsModel$Wholes" kT0 3, w ∈ lw_tbl := fun w hw => by
  have e : u_ws "ExactFormsModel$Wholes" kT0 3 = [1436, 1438, 1440].filterMap (fun i => lw_tbl[i]?) := by decide +kernel
  rw [e] at hw
  obtain ⟨i, -, hi⟩ := List.mem_filterMap.mp hw
  exact List.mem_of_getElem? hi
theorem kU0 {s : State} {args : Array Value} (hts : ∀ w ∈ lw_tbl, w.before args s = true) : ∃ (cC : ClassId) (iS : Nat → Nat), u_Kn s "ExactFormsModel$Wholes" kT0 3 cC iS := u_known hts (fun w h => (kW0_in w h)) (hts (.instantiable "ExactFormsModel$Wholes" 3) (kI6 _ (List.mem_of_getElem? (i := 151) rfl)))
theorem kW1_in : ∀ w ∈ u_ws "ExactFormsModel$Fractions" kT1 7, w ∈ lw_tbl := fun w hw => by
  have e : u_ws "ExactFormsModel$Fractions" kT1 7 = [1461, 1463, 1465, 1467, 1469, 1471, 1473].filterMap (fun i => lw_tbl[i]?) := by decide +kernel
  rw [e] at hw
  obtain ⟨i, -, hi⟩ := List.mem_filterMap.mp hw
  exact List.mem_of_getElem? hi
theorem kU1 {s : State} {args : Array Value} (hts : ∀ w ∈ lw_tbl, w.before args s = true) : ∃ (cC : ClassId) (iS : Nat → Nat), u_Kn s "ExactFormsModel$Fractions" kT1 7 cC iS := u_known hts (fun w h => (kW1_in w h)) (hts (.instantiable "ExactFormsModel$Fractions" 7) (kI6 _ (List.mem_of_getElem? (i := 145) rfl)))
theorem kW2_in : ∀ w ∈ u_ws "ExactFormsModel$Forms" kT2 6, w ∈ lw_tbl := fun w hw => by
  have e : u_ws "ExactFormsModel$Forms" kT2 6 = [1488, 1490, 1492, 1494, 1496, 1498].filterMap (fun i => lw_tbl[i]?) := by decide +kernel
  rw [e] at hw
  obtain ⟨i, -, hi⟩ := List.mem_filterMap.mp hw
  exact List.mem_of_getElem? hi
theorem kU2 {s : State} {args : Array Value} (hts : ∀ w ∈ lw_tbl, w.before args s = true) : ∃ (cC : ClassId) (iS : Nat → Nat), u_Kn s "ExactFormsModel$Forms" kT2 6 cC iS := u_known hts (fun w h => (kW2_in w h)) (hts (.instantiable "ExactFormsModel$Forms" 6) (kI6 _ (List.mem_of_getElem? (i := 206) rfl)))
theorem kW3_in : ∀ w ∈ u_ws "ExactFormsModel" kT3 4, w ∈ lw_tbl := fun w hw => by
  have e : u_ws "ExactFormsModel" kT3 4 = [1544, 1546, 1548, 1550].filterMap (fun i => lw_tbl[i]?) := by decide +kernel
  rw [e] at hw
  obtain ⟨i, -, hi⟩ := List.mem_filterMap.mp hw
  exact List.mem_of_getElem? hi
theorem kU3 {s : State} {args : Array Value} (hts : ∀ w ∈ lw_tbl, w.before args s = true) : ∃ (cC : ClassId) (iS : Nat → Nat), u_Kn s "ExactFormsModel" kT3 4 cC iS := u_known hts (fun w h => (kW3_in w h)) (hts (.instantiable "ExactFormsModel" 4) (kI6 _ (List.mem_of_getElem? (i := 139) rfl)))
theorem kU4 {s : State} {args : Array Value} (hts : ∀ w ∈ lw_tbl, w.before args s = true) : ∃ (cC : ClassId) (iS : Nat → Nat), u_Kn s "java/lang/IndexOutOfBoundsException" kT4 0 cC iS := u_known hts (fun w h => by simp [u_ws] at h) (hts (.instantiable "java/lang/IndexOutOfBoundsException" 6) (kI2 _ (List.mem_of_getElem? (i := 150) rfl)))
theorem kU5 {s : State} {args : Array Value} (hts : ∀ w ∈ lw_tbl, w.before args s = true) : ∃ (cC : ClassId) (iS : Nat → Nat), u_Kn s "java/lang/IllegalArgumentException" kT5 0 cC iS := u_known hts (fun w h => by simp [u_ws] at h) (hts (.instantiable "java/lang/IllegalArgumentException" 6) (kI2 _ (List.mem_of_getElem? (i := 222) rfl)))
theorem kU6 {s : State} {args : Array Value} (hts : ∀ w ∈ lw_tbl, w.before args s = true) : ∃ (cC : ClassId) (iS : Nat → Nat), u_Kn s "java/lang/UnsupportedOperationException" kT6 0 cC iS := u_known hts (fun w h => by simp [u_ws] at h) (hts (.instantiable "java/lang/UnsupportedOperationException" 6) (kI3 _ (List.mem_of_getElem? (i := 39) rfl)))
theorem kW7_in : ∀ w ∈ u_ws "ExactForms$Whole" kT7 3, w ∈ lw_tbl := fun w hw => by
  have e : u_ws "ExactForms$Whole" kT7 3 = [143, 145, 147].filterMap (fun i => lw_tbl[i]?) := by decide +kernel
  rw [e] at hw
  obtain ⟨i, -, hi⟩ := List.mem_filterMap.mp hw
  exact List.mem_of_getElem? hi
theorem kU7 {s : State} {args : Array Value} (hts : ∀ w ∈ lw_tbl, w.before args s = true) : ∃ (cC : ClassId) (iS : Nat → Nat), u_Kn s "ExactForms$Whole" kT7 3 cC iS := u_known hts (fun w h => (kW7_in w h)) (hts (.instantiable "ExactForms$Whole" 3) (kI1 _ (List.mem_of_getElem? (i := 49) rfl)))
theorem kW8_in : ∀ w ∈ u_ws "ExactForms$Divider" kT8 4, w ∈ lw_tbl := fun w hw => by
  have e : u_ws "ExactForms$Divider" kT8 4 = [200, 202, 204, 206].filterMap (fun i => lw_tbl[i]?) := by decide +kernel
  rw [e] at hw
  obtain ⟨i, -, hi⟩ := List.mem_filterMap.mp hw
  exact List.mem_of_getElem? hi
theorem kU8 {s : State} {args : Array Value} (hts : ∀ w ∈ lw_tbl, w.before args s = true) : ∃ (cC : ClassId) (iS : Nat → Nat), u_Kn s "ExactForms$Divider" kT8 4 cC iS := u_known hts (fun w h => (kW8_in w h)) (hts (.instantiable "ExactForms$Divider" 4) (kI1 _ (List.mem_of_getElem? (i := 109) rfl)))
theorem kW9_in : ∀ w ∈ u_ws "ExactForms$Euclid" kT9 11, w ∈ lw_tbl := fun w hw => by
  have e : u_ws "ExactForms$Euclid" kT9 11 = [232, 234, 236, 238, 240, 242, 244, 246, 248, 250, 252].filterMap (fun i => lw_tbl[i]?) := by decide +kernel
  rw [e] at hw
  obtain ⟨i, -, hi⟩ := List.mem_filterMap.mp hw
  exact List.mem_of_getElem? hi
theorem kU9 {s : State} {args : Array Value} (hts : ∀ w ∈ lw_tbl, w.before args s = true) : ∃ (cC : ClassId) (iS : Nat → Nat), u_Kn s "ExactForms$Euclid" kT9 11 cC iS := u_known hts (fun w h => (kW9_in w h)) (hts (.instantiable "ExactForms$Euclid" 11) (kI1 _ (List.mem_of_getElem? (i := 139) rfl)))
theorem kW10_in : ∀ w ∈ u_ws "ExactForms$Desk" kT10 8, w ∈ lw_tbl := fun w hw => by
  have e : u_ws "ExactForms$Desk" kT10 8 = [288, 290, 292, 294, 296, 298, 300, 302].filterMap (fun i => lw_tbl[i]?) := by decide +kernel
  rw [e] at hw
  obtain ⟨i, -, hi⟩ := List.mem_filterMap.mp hw
  exact List.mem_of_getElem? hi
theorem kU10 {s : State} {args : Array Value} (hts : ∀ w ∈ lw_tbl, w.before args s = true) : ∃ (cC : ClassId) (iS : Nat → Nat), u_Kn s "ExactForms$Desk" kT10 8 cC iS := u_known hts (fun w h => (kW10_in w h)) (hts (.instantiable "ExactForms$Desk" 8) (kI1 _ (List.mem_of_getElem? (i := 103) rfl)))
theorem kW11_in : ∀ w ∈ u_ws "ExactForms$Fraction" kT11 3, w ∈ lw_tbl := fun w hw => by
  have e : u_ws "ExactForms$Fraction" kT11 3 = [412, 414, 416].filterMap (fun i => lw_tbl[i]?) := by decide +kernel
  rw [e] at hw
  obtain ⟨i, -, hi⟩ := List.mem_filterMap.mp hw
  exact List.mem_of_getElem? hi
theorem kU11 {s : State} {args : Array Value} (hts : ∀ w ∈ lw_tbl, w.before args s = true) : ∃ (cC : ClassId) (iS : Nat → Nat), u_Kn s "ExactForms$Fraction" kT11 3 cC iS := u_known hts (fun w h => (kW11_in w h)) (hts (.instantiable "ExactForms$Fraction" 3) (kI2 _ (List.mem_of_getElem? (i := 89) rfl)))
theorem kW12_in : ∀ w ∈ u_ws "ExactForms$Matrix" kT12 4, w ∈ lw_tbl := fun w hw => by
  have e : u_ws "ExactForms$Matrix" kT12 4 = [164, 166, 168, 170].filterMap (fun i => lw_tbl[i]?) := by decide +kernel
  rw [e] at hw
  obtain ⟨i, -, hi⟩ := List.mem_filterMap.mp hw
  exact List.mem_of_getElem? hi
theorem kU12 {s : State} {args : Array Value} (hts : ∀ w ∈ lw_tbl, w.before args s = true) : ∃ (cC : ClassId) (iS : Nat → Nat), u_Kn s "ExactForms$Matrix" kT12 4 cC iS := u_known hts (fun w h => (kW12_in w h)) (hts (.instantiable "ExactForms$Matrix" 4) (kI1 _ (List.mem_of_getElem? (i := 42) rfl)))
theorem kW13_in : ∀ w ∈ u_ws "ExactForms$Elimination" kT13 11, w ∈ lw_tbl := fun w hw => by
  have e : u_ws "ExactForms$Elimination" kT13 11 = [330, 332, 334, 336, 338, 340, 342, 344, 346, 348, 350].filterMap (fun i => lw_tbl[i]?) := by decide +kernel
  rw [e] at hw
  obtain ⟨i, -, hi⟩ := List.mem_filterMap.mp hw
  exact List.mem_of_getElem? hi
theorem kU13 {s : State} {args : Array Value} (hts : ∀ w ∈ lw_tbl, w.before args s = true) : ∃ (cC : ClassId) (iS : Nat → Nat), u_Kn s "ExactForms$Elimination" kT13 11 cC iS := u_known hts (fun w h => (kW13_in w h)) (hts (.instantiable "ExactForms$Elimination" 11) (kI1 _ (List.mem_of_getElem? (i := 235) rfl)))
theorem kW14_in : ∀ w ∈ u_ws "ExactForms$Residues" kT14 12, w ∈ lw_tbl := fun w hw => by
  have e : u_ws "ExactForms$Residues" kT14 12 = [374, 376, 378, 380, 382, 384, 386, 388, 390, 392, 394, 396].filterMap (fun i => lw_tbl[i]?) := by decide +kernel
  rw [e] at hw
  obtain ⟨i, -, hi⟩ := List.mem_filterMap.mp hw
  exact List.mem_of_getElem? hi
theorem kU14 {s : State} {args : Array Value} (hts : ∀ w ∈ lw_tbl, w.before args s = true) : ∃ (cC : ClassId) (iS : Nat → Nat), u_Kn s "ExactForms$Residues" kT14 12 cC iS := u_known hts (fun w h => (kW14_in w h)) (hts (.instantiable "ExactForms$Residues" 12) (kI2 _ (List.mem_of_getElem? (i := 44) rfl)))
theorem kW15_in : ∀ w ∈ u_ws "ExactForms" kT15 9, w ∈ lw_tbl := fun w hw => by
  have e : u_ws "ExactForms" kT15 9 = [428, 430, 432, 434, 436, 438, 440, 442, 444].filterMap (fun i => lw_tbl[i]?) := by decide +kernel
  rw [e] at hw
  obtain ⟨i, -, hi⟩ := List.mem_filterMap.mp hw
  exact List.mem_of_getElem? hi
theorem kU15 {s : State} {args : Array Value} (hts : ∀ w ∈ lw_tbl, w.before args s = true) : ∃ (cC : ClassId) (iS : Nat → Nat), u_Kn s "ExactForms" kT15 9 cC iS := u_known hts (fun w h => (kW15_in w h)) (hts (.instantiable "ExactForms" 9) (kI1 _ (List.mem_of_getElem? (i := 33) rfl)))
theorem kU {s : State} {args : Array Value} (hts : ∀ w ∈ lw_tbl, w.before args s = true) : ∀ q ∈ kcl, ∃ (cC : ClassId) (iS : Nat → Nat), u_Kn s q.1 q.2.1 q.2.2 cC iS := by
  simp only [kcl, List.forall_mem_cons]
  exact ⟨kU0 hts, kU1 hts, kU2 hts, kU3 hts, kU4 hts, kU5 hts, kU6 hts, kU7 hts, kU8 hts, kU9 hts, kU10 hts, kU11 hts, kU12 hts, kU13 hts, kU14 hts, kU15 hts, fun _ h => absurd h List.not_mem_nil⟩
theorem kA {s : State} {args : Array Value} (hts : ∀ w ∈ lw_tbl, w.before args s = true) : ∀ ty ∈ ktys, ∃ cA : ClassId, ArrOfT s cA ty ∧ va_RA s cA ty := by
  simp only [ktys, List.forall_mem_cons]
  exact ⟨jj_arrP (fun C h => by cases h) (hts (.arrayClass .int) (kI1 _ (List.mem_of_getElem? (i := 79) rfl))), jj_arrP (fun C h => by cases h) (hts (.arrayClass .long) (kI9 _ (List.mem_of_getElem? (i := 19) rfl))), jj_arrP (fun C h => by cases h) (hts (.arrayClass .boolean) (kI2 _ (List.mem_of_getElem? (i := 42) rfl))), jj_arrO (hts (.arrayOver (.object "ExactForms$Whole")) (kI1 _ (List.mem_of_getElem? (i := 48) rfl))), jj_arrO (hts (.arrayOver (.object "ExactForms$Matrix")) (kI1 _ (List.mem_of_getElem? (i := 41) rfl))), jj_arrO (hts (.arrayOver (.object "ExactFormsModel$Fractions")) (kI6 _ (List.mem_of_getElem? (i := 230) rfl))), fun _ h => absurd h List.not_mem_nil⟩
theorem kgt_gw : ∀ w ∈ kgt, jj_gw w := by
  intro w hw
  rcases List.mem_append.mp hw with h | h
  · exact jj_gwb_ok (List.mem_filter.mp h).2
  · exact jj_gwb_ok (List.all_eq_true.mp (by decide +kernel : knc.all jj_gwb = true) w h)
/-- THE LAW'S BODY, over small states: what the whole proof comes to -/
theorem law_main {G : jg} (hG : kG G) {N : Nat} {xs : Nat → Int32} (hs : jj_scr G N xs) (hN : N ≤ 4096) : jj G kL_law 60 (fun o _ _ _ => o = .returned (some (.int 1))) 601024 7293034 0 (jj_ent [.ref G.2.2.2.2.2] 7) [] (fun _ => none) := by
  exact law_body (d := 43) hG hs hN (fun _ _ _ => rfl)
theorem whole_start {p : Program} {e : Env} {s : State} {m : MethodId} {below : List Frame} {meth : Method} {c : Code} (l : Launch) {b L : Nat} {xs : Nat → Int32} (hL : L ≤ 4096) (C0 : lw_At p s m meth c b L xs) (hadm : e.platform.stackTraces = false) (hex : c.exceptionTable = #[]) (hnm : meth.name = "law") : W p l e room_1 s m #[Value.ref b] below meth c s.heap [] 0 0 (lw_Z below #[Value.ref b] s) (entryFrame m ([Value.ref b] : List Value).toArray 7) := by
  obtain ⟨hx, hb, hr, hml, hown, hts, hX, hbl, hlocks, hgv⟩ := C0
  obtain ⟨D, hD⟩ := jj_nums kcl (kU hts)
  obtain ⟨tys, et, hT⟩ := jj_arrs ktys (kA hts)
  obtain ⟨scr, x1, x2, x3, x4, x5⟩ := hX
  have hfl := flat_of_before _ hgv
  have hnc : ∀ w ∈ knc, w.before #[Value.ref b] s = true := by
    simp only [knc, List.forall_mem_cons]
    exact ⟨hfl _ (by decide +kernel), hfl _ (by decide +kernel), hfl _ (by decide +kernel), hfl _ (by decide +kernel), hfl _ (by decide +kernel), hfl _ (by decide +kernel), fun _ h => absurd h List.not_mem_nil⟩
  let G : jg := (D, kcl, tys, kgt, s.heap, b)
  have hG : kG G := ⟨rfl, rfl, et⟩
  have hscr : jj_scr G L xs := ⟨scr, x1, x3, x4, by omega, x5⟩
  have F : jj_fx p e s m #[Value.ref b] meth c kL_law G := by
    refine ⟨hx, hb, hml, hr, hlocks, hown, hnm, by rw [hex]; rfl, fun w hw => ?_, ⟨hD, hT⟩, hadm, kgt_gw, fun _ _ => rfl, fun q cl hq hc => ?_, jj_isref_args (args := #[]) (hfl (Cond.isRef (.static Bundle.tN "UNASSIGNED_STACK" Bundle.steD)) (by decide +kernel)), jj_isref_args (args := #[]) (hfl (Cond.isRef (.static Bundle.tN "SUPPRESSED_SENTINEL" Bundle.listD)) (by decide +kernel)), jj_isls_args (args := #[]) (hts _ (kI2 _ (List.mem_of_getElem? (i := 176) rfl))), jj_isls_args (args := #[]) (hts _ (kI2 _ (List.mem_of_getElem? (i := 178) rfl))), fun cell hc => ?_⟩
    · rcases List.mem_append.mp hw with h | h
      · exact hts w (List.mem_filter.mp h).1
      · exact hnc w h
    · exact absurd (Array.getElem?_eq_some_iff.mp hc).1 (Nat.not_lt.mpr hq)
    · cases x1.symm.trans hc
      exact x2
  have A : jj_rel G (fun _ => none) s.heap := ⟨Nat.le_refl _, ⟨fun _ _ => rfl, fun q cl hq hc => absurd (Array.getElem?_eq_some_iff.mp hc).1 (Nat.not_lt.mpr hq)⟩, fun a x h => by cases h⟩
  rw [lg_entry_eq]
  intro T hT1 X
  obtain ⟨t, a1, o, L1, k, n, b1, b2, b3, b4, b5, M', rc', rs', c1, c2, c3, c4⟩ := law_main hG hscr hL p l e room_1 s m #[Value.ref b] below meth c s.heap [] 0 0 _ F A (fun q hq => by cases hq) (jj_ent_lr [Value.ref b] (Nat.le_of_ble_eq_true rfl)) (by decide) (by decide) (by decide) (by decide) T hT1 X
  subst c4
  have ck : k ≤ 601024 := Nat.le_trans (Nat.le_add_right k rc') c2
  have cn : n ≤ 7293034 := Nat.le_trans (Nat.le_add_right n rs') c3
  refine ⟨t, a1, _, b1, b2, rfl, ⟨_, rfl⟩, b3, b4.weaken (fun y hy hlt => ?_) ck cn⟩
  exact absurd hlt (Nat.not_lt.mpr (b5 y hy))
set_option maxHeartbeats 4000000 in
theorem lw_walk (l : Launch) (hfl : l.flags = flags0) (b : Addr) (xs : List Int32) : MetFree l x (headSpec (Jvm.Cond.code x code maxLocals ret :: tables_1) room_1) (lw_P b xs) (fun _ _ _ _ _ => True) lw_Q := by
  refine MetFree.of_bodyS (code := code) (maxLocals := maxLocals) (ret := ret) (by decide) ?_ ?_
  · intro args s m h hn
    obtain ⟨meth, c, h1, h2, h3, h4, h5, h6, -, -⟩ := Cond.code_spec hn (atoms_spec (ws := Jvm.Cond.code x code maxLocals ret :: tables_1) h _ List.mem_cons_self)
    exact ⟨meth, c, h1, h2, h3, h4, h5, h6⟩
  · intro p e s m args below meth c s₁ B hml0 hP _
    obtain ⟨rfl, hx, hbd, hgv⟩ := hP
    obtain ⟨scr, harrAt, hlist, hof, hsmall⟩ := hx
    obtain ⟨hcb, hkn, -, -⟩ := State.arrayAt?_spec harrAt
    have hown : s.vm.findClass R_law = some m.cls := findClass_of_methodNamed B.named
    have hts0 : ∀ c ∈ (Jvm.Cond.code x code maxLocals ret :: tables_1), c.before #[Value.ref b] s = true := atoms_spec (ws := Jvm.Cond.code x code maxLocals ret :: tables_1) B.pre
    have hts : ∀ w ∈ lw_tbl, w.before #[Value.ref b] s = true := k2_hts_sels lw_privs (fun w hw => hts0 w (List.mem_cons_of_mem _ hw)) lw_privs_ok
    have hml : c.maxLocals = 7 := B.maxLocals_eq (hts0 _ List.mem_cons_self)
    have X₀ : Stand p l e room_1 s m #[Value.ref b] below meth c s₁ [] 0 0 := Stand.of_body B
    have hh0 : s₁.heap = s.heap := by rw [B.state]; rfl
    have hsz : scr.slots.size = xs.length := by rw [← Array.length_toList, hlist, List.length_map]
    have hval : ∀ j : Nat, j < xs.length → scr.slots[j]? = some (.int (xs.getD j 0)) := fun j hj => by
      rw [← Array.getElem?_toList, hlist]
      simp [hj]
    have hbl : b < s.heap.size := (Array.getElem?_eq_some_iff.mp hcb).1
    have hX : va_X b xs.length (fun j => xs.getD j 0) s s.heap := ⟨scr, hcb, hof, hkn, hsz, hval⟩
    have K : W p l e room_1 s m #[Value.ref b] below meth c s₁.heap [] 0 0 (lw_Z below #[Value.ref b] s) (entryFrame m ([Value.ref b] : List Value).toArray 7) := by
      rw [hh0]
      refine whole_start l hbd ⟨B.exec, B.bytes, B.returns, hml, hown, hts, hX, hbl, B.notSynchronized, hgv⟩ (Launch.traces_off hfl B.admits) ?_ (name_of_methodNamed B.named B.method).1
      obtain ⟨meth', c', q1, q2, -, -, -, -, q3, -⟩ := Cond.code_spec B.named (hts0 _ List.mem_cons_self)
      cases B.method.symm.trans q1
      have hcc : meth.code = some c := X₀.code
      cases hcc.symm.trans q2
      exact Array.isEmpty_iff.mp q3
    obtain ⟨t, a1, o, b1, b2, b3⟩ := K s₁ rfl X₀
    exact ⟨t, o, a1, b1, b2, b3⟩
theorem lw_pre_spec {args : Array Value} {s : State} (h : (Jvm.Cond.and given_1 narrow_1).before args s = true) (hr : rest_1_c.before args s = true) : ∃ (b : Addr) (xs : List Int32), lw_P b xs args s := by
  have hs := flat_of_before _ h
  have hq := flat_of_before _ hr
  have hc : (Cond.count 1).before args s = true := hs _ (by decide +kernel)
  have harr : (Cond.arrayOf (.arg 0) .int).before args s = true := hs _ (by decide +kernel)
  have hle : (Cond.le (.length (.arg 0)) (.int 4096)).before args s = true := hs _ (by decide +kernel)
  have hlen : (Cond.isInt (.length (.arg 0))).before args s = true := hq _ (by decide +kernel)
  have hall : (Cond.all (.arg 0) (.isInt (.elem (.arg 0) (.index 0)))).before args s = true := hq _ (by decide +kernel)
  obtain ⟨b, xs, hb, hx⟩ := State.ints_of_pre rfl harr hlen hall
  have hsm : xs.length < 2 ^ 31 := hx.choose_spec.2.2.2
  have hev : (Term.length (.arg 0)).eval args s none [] s = some (.int xs.length.toInt32) := hx.length_eval hb
  have hv := Cond.le_ints hev (show (Term.int 4096).eval args s none [] s = some (.int 4096) from rfl)
  have hd : xs.length.toInt32 ≤ 4096 := by
    simpa [Cond.before, Cond.holds, hv] using hle
  have hN : xs.length ≤ 4096 := (Int32.ofNat_le_ofNat hsm (by decide)).mp (show Int32.ofNat xs.length ≤ Int32.ofNat 4096 from hd)
  exact ⟨b, xs, Cond.one_arg hc (show args[0]? = some (.ref b) from hb), hx, hN, h⟩
theorem lw_comes (l : Launch) (hfl : l.flags = flags0) : Comes l x (Jvm.Cond.code x code maxLocals ret :: tables_1) room_1 (fun tb e args s => Calls_1 tb e args s ∧ rest_1 tb e args s ∧ Pre_1 tb e args s)
    (fun _ _ args s o t => lw_Q args s o t) := by
  intro p e ha hc hk s m args below hf hfit hheap happ hpre
  obtain ⟨b, xs, hP⟩ := lw_pre_spec hpre.2.2 hpre.2.1
  obtain ⟨k, o, h1, h2, h3, hQ⟩ := lw_walk l hfl b xs p e ha hc hk s m args below hf ((Spec.applies_iff_loose hf).mp happ).1 hP trivial
  exact ⟨k, o, h1, h2, h3, hQ⟩
theorem lw_frame {s t : State} {o : Outcome} {args : Array Value} (h : Framed s o t [] 601024 7293034) :
    Framed s o t (fieldLocs frame_1_writes args s ++ arrayLocs frame_1_arrays args s ++ staticLocs frame_1_statics s) 601024 7293034 := h
theorem lw_limb (L : Cond) (hL : ∀ (args : Array Value) (s t : State), L.after args s (.returned (some (.int 1))) t = true) :
    ArmFor flags0 classFile x code maxLocals ret World_1 tables_1 room_1 Calls_1 rest_1 Pre_1
      (fun tb e a s o t => postC L tb e a s o t ∧ Framed s o t (fieldLocs frame_1_writes a s ++ arrayLocs frame_1_arrays a s ++ staticLocs frame_1_statics s) 601024 7293034) := by
  intro l hfl _ _ p e ha hc hk s m args below hf hfit hheap happ hpre
  obtain ⟨k, o, h1, h2, h3, rfl, hF⟩ := lw_comes l hfl p e ha hc hk s m args below hf hfit hheap happ hpre
  exact ⟨k, _, h1, h2, h3, hL args s _, lw_frame hF⟩
theorem i_vc : Claimed_1_1 ∧ Claimed_1_2 := ⟨lw_limb limb_1_1 (fun args s t => by simp [limb_1_1, Cond.after, Cond.holds, Cond.value]), lw_limb limb_1_2 (fun args s t => Cond.after_iff.mpr (by
  first | (rw [show limb_1_2 = Cond.eq .result (.int 1) from rfl, Cond.eq_ints (x := 1) (y := 1) rfl rfl]; simp; done) | (simp [limb_1_2, Cond.value, Term.eval]; done)))⟩
