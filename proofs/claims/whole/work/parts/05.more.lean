/-! ===== MORE: Object's constructor, String constants, a throw out of the method, System.arraycopy ===== -/
section JM
variable {G : jg} {Y Y' : jm} {d : Nat} {Q : jq} {rc rs pc : Nat} {L : List (Option Value)} {st : List Value} {M : mheap}
theorem jj_objInit {index a : Nat} (hd : decode Y.2.1 pc = .ok (.invokespecial index, 3)) (w1 : Cond.methodLink Y.1.cls index Lib.objectInit ∈ G.2.2.2.1) (w2 : Cond.instanceMethod Lib.objectInit ∈ G.2.2.2.1) (w3 : Cond.code Lib.objectInit ⟨#[0xb1]⟩ 1 none ∈ G.2.2.2.1) (hL : L.length = Y.2.2.1) (hst : (st.map fun v => v.category).sum ≤ 80) (kk : jj G Y (d + 1) Q rc rs (pc + 3) L st M) : jj G Y (d + 1) Q rc rs pc L (.ref a :: st) M := by
  intro p l e R s m args below meth c H locs cells slots ls F A B C E1 E2 E3 E4
  have kw := kk p l e R s m args below meth c H locs cells slots ls F A B C E1 E2 E3 E4
  obtain ⟨f1, f2, f3, f4, f5, f6, f7, f8, f9, f10, f11⟩ := F
  exact W.objInit f1 f2 f6 (f9 _ w1) (f9 _ w2) (f9 _ w3) rfl (by rw [f3, ← hL]; exact C.1) rfl hd (by omega) (by show 2 * 0 + _ + 12 ≤ _; omega) kw
theorem jj_ldcwS {p : Program} {l : Launch} {e : Env} {R : Room} {s : State} {m : MethodId} {args : Array Value} {below : List Frame} {meth : Method} {c : Code} {T : State} {locs : List Loc} {cells slots : Nat} (X : Stand p l e R s m args below meth c T locs cells slots) (hexec : p.tables.exec = Jvm.exec) {own text : String} {index : Nat} {a : Addr} (hown : s.vm.findClass own = some m.cls)
    (hconst : (Cond.stringRef own index text).before args s = true) (hev : (Term.string own index).eval args s none [] s = some (.ref a)) {g : JFrame} (hg : g.method = m) (hdg : decode c.code g.pc = .ok (.ldc_w index, 3)) :
    ∀ target, Steps p.tables e below (T.setTop { g with pc := g.pc + 3, stack := .ref a :: g.stack }) target → Steps p.tables e below (T.setTop g) target := by
  obtain ⟨k, cf, i, a', hk, hcf, hcp, -, hr, hev'⟩ := Cond.stringRef_spec hown hconst
  cases hev.symm.trans hev'
  obtain ⟨k', hk', he⟩ := X.warmed.alike.2.2 _ _ hk
  have hr' : k'.resolved[index]? = some (some (.string a)) := by
    rcases X.warmed.entry hk hk' index with h | ⟨h, -⟩
    · rw [h]; exact hr
    · rw [hr] at h; cases h
  intro target hrest
  subst hg
  jvm_step X.here [hexec, hdg, ldc_w.wp_string (e := e) (s := T) (f := g) X.here.top hk' (by rw [he]; exact hcf) hcp hr']
  exact hrest
/-- what a throw of a new X("text") needs of the tables; class ci of G is X, of which no field is followed -/
def jj_tx (G : jg) (own : String) (ix is ic ci : Nat) (X text : String) (names : List String) : Prop := (∃ T : u_T, G.2.1[ci]? = some (X, T, 0)) ∧ Cond.classLink own ix X ∈ G.2.2.2.1 ∧ Cond.initialized X ∈ G.2.2.2.1 ∧ Cond.instantiable X 6 ∈ G.2.2.2.1 ∧ Cond.stringRef own is text ∈ G.2.2.2.1 ∧ Bundle.fit X = true ∧ (∀ n ∈ names, Bundle.fit n = true) ∧ names.length ≤ 4 ∧
  ∀ w ∈ Bundle.ownAtoms own ic X names, w ∈ G.2.2.2.1 ∨ w = Cond.isRef (.static Bundle.tN "UNASSIGNED_STACK" Bundle.steD) ∨ w = Cond.isRef (.static Bundle.tN "SUPPRESSED_SENTINEL" Bundle.listD) ∨ w = Cond.laysStatic Bundle.tN "UNASSIGNED_STACK" Bundle.steD ∨ w = Cond.laysStatic Bundle.tN "SUPPRESSED_SENTINEL" Bundle.listD
theorem jj_isref_args {s : State} {C n dd : String} {args : Array Value} (h : (Cond.isRef (.static C n dd)).before #[] s = true) : (Cond.isRef (.static C n dd)).before args s = true := h
theorem jj_isls_args {s : State} {C n dd : String} {args : Array Value} (h : (Cond.laysStatic C n dd).before #[] s = true) : (Cond.laysStatic C n dd).before args s = true := h
/-- the constructor X(String) of a fresh exception, traces off: nothing but its own cell moves -/
theorem jj_ctorS {p : Program} {l : Launch} {e : Env} {R : Room} {s : State} {m : MethodId} {args : Array Value} {below : List Frame} {meth : Method} {c : Code} {U : State} {locs : List Loc} {cells slots : Nat} (X : Stand p l e R s m args below meth c U locs cells slots) (hexec : p.tables.exec = Jvm.exec) (htr : e.platform.stackTraces = false) {own cls : String} {names : List String} {ic : Nat} (hown : s.vm.findClass own = some m.cls) (hcls : Bundle.fit cls = true) (hnames : ∀ n ∈ names, Bundle.fit n = true) (h : ∀ a ∈ Bundle.ownAtoms own ic cls names, a.before args s = true) (hlocs : ∀ x ∈ locs, ∀ cell, s.heap[x.base]? = some cell → cell.vm.isStatics = false)
    {a : Addr} {cX : ClassId} {kX : Class} (hfX : s.vm.findClass cls = some cX) (hkX : s.vm.classes[cX]? = some kX) (hcell : U.heap[a]? = some (freshCell cX kX)) (hnew : s.heap.size ≤ a) {msg : Value} (hmsg : msg.isRef = true) {g : JFrame} (hg : g.method = m) (hsize : g.locals.size = c.maxLocals) {rest : List Value} (hstack : g.stack = msg :: .ref a :: .ref a :: rest) (hd : decode c.code g.pc = .ok (.invokespecial ic, 3))
    (hRf : names.length + 3 < R.frames) (hRl : 2 * g.monitorRoom + ((Value.ref a :: rest).map fun v => v.category).sum + (13 * (names.length + 1) + 42) ≤ R.locals) :
    ∃ (vm' : Vm) (ce : Cell) (locs' : List Loc), ce.cls = cX ∧ ce.vm = .none ∧ (∀ x ∈ locs', x.base = a) ∧ Stand p l e R s m args below meth c ((U.setVm vm').setCell a ce) (locs ++ locs') cells slots ∧
      ∀ target, Steps p.tables e below (((U.setVm vm').setCell a ce).setTop { g with pc := g.pc + 3, stack := .ref a :: rest }) target → Steps p.tables e below (U.setTop g) target := by
  have hadm := X.admits.platform
  have p1 : e.platform.frameOwnsMonitors = true := by rw [hadm]
  have p2 : e.platform.finalization = false := by rw [hadm]
  have p3 : e.platform.magicAccessors = ({} : Platform).magicAccessors := by rw [hadm]
  have mem : ∀ {w : Cond}, w ∈ Bundle.ownAtoms own ic cls names → w.holds args s none s [] = true := fun hw => h _ hw
  obtain ⟨T, Z0, lk, -, yy⟩ := ThrowableC.of_atoms (args := args) p1 p2 p3 (fun x hx => h x (by simp [Bundle.ownAtoms, hx]))
  obtain ⟨Z, Mc, lz, lm, nz⟩ := Init0T.ofS_atoms (args := args) p3 lk yy (fun x hx => h x (by simp [Bundle.ownAtoms, hx]))
  obtain ⟨P1, Ps, hlen, l1, lP, hP1, hk1, hk2⟩ := Bundle.chainS (args := args) p3 nz names cls hcls hnames (fun x hx => h x (by simp [Bundle.ownAtoms, hx]))
  have hfound : s.vm.findClass cls = some P1.m.cls := findClass_of_methodNamed hP1
  cases Option.some.inj (hfX.symm.trans hfound)
  obtain ⟨c1, kX', hc1, hk, hord, -, -, -⟩ := Cond.instantiable_spec (mem (w := .instantiable cls 6) (by simp [Bundle.ownAtoms]))
  cases Option.some.inj (hc1.symm.trans hfound)
  cases Option.some.inj (hkX.symm.trans hk)
  have sel : ∀ (y : MethodName) (r : MethodId), s.methodNamed? y = some r → (y.cls ≠ "java/lang/invoke/MethodHandle" ∧ y.cls ≠ "java/lang/invoke/VarHandle") → Cond.selects cls y y ∈ Bundle.ownAtoms own ic cls names → selectMethod e.platform s.vm P1.m.cls r = .method r := by
    intro y r hr hne hw
    obtain ⟨c2, r2, m2, q1, q2, q3, q4, -⟩ := Cond.selects_spec (mem hw)
    cases Option.some.inj (q1.symm.trans hfound)
    cases Option.some.inj (q2.symm.trans (State.methodFound?_of_named hr hne))
    cases Option.some.inj (q3.symm.trans hr)
    rw [Launch.admits_selectMethod X.admits]
    exact q4
  have s0 := sel Bundle.tFill0 T.fill0 yy.fill0 (by decide) (by simp [Bundle.ownAtoms])
  have s1 := sel Bundle.tFill T.fill yy.fill (by decide) (by simp [Bundle.ownAtoms])
  obtain ⟨cS0, hcS0, hiss⟩ := yy.statics
  obtain ⟨u0, hu0⟩ := Cond.staticRefV yy.unassigned lk.unassignedStatic lk.statics hcS0 hiss (mem (w := .isRef (.static Bundle.tN "UNASSIGNED_STACK" Bundle.steD)) (by simp [Bundle.ownAtoms]))
  obtain ⟨se, hse⟩ := Cond.staticRefV yy.sentinel lk.sentinelStatic lk.statics hcS0 hiss (mem (w := .isRef (.static Bundle.tN "SUPPRESSED_SENTINEL" Bundle.listD)) (by simp [Bundle.ownAtoms]))
  obtain ⟨cb, ib, fB, b1, b2, b3, b4, -, b5, b6, b7⟩ := Cond.ownField (t := .object "java/lang/Object") yy.found lk.cls (by decide +kernel) (mem (w := .fieldLink Bundle.tN 198 Bundle.tN "backtrace" "Ljava/lang/Object;") (by simp [Bundle.ownAtoms])) (mem (w := .lays Bundle.tN Bundle.tN "backtrace" "Ljava/lang/Object;") (by simp [Bundle.ownAtoms])) e.platform p3
  obtain ⟨cS, hcS, eS, -, keep⟩ := X.same.2.2.2.2.2 T.aS cS0 hcS0
  have hcS' : U.heap[T.aS]? = some cS := hcS
  have off : ∀ i, (⟨T.aS, i⟩ : Loc) ∉ locs := fun i hm => by
    have := hlocs _ hm cS0 hcS0
    rw [hiss] at this; cases this
  have kn : cS.vm ≠ .unknown := by
    rw [eS]
    intro hu
    rw [show cS0.vm = .unknown from hu] at hiss
    cases hiss
  have ne : T.aS ≠ a := Nat.ne_of_lt (Nat.lt_of_lt_of_le (Array.getElem?_eq_some_iff.mp hcS0).1 hnew)
  obtain ⟨iM, fM⟩ := yy.msg
  obtain ⟨tC, dC, dC1, dC2⟩ := Cond.laysAt hfound hk yy.cause (mem (w := .lays cls Bundle.tN "cause" "Ljava/lang/Throwable;") (by simp [Bundle.ownAtoms]))
  obtain ⟨tS, dS, dS1, dS2⟩ := Cond.laysAt hfound hk yy.stack (mem (w := .lays cls Bundle.tN "stackTrace" Bundle.steD) (by simp [Bundle.ownAtoms]))
  obtain ⟨tP, dP, dP1, dP2⟩ := Cond.laysAt hfound hk yy.supp (mem (w := .lays cls Bundle.tN "suppressedExceptions" Bundle.listD) (by simp [Bundle.ownAtoms]))
  obtain ⟨tM, dM, dM1, dM2⟩ := Cond.laysAt hfound hk fM (mem (w := .lays cls Bundle.tN "detailMessage" "Ljava/lang/String;") (by simp [Bundle.ownAtoms]))
  obtain ⟨tB, dB, dB1, dB2⟩ := Cond.laysAt hfound hk b7 (mem (w := .lays cls Bundle.tN "backtrace" "Ljava/lang/Object;") (by simp [Bundle.ownAtoms]))
  have nC := Cond.laysApart dB1 dC1 dB2 dC2 (by rw [b5, yy.causeName]; decide)
  have nS := Cond.laysApart dB1 dS1 dB2 dS2 (by rw [b5, yy.stackName]; decide)
  have nP := Cond.laysApart dB1 dP1 dB2 dP2 (by rw [b5, yy.suppName]; decide)
  have skip : SkipFacts T e.platform s (fun u => u) u0 ((preparedCellV T.toThrowableT (freshCell P1.m.cls kX) a u0 se).withEntry U.cur) := by
    refine ⟨{ ci198 := cb, i198 := ib, fBack := fB }, ⟨b1, b2, b3, b4⟩, ?_, fun _ _ => rfl⟩
    have := fresh_default (c := P1.m.cls) tB
    rw [b6] at this
    simpa [preparedCellV, Cell.setSlot, Cell.withEntry, Array.getElem?_setIfInBounds, nC, nS, nP, nC.symm, nS.symm, nP.symm, defaultValue] using this
  obtain ⟨tm, methC, cdC, kC, vm1, hnC, -, -, -, -, -, -, -, hW1, st1⟩ := Steps.initColdS (tb := p.tables) (e := e) (below := below) (s := s) (U := U) X.here hexec X.warmed p3 hown (t := Bundle.initS cls) rfl rfl (Bundle.fit_spec hcls).2 (mem (w := .methodLink own ic (Bundle.initS cls)) (by simp [Bundle.ownAtoms])) (h (.instanceMethod (Bundle.initS cls)) (by cases names <;> simp [Bundle.ownAtoms, Bundle.chainSAtoms, Bundle.passSAtoms])) (bytes := Bundle.six) (maxL := 2) (h (.code (Bundle.initS cls) Bundle.six 2 none) (by cases names <;> simp [Bundle.ownAtoms, Bundle.chainSAtoms, Bundle.passSAtoms])) (f := g) hg (a := a) (msg := msg) (rest := .ref a :: rest) hstack hd
  cases Option.some.inj (hnC.symm.trans hP1)
  obtain ⟨vm2, X2, st2⟩ := (X.noted hW1).ctorMessageOffV hexec (g := { g with stack := .ref a :: rest }) hg hsize T lk Z lz Mc lm (P1 :: Ps) (fun P hP => (List.mem_cons.mp hP).elim (fun q => q ▸ l1) (lP P)) ⟨hk1, hk2⟩ (u0 := u0) (sen := se) (self := a) hmsg (cell := freshCell P1.m.cls kX) (cellS := cS) hcell (fun _ => by simp) (by simp) rfl rfl s0 s1 hcS' ne kn (by rw [keep _ (off _)]; exact hu0) (by rw [keep _ (off _)]; exact hse)
    (Takes.of_laid hk hord tC (by rw [yy.causeType]; rfl)) (Takes.of_laid hk hord tS (by rw [yy.stackType]; exact fits_refV_array _ u0)) (Takes.of_laid hk hord tP (by rw [yy.suppType]; exact fits_refV_object _ se)) (Takes.of_laid hk hord tM (by rw [yy.msgType]; exact fits_refV_object _ ⟨msg, hmsg⟩)) yy.objLocals skip htr [] hd (by simp only [List.length_cons, hlen]; omega) (by simp only [List.length_cons, hlen]; exact hRl)
  refine ⟨vm2, plainBareV T.toThrowableT (freshCell P1.m.cls kX) a u0 se msg, _, rfl, rfl, ?_, X2, fun target ht => st1 _ fun acts => ?_⟩
  · intro x hx
    simp only [List.mem_cons, List.not_mem_nil, or_false] at hx
    rcases hx with rfl | rfl | rfl | rfl | rfl <;> rfl
  · rw [doInvoke_state]
    exact st2 _ ht
theorem jj_strW {p : Program} {l : Launch} {e : Env} {R : Room} {s : State} {m : MethodId} {args : Array Value} {below : List Frame} {meth : Method} {c : Code} {H : Heap} {locs : List Loc} {cells slots : Nat} {Qs : State → Prop} {ls : Array Slot} {is ll : Nat} {text : String} {rest : List Value} (F : jj_fx p e s m args meth c Y G) (hw : Cond.stringRef Y.1.cls is text ∈ G.2.2.2.1) (hd : (decode Y.2.1 pc = .ok (.ldc is, 2) ∧ ll = 2) ∨ (decode Y.2.1 pc = .ok (.ldc_w is, 3) ∧ ll = 3)) : ∃ q : Nat, W p l e R s m args below meth c H locs cells slots Qs (F0 m (pc + ll) ls (.ref q :: rest)) → W p l e R s m args below meth c H locs cells slots Qs (F0 m pc ls rest) := by
  obtain ⟨f1, f2, f3, f4, f5, f6, f7, f8, f9, f10, f11, f12, f13⟩ := id F
  obtain ⟨k, cf, i, a, -, -, -, -, -, hev⟩ := Cond.stringRef_spec (args := args) (first := s) (o := none) (idx := []) f6 (f9 _ hw)
  refine ⟨a, fun kk T hT X => ?_⟩
  obtain ⟨t, a1, b1⟩ := kk T hT X
  rcases hd with ⟨hd, rfl⟩ | ⟨hd, rfl⟩
  · exact ⟨t, X.ldcString f1 f6 (text := text) (a := a) (f9 _ hw) hev (g := F0 m pc ls rest) rfl (by rw [f2]; exact hd) t a1, b1⟩
  · exact ⟨t, jj_ldcwS X f1 f6 (text := text) (a := a) (f9 _ hw) hev (g := F0 m pc ls rest) rfl (by rw [f2]; exact hd) t a1, b1⟩
/-- throw new X("text"), out of the method -/
theorem jj_throw {ix is ic ci ll : Nat} {X text : String} {names : List String} (hd0 : decode Y.2.1 pc = .ok (.new ix, 3)) (hd3 : decode Y.2.1 (pc + 3) = .ok (.dup, 1)) (hd4 : (decode Y.2.1 (pc + 4) = .ok (.ldc is, 2) ∧ ll = 2) ∨ (decode Y.2.1 (pc + 4) = .ok (.ldc_w is, 3) ∧ ll = 3)) (hd6 : decode Y.2.1 (pc + 4 + ll) = .ok (.invokespecial ic, 3)) (hd9 : decode Y.2.1 (pc + 4 + ll + 3) = .ok (.athrow, 1)) (hx : jj_tx G Y.1.cls ix is ic ci X text names) (hL : L.length = Y.2.2.1) (hst : (st.map fun v => v.category).sum ≤ 80) (hbare : jj_bare Y (pc + 4 + ll + 3)) (hr1 : 1 ≤ rc) (hr2 : 6 ≤ rs) (hq : ∀ a, M a = none → Q (.threw a) (jj_up M a (.inl ci, [])) (rc - 1) (rs - 6)) : jj G Y (d + 8) Q rc rs pc L st M := by
  intro p l e R s m args below meth c H locs cells slots ls F A B C E1 E2 E3 E4
  obtain ⟨f1, f2, f3, f4, f5, f6, f7, f8, f9, f10, f11, f12, f13⟩ := id F
  obtain ⟨⟨T0, hc0⟩, w1, w2, w3, w4, hfit, hnames, hlen, hat⟩ := hx
  intro T hT X0
  have hsz : s.heap.size ≤ H.size := by rw [← hT]; exact X0.same.2.1
  revert T
  refine W.newc f1 f2 f6 (f9 _ w1) (f9 _ w3) (f9 _ w2) (g := F0 m pc ls st) rfl hd0 (by omega) (by omega) fun cC kC h1 h2 h3 h4 => ?_
  refine lv_dup f1 f2 hd3 rfl ?_
  obtain ⟨q, hqs⟩ := jj_strW (l := l) (below := below) (R := R) (H := H.push { cls := cC, slots := kC.instanceTypes.map defaultValue, vm := .none }) (locs := locs) (cells := cells + 1) (slots := slots + 6) (Qs := jj_Q G R s below Q) (ls := ls) (rest := .ref H.size :: .ref H.size :: st) (pc := pc + 4) F w4 hd4
  refine hqs ?_
  intro T hT X1
  have hK : s.vm.findClass X = some (G.1.1 ci) := (f10.1 ci _ hc0).2.1
  have hcC : cC = G.1.1 ci := Option.some.inj (h1.symm.trans hK)
  subst hcC
  have hcell : T.heap[H.size]? = some (freshCell (G.1.1 ci) kC) := by rw [hT]; simp [freshCell]
  obtain ⟨n1, n2⟩ := jj_rel_new (x := (.inl ci, [])) A (H1 := H.push { cls := G.1.1 ci, slots := kC.instanceTypes.map defaultValue, vm := .none }) ⟨_, hc0, rfl, { cls := G.1.1 ci, slots := kC.instanceTypes.map defaultValue, vm := .none }, by simp, rfl, rfl, fun k hk => absurd hk (Nat.not_lt_zero k)⟩ (by simp) (fun k hk => by simp [Array.getElem?_push, Nat.ne_of_lt hk])
  have hats : ∀ w ∈ Bundle.ownAtoms Y.1.cls ic X names, w.before args s = true := by
    intro w hw
    rcases hat w hw with h | rfl | rfl | rfl | rfl
    · exact f9 w h
    · exact jj_isref_args f13.2.2.1
    · exact jj_isref_args f13.2.2.2.1
    · exact jj_isls_args f13.2.2.2.2.1
    · exact jj_isls_args f13.2.2.2.2.2.1
  obtain ⟨vm', ce, locs', e1, e2, e3, X2, st2⟩ := jj_ctorS X1 f1 f11 f6 hfit hnames hats (fun x hxl cell hcl => f13.2.1 _ _ (B x hxl) hcl) h1 h2 hcell hsz (msg := .ref q) rfl (g := F0 m (pc + 4 + ll) ls (.ref q :: .ref H.size :: .ref H.size :: st)) rfl (by show ls.size = _; rw [C.1, hL, f3]) (rest := st) rfl (by rw [f2]; exact hd6) (by omega) (by
      have e9 : ((Value.ref H.size :: st).map fun v => v.category).sum = 1 + (st.map fun v => v.category).sum := by simp [Value.category]
      rw [e9]
      show 2 * 0 + _ + _ ≤ _
      omega)
  obtain ⟨v1, v2, v3, v4, v5⟩ := X2.athrowLeaves f1 (g := F0 m (pc + 4 + ll + 3) ls (.ref H.size :: st)) rfl rfl rfl (jj_bare_out f8 hbare) (a := H.size) (rest := st) rfl (by rw [f2]; exact hd9) f5
  have hb0 : G.2.2.2.2.1.size ≤ H.size := A.1
  refine ⟨_, st2 _ v1, .threw H.size, _, _, _, v2, v3, v4, v5, fun z hz => ?_, jj_up M H.size (.inl ci, []), rc - 1, rs - 6, ?_, by omega, by omega, hq _ n1⟩
  · rcases List.mem_append.mp hz with h | h
    · exact B z h
    · rw [e3 z h]; exact hb0
  · have hlt : H.size < T.heap.size := by rw [hT]; simp
    have hr := jj_rel_put (x := (.inl ci, [])) (H1 := ((T.setVm vm').setCell H.size ce).heap) n2 (jj_up_at _ _ _) ⟨_, hc0, rfl, ce, heapAt_setCell_self (s := T.setVm vm') ce hlt, e1, e2, fun k hk => absurd hk (Nat.not_lt_zero k)⟩ (by rw [size_setCell, ← hT]; rfl) (fun k hk => by rw [heapAt_setCell_ne _ (Ne.symm hk), ← hT]; rfl)
    rw [jj_up_up] at hr
    exact hr
end JM
