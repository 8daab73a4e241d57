/-! ===== CATCH: a call under handlers whose classes the search itself may resolve ===== -/
section JK
variable {e : Env} {f : JFrame} {a : Addr}
theorem jj_go_cold {E : CtlPost} {dd : Bool} {acts : List Action} {S : State} {Q : Handler → Pre} {x : ExceptionTableEntry} {t : List ExceptionTableEntry} {c : ClassId} {cell : Cell} {vm' : Vm} (hx : covers x f.pc = true) (h0 : x.catchType ≠ 0) (hg : (Jvm.resolveClass f.method.cls x.catchType).Gives e.toSetting S.vm (.ok c) vm') (hsz : vm'.classes.size ≤ S.vm.classes.size) (hcell : S.heap[a]? = some cell) (hobj : ∀ k, cell.vm ≠ .statics k) (hk : ∃ k, vm'.classes[cell.cls]? = some k) (hc : ∃ k, vm'.classes[c]? = some k) :
    wp (findHandler.go f a (x :: t)) Q E e dd acts S ↔ if vm'.assignable cell.cls c = true then Q (.found x.handlerPc) dd acts (S.setVm vm') else wp (findHandler.go f a t) Q E e dd acts (S.setVm vm') := by
  simp only [covers] at hx
  obtain ⟨ha, ht⟩ := hg.op (op := VmOp.resolveClass f.method.cls x.catchType) rfl
  cases hfit : vm'.assignable cell.cls c <;>
    simp [findHandler.go, hx, h0, ha, VmOp.lands_eq ht hsz, hcell, hobj, hk, hc, hfit, VmOp.dirties, VmOp.acts]
/-- an entry with a class that the exception isn't of -/
theorem jj_go_pass {p : Program} {l : Launch} {R : Room} {s : State} {m : MethodId} {args : Array Value} {below : List Frame} {meth : Method} {cd : Code} {T : State} {locs : List Loc} {cells slots : Nat} (X : Stand p l e R s m args below meth cd T locs cells slots) {S : State} (hW : s.WarmedH S.vm) {own C : String} {x : ExceptionTableEntry} {cell : Cell} (hown : s.vm.findClass own = some m.cls) (hf : f.method = m) (hlink : (Cond.classLink own x.catchType C).before args s = true) (hcell : S.heap[a]? = some cell) (hobj : cell.vm = .none) (hk : ∃ k, s.vm.classes[cell.cls]? = some k) (h0 : x.catchType ≠ 0) (hx : covers x f.pc = true) :
    ∃ (vm' : Vm) (c : ClassId), s.vm.findClass C = some c ∧ s.WarmedH vm' ∧ ∀ (t : List ExceptionTableEntry) (Q : Handler → Pre) (E : CtlPost) (dd : Bool) (acts : List Action), wp (findHandler.go f a (x :: t)) Q E e dd acts S ↔ if s.vm.assignable cell.cls c = true then Q (.found x.handlerPc) dd acts (S.setVm vm') else wp (findHandler.go f a t) Q E e dd acts (S.setVm vm') := by
  subst hf
  have hpl : e.platform.magicAccessors = ({} : Platform).magicAccessors := by rw [X.admits.platform]
  obtain ⟨c, hfc, hcl⟩ := Cond.classLink_spec hown hlink e.platform hpl
  obtain ⟨hg, hw, -⟩ := State.classEntry (e := e) hW hcl
  refine ⟨_, c, hfc, hw, fun t Q E dd acts => ?_⟩
  have hal : s.vm.Alike (S.vm.noted f.method.cls x.catchType (.cls c)) := hw.alike
  obtain ⟨k, hk⟩ := hk
  obtain ⟨k', hk', -⟩ := hal.2.2 _ _ hk
  obtain ⟨k2, hk2⟩ := Vm.classAt_of_findClass hfc
  obtain ⟨k2', hk2', -⟩ := hal.2.2 _ _ hk2
  rw [jj_go_cold hx h0 hg (by rw [Vm.size_noted]; exact Nat.le_refl _) hcell (fun q h => by rw [hobj] at h; cases h) ⟨_, hk'⟩ ⟨_, hk2'⟩, hal.assignable]
theorem jj_caught {tb : Tables} {s target : State} {g : JFrame} {c : Code} {below : List Frame} {vm' : Vm} (h : At s g.method c below) {pc : Nat} (hfind : ∀ (Q : Handler → Pre) (E : CtlPost) (dd : Bool) (acts : List Action), wp (findHandler g a) Q E e dd acts ((s.setTop g).pushFrame (.throwing a)) ↔ Q (.found pc) dd acts (((s.setTop g).pushFrame (.throwing a)).setVm vm'))
    (hrest : Steps tb e below ((s.setVm vm').setTop { g with pc := pc, stack := [.ref a] }) target) : Steps tb e below ((s.setTop g).pushFrame (.throwing a)) target := by
  obtain ⟨hgo, hw⟩ := h.throwing a
  refine Steps.head hgo hw ?_
  have hstep : (stepThrowing e ((s.setTop g).pushFrame (.throwing a)) a (.java g :: s.frames.tail)).1 = (((s.setTop g).pushFrame (.throwing a)).setVm vm').setFrames (.java { g with pc := pc, stack := [.ref a] } :: s.frames.tail) := by
    simp only [stepThrowing, searchFrame, vmDo]
    generalize hr : Sem.go _ e false [] ((s.setTop g).pushFrame (.throwing a)) = res
    obtain ⟨as, rfl, ha⟩ := Sem.eq_ok_of hr (a := Handler.found pc) (s' := ((s.setTop g).pushFrame (.throwing a)).setVm vm') (acts' := []) (by simp [hfind _ _ _ _])
    rfl
  rw [stepThread_throwing (frames_entered h.top _), hstep]
  obtain ⟨g₀, hg⟩ := Option.isSome_iff_exists.mp h.top
  obtain ⟨r, hr⟩ := State.topJava?_eq_some.mp hg
  have hr' : (s.setVm vm').frames = .java g₀ :: r := hr
  have e1 : (((s.setTop g).pushFrame (.throwing a)).setVm vm').setFrames (.java { g with pc := pc, stack := [.ref a] } :: s.frames.tail) = (s.setVm vm').setTop { g with pc := pc, stack := [.ref a] } := by
    rw [State.setTop_of_frames _ hr', hr]
    rw [State.pushFrame, State.setTop_of_frames _ hr]
    show ((s.setFrames _).setFrames _ |>.setVm vm').setFrames _ = (s.setVm vm').setFrames _
    rw [State.setFrames_setFrames]
    show ((s.setVm vm').setFrames _).setFrames _ = _
    rw [State.setFrames_setFrames]
    rfl
  rw [e1]
  exact hrest
end JK
/-- the handler that the search comes to for an exception of class X exactly -/
def jj_find (G : jg) (own : String) (pc : Nat) (X : String) (hpc : Nat) : List (Nat × Nat × Nat × Nat) → Prop
  | [] => False
  | q :: r => (¬ (q.1 ≤ pc ∧ pc < q.2.1) ∧ jj_find G own pc X hpc r) ∨ ((q.1 ≤ pc ∧ pc < q.2.1) ∧ q.2.2.2 ≠ 0 ∧ ∃ C, Cond.classLink own q.2.2.2 C ∈ G.2.2.2.1 ∧ ((C = X ∧ q.2.2.1 = hpc) ∨ (Cond.not (.castable X C) ∈ G.2.2.2.1 ∧ jj_find G own pc X hpc r)))
section JF
variable {G : jg} {Y Y' : jm} {d : Nat} {Q : jq} {rc rs pc : Nat} {L : List (Option Value)} {st : List Value} {M : mheap}
theorem jj_find_ok {p : Program} {l : Launch} {e : Env} {R : Room} {s : State} {m : MethodId} {args : Array Value} {below : List Frame} {meth : Method} {c : Code} {T : State} {locs : List Loc} {cells slots : Nat} (X : Stand p l e R s m args below meth c T locs cells slots) (F : jj_fx p e s m args meth c Y G) {f : JFrame} {a hpc ci : Nat} {E : String} {T0 : u_T} (hf : f.method = m) (hpc0 : f.pc = pc) (hc : G.2.1[ci]? = some (E, T0, 0)) {cell : Cell} (h1 : cell.cls = G.1.1 ci) (h2 : cell.vm = .none) :
    ∀ (es : List ExceptionTableEntry) (S : State), s.WarmedH S.vm → S.heap[a]? = some cell → jj_find G Y.1.cls pc E hpc (es.map (fun h => (h.startPc, h.endPc, h.handlerPc, h.catchType))) →
      ∃ vm', s.WarmedH vm' ∧ ∀ (Q : Handler → Pre) (E : CtlPost) (dd : Bool) (acts : List Action), wp (findHandler.go f a es) Q E e dd acts S ↔ Q (.found hpc) dd acts (S.setVm vm') := by
  obtain ⟨f1, f2, f3, f4, f5, f6, f7, f8, f9, f10, f11, f12, f13⟩ := id F
  have hcl := (f10.1 ci _ hc).2
  intro es
  induction es with
  | nil => intro S _ _ h; exact absurd h (fun q => q)
  | cons x t ih =>
    intro S hW hcell h
    rcases h with ⟨hn, h⟩ | ⟨hy, h0, C, hw, h⟩
    · obtain ⟨vm', g1, g2⟩ := ih S hW hcell h
      refine ⟨vm', g1, fun Q E dd acts => ?_⟩
      rw [W.findHandler_go_skip (by rw [hpc0]; simp only [covers]; simpa using hn)]
      exact g2 Q E dd acts
    · have hx : covers x f.pc = true := by rw [hpc0]; simp only [covers]; simpa using hy
      obtain ⟨vm1, cC, k1, k2, k3⟩ := jj_go_pass X hW (own := Y.1.cls) (C := C) (x := x) f6 hf (f9 _ hw) hcell h2 (by rw [h1]; obtain ⟨-, kC, q, -⟩ := hcl; exact ⟨kC, q⟩) h0 hx
      rcases h with ⟨rfl, rfl⟩ | ⟨hnc, h⟩
      · refine ⟨vm1, k2, fun Q E dd acts => ?_⟩
        have hcC : cC = G.1.1 ci := Option.some.inj (k1.symm.trans hcl.1)
        rw [k3, if_pos (by rw [h1, hcC]; exact va_assign hcl)]
      · obtain ⟨vm', g1, g2⟩ := ih (S.setVm vm1) k2 hcell h
        refine ⟨vm', g1, fun Q E dd acts => ?_⟩
        have hna : ¬ s.vm.assignable cell.cls cC = true := by
          have hb := f9 _ hnc
          simp only [Cond.before, Cond.holds, Cond.value, hcl.1, k1] at hb
          rw [h1]
          intro q
          simp [q] at hb
        rw [k3, if_neg hna]
        exact g2 Q E dd acts
/-- from a call's first step on, where handlers may take what it throws -/
theorem jj_afterC {p : Program} {l : Launch} {e : Env} {R : Room} {s : State} {m : MethodId} {args : Array Value} {below : List Frame} {meth : Method} {c : Code} {T T1 : State} {locs : List Loc} {cells slots : Nat} {g : JFrame} (X : Stand p l e R s m args below meth c T1 locs cells slots) (F : jj_fx p e s m args meth c Y G) (hok : jj_code G Y') {mk : MethodId} (hn : s.methodNamed? Y'.1 = some mk) {vs : List Value} {ls : Array Slot} {ig : Instr} {len : Nat} (hdg : decode Y.2.1 pc = .ok (ig, len)) (A : jj_rel G M T1.heap) (B : ∀ q ∈ locs, G.2.2.2.2.1.size ≤ q.base) (C : jj_lr ls L) (hL : L.length = Y.2.2.1) (E1 : cells + rc ≤ R.cells) (E2 : slots + rs ≤ R.slots) (E3 : d + 1 ≤ R.frames) (E4 : 100 * (d + 1) ≤ R.locals) (hst : (st.map fun v => v.category).sum + Y'.2.2.1 + 11 ≤ 100) (hvs : (lg_sl vs).length ≤ Y'.2.2.1) {Q' : jq}
    (hstep : ∀ target, (∀ acts, Steps p.tables e below (doInvoke e (T1.setTop (F0 m pc ls st)) acts mk vs.toArray).1 target) → Steps p.tables e below (T.setTop g) target)
    (hret : ∀ v M' rc' rs', Q' (.returned v) M' rc' rs' → jj G Y (d + 1) Q rc' rs' (pc + len) L (v.toList ++ st) M')
    (hthr : ∀ x M' rc' rs', Q' (.threw x) M' rc' rs' → ∃ (ci hpc : Nat) (E : String) (T0 : u_T), M' x = some (.inl ci, []) ∧ G.2.1[ci]? = some (E, T0, 0) ∧ jj_find G Y.1.cls pc E hpc Y.2.2.2.2 ∧ jj G Y (d + 1) Q rc' rs' hpc L [.ref x] M')
    (h : jj G Y' d Q' rc rs 0 (jj_ent vs Y'.2.2.1) [] M) : ∃ t, Steps p.tables e below (T.setTop g) t ∧ jj_Q G R s below Q t := by
  obtain ⟨f1, f2, f3, f4, f5, f6, f7, f8, f9, f10, f11, f12, f13⟩ := id F
  obtain ⟨o, T', L1, k, n, M', rc', rs', X', hL1, hrel, e1, e2, hq, hr1, hr2⟩ := jj_run X F hok hn (ls := ls) (vs := vs) (rest := st) (by rw [C.1, hL, f3]) (by rw [f2]; exact hdg) A E1 E2 E3 E4 hst hvs h
  have B' : ∀ q ∈ locs ++ L1, G.2.2.2.2.1.size ≤ q.base := fun q hq => (List.mem_append.mp hq).elim (B q) (hL1 q)
  cases o with
  | returned v =>
    obtain ⟨t, a1, a2⟩ := hret v M' rc' rs' hq p l e R s m args below meth c T'.heap _ _ _ ls F hrel B' C e1 e2 E3 E4 T' rfl X'
    exact ⟨t, hstep t fun acts => (hr1 v rfl acts).trans a1, a2⟩
  | threw x =>
    obtain ⟨ci, hpc, E, T0, hM, hc, hfind, hk⟩ := hthr x M' rc' rs' hq
    obtain ⟨-, r, g0, g1, cell, g2, g3, g4, -⟩ := hrel.2.2 x _ hM
    obtain rfl : r = (E, T0, 0) := Option.some.inj (g0.symm.trans hc)
    have hS : ((T'.setTop (F0 m pc ls st)).pushFrame (.throwing x)).heap[x]? = some cell := by rw [Stand.throwing_heap]; exact g2
    obtain ⟨vm', w1, w2⟩ := jj_find_ok X' F (f := F0 m pc ls st) rfl rfl hc g3 g4 c.exceptionTable.toList ((T'.setTop (F0 m pc ls st)).pushFrame (.throwing x)) (by rw [Stand.throwing_vm]; exact X'.warmed) hS (by rw [f8]; exact hfind)
    have X2 := X'.noted w1
    obtain ⟨t, a1, a2⟩ := hk p l e R s m args below meth c T'.heap _ _ _ ls F hrel B' C e1 e2 E3 E4 (T'.setVm vm') rfl X2
    refine ⟨t, hstep t fun acts => (hr2 x rfl acts).trans ?_, a2⟩
    have hat : At T' (F0 m pc ls st).method c below := X'.here
    refine jj_caught (pc := hpc) (vm' := vm') hat (fun Q E dd acts => ?_) a1
    rw [W.findHandler_eq (meth := meth) (code := c) (by rw [Stand.throwing_vm]; exact X'.method') X'.code]
    exact w2 Q E dd acts
/-- a virtual call under handlers -/
theorem jj_callVC {index ci b n : Nat} {As fs st0 : List Value} {r : vw_C} {Q' : jq} (hd : decode Y.2.1 pc = .ok (.invokevirtual index, 3)) (hv : jj_cv G Y.1.cls index Y' n) (hc : G.2.1[ci]? = some r) (hr : r.1 = Y'.1.cls) (hM : M b = some (.inl ci, fs)) (hs : st0 = As.reverse ++ .ref b :: st) (hlen : As.length = n) (hL : L.length = Y.2.2.1) (hst : (st.map fun v => v.category).sum + Y'.2.2.1 + 11 ≤ 100) (hvs : (lg_sl (.ref b :: As)).length ≤ Y'.2.2.1)
    (hret : ∀ v M' rc' rs', Q' (.returned v) M' rc' rs' → jj G Y (d + 1) Q rc' rs' (pc + 3) L (v.toList ++ st) M')
    (hthr : ∀ x M' rc' rs', Q' (.threw x) M' rc' rs' → ∃ (ci hpc : Nat) (E : String) (T0 : u_T), M' x = some (.inl ci, []) ∧ G.2.1[ci]? = some (E, T0, 0) ∧ jj_find G Y.1.cls pc E hpc Y.2.2.2.2 ∧ jj G Y (d + 1) Q rc' rs' hpc L [.ref x] M')
    (h : jj G Y' d Q' rc rs 0 (jj_ent (.ref b :: As) Y'.2.2.1) [] M) : jj G Y (d + 1) Q rc rs pc L st0 M := by
  intro p l e R s m args below meth c H locs cells slots ls F A B C E1 E2 E3 E4 T hT X
  obtain ⟨f1, f2, f3, f4, f5, f6, f7, f8, f9, f10, f11, f12, f13⟩ := id F
  obtain ⟨hl, w1, w2, hy, hpn, hok⟩ := hv
  subst hT
  subst hs
  obtain ⟨mk, methM, hnamed, hmethM, hstM, habM⟩ := Cond.instanceMethod_spec (f9 _ w1)
  obtain ⟨methM', cM, hmethM', -, -, -, -, -, -, hsigM⟩ := jj_code_spec hok f9 hnamed
  cases hmethM.symm.trans hmethM'
  obtain ⟨c2, r2, m2, q1, q2, q3, q4, kP, hkP, hkPi⟩ := Cond.selects_spec (f9 _ w2)
  obtain ⟨-, r', g0, -, cellB, g1, g2, g3, -⟩ := A.2.2 b _ hM
  have hcls : s.vm.findClass Y'.1.cls = some cellB.cls := by rw [g2, ← hr]; exact (f10.1 ci r hc).2.1
  cases hcls.symm.trans q1
  cases (State.methodFound?_of_named hnamed hy).symm.trans q2
  cases hnamed.symm.trans q3
  have hselP : selectMethod e.platform s.vm cellB.cls mk = .method mk := by rw [Launch.admits_selectMethod X.admits]; exact q4
  have hplen : As.length = methM.sig.parameters.length := by
    rw [hsigM] at hpn
    exact hlen.trans (Option.some.inj hpn).symm
  rcases hl with hl | ⟨host, hl⟩
  · obtain ⟨vm₁, X₁, hstep₁⟩ := X.invokevirtual f1 f6 (f9 _ hl) hnamed hmethM hstM hkP hkPi hy (a := b) (cell := cellB) g1 (fun z h => by rw [g3] at h; cases h) hselP hmethM habM hkP hkPi (g := F0 m pc ls (As.reverse ++ .ref b :: st)) rfl (argsL := As) (rest := st) hplen rfl (by rw [f2]; exact hd)
    exact jj_afterC X₁ F hok hnamed (vs := .ref b :: As) hd A B C hL E1 E2 E3 E4 hst hvs hstep₁ hret hthr h
  · obtain ⟨vm₁, X₁, hstep₁⟩ := X.invokevirtualNest f1 f6 (f9 _ hl) hnamed hmethM hstM hkP hkPi hy (a := b) (cell := cellB) g1 (fun z h => by rw [g3] at h; cases h) hselP hmethM habM hkP hkPi (g := F0 m pc ls (As.reverse ++ .ref b :: st)) rfl (argsL := As) (rest := st) hplen rfl (by rw [f2]; exact hd)
    exact jj_afterC X₁ F hok hnamed (vs := .ref b :: As) hd A B C hL E1 E2 E3 E4 hst hvs hstep₁ hret hthr h
end JF
