/-! ===== CATCH: a call under handlers whose classes the search itself may resolve ===== -/
section JK
variable {e : Env} {f : JFrame} {a : Addr}
theorem jj_go_cold {E : CtlPost} {dd : Bool} {acts : List Action} {S : State} {Q : Handler → Pre} {x : ExceptionTableEntry} {t : List ExceptionTableEntry} {c : ClassId} {cell : Cell} {vm' : Vm} (hx : covers x f.pc = true) (h0 : x.catchType ≠ 0) (hg : (Jvm.resolveClass f.method.cls x.catchType).Gives e.toSetting S.vm (.ok c) vm') (hsz : vm'.classes.size ≤ S.vm.classes.size) (hcell : S.heap[a]? = some cell) (hobj : ∀ k, cell.vm ≠ .statics k) (hk : ∃ k, vm'.classes[cell.cls]? = some k) (hc : ∃ k, vm'.classes[c]? = some k) :
    wp (findHandler.go f a (x :: t)) Q E e dd acts S ↔ if vm'.assignable cell.cls c = true then Q (.found x.handlerPc) dd acts (S.setVm vm') else wp (findHandler.go f a t) Q E e dd acts (S.setVm vm') := by
  simp only [covers] at hx
  obtain ⟨ha, ht⟩ := hg.op (op := VmOp.resolveClass f.method.cls x.catchType) rfl
  cases hfit : vm'.assignable cell.cls c <;>
    simp [findHandler.go, hx, h0, ha, VmOp.lands_eq ht hsz, hcell, hobj, hk, hc, hfit, VmOp.dirties, VmOp.acts]
/-- an entry with a class that the exception isn't of -/
theorem jj_go_pass {p : Program} {l : Launch} {R : Room} {s : State} {m : MethodId} {args : Array Value} {below : List Frame} {meth : Method} {cd : Code} {T : State} {locs : List Loc} {cells slots : Nat} (X : Stand p l e R s m args below meth cd T locs cells slots) {S : State} (hW : s.WarmedH S.vm) {own C : String} {x : ExceptionTableEntry} {cell : Cell} (hown : s.vm.findClass own = some m.cls) (hf : f.method = m) (hlink : (Cond.classLink own x.catchType C).before args s = true) (hcell : S.heap[a]? = some cell) (hobj : cell.vm = .none) (hk : ∃ k, s.vm.classes[cell.cls]? = some k) (h0 : x.catchType ≠ 0) (hx : covers x f.pc = true) :
    ∃ (vm' : Vm) (c : ClassId), s.vm.findClass C = some c ∧ s.WarmedH vm' ∧ ∀ (t : List ExceptionTableEntry) (Q : Handler → Pre) (E : CtlPost) (dd : Bool) (acts : List Action), wp (findHandler.go f a (x :: t)) Q E e dd acts S ↔ if s.vm.assignable cell.cls c = true then Q (.found x.handlerPc) dd acts (S.setVm vm') else wp (findHandler.go f a t) Q E e dd acts (S.setVm vm') := by
  subst hf
  have hpl : e.platform.magicAccessors = ({} : Platform).magicAccessors := by rw [X.admits.platform]
  obtain ⟨c, hfc, hcl⟩ := Cond.classLink_spec hown hlink e.platform hpl
  obtain ⟨hg, hw, -⟩ := State.classEntry (e := e) hW hcl
  refine ⟨_, c, hfc, hw, fun t Q E dd acts => ?_⟩
  have hal : s.vm.Alike (S.vm.noted f.method.cls x.catchType (.cls c)) := hw.alike
  obtain ⟨k, hk⟩ := hk
  obtain ⟨k', hk', -⟩ := hal.2.2 _ _ hk
  obtain ⟨k2, hk2⟩ := Vm.classAt_of_findClass hfc
  obtain ⟨k2', hk2', -⟩ := hal.2.2 _ _ hk2
  rw [jj_go_cold hx h0 hg (by rw [Vm.size_noted]; exact Nat.le_refl _) hcell (fun q h => by rw [hobj] at h; cases h) ⟨_, hk'⟩ ⟨_, hk2'⟩, hal.assignable]
theorem jj_caught {tb : Tables} {s target : State} {g : JFrame} {c : Code} {below : List Frame} {vm' : Vm} (h : At s g.method c below) {pc : Nat} (hfind : ∀ (Q : Handler → Pre) (E : CtlPost) (dd : Bool) (acts : List Action), wp (findHandler g a) Q E e dd acts ((s.setTop g).pushFrame (.throwing a)) ↔ Q (.found pc) dd acts (((s.setTop g).pushFrame (.throwing a)).setVm vm'))
    (hrest : Steps tb e below ((s.setVm vm').setTop { g with pc := pc, stack := [.ref a] }) target) : Steps tb e below ((s.setTop g).pushFrame (.throwing a)) target := by
  obtain ⟨hgo, hw⟩ := h.throwing a
  refine Steps.head hgo hw ?_
  have hstep : (stepThrowing e ((s.setTop g).pushFrame (.throwing a)) a (.java g :: s.frames.tail)).1 = (((s.setTop g).pushFrame (.throwing a)).setVm vm').setFrames (.java { g with pc := pc, stack := [.ref a] } :: s.frames.tail) := by
    simp only [stepThrowing, searchFrame, vmDo]
    generalize hr : Sem.go _ e false [] ((s.setTop g).pushFrame (.throwing a)) = res
    obtain ⟨as, rfl, ha⟩ := Sem.eq_ok_of hr (a := Handler.found pc) (s' := ((s.setTop g).pushFrame (.throwing a)).setVm vm') (acts' := []) (by simp [hfind _ _ _ _])
    rfl
  rw [stepThread_throwing (frames_entered h.top _), hstep]
  obtain ⟨g₀, hg⟩ := Option.isSome_iff_exists.mp h.top
  obtain ⟨r, hr⟩ := State.topJava?_eq_some.mp hg
  have hr' : (s.setVm vm').frames = .java g₀ :: r := hr
  have e1 : (((s.setTop g).pushFrame (.throwing a)).setVm vm').setFrames (.java { g with pc := pc, stack := [.ref a] } :: s.frames.tail) = (s.setVm vm').setTop { g with pc := pc, stack := [.ref a] } := by
    rw [State.setTop_of_frames _ hr', hr]
    rw [State.pushFrame, State.setTop_of_frames _ hr]
    show ((s.setFrames _).setFrames _ |>.setVm vm').setFrames _ = (s.setVm vm').setFrames _
    rw [State.setFrames_setFrames]
    show ((s.setVm vm').setFrames _).setFrames _ = _
    rw [State.setFrames_setFrames]
    rfl
  rw [e1]
  exact hrest
end JK
