/-! ===== CALLS: into a method and out of it, by return or by throw, over small states ===== -/
def jj_so (x : Slot) : Option Value := match x with
  | .val v => some v
  | _ => none
/-- a method's locals at its entry -/
def jj_ent (vs : List Value) (n : Nat) : List (Option Value) := (lg_sl vs ++ List.replicate (n - (lg_sl vs).length) Slot.unset).map jj_so
theorem jj_ent_lr (vs : List Value) {n : Nat} (h : (lg_sl vs).length ≤ n) : jj_lr ((lg_sl vs ++ List.replicate (n - (lg_sl vs).length) Slot.unset).toArray) (jj_ent vs n) := by
  have h1 := lv_entry vs h
  refine ⟨by simp [jj_ent], h1.2.1, fun i v hv => ?_⟩
  unfold jj_ent at hv
  rw [List.getElem?_map] at hv
  cases e : (lg_sl vs ++ List.replicate (n - (lg_sl vs).length) Slot.unset)[i]? with
  | none => rw [e] at hv; simp at hv
  | some x =>
    rw [e] at hv
    have hx : x = .val v := by cases x <;> simp_all [jj_so]
    subst hx
    rw [List.getElem?_toArray]
    exact e
/-- the tables hold the method's code -/
def jj_code (G : jg) (Y : jm) : Prop := ((Y.2.2.2.2 = [] ∧ Cond.code Y.1 Y.2.1 Y.2.2.1 Y.2.2.2.1 ∈ G.2.2.2.1) ∨ Cond.codeWith Y.1 Y.2.1 Y.2.2.1 Y.2.2.2.1 Y.2.2.2.2 ∈ G.2.2.2.1) ∧ plainFor Y.1 = true
theorem jj_code_spec {G : jg} {Y : jm} {args : Array Value} {s : State} (hok : jj_code G Y) (hts : ∀ w ∈ G.2.2.2.1, w.before args s = true) {mk : MethodId} (hn : s.methodNamed? Y.1 = some mk) :
    ∃ meth c, s.vm.method? mk = some meth ∧ meth.code = some c ∧ c.code = Y.2.1 ∧ c.maxLocals = Y.2.2.1 ∧ meth.sig.returnType = Y.2.2.2.1 ∧ meth.locks = false ∧ c.exceptionTable.toList.map (fun h => (h.startPc, h.endPc, h.handlerPc, h.catchType)) = Y.2.2.2.2 ∧ parseMethodDescriptor Y.1.desc = some meth.sig := by
  rcases hok.1 with ⟨e, hw⟩ | hw
  · obtain ⟨meth, c, h1, h2, h3, h4, h5, h6, h7, h8⟩ := Cond.code_spec hn (hts _ hw)
    refine ⟨meth, c, h1, h2, h3, h4, h5, h6, ?_, h8⟩
    rw [e]
    have : c.exceptionTable = #[] := Array.isEmpty_iff.mp h7
    rw [this]; rfl
  · obtain ⟨m, meth, c, h0, h1, h2, h3, h4, h5, h6, h7, h8⟩ := Cond.codeWith_spec (hts _ hw)
    cases hn.symm.trans h0
    exact ⟨meth, c, h1, h2, h3, h4, h6, h7, h5, h8⟩
section JC
variable {G : jg} {Y Y' : jm} {d : Nat} {Q : jq} {rc rs pc : Nat} {L : List (Option Value)} {st : List Value} {M : mheap}
theorem jj_sref {s U : State} (h1 : ∀ q : Nat, q < G.2.2.2.2.1.size → s.heap[q]? = G.2.2.2.2.1[q]?) (h2 : ∀ (q : Nat) (c : Cell), G.2.2.2.2.1.size ≤ q → s.heap[q]? = some c → c.vm.isStatics = false) (h3 : ∀ q : Nat, q < G.2.2.2.2.1.size → U.heap[q]? = G.2.2.2.2.1[q]?) (hA : s.vm.Alike U.vm) {C n dd : String} (h : (Cond.isRef (.static C n dd)).before #[] s = true) : (Cond.isRef (.static C n dd)).before #[] U = true := by
  cases hf : s.fieldFound? C n dd with
  | none => simp [Cond.before, Cond.holds, Cond.value, Term.eval, State.fieldNamed?, hf] at h
  | some x =>
    obtain ⟨cf, k, i, f⟩ := x
    obtain ⟨k', hf', he⟩ := State.fieldFound?_setVm (s := s) hA hf
    have hf' : U.fieldFound? C n dd = some (cf, k', i, f) := by simpa only [State.fieldFound?, State.vm_setVm] using hf'
    have hst' : k'.statics = k.statics := by rw [he]
    cases hst : f.isStatic with
    | false => simp [Cond.before, Cond.holds, Cond.value, Term.eval, State.fieldNamed?, hf, hst] at h
    | true =>
      cases hs : k.statics with
      | none => simp [Cond.before, Cond.holds, Cond.value, Term.eval, State.fieldNamed?, hf, hst, hs] at h
      | some a =>
        have hUa : U.heap[a]? = s.heap[a]? ∨ s.heap[a]? = none ∨ ∃ c, s.heap[a]? = some c ∧ c.vm.isStatics = false := by
          by_cases ha : a < G.2.2.2.2.1.size
          · exact Or.inl ((h3 a ha).trans (h1 a ha).symm)
          · cases hc : s.heap[a]? with
            | none => exact Or.inr (Or.inl rfl)
            | some c => exact Or.inr (Or.inr ⟨c, rfl, h2 a c (Nat.not_lt.mp ha) hc⟩)
        rcases hUa with e | e | ⟨c, e, e2⟩
        · have e1 : (Term.static C n dd).eval #[] s none [] s = (s.heap[a]?).bind (fun c => if c.vm.isStatics = true then c.slots[f.slot]? else none) := by simp [Term.eval, State.fieldNamed?, hf, hst, hs]
          have e2 : (Term.static C n dd).eval #[] U none [] U = (U.heap[a]?).bind (fun c => if c.vm.isStatics = true then c.slots[f.slot]? else none) := by simp [Term.eval, State.fieldNamed?, hf', hst, hst', hs]
          simp only [Cond.before, Cond.holds, Cond.value] at h ⊢
          rw [e2, e, ← e1]
          exact h
        · simp [Cond.before, Cond.holds, Cond.value, Term.eval, State.fieldNamed?, hf, hst, hs, e] at h
        · simp [Cond.before, Cond.holds, Cond.value, Term.eval, State.fieldNamed?, hf, hst, hs, e, e2] at h
theorem jj_sls {s U : State} (h1 : ∀ q : Nat, q < G.2.2.2.2.1.size → s.heap[q]? = G.2.2.2.2.1[q]?) (h2 : ∀ (q : Nat) (c : Cell), G.2.2.2.2.1.size ≤ q → s.heap[q]? = some c → c.vm.isStatics = false) (h3 : ∀ q : Nat, q < G.2.2.2.2.1.size → U.heap[q]? = G.2.2.2.2.1[q]?) (hA : s.vm.Alike U.vm) {C n dd : String} (h : (Cond.laysStatic C n dd).before #[] s = true) : (Cond.laysStatic C n dd).before #[] U = true := by
  obtain ⟨c, k, i, f, a, cell, k1, k2, k3, k4, k5, k6, k7, k8, k9⟩ := Cond.laysStatic_spec h
  obtain ⟨k', hf', he⟩ := State.fieldFound?_setVm (s := s) hA k2
  have hf' : U.fieldFound? C n dd = some (c, k', i, f) := by simpa only [State.fieldFound?, State.vm_setVm] using hf'
  have ha : a < G.2.2.2.2.1.size := by
    rcases Nat.lt_or_ge a G.2.2.2.2.1.size with q | q
    · exact q
    · have := h2 a cell q k5
      rw [k6] at this
      cases this
  exact Cond.laysStatic_of (s := U) (by rw [hA.findClass]; exact k1) hf' k3 (by rw [he]; exact k4) (by rw [h3 a ha, ← h1 a ha]; exact k5) k6 k7 k8 (by rw [he]; exact k9)
theorem jj_fx_in {p : Program} {e : Env} {s : State} {m : MethodId} {args : Array Value} {meth : Method} {c : Code} (F : jj_fx p e s m args meth c Y G) (hok : jj_code G Y') {mk : MethodId} (hn : s.methodNamed? Y'.1 = some mk) {U : State} (hW : s.WarmedH U.vm) (hH : jj_rel G M U.heap) {a' : Array Value} {methk : Method} {ck : Code} (h1 : s.vm.method? mk = some methk) (h3 : ck.code = Y'.2.1) (h4 : ck.maxLocals = Y'.2.2.1) (h5 : methk.sig.returnType = Y'.2.2.2.1) (h6 : methk.locks = false) (h7 : ck.exceptionTable.toList.map (fun h => (h.startPc, h.endPc, h.handlerPc, h.catchType)) = Y'.2.2.2.2) : jj_fx p e U mk a' methk ck Y' G := by
  obtain ⟨f1, f2, f3, f4, f5, f6, f7, f8, f9, f10, f11, f12, f13⟩ := F
  refine ⟨f1, h3, h4, h5, h6, ?_, (name_of_methodNamed hn h1).1, h7, fun w hw => f12 w hw _ _ _ _ hW (f9 w hw), va_K.moved hW.alike f10, f11, f12, ?_⟩
  · rw [hW.alike.findClass]
    exact findClass_of_methodNamed hn
  · exact ⟨hH.2.1.1, hH.2.1.2, jj_sref f13.1 f13.2.1 hH.2.1.1 hW.alike f13.2.2.1, jj_sref f13.1 f13.2.1 hH.2.1.1 hW.alike f13.2.2.2.1, jj_sls f13.1 f13.2.1 hH.2.1.1 hW.alike f13.2.2.2.2.1, jj_sls f13.1 f13.2.1 hH.2.1.1 hW.alike f13.2.2.2.2.2.1, fun cell hcell => State.isArrayOf_alike hW.alike (f13.2.2.2.2.2.2 cell hcell)⟩
theorem jj_run {p : Program} {l : Launch} {e : Env} {R : Room} {s : State} {m : MethodId} {args : Array Value} {below : List Frame} {meth : Method} {c : Code} {T : State} {locs : List Loc} {cells slots : Nat} (X : Stand p l e R s m args below meth c T locs cells slots) (F : jj_fx p e s m args meth c Y G) (hok : jj_code G Y') {mk : MethodId} (hn : s.methodNamed? Y'.1 = some mk) {vs rest : List Value} {ls : Array Slot} {ig : Instr} {len : Nat} (hsize : ls.size = c.maxLocals) (hdg : decode c.code pc = .ok (ig, len)) (A : jj_rel G M T.heap) (E1 : cells + rc ≤ R.cells) (E2 : slots + rs ≤ R.slots) (E3 : d + 1 ≤ R.frames) (E4 : 100 * (d + 1) ≤ R.locals) (hst : (rest.map fun v => v.category).sum + Y'.2.2.1 + 11 ≤ 100) (hvs : (lg_sl vs).length ≤ Y'.2.2.1) (h : jj G Y' d Q rc rs 0 (jj_ent vs Y'.2.2.1) [] M) :
    ∃ (o : Outcome) (T' : State) (L1 : List Loc) (k n : Nat) (M' : mheap) (rc' rs' : Nat), Stand p l e R s m args below meth c T' (locs ++ L1) (cells + k) (slots + n) ∧ (∀ q ∈ L1, G.2.2.2.2.1.size ≤ q.base) ∧ jj_rel G M' T'.heap ∧ cells + k + rc' ≤ R.cells ∧ slots + n + rs' ≤ R.slots ∧ Q o M' rc' rs' ∧
      (∀ v, o = .returned v → ∀ acts, Steps p.tables e below (doInvoke e (T.setTop (F0 m pc ls rest)) acts mk vs.toArray).1 (T'.setTop (F0 m (pc + len) ls (v.toList ++ rest)))) ∧
      ∀ x, o = .threw x → ∀ acts, Steps p.tables e below (doInvoke e (T.setTop (F0 m pc ls rest)) acts mk vs.toArray).1 ((T'.setTop (F0 m pc ls rest)).pushFrame (.throwing x)) := by
  have f9 := F.2.2.2.2.2.2.2.2.1
  obtain ⟨methk, ck, h1, h2, h3, h4, h5, h6, h7, -⟩ := jj_code_spec hok f9 hn
  have hmT : T.vm.method? mk = some methk := by rw [X.warmed.alike.method?]; exact h1
  have hpT : T.plainMethod mk := State.plainMethod.of_named hok.2 (X.named hn) hmT
  obtain ⟨Y₀, hin⟩ := X.into (g := F0 m pc ls rest) rfl hsize hdg vs.toArray (R' := { frames := d, cells := rc, slots := rs, locals := 100 * d }) hmT h2 h6 hpT E3 (by
    show 2 * 0 + (rest.map fun v => v.category).sum + (ck.maxLocals + 11) + 100 * d ≤ R.locals
    rw [h4]; omega) E1 E2
  have hWs : s.WarmedH (T.calling (F0 m pc ls rest) mk vs.toArray).vm := X.warmed
  have F' := jj_fx_in (a' := vs.toArray) F hok hn hWs A h1 h3 h4 h5 h6 h7
  have w := h p l e { frames := d, cells := rc, slots := rs, locals := 100 * d } (T.calling (F0 m pc ls rest) mk vs.toArray) mk vs.toArray (.java (F0 m pc ls rest) :: below) methk ck T.heap [] 0 0 _ F' A (fun q hq => by cases hq) (jj_ent_lr vs hvs) (by simp) (by simp) (Nat.le_refl _) (Nat.le_refl _)
  obtain ⟨t, a1, o, L1, k, n, b1, b2, b3, b4, b5, M', rc', rs', c1, c2, c3, c4⟩ := w _ (by rfl) Y₀
  have c2' : k + rc' ≤ rc := c2
  have c3' : n + rs' ≤ rs := c3
  have e0 : entryFrame mk vs.toArray ck.maxLocals = F0 mk 0 ((lg_sl vs ++ List.replicate (Y'.2.2.1 - (lg_sl vs).length) Slot.unset).toArray) [] := by rw [h4]; exact lg_entry_eq mk vs _
  cases o with
  | returned v =>
    obtain ⟨T', X', -, -, ht⟩ := X.outOf (g := F0 m pc ls rest) rfl hdg b2 b3 b4
    refine ⟨.returned v, T', L1, k, n, M', rc', rs', X', b5, ?_, by omega, by omega, c4, fun v' hv' acts => ?_, (fun x hx => by cases hx)⟩
    · have : t.heap = T'.heap := by rw [ht]; rfl
      rw [← this]; exact c1
    · cases hv'
      rw [hin acts, e0]
      refine Steps.weaken (mid := [.java (F0 m pc ls rest)]) ?_
      rw [e0] at a1
      have ht' : t = T'.setTop (F0 m (pc + len) ls (v.toList ++ rest)) := ht
      rw [← ht']
      exact a1
  | threw x =>
    obtain ⟨T', X', -, -, ht⟩ := X.outOfThrown (g := F0 m pc ls rest) rfl b2 b3 b4
    refine ⟨.threw x, T', L1, k, n, M', rc', rs', X', b5, ?_, by omega, by omega, c4, (fun v' hv' => by cases hv'), fun x' hx' acts => ?_⟩
    · have : t.heap = T'.heap := by rw [ht]; exact Stand.throwing_heap _ _ _
      rw [← this]; exact c1
    · cases hx'
      rw [hin acts, e0]
      refine Steps.weaken (mid := [.java (F0 m pc ls rest)]) ?_
      rw [e0] at a1
      rw [← ht]
      exact a1
/-- what a call's end goes on with, where no handler covers it -/
def jj_back (G : jg) (Y : jm) (d : Nat) (Q : jq) (pc : Nat) (L : List (Option Value)) (st : List Value) : jq := fun o M rc rs => match o with
  | .returned v => jj G Y (d + 1) Q rc rs pc L (v.toList ++ st) M
  | .threw x => Q (.threw x) M rc rs
/-- no handler covers the place -/
def jj_bare (Y : jm) (pc : Nat) : Prop := ∀ q ∈ Y.2.2.2.2, ¬ (q.1 ≤ pc ∧ pc < q.2.1)
theorem jj_bare_out {c : Code} (h8 : c.exceptionTable.toList.map (fun h => (h.startPc, h.endPc, h.handlerPc, h.catchType)) = Y.2.2.2.2) (hb : jj_bare Y pc) : ∀ x ∈ c.exceptionTable.toList, covers x pc = false := by
  intro x hx
  have h1 := hb (x.startPc, x.endPc, x.handlerPc, x.catchType) (by rw [← h8]; exact List.mem_map.mpr ⟨x, hx, rfl⟩)
  simp only [covers]
  simpa using h1
/-- from a call's first step to the caller's own end -/
theorem jj_after {p : Program} {l : Launch} {e : Env} {R : Room} {s : State} {m : MethodId} {args : Array Value} {below : List Frame} {meth : Method} {c : Code} {T T1 : State} {locs : List Loc} {cells slots : Nat} {g : JFrame} (X : Stand p l e R s m args below meth c T1 locs cells slots) (F : jj_fx p e s m args meth c Y G) (hok : jj_code G Y') {mk : MethodId} (hn : s.methodNamed? Y'.1 = some mk) {vs : List Value} {ls : Array Slot} {ig : Instr} {len : Nat} (hdg : decode Y.2.1 pc = .ok (ig, len)) (A : jj_rel G M T1.heap) (B : ∀ q ∈ locs, G.2.2.2.2.1.size ≤ q.base) (C : jj_lr ls L) (hL : L.length = Y.2.2.1) (E1 : cells + rc ≤ R.cells) (E2 : slots + rs ≤ R.slots) (E3 : d + 1 ≤ R.frames) (E4 : 100 * (d + 1) ≤ R.locals) (hst : (st.map fun v => v.category).sum + Y'.2.2.1 + 11 ≤ 100) (hvs : (lg_sl vs).length ≤ Y'.2.2.1) (hbare : jj_bare Y pc)
    (hstep : ∀ target, (∀ acts, Steps p.tables e below (doInvoke e (T1.setTop (F0 m pc ls st)) acts mk vs.toArray).1 target) → Steps p.tables e below (T.setTop g) target)
    (h : jj G Y' d (jj_back G Y d Q (pc + len) L st) rc rs 0 (jj_ent vs Y'.2.2.1) [] M) : ∃ t, Steps p.tables e below (T.setTop g) t ∧ jj_Q G R s below Q t := by
  obtain ⟨f1, f2, f3, f4, f5, f6, f7, f8, f9, f10, f11, f12, f13⟩ := id F
  obtain ⟨o, T', L1, k, n, M', rc', rs', X', hL1, hrel, e1, e2, hq, hret, hthr⟩ := jj_run X F hok hn (ls := ls) (vs := vs) (rest := st) (by rw [C.1, hL, f3]) (by rw [f2]; exact hdg) A E1 E2 E3 E4 hst hvs h
  have B' : ∀ q ∈ locs ++ L1, G.2.2.2.2.1.size ≤ q.base := fun q hq => (List.mem_append.mp hq).elim (B q) (hL1 q)
  cases o with
  | returned v =>
    obtain ⟨t, a1, a2⟩ := (show jj G Y (d + 1) Q rc' rs' (pc + len) L (v.toList ++ st) M' from hq) p l e R s m args below meth c T'.heap _ _ _ ls F hrel B' C e1 e2 E3 E4 T' rfl X'
    exact ⟨t, hstep t fun acts => (hret v rfl acts).trans a1, a2⟩
  | threw x =>
    obtain ⟨w1, w2, w3, w4, w5⟩ := X'.leaveThrown x (g := F0 m pc ls st) rfl rfl rfl (jj_bare_out f8 hbare) f5
    exact ⟨_, hstep _ fun acts => (hthr x rfl acts).trans w1, .threw x, _, _, _, w2, w3, w4, w5, B', M', rc', rs', hrel, e1, e2, hq⟩
/-- an entry of own's pool is the instance method Y', of n parameters -/
def jj_cv (G : jg) (own : String) (index : Nat) (Y' : jm) (n : Nat) : Prop := (Cond.methodLink own index Y'.1 ∈ G.2.2.2.1 ∨ ∃ host, Cond.methodLinkNest own index Y'.1 host ∈ G.2.2.2.1) ∧ Cond.instanceMethod Y'.1 ∈ G.2.2.2.1 ∧ Cond.selects Y'.1.cls Y'.1 Y'.1 ∈ G.2.2.2.1 ∧ (Y'.1.cls ≠ "java/lang/invoke/MethodHandle" ∧ Y'.1.cls ≠ "java/lang/invoke/VarHandle") ∧ (parseMethodDescriptor Y'.1.desc).map (fun d => d.parameters.length) = some n ∧ jj_code G Y'
theorem jj_callV {index ci b n : Nat} {As fs st0 : List Value} {r : vw_C} (hd : decode Y.2.1 pc = .ok (.invokevirtual index, 3)) (hv : jj_cv G Y.1.cls index Y' n) (hc : G.2.1[ci]? = some r) (hr : r.1 = Y'.1.cls) (hM : M b = some (.inl ci, fs)) (hs : st0 = As.reverse ++ .ref b :: st) (hlen : As.length = n) (hL : L.length = Y.2.2.1) (hst : (st.map fun v => v.category).sum + Y'.2.2.1 + 11 ≤ 100) (hvs : (lg_sl (.ref b :: As)).length ≤ Y'.2.2.1) (hbare : jj_bare Y pc) (h : jj G Y' d (jj_back G Y d Q (pc + 3) L st) rc rs 0 (jj_ent (.ref b :: As) Y'.2.2.1) [] M) : jj G Y (d + 1) Q rc rs pc L st0 M := by
  intro p l e R s m args below meth c H locs cells slots ls F A B C E1 E2 E3 E4 T hT X
  obtain ⟨f1, f2, f3, f4, f5, f6, f7, f8, f9, f10, f11, f12, f13⟩ := id F
  obtain ⟨hl, w1, w2, hy, hpn, hok⟩ := hv
  subst hT
  subst hs
  obtain ⟨mk, methM, hnamed, hmethM, hstM, habM⟩ := Cond.instanceMethod_spec (f9 _ w1)
  obtain ⟨methM', cM, hmethM', -, -, -, -, -, -, hsigM⟩ := jj_code_spec hok f9 hnamed
  cases hmethM.symm.trans hmethM'
  obtain ⟨c2, r2, m2, q1, q2, q3, q4, kP, hkP, hkPi⟩ := Cond.selects_spec (f9 _ w2)
  obtain ⟨-, r', g0, -, cellB, g1, g2, g3, -⟩ := A.2.2 b _ hM
  have hcls : s.vm.findClass Y'.1.cls = some cellB.cls := by rw [g2, ← hr]; exact (f10.1 ci r hc).2.1
  cases hcls.symm.trans q1
  cases (State.methodFound?_of_named hnamed hy).symm.trans q2
  cases hnamed.symm.trans q3
  have hselP : selectMethod e.platform s.vm cellB.cls mk = .method mk := by rw [Launch.admits_selectMethod X.admits]; exact q4
  have hplen : As.length = methM.sig.parameters.length := by
    rw [hsigM] at hpn
    exact hlen.trans (Option.some.inj hpn).symm
  rcases hl with hl | ⟨host, hl⟩
  · obtain ⟨vm₁, X₁, hstep₁⟩ := X.invokevirtual f1 f6 (f9 _ hl) hnamed hmethM hstM hkP hkPi hy (a := b) (cell := cellB) g1 (fun z h => by rw [g3] at h; cases h) hselP hmethM habM hkP hkPi (g := F0 m pc ls (As.reverse ++ .ref b :: st)) rfl (argsL := As) (rest := st) hplen rfl (by rw [f2]; exact hd)
    exact jj_after X₁ F hok hnamed (vs := .ref b :: As) hd A B C hL E1 E2 E3 E4 hst hvs hbare hstep₁ h
  · obtain ⟨vm₁, X₁, hstep₁⟩ := X.invokevirtualNest f1 f6 (f9 _ hl) hnamed hmethM hstM hkP hkPi hy (a := b) (cell := cellB) g1 (fun z h => by rw [g3] at h; cases h) hselP hmethM habM hkP hkPi (g := F0 m pc ls (As.reverse ++ .ref b :: st)) rfl (argsL := As) (rest := st) hplen rfl (by rw [f2]; exact hd)
    exact jj_after X₁ F hok hnamed (vs := .ref b :: As) hd A B C hL E1 E2 E3 E4 hst hvs hbare hstep₁ h
/-- an entry of own's pool is the static method Y' -/
def jj_cs (G : jg) (own : String) (index : Nat) (Y' : jm) (n : Nat) : Prop := (Cond.methodLink own index Y'.1 ∈ G.2.2.2.1 ∨ ∃ host, Cond.methodLinkNest own index Y'.1 host ∈ G.2.2.2.1) ∧ Cond.static Y'.1 ∈ G.2.2.2.1 ∧ Cond.initialized Y'.1.cls ∈ G.2.2.2.1 ∧ (Y'.1.cls ≠ "java/lang/invoke/MethodHandle" ∧ Y'.1.cls ≠ "java/lang/invoke/VarHandle") ∧ (parseMethodDescriptor Y'.1.desc).map (fun d => d.parameters.length) = some n ∧ jj_code G Y'
theorem jj_named {args : Array Value} {s : State} (hok : jj_code G Y') (hts : ∀ w ∈ G.2.2.2.1, w.before args s = true) : ∃ mk, s.methodNamed? Y'.1 = some mk := by
  rcases hok.1 with ⟨-, hw⟩ | hw
  · exact Cond.code_named (hts _ hw)
  · obtain ⟨m, -, -, h, -⟩ := Cond.codeWith_spec (hts _ hw)
    exact ⟨m, h⟩
theorem jj_callS {index n : Nat} {As st0 : List Value} (hd : decode Y.2.1 pc = .ok (.invokestatic index, 3)) (hv : jj_cs G Y.1.cls index Y' n) (hs : st0 = As.reverse ++ st) (hlen : As.length = n) (hL : L.length = Y.2.2.1) (hst : (st.map fun v => v.category).sum + Y'.2.2.1 + 11 ≤ 100) (hvs : (lg_sl As).length ≤ Y'.2.2.1) (hbare : jj_bare Y pc) (h : jj G Y' d (jj_back G Y d Q (pc + 3) L st) rc rs 0 (jj_ent As Y'.2.2.1) [] M) : jj G Y (d + 1) Q rc rs pc L st0 M := by
  intro p l e R s m args below meth c H locs cells slots ls F A B C E1 E2 E3 E4 T hT X
  obtain ⟨f1, f2, f3, f4, f5, f6, f7, f8, f9, f10, f11, f12, f13⟩ := id F
  obtain ⟨hl, w1, w2, hy, hpn, hok⟩ := hv
  subst hT
  subst hs
  obtain ⟨mk, hnamed⟩ := jj_named hok f9
  obtain ⟨methM, cM, hmethM, -, -, -, -, -, -, hsigM⟩ := jj_code_spec hok f9 hnamed
  have hstatic : methM.isStatic = true := Cond.static_spec hnamed hmethM (f9 _ w1)
  obtain ⟨kP, hkP, -⟩ := className_of_methodNamed hnamed
  have hinitP : kP.init = .initialized := Cond.initialized_spec (findClass_of_methodNamed hnamed) hkP (f9 _ w2)
  have hplen : As.length = methM.sig.parameters.length := by
    rw [hsigM] at hpn
    exact hlen.trans (Option.some.inj hpn).symm
  rcases hl with hl | ⟨host, hl⟩
  · obtain ⟨vm₁, X₁, hstep₁⟩ := X.invokestatic f1 f6 (f9 _ hl) hnamed hmethM hstatic hkP hinitP hy (g := F0 m pc ls (As.reverse ++ st)) rfl (argsL := As) (rest := st) hplen rfl (by rw [f2]; exact hd)
    exact jj_after X₁ F hok hnamed (vs := As) hd A B C hL E1 E2 E3 E4 hst hvs hbare hstep₁ h
  · obtain ⟨vm₁, X₁, hstep₁⟩ := X.invokestaticNest f1 f6 (f9 _ hl) hnamed hmethM hstatic hkP hinitP hy (g := F0 m pc ls (As.reverse ++ st)) rfl (argsL := As) (rest := st) hplen rfl (by rw [f2]; exact hd)
    exact jj_after X₁ F hok hnamed (vs := As) hd A B C hL E1 E2 E3 E4 hst hvs hbare hstep₁ h
/-- an entry of own's pool is the constructor Y' -/
def jj_ci (G : jg) (own : String) (index : Nat) (Y' : jm) (n : Nat) : Prop := (Cond.methodLink own index Y'.1 ∈ G.2.2.2.1 ∨ ∃ host, Cond.methodLinkNest own index Y'.1 host ∈ G.2.2.2.1) ∧ Y'.1.name = "<init>" ∧ Cond.instanceMethod Y'.1 ∈ G.2.2.2.1 ∧ (Y'.1.cls ≠ "java/lang/invoke/MethodHandle" ∧ Y'.1.cls ≠ "java/lang/invoke/VarHandle") ∧ (parseMethodDescriptor Y'.1.desc).map (fun d => d.parameters.length) = some n ∧ Cond.code Y'.1 Y'.2.1 Y'.2.2.1 none ∈ G.2.2.2.1 ∧ jj_code G Y'
theorem jj_callI {index b n : Nat} {As st0 : List Value} (hd : decode Y.2.1 pc = .ok (.invokespecial index, 3)) (hv : jj_ci G Y.1.cls index Y' n) (hs : st0 = As.reverse ++ .ref b :: st) (hlen : As.length = n) (hL : L.length = Y.2.2.1) (hst : (st.map fun v => v.category).sum + Y'.2.2.1 + 11 ≤ 100) (hvs : (lg_sl (.ref b :: As)).length ≤ Y'.2.2.1) (hbare : jj_bare Y pc) (h : jj G Y' d (jj_back G Y d Q (pc + 3) L st) rc rs 0 (jj_ent (.ref b :: As) Y'.2.2.1) [] M) : jj G Y (d + 1) Q rc rs pc L st0 M := by
  intro p l e R s m args below meth c H locs cells slots ls F A B C E1 E2 E3 E4 T hT X
  obtain ⟨f1, f2, f3, f4, f5, f6, f7, f8, f9, f10, f11, f12, f13⟩ := id F
  obtain ⟨hl, hi0, w1, hy, hpn, w2, hok⟩ := hv
  subst hT
  subst hs
  have hpl : e.platform.magicAccessors = ({} : Platform).magicAccessors := by rw [X.admits.platform]
  have hlen' : ∀ sig, parseMethodDescriptor Y'.1.desc = some sig → As.length = sig.parameters.length := fun sig hsig => by
    rw [hsig] at hpn
    exact hlen.trans (Option.some.inj hpn).symm
  have hat : At T (F0 m pc ls (As.reverse ++ .ref b :: st)).method c below := X.here
  rcases hl with hl | ⟨host, hl⟩
  · obtain ⟨mk, methM, cM, kP, vm₁, hnamed, -, -, -, -, -, -, -, hW₁, hstep₁⟩ := Steps.initColdArgs (e := e) hat f1 X.warmed hpl f6 hi0 hy (f9 _ hl) (f9 _ w1) (f9 _ w2) (f := F0 m pc ls (As.reverse ++ .ref b :: st)) rfl hlen' rfl (by rw [f2]; exact hd)
    exact jj_after (X.noted hW₁) F hok hnamed (vs := .ref b :: As) hd A B C hL E1 E2 E3 E4 hst hvs hbare hstep₁ h
  · obtain ⟨mk, methM, cM, kP, vm₁, hnamed, -, -, -, -, -, -, -, hW₁, hstep₁⟩ := Steps.initColdArgsNest (e := e) hat f1 X.warmed hpl f6 hi0 hy (f9 _ hl) (f9 _ w1) (f9 _ w2) (f := F0 m pc ls (As.reverse ++ .ref b :: st)) rfl hlen' rfl (by rw [f2]; exact hd)
    exact jj_after (X.noted hW₁) F hok hnamed (vs := .ref b :: As) hd A B C hL E1 E2 E3 E4 hst hvs hbare hstep₁ h
end JC
