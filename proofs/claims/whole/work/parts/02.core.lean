/-! ===== CORE: a judgement over small states (jj), of any class: cells as (class or array number, values), locals as a list, the room as what is left ===== -/
abbrev mcell : Type := (Nat ⊕ Nat) × List Value
abbrev mheap : Type := Nat → Option mcell
/-- a method: name, bytes, locals, return type, handlers -/
abbrev jm : Type := MethodName × ByteArray × Nat × Option FieldType × List (Nat × Nat × Nat × Nat)
/-- what is fixed for a run: class numbers and slots, classes, array classes, words, the heap at the start, the script's address -/
abbrev jg : Type := va_G × List vw_C × List (ClassId × FieldType) × List Cond × Heap × Nat
def jj_rep (G : jg) (x : mcell) (a : Nat) (H : Heap) : Prop := match x.1 with
  | .inl ci => ∃ r : vw_C, G.2.1[ci]? = some r ∧ r.2.2 = x.2.length ∧ t_OB a (G.1.1 ci) r.2.2 (G.1.2 ci) H (vp_V x.2)
  | .inr j => ∃ q : ClassId × FieldType, G.2.2.1[j]? = some q ∧ H[a]? = some (arrV q.1 x.2.length (vp_V x.2))
def jj_rel (G : jg) (M : mheap) (H : Heap) : Prop := G.2.2.2.2.1.size ≤ H.size ∧ ((∀ q : Nat, q < G.2.2.2.2.1.size → H[q]? = G.2.2.2.2.1[q]?) ∧ ∀ (q : Nat) (c : Cell), G.2.2.2.2.1.size ≤ q → H[q]? = some c → c.vm.isStatics = false) ∧ ∀ (a : Nat) (x : mcell), M a = some x → G.2.2.2.2.1.size ≤ a ∧ jj_rep G x a H
/-- a word that holds on while the tables warm -/
def jj_gw (w : Cond) : Prop := ∀ (args a' : Array Value) (s U : State), s.WarmedH U.vm → w.before args s = true → w.before a' U = true
def jj_gwb (w : Cond) : Bool := match w with
  | .fieldLinkNest .. => true
  | .methodLinkNest .. => true
  | .stringRef .. => true
  | .not (.castable ..) => true
  | .arrayOver (.object _) => true
  | .declares _ => true
  | .castable .. => true
  | w => goodWord w
theorem jj_gwb_ok {w : Cond} (h : jj_gwb w = true) : jj_gw w := by
  intro args a' s U hW hb
  unfold jj_gwb at h
  split at h
  · exact va_Nw.use rfl (va_Nw.warmF hW (va_Nw.of rfl hb))
  · exact va_Nw.use rfl (va_Nw.warmM hW (va_Nw.of rfl hb))
  · have h1 := Cond.stringRef_warmed (args := args) hW hb
    simp only [Cond.before, Cond.holds, Cond.value, State.names, State.poolOf?, State.resolvedAt?, State.vm_setVm] at h1 ⊢
    exact h1
  · have h1 := Cond.castAtom_setVm (args := args) hW.alike _ rfl hb
    simp only [Cond.before, Cond.holds, Cond.value, State.vm_setVm] at h1 ⊢
    exact h1
  · exact va_AO.use (va_AO.moved hW.alike (va_AO.of hb))
  · exact va_Nw.use rfl (va_Nw.warmD hW (va_Nw.of rfl hb))
  · have hal := hW.alike
    simp only [Cond.before, Cond.holds, Cond.value] at hb ⊢
    simp only [hal.findClass, hal.assignable]
    exact hb
  · exact word_at hW (good_of_word h) hb
/-- what the heap at a method's entry is: the old cells as at the start, no new statics; what a throw reads there -/
def jj_hp (G : jg) (s : State) : Prop := (∀ q : Nat, q < G.2.2.2.2.1.size → s.heap[q]? = G.2.2.2.2.1[q]?) ∧ (∀ (q : Nat) (c : Cell), G.2.2.2.2.1.size ≤ q → s.heap[q]? = some c → c.vm.isStatics = false) ∧ (Cond.isRef (.static Bundle.tN "UNASSIGNED_STACK" Bundle.steD)).before #[] s = true ∧ (Cond.isRef (.static Bundle.tN "SUPPRESSED_SENTINEL" Bundle.listD)).before #[] s = true ∧ (Cond.laysStatic Bundle.tN "UNASSIGNED_STACK" Bundle.steD).before #[] s = true ∧ (Cond.laysStatic Bundle.tN "SUPPRESSED_SENTINEL" Bundle.listD).before #[] s = true ∧ ∀ cell : Cell, G.2.2.2.2.1[G.2.2.2.2.2]? = some cell → s.isArrayOf cell .int
def jj_fx (p : Program) (e : Env) (s : State) (m : MethodId) (args : Array Value) (meth : Method) (c : Code) (Y : jm) (G : jg) : Prop :=
  p.tables.exec = Jvm.exec ∧ c.code = Y.2.1 ∧ c.maxLocals = Y.2.2.1 ∧ meth.sig.returnType = Y.2.2.2.1 ∧ meth.locks = false ∧ s.vm.findClass Y.1.cls = some m.cls ∧ meth.name = Y.1.name ∧
  c.exceptionTable.toList.map (fun h => (h.startPc, h.endPc, h.handlerPc, h.catchType)) = Y.2.2.2.2 ∧ (∀ w ∈ G.2.2.2.1, w.before args s = true) ∧ va_K G.1 G.2.1 G.2.2.1 s ∧ e.platform.stackTraces = false ∧ (∀ w ∈ G.2.2.2.1, jj_gw w) ∧ jj_hp G s
/-- the locals: what the list names is held -/
def jj_lr (ls : Array Slot) (L : List (Option Value)) : Prop := ls.size = L.length ∧ lv_wf ls ∧ ∀ (i : Nat) (v : Value), L[i]? = some (some v) → ls[i]? = some (.val v)
/-- how a method ends: outcome, small heap, what is left of cells and slots -/
abbrev jq : Type := Outcome → mheap → Nat → Nat → Prop
def jj_Q (G : jg) (R : Room) (s : State) (below : List Frame) (Q : jq) : State → Prop := fun t => ∃ (o : Outcome) (L : List Loc) (k n : Nat), t.status = .running ∧ Ended t below o ∧ s.WarmedH t.vm ∧ s.sameButNew ({ t with vm := s.vm } : State) L k n ∧ (∀ q ∈ L, G.2.2.2.2.1.size ≤ q.base) ∧
  ∃ (M : mheap) (rc rs : Nat), jj_rel G M t.heap ∧ k + rc ≤ R.cells ∧ n + rs ≤ R.slots ∧ Q o M rc rs
def jj (G : jg) (Y : jm) (d : Nat) (Q : jq) (rc rs pc : Nat) (L : List (Option Value)) (st : List Value) (M : mheap) : Prop :=
  ∀ (p : Program) (l : Launch) (e : Env) (R : Room) (s : State) (m : MethodId) (args : Array Value) (below : List Frame) (meth : Method) (c : Code) (H : Heap) (locs : List Loc) (cells slots : Nat) (ls : Array Slot),
    jj_fx p e s m args meth c Y G → jj_rel G M H → (∀ q ∈ locs, G.2.2.2.2.1.size ≤ q.base) → jj_lr ls L → cells + rc ≤ R.cells → slots + rs ≤ R.slots → d ≤ R.frames → 100 * d ≤ R.locals →
    W p l e R s m args below meth c H locs cells slots (jj_Q G R s below Q) (F0 m pc ls st)
def jj_pr (L : List (Option Value)) : List (Nat × Value) := L.zipIdx.filterMap (fun q => q.1.map (fun v => (q.2, v)))
theorem jj_pr_mem {L : List (Option Value)} {q : Nat × Value} : q ∈ jj_pr L ↔ L[q.1]? = some (some q.2) := by
  unfold jj_pr
  rw [List.mem_filterMap]
  constructor
  · rintro ⟨⟨o, i⟩, h1, h2⟩
    have h3 := List.mem_zipIdx_iff_getElem?.mp h1
    cases o with
    | none => simp at h2
    | some v =>
      simp only [Option.map_some, Option.some.injEq] at h2
      subst h2
      simpa using h3
  · intro h
    exact ⟨(some q.2, q.1), List.mem_zipIdx_iff_getElem?.mpr (by simpa using h), by simp⟩
theorem jj_lr_has {ls : Array Slot} {L : List (Option Value)} (h : jj_lr ls L) : lv_has ls L.length (jj_pr L) := ⟨h.1, h.2.1, fun q hq => h.2.2 q.1 q.2 (jj_pr_mem.mp hq)⟩
/-- a store of one word: it ends what stood there, and a long whose second half stood there -/
def jj_kill (L : List (Option Value)) (i : Nat) : List (Option Value) := match i with
  | 0 => L
  | j + 1 => match L[j]? with
    | some (some (.long _)) => L.set j none
    | some (some (.double _)) => L.set j none
    | _ => L
def jj_st1 (L : List (Option Value)) (i : Nat) (v : Value) : List (Option Value) := (jj_kill L i).set i (some v)
def jj_st2 (L : List (Option Value)) (i : Nat) (v : Value) : List (Option Value) := ((jj_kill L i).set (i + 1) none).set i (some v)
theorem jj_kill_len (L : List (Option Value)) (i : Nat) : (jj_kill L i).length = L.length := by
  unfold jj_kill
  split
  · rfl
  · split <;> simp
theorem jj_kill_at {L : List (Option Value)} {i j : Nat} {v : Value} (h : (jj_kill L i)[j]? = some (some v)) : L[j]? = some (some v) ∧ ¬ (j + 1 = i ∧ v.category = 2) := by
  unfold jj_kill at h
  split at h
  · exact ⟨h, fun q => by omega⟩
  · rename_i k
    split at h
    · by_cases e : j = k
      · subst e
        rw [List.getElem?_set] at h
        split at h <;> simp_all
      · rw [List.getElem?_set_ne (fun q => e q.symm)] at h
        exact ⟨h, fun q => by omega⟩
    · by_cases e : j = k
      · subst e
        rw [List.getElem?_set] at h
        split at h <;> simp_all
      · rw [List.getElem?_set_ne (fun q => e q.symm)] at h
        exact ⟨h, fun q => by omega⟩
    · rename_i n1 n2
      refine ⟨h, fun q => ?_⟩
      obtain ⟨q1, q2⟩ := q
      have e : j = k := by omega
      subst e
      cases v <;> simp [Value.category] at q2
      · exact n1 _ h
      · exact n2 _ h
theorem jj_lr_st1 {ls' : Array Slot} {L : List (Option Value)} {i : Nat} {v : Value} (hi : i < L.length) (h : lv_has ls' L.length ((i, v) :: (jj_pr L).filter (fun q => !(q.1 == i) && !(q.1 + 1 == i && q.2.category == 2)))) : jj_lr ls' (jj_st1 L i v) := by
  refine ⟨by rw [h.1]; simp [jj_st1, jj_kill_len], h.2.1, fun j w hj => ?_⟩
  unfold jj_st1 at hj
  by_cases e : j = i
  · subst e
    rw [List.getElem?_set_self (by rw [jj_kill_len]; exact hi)] at hj
    have e9 : v = w := by simpa using hj
    subst e9
    exact h.2.2 (j, v) List.mem_cons_self
  · rw [List.getElem?_set_ne (fun q => e q.symm)] at hj
    obtain ⟨h1, h2⟩ := jj_kill_at hj
    refine h.2.2 (j, w) (List.mem_cons_of_mem _ (List.mem_filter.mpr ⟨jj_pr_mem.mpr h1, ?_⟩))
    by_cases a1 : j + 1 = i
    · have a2 : ¬ w.category = 2 := fun q => h2 ⟨a1, q⟩
      simp [e, a2]
    · simp [e, a1]
theorem jj_lr_st2 {ls' : Array Slot} {L : List (Option Value)} {i : Nat} {v : Value} (hi : i + 1 < L.length) (h : lv_has ls' L.length ((i, v) :: (jj_pr L).filter (fun q => !(q.1 == i) && (!(q.1 == i + 1) && !(q.1 + 1 == i && q.2.category == 2))))) : jj_lr ls' (jj_st2 L i v) := by
  refine ⟨by rw [h.1]; simp [jj_st2, jj_kill_len], h.2.1, fun j w hj => ?_⟩
  unfold jj_st2 at hj
  by_cases e : j = i
  · subst e
    rw [List.getElem?_set_self (by simp [jj_kill_len]; omega)] at hj
    have e9 : v = w := by simpa using hj
    subst e9
    exact h.2.2 (j, v) List.mem_cons_self
  · rw [List.getElem?_set_ne (fun q => e q.symm)] at hj
    by_cases e1 : j = i + 1
    · subst e1
      rw [List.getElem?_set_self (by rw [jj_kill_len]; exact hi)] at hj
      cases hj
    · rw [List.getElem?_set_ne (fun q => e1 q.symm)] at hj
      obtain ⟨h1, h2⟩ := jj_kill_at hj
      refine h.2.2 (j, w) (List.mem_cons_of_mem _ (List.mem_filter.mpr ⟨jj_pr_mem.mpr h1, ?_⟩))
      by_cases a1 : j + 1 = i
      · have a2 : ¬ w.category = 2 := fun q => h2 ⟨a1, q⟩
        simp [e, e1, a2]
      · simp [e, e1, a1]
section JJ
variable {G : jg} {Y : jm} {d : Nat} {Q : jq} {rc rs pc : Nat} {L : List (Option Value)} {st : List Value} {M : mheap}
theorem jj_eq {pc' : Nat} {L' : List (Option Value)} {st' : List Value} {M' : mheap} (h1 : pc = pc') (h2 : L = L') (h3 : st = st') (h4 : M = M') (k : jj G Y d Q rc rs pc' L' st' M') : jj G Y d Q rc rs pc L st M := by
  subst h1; subst h2; subst h3; subst h4; exact k
theorem jj_mono {Q' : jq} (h : ∀ o M rc rs, Q o M rc rs → Q' o M rc rs) (k : jj G Y d Q rc rs pc L st M) : jj G Y d Q' rc rs pc L st M := by
  intro p l e R s m args below meth c H locs cells slots ls F A B C E1 E2 E3 E4 T hT X
  obtain ⟨t, a, o, L1, k1, n1, b1, b2, b3, b4, b5, M1, r1, r2, c1, c2, c3, c4⟩ := k p l e R s m args below meth c H locs cells slots ls F A B C E1 E2 E3 E4 T hT X
  exact ⟨t, a, o, L1, k1, n1, b1, b2, b3, b4, b5, M1, r1, r2, c1, c2, c3, h _ _ _ _ c4⟩
theorem jj_less {rc' rs' : Nat} (h1 : rc' ≤ rc) (h2 : rs' ≤ rs) (k : jj G Y d Q rc' rs' pc L st M) : jj G Y d Q rc rs pc L st M := by
  intro p l e R s m args below meth c H locs cells slots ls F A B C E1 E2 E3 E4
  exact k p l e R s m args below meth c H locs cells slots ls F A B C (by omega) (by omega) E3 E4
theorem jj_iconst {n : Int} {v : Int32} (hd : decode Y.2.1 pc = .ok (.iconst n, 1)) (hv : Int32.ofInt n = v) (k : jj G Y d Q rc rs (pc + 1) L (.int v :: st) M) : jj G Y d Q rc rs pc L st M := by
  intro p l e R s m args below meth c H locs cells slots ls F A B C E1 E2 E3 E4
  exact lv_iconst F.1 F.2.1 hd hv (k p l e R s m args below meth c H locs cells slots ls F A B C E1 E2 E3 E4)
theorem jj_bipush {n : Int} {v : Int32} (hd : decode Y.2.1 pc = .ok (.bipush n, 2)) (hv : (Int8.ofInt n).toInt32 = v) (k : jj G Y d Q rc rs (pc + 2) L (.int v :: st) M) : jj G Y d Q rc rs pc L st M := by
  intro p l e R s m args below meth c H locs cells slots ls F A B C E1 E2 E3 E4
  exact lv_bipush F.1 F.2.1 hd hv (k p l e R s m args below meth c H locs cells slots ls F A B C E1 E2 E3 E4)
theorem jj_sipush {n : Int} {v : Int32} (hd : decode Y.2.1 pc = .ok (.sipush n, 3)) (hv : (Int16.ofInt n).toInt32 = v) (k : jj G Y d Q rc rs (pc + 3) L (.int v :: st) M) : jj G Y d Q rc rs pc L st M := by
  intro p l e R s m args below meth c H locs cells slots ls F A B C E1 E2 E3 E4
  exact lv_sipush F.1 F.2.1 hd hv (k p l e R s m args below meth c H locs cells slots ls F A B C E1 E2 E3 E4)
theorem jj_lconst {n : Fin 2} {v : Int64} (hd : decode Y.2.1 pc = .ok (.lconst n, 1)) (hv : Int64.ofNat (n : Nat) = v) (k : jj G Y d Q rc rs (pc + 1) L (.long v :: st) M) : jj G Y d Q rc rs pc L st M := by
  intro p l e R s m args below meth c H locs cells slots ls F A B C E1 E2 E3 E4
  exact lv_lconst F.1 F.2.1 hd hv (k p l e R s m args below meth c H locs cells slots ls F A B C E1 E2 E3 E4)
theorem jj_null  (hd : decode Y.2.1 pc = .ok (.aconst_null, 1)) (k : jj G Y d Q rc rs (pc + 1) L (.null :: st) M) : jj G Y d Q rc rs pc L st M := by
  intro p l e R s m args below meth c H locs cells slots ls F A B C E1 E2 E3 E4
  exact lv_null F.1 F.2.1 hd (k p l e R s m args below meth c H locs cells slots ls F A B C E1 E2 E3 E4)
theorem jj_iadd {x y : Int32} (hd : decode Y.2.1 pc = .ok (.iadd, 1)) (k : jj G Y d Q rc rs (pc + 1) L (.int (x + y) :: st) M) : jj G Y d Q rc rs pc L (.int y :: .int x :: st) M := by
  intro p l e R s m args below meth c H locs cells slots ls F A B C E1 E2 E3 E4
  exact lv_iadd F.1 F.2.1 hd (k p l e R s m args below meth c H locs cells slots ls F A B C E1 E2 E3 E4)
theorem jj_isub {x y : Int32} (hd : decode Y.2.1 pc = .ok (.isub, 1)) (k : jj G Y d Q rc rs (pc + 1) L (.int (x - y) :: st) M) : jj G Y d Q rc rs pc L (.int y :: .int x :: st) M := by
  intro p l e R s m args below meth c H locs cells slots ls F A B C E1 E2 E3 E4
  exact lv_isub F.1 F.2.1 hd (k p l e R s m args below meth c H locs cells slots ls F A B C E1 E2 E3 E4)
theorem jj_imul {x y : Int32} (hd : decode Y.2.1 pc = .ok (.imul, 1)) (k : jj G Y d Q rc rs (pc + 1) L (.int (x * y) :: st) M) : jj G Y d Q rc rs pc L (.int y :: .int x :: st) M := by
  intro p l e R s m args below meth c H locs cells slots ls F A B C E1 E2 E3 E4
  exact lv_imul F.1 F.2.1 hd (k p l e R s m args below meth c H locs cells slots ls F A B C E1 E2 E3 E4)
theorem jj_iand {x y : Int32} (hd : decode Y.2.1 pc = .ok (.iand, 1)) (k : jj G Y d Q rc rs (pc + 1) L (.int (x &&& y) :: st) M) : jj G Y d Q rc rs pc L (.int y :: .int x :: st) M := by
  intro p l e R s m args below meth c H locs cells slots ls F A B C E1 E2 E3 E4
  exact lv_iand F.1 F.2.1 hd (k p l e R s m args below meth c H locs cells slots ls F A B C E1 E2 E3 E4)
theorem jj_ior {x y : Int32} (hd : decode Y.2.1 pc = .ok (.ior, 1)) (k : jj G Y d Q rc rs (pc + 1) L (.int (x ||| y) :: st) M) : jj G Y d Q rc rs pc L (.int y :: .int x :: st) M := by
  intro p l e R s m args below meth c H locs cells slots ls F A B C E1 E2 E3 E4
  exact lv_ior F.1 F.2.1 hd (k p l e R s m args below meth c H locs cells slots ls F A B C E1 E2 E3 E4)
theorem jj_ixor {x y : Int32} (hd : decode Y.2.1 pc = .ok (.ixor, 1)) (k : jj G Y d Q rc rs (pc + 1) L (.int (x ^^^ y) :: st) M) : jj G Y d Q rc rs pc L (.int y :: .int x :: st) M := by
  intro p l e R s m args below meth c H locs cells slots ls F A B C E1 E2 E3 E4
  exact lv_ixor F.1 F.2.1 hd (k p l e R s m args below meth c H locs cells slots ls F A B C E1 E2 E3 E4)
theorem jj_idiv {x y : Int32} (hd : decode Y.2.1 pc = .ok (.idiv, 1)) (hne : ¬ y = 0) (k : jj G Y d Q rc rs (pc + 1) L (.int (x / y) :: st) M) : jj G Y d Q rc rs pc L (.int y :: .int x :: st) M := by
  intro p l e R s m args below meth c H locs cells slots ls F A B C E1 E2 E3 E4
  exact lv_idiv F.1 F.2.1 hd hne (k p l e R s m args below meth c H locs cells slots ls F A B C E1 E2 E3 E4)
theorem jj_irem {x y : Int32} (hd : decode Y.2.1 pc = .ok (.irem, 1)) (hne : ¬ y = 0) (k : jj G Y d Q rc rs (pc + 1) L (.int (x - x / y * y) :: st) M) : jj G Y d Q rc rs pc L (.int y :: .int x :: st) M := by
  intro p l e R s m args below meth c H locs cells slots ls F A B C E1 E2 E3 E4
  exact lv_irem F.1 F.2.1 hd hne (k p l e R s m args below meth c H locs cells slots ls F A B C E1 E2 E3 E4)
theorem jj_ineg {x : Int32} (hd : decode Y.2.1 pc = .ok (.ineg, 1)) (k : jj G Y d Q rc rs (pc + 1) L (.int (-x) :: st) M) : jj G Y d Q rc rs pc L (.int x :: st) M := by
  intro p l e R s m args below meth c H locs cells slots ls F A B C E1 E2 E3 E4
  exact lv_ineg F.1 F.2.1 hd (k p l e R s m args below meth c H locs cells slots ls F A B C E1 E2 E3 E4)
theorem jj_ladd {x y : Int64} (hd : decode Y.2.1 pc = .ok (.ladd, 1)) (k : jj G Y d Q rc rs (pc + 1) L (.long (x + y) :: st) M) : jj G Y d Q rc rs pc L (.long y :: .long x :: st) M := by
  intro p l e R s m args below meth c H locs cells slots ls F A B C E1 E2 E3 E4
  exact lv_ladd F.1 F.2.1 hd (k p l e R s m args below meth c H locs cells slots ls F A B C E1 E2 E3 E4)
theorem jj_lsub {x y : Int64} (hd : decode Y.2.1 pc = .ok (.lsub, 1)) (k : jj G Y d Q rc rs (pc + 1) L (.long (x - y) :: st) M) : jj G Y d Q rc rs pc L (.long y :: .long x :: st) M := by
  intro p l e R s m args below meth c H locs cells slots ls F A B C E1 E2 E3 E4
  exact lv_lsub F.1 F.2.1 hd (k p l e R s m args below meth c H locs cells slots ls F A B C E1 E2 E3 E4)
theorem jj_lmul {x y : Int64} (hd : decode Y.2.1 pc = .ok (.lmul, 1)) (k : jj G Y d Q rc rs (pc + 1) L (.long (x * y) :: st) M) : jj G Y d Q rc rs pc L (.long y :: .long x :: st) M := by
  intro p l e R s m args below meth c H locs cells slots ls F A B C E1 E2 E3 E4
  exact lv_lmul F.1 F.2.1 hd (k p l e R s m args below meth c H locs cells slots ls F A B C E1 E2 E3 E4)
theorem jj_land {x y : Int64} (hd : decode Y.2.1 pc = .ok (.land, 1)) (k : jj G Y d Q rc rs (pc + 1) L (.long (x &&& y) :: st) M) : jj G Y d Q rc rs pc L (.long y :: .long x :: st) M := by
  intro p l e R s m args below meth c H locs cells slots ls F A B C E1 E2 E3 E4
  exact lv_land F.1 F.2.1 hd (k p l e R s m args below meth c H locs cells slots ls F A B C E1 E2 E3 E4)
theorem jj_lor {x y : Int64} (hd : decode Y.2.1 pc = .ok (.lor, 1)) (k : jj G Y d Q rc rs (pc + 1) L (.long (x ||| y) :: st) M) : jj G Y d Q rc rs pc L (.long y :: .long x :: st) M := by
  intro p l e R s m args below meth c H locs cells slots ls F A B C E1 E2 E3 E4
  exact lv_lor F.1 F.2.1 hd (k p l e R s m args below meth c H locs cells slots ls F A B C E1 E2 E3 E4)
theorem jj_lxor {x y : Int64} (hd : decode Y.2.1 pc = .ok (.lxor, 1)) (k : jj G Y d Q rc rs (pc + 1) L (.long (x ^^^ y) :: st) M) : jj G Y d Q rc rs pc L (.long y :: .long x :: st) M := by
  intro p l e R s m args below meth c H locs cells slots ls F A B C E1 E2 E3 E4
  exact lv_lxor F.1 F.2.1 hd (k p l e R s m args below meth c H locs cells slots ls F A B C E1 E2 E3 E4)
theorem jj_ldiv {x y : Int64} (hd : decode Y.2.1 pc = .ok (.ldiv, 1)) (hne : ¬ y = 0) (k : jj G Y d Q rc rs (pc + 1) L (.long (x / y) :: st) M) : jj G Y d Q rc rs pc L (.long y :: .long x :: st) M := by
  intro p l e R s m args below meth c H locs cells slots ls F A B C E1 E2 E3 E4
  exact lv_ldiv F.1 F.2.1 hd hne (k p l e R s m args below meth c H locs cells slots ls F A B C E1 E2 E3 E4)
theorem jj_lrem {x y : Int64} (hd : decode Y.2.1 pc = .ok (.lrem, 1)) (hne : ¬ y = 0) (k : jj G Y d Q rc rs (pc + 1) L (.long (x - x / y * y) :: st) M) : jj G Y d Q rc rs pc L (.long y :: .long x :: st) M := by
  intro p l e R s m args below meth c H locs cells slots ls F A B C E1 E2 E3 E4
  exact lv_lrem F.1 F.2.1 hd hne (k p l e R s m args below meth c H locs cells slots ls F A B C E1 E2 E3 E4)
theorem jj_lneg {x : Int64} (hd : decode Y.2.1 pc = .ok (.lneg, 1)) (k : jj G Y d Q rc rs (pc + 1) L (.long (-x) :: st) M) : jj G Y d Q rc rs pc L (.long x :: st) M := by
  intro p l e R s m args below meth c H locs cells slots ls F A B C E1 E2 E3 E4
  exact lv_lneg F.1 F.2.1 hd (k p l e R s m args below meth c H locs cells slots ls F A B C E1 E2 E3 E4)
theorem jj_ishl {x y : Int32} (hd : decode Y.2.1 pc = .ok (.ishl, 1)) (k : jj G Y d Q rc rs (pc + 1) L (.int (x <<< (y &&& 31)) :: st) M) : jj G Y d Q rc rs pc L (.int y :: .int x :: st) M := by
  intro p l e R s m args below meth c H locs cells slots ls F A B C E1 E2 E3 E4
  exact lv_ishl F.1 F.2.1 hd (k p l e R s m args below meth c H locs cells slots ls F A B C E1 E2 E3 E4)
theorem jj_ishr {x y : Int32} (hd : decode Y.2.1 pc = .ok (.ishr, 1)) (k : jj G Y d Q rc rs (pc + 1) L (.int (x >>> (y &&& 31)) :: st) M) : jj G Y d Q rc rs pc L (.int y :: .int x :: st) M := by
  intro p l e R s m args below meth c H locs cells slots ls F A B C E1 E2 E3 E4
  exact lv_ishr F.1 F.2.1 hd (k p l e R s m args below meth c H locs cells slots ls F A B C E1 E2 E3 E4)
theorem jj_iushr {x y : Int32} (hd : decode Y.2.1 pc = .ok (.iushr, 1)) (k : jj G Y d Q rc rs (pc + 1) L (.int ((x.toUInt32 >>> (y.toUInt32 &&& Int32.toUInt32 31)).toInt32) :: st) M) : jj G Y d Q rc rs pc L (.int y :: .int x :: st) M := by
  intro p l e R s m args below meth c H locs cells slots ls F A B C E1 E2 E3 E4
  exact lv_iushr F.1 F.2.1 hd rfl (k p l e R s m args below meth c H locs cells slots ls F A B C E1 E2 E3 E4)
theorem jj_lshl {x : Int64} {y : Int32} (hd : decode Y.2.1 pc = .ok (.lshl, 1)) (k : jj G Y d Q rc rs (pc + 1) L (.long (x <<< (y.toInt64 &&& 63)) :: st) M) : jj G Y d Q rc rs pc L (.int y :: .long x :: st) M := by
  intro p l e R s m args below meth c H locs cells slots ls F A B C E1 E2 E3 E4
  exact lv_lshl F.1 F.2.1 hd rfl (k p l e R s m args below meth c H locs cells slots ls F A B C E1 E2 E3 E4)
theorem jj_lshr {x : Int64} {y : Int32} (hd : decode Y.2.1 pc = .ok (.lshr, 1)) (k : jj G Y d Q rc rs (pc + 1) L (.long (x >>> (y.toInt64 &&& 63)) :: st) M) : jj G Y d Q rc rs pc L (.int y :: .long x :: st) M := by
  intro p l e R s m args below meth c H locs cells slots ls F A B C E1 E2 E3 E4
  exact lv_lshr F.1 F.2.1 hd rfl (k p l e R s m args below meth c H locs cells slots ls F A B C E1 E2 E3 E4)
theorem jj_lushr {x : Int64} {y : Int32} (hd : decode Y.2.1 pc = .ok (.lushr, 1)) (k : jj G Y d Q rc rs (pc + 1) L (.long ((x.toUInt64 >>> (y.toInt64.toUInt64 &&& Int64.toUInt64 63)).toInt64) :: st) M) : jj G Y d Q rc rs pc L (.int y :: .long x :: st) M := by
  intro p l e R s m args below meth c H locs cells slots ls F A B C E1 E2 E3 E4
  exact lv_lushr F.1 F.2.1 hd rfl (k p l e R s m args below meth c H locs cells slots ls F A B C E1 E2 E3 E4)
theorem jj_i2l {x : Int32} (hd : decode Y.2.1 pc = .ok (.i2l, 1)) (k : jj G Y d Q rc rs (pc + 1) L (.long x.toInt64 :: st) M) : jj G Y d Q rc rs pc L (.int x :: st) M := by
  intro p l e R s m args below meth c H locs cells slots ls F A B C E1 E2 E3 E4
  exact lv_i2l F.1 F.2.1 hd rfl (k p l e R s m args below meth c H locs cells slots ls F A B C E1 E2 E3 E4)
theorem jj_l2i {x : Int64} (hd : decode Y.2.1 pc = .ok (.l2i, 1)) (k : jj G Y d Q rc rs (pc + 1) L (.int x.toInt32 :: st) M) : jj G Y d Q rc rs pc L (.long x :: st) M := by
  intro p l e R s m args below meth c H locs cells slots ls F A B C E1 E2 E3 E4
  exact lv_l2i F.1 F.2.1 hd rfl (k p l e R s m args below meth c H locs cells slots ls F A B C E1 E2 E3 E4)
theorem jj_lcmp {x y : Int64} (hd : decode Y.2.1 pc = .ok (.lcmp, 1)) (k : jj G Y d Q rc rs (pc + 1) L (.int (lg_cmp x y) :: st) M) : jj G Y d Q rc rs pc L (.long y :: .long x :: st) M := by
  intro p l e R s m args below meth c H locs cells slots ls F A B C E1 E2 E3 E4
  exact W.lcmp F.1 F.2.1 hd (k p l e R s m args below meth c H locs cells slots ls F A B C E1 E2 E3 E4)
theorem jj_dup {va : Value} (hd : decode Y.2.1 pc = .ok (.dup, 1)) (hva : va.category = 1) (k : jj G Y d Q rc rs (pc + 1) L (va :: va :: st) M) : jj G Y d Q rc rs pc L (va :: st) M := by
  intro p l e R s m args below meth c H locs cells slots ls F A B C E1 E2 E3 E4
  exact lv_dup F.1 F.2.1 hd hva (k p l e R s m args below meth c H locs cells slots ls F A B C E1 E2 E3 E4)
theorem jj_dup2 {va vb : Value} (hd : decode Y.2.1 pc = .ok (.dup2, 1)) (hva : va.category = 1) (hvb : vb.category = 1) (k : jj G Y d Q rc rs (pc + 1) L (va :: vb :: va :: vb :: st) M) : jj G Y d Q rc rs pc L (va :: vb :: st) M := by
  intro p l e R s m args below meth c H locs cells slots ls F A B C E1 E2 E3 E4
  exact lv_dup2_11 F.1 F.2.1 hd hva hvb (k p l e R s m args below meth c H locs cells slots ls F A B C E1 E2 E3 E4)
theorem jj_pop {va : Value} (hd : decode Y.2.1 pc = .ok (.pop, 1)) (hva : va.category = 1) (k : jj G Y d Q rc rs (pc + 1) L st M) : jj G Y d Q rc rs pc L (va :: st) M := by
  intro p l e R s m args below meth c H locs cells slots ls F A B C E1 E2 E3 E4
  exact lv_pop F.1 F.2.1 hd hva (k p l e R s m args below meth c H locs cells slots ls F A B C E1 E2 E3 E4)
theorem jj_iload {i : Nat} {x : Int32} (hd : decode Y.2.1 pc = .ok (.iload i, 2)) (hl : L[i]? = some (some (.int x))) (k : jj G Y d Q rc rs (pc + 2) L (.int x :: st) M) : jj G Y d Q rc rs pc L st M := by
  intro p l e R s m args below meth c H locs cells slots ls F A B C E1 E2 E3 E4
  exact lv_iload F.1 F.2.1 hd (C.2.2 _ _ hl) (k p l e R s m args below meth c H locs cells slots ls F A B C E1 E2 E3 E4)
theorem jj_iload_n {i : Fin 4} {x : Int32} (hd : decode Y.2.1 pc = .ok (.iload_n i, 1)) (hl : L[(i : Nat)]? = some (some (.int x))) (k : jj G Y d Q rc rs (pc + 1) L (.int x :: st) M) : jj G Y d Q rc rs pc L st M := by
  intro p l e R s m args below meth c H locs cells slots ls F A B C E1 E2 E3 E4
  exact lv_iload_n F.1 F.2.1 hd rfl (C.2.2 _ _ hl) (k p l e R s m args below meth c H locs cells slots ls F A B C E1 E2 E3 E4)
theorem jj_lload {i : Nat} {x : Int64} (hd : decode Y.2.1 pc = .ok (.lload i, 2)) (hl : L[i]? = some (some (.long x))) (k : jj G Y d Q rc rs (pc + 2) L (.long x :: st) M) : jj G Y d Q rc rs pc L st M := by
  intro p l e R s m args below meth c H locs cells slots ls F A B C E1 E2 E3 E4
  exact lv_lload F.1 F.2.1 hd (C.2.2 _ _ hl) (k p l e R s m args below meth c H locs cells slots ls F A B C E1 E2 E3 E4)
theorem jj_lload_n {i : Fin 4} {x : Int64} (hd : decode Y.2.1 pc = .ok (.lload_n i, 1)) (hl : L[(i : Nat)]? = some (some (.long x))) (k : jj G Y d Q rc rs (pc + 1) L (.long x :: st) M) : jj G Y d Q rc rs pc L st M := by
  intro p l e R s m args below meth c H locs cells slots ls F A B C E1 E2 E3 E4
  exact lv_lload_n F.1 F.2.1 hd rfl (C.2.2 _ _ hl) (k p l e R s m args below meth c H locs cells slots ls F A B C E1 E2 E3 E4)
theorem jj_aload {i : Nat} {x : Nat} (hd : decode Y.2.1 pc = .ok (.aload i, 2)) (hl : L[i]? = some (some (.ref x))) (k : jj G Y d Q rc rs (pc + 2) L (.ref x :: st) M) : jj G Y d Q rc rs pc L st M := by
  intro p l e R s m args below meth c H locs cells slots ls F A B C E1 E2 E3 E4
  exact lv_aload F.1 F.2.1 hd (C.2.2 _ _ hl) (k p l e R s m args below meth c H locs cells slots ls F A B C E1 E2 E3 E4)
theorem jj_aload_n {i : Fin 4} {x : Nat} (hd : decode Y.2.1 pc = .ok (.aload_n i, 1)) (hl : L[(i : Nat)]? = some (some (.ref x))) (k : jj G Y d Q rc rs (pc + 1) L (.ref x :: st) M) : jj G Y d Q rc rs pc L st M := by
  intro p l e R s m args below meth c H locs cells slots ls F A B C E1 E2 E3 E4
  exact lv_aload_n F.1 F.2.1 hd rfl (C.2.2 _ _ hl) (k p l e R s m args below meth c H locs cells slots ls F A B C E1 E2 E3 E4)
theorem jj_istore {i : Nat} {x : Int32} (hd : decode Y.2.1 pc = .ok (.istore i, 2)) (hi : i < L.length) (k : jj G Y d Q rc rs (pc + 2) (jj_st1 L i (.int x)) st M) : jj G Y d Q rc rs pc L (.int x :: st) M := by
  intro p l e R s m args below meth c H locs cells slots ls F A B C E1 E2 E3 E4
  exact lv_istore F.1 F.2.1 hd (jj_lr_has C) hi rfl (fun ls' hl' => k p l e R s m args below meth c H locs cells slots ls' F A B (jj_lr_st1 hi hl') E1 E2 E3 E4)
theorem jj_istore_n {i : Fin 4} {x : Int32} (hd : decode Y.2.1 pc = .ok (.istore_n i, 1)) (hi : (i : Nat) < L.length) (k : jj G Y d Q rc rs (pc + 1) (jj_st1 L i (.int x)) st M) : jj G Y d Q rc rs pc L (.int x :: st) M := by
  intro p l e R s m args below meth c H locs cells slots ls F A B C E1 E2 E3 E4
  exact lv_istore_n F.1 F.2.1 hd rfl (jj_lr_has C) hi rfl (fun ls' hl' => k p l e R s m args below meth c H locs cells slots ls' F A B (jj_lr_st1 hi hl') E1 E2 E3 E4)
theorem jj_lstore {i : Nat} {x : Int64} (hd : decode Y.2.1 pc = .ok (.lstore i, 2)) (hi : i + 1 < L.length) (k : jj G Y d Q rc rs (pc + 2) (jj_st2 L i (.long x)) st M) : jj G Y d Q rc rs pc L (.long x :: st) M := by
  intro p l e R s m args below meth c H locs cells slots ls F A B C E1 E2 E3 E4
  exact lv_lstore F.1 F.2.1 hd (jj_lr_has C) hi rfl (fun ls' hl' => k p l e R s m args below meth c H locs cells slots ls' F A B (jj_lr_st2 hi hl') E1 E2 E3 E4)
theorem jj_lstore_n {i : Fin 4} {x : Int64} (hd : decode Y.2.1 pc = .ok (.lstore_n i, 1)) (hi : (i : Nat) + 1 < L.length) (k : jj G Y d Q rc rs (pc + 1) (jj_st2 L i (.long x)) st M) : jj G Y d Q rc rs pc L (.long x :: st) M := by
  intro p l e R s m args below meth c H locs cells slots ls F A B C E1 E2 E3 E4
  exact lv_lstore_n F.1 F.2.1 hd rfl (jj_lr_has C) hi rfl (fun ls' hl' => k p l e R s m args below meth c H locs cells slots ls' F A B (jj_lr_st2 hi hl') E1 E2 E3 E4)
theorem jj_astore {i : Nat} {x : Nat} (hd : decode Y.2.1 pc = .ok (.astore i, 2)) (hi : i < L.length) (k : jj G Y d Q rc rs (pc + 2) (jj_st1 L i (.ref x)) st M) : jj G Y d Q rc rs pc L (.ref x :: st) M := by
  intro p l e R s m args below meth c H locs cells slots ls F A B C E1 E2 E3 E4
  exact lv_astore F.1 F.2.1 hd (jj_lr_has C) hi rfl (fun ls' hl' => k p l e R s m args below meth c H locs cells slots ls' F A B (jj_lr_st1 hi hl') E1 E2 E3 E4)
theorem jj_astore_n {i : Fin 4} {x : Nat} (hd : decode Y.2.1 pc = .ok (.astore_n i, 1)) (hi : (i : Nat) < L.length) (k : jj G Y d Q rc rs (pc + 1) (jj_st1 L i (.ref x)) st M) : jj G Y d Q rc rs pc L (.ref x :: st) M := by
  intro p l e R s m args below meth c H locs cells slots ls F A B C E1 E2 E3 E4
  exact lv_astore_n F.1 F.2.1 hd rfl (jj_lr_has C) hi rfl (fun ls' hl' => k p l e R s m args below meth c H locs cells slots ls' F A B (jj_lr_st1 hi hl') E1 E2 E3 E4)
theorem jj_iinc {i : Nat} {n : Int} {x : Int32} (hd : decode Y.2.1 pc = .ok (.iinc i n, 3)) (hl : L[i]? = some (some (.int x))) (k : jj G Y d Q rc rs (pc + 3) (jj_st1 L i (.int (x + Int32.ofInt n))) st M) : jj G Y d Q rc rs pc L st M := by
  intro p l e R s m args below meth c H locs cells slots ls F A B C E1 E2 E3 E4
  have hi : i < L.length := (List.getElem?_eq_some_iff.mp hl).1
  obtain ⟨j, hj⟩ := List.getElem?_of_mem (jj_pr_mem (q := (i, .int x)).mpr hl)
  exact lv_iinc F.1 F.2.1 hd (jj_lr_has C) hj rfl hi rfl (fun ls' hl' => k p l e R s m args below meth c H locs cells slots ls' F A B (jj_lr_st1 hi hl') E1 E2 E3 E4)
theorem jj_goto {off : Int} {tgt : Nat} (hd : decode Y.2.1 pc = .ok (.goto off, 3)) (ht : (pc : Int) + off = (tgt : Int)) (k : jj G Y d Q rc rs tgt L st M) : jj G Y d Q rc rs pc L st M := by
  intro p l e R s m args below meth c H locs cells slots ls F A B C E1 E2 E3 E4
  exact lv_goto F.1 F.2.1 hd ht (k p l e R s m args below meth c H locs cells slots ls F A B C E1 E2 E3 E4)
theorem jj_icmp_eq {x y : Int32} {off : Int} {tgt : Nat} (hd : decode Y.2.1 pc = .ok (.if_icmp .eq off, 3)) (ht : (pc : Int) + off = (tgt : Int)) (kt : x = y → jj G Y d Q rc rs tgt L st M) (kf : ¬ x = y → jj G Y d Q rc rs (pc + 3) L st M) : jj G Y d Q rc rs pc L (.int y :: .int x :: st) M := by
  intro p l e R s m args below meth c H locs cells slots ls F A B C E1 E2 E3 E4
  exact lv_icmp_eq F.1 F.2.1 hd ht (fun h => kt h p l e R s m args below meth c H locs cells slots ls F A B C E1 E2 E3 E4) (fun h => kf h p l e R s m args below meth c H locs cells slots ls F A B C E1 E2 E3 E4)
theorem jj_icmp_ne {x y : Int32} {off : Int} {tgt : Nat} (hd : decode Y.2.1 pc = .ok (.if_icmp .ne off, 3)) (ht : (pc : Int) + off = (tgt : Int)) (kt : ¬ x = y → jj G Y d Q rc rs tgt L st M) (kf : x = y → jj G Y d Q rc rs (pc + 3) L st M) : jj G Y d Q rc rs pc L (.int y :: .int x :: st) M := by
  intro p l e R s m args below meth c H locs cells slots ls F A B C E1 E2 E3 E4
  exact lv_icmp_ne F.1 F.2.1 hd ht (fun h => kt h p l e R s m args below meth c H locs cells slots ls F A B C E1 E2 E3 E4) (fun h => kf h p l e R s m args below meth c H locs cells slots ls F A B C E1 E2 E3 E4)
theorem jj_icmp_lt {x y : Int32} {off : Int} {tgt : Nat} (hd : decode Y.2.1 pc = .ok (.if_icmp .lt off, 3)) (ht : (pc : Int) + off = (tgt : Int)) (kt : x < y → jj G Y d Q rc rs tgt L st M) (kf : ¬ x < y → jj G Y d Q rc rs (pc + 3) L st M) : jj G Y d Q rc rs pc L (.int y :: .int x :: st) M := by
  intro p l e R s m args below meth c H locs cells slots ls F A B C E1 E2 E3 E4
  exact lv_icmp_lt F.1 F.2.1 hd ht (fun h => kt h p l e R s m args below meth c H locs cells slots ls F A B C E1 E2 E3 E4) (fun h => kf h p l e R s m args below meth c H locs cells slots ls F A B C E1 E2 E3 E4)
theorem jj_icmp_ge {x y : Int32} {off : Int} {tgt : Nat} (hd : decode Y.2.1 pc = .ok (.if_icmp .ge off, 3)) (ht : (pc : Int) + off = (tgt : Int)) (kt : y ≤ x → jj G Y d Q rc rs tgt L st M) (kf : ¬ y ≤ x → jj G Y d Q rc rs (pc + 3) L st M) : jj G Y d Q rc rs pc L (.int y :: .int x :: st) M := by
  intro p l e R s m args below meth c H locs cells slots ls F A B C E1 E2 E3 E4
  exact lv_icmp_ge F.1 F.2.1 hd ht (fun h => kt h p l e R s m args below meth c H locs cells slots ls F A B C E1 E2 E3 E4) (fun h => kf h p l e R s m args below meth c H locs cells slots ls F A B C E1 E2 E3 E4)
theorem jj_icmp_gt {x y : Int32} {off : Int} {tgt : Nat} (hd : decode Y.2.1 pc = .ok (.if_icmp .gt off, 3)) (ht : (pc : Int) + off = (tgt : Int)) (kt : y < x → jj G Y d Q rc rs tgt L st M) (kf : ¬ y < x → jj G Y d Q rc rs (pc + 3) L st M) : jj G Y d Q rc rs pc L (.int y :: .int x :: st) M := by
  intro p l e R s m args below meth c H locs cells slots ls F A B C E1 E2 E3 E4
  exact lv_icmp_gt F.1 F.2.1 hd ht (fun h => kt h p l e R s m args below meth c H locs cells slots ls F A B C E1 E2 E3 E4) (fun h => kf h p l e R s m args below meth c H locs cells slots ls F A B C E1 E2 E3 E4)
theorem jj_icmp_le {x y : Int32} {off : Int} {tgt : Nat} (hd : decode Y.2.1 pc = .ok (.if_icmp .le off, 3)) (ht : (pc : Int) + off = (tgt : Int)) (kt : x ≤ y → jj G Y d Q rc rs tgt L st M) (kf : ¬ x ≤ y → jj G Y d Q rc rs (pc + 3) L st M) : jj G Y d Q rc rs pc L (.int y :: .int x :: st) M := by
  intro p l e R s m args below meth c H locs cells slots ls F A B C E1 E2 E3 E4
  exact lv_icmp_le F.1 F.2.1 hd ht (fun h => kt h p l e R s m args below meth c H locs cells slots ls F A B C E1 E2 E3 E4) (fun h => kf h p l e R s m args below meth c H locs cells slots ls F A B C E1 E2 E3 E4)
theorem jj_if_eq {x : Int32} {off : Int} {tgt : Nat} (hd : decode Y.2.1 pc = .ok (.ifCond .eq off, 3)) (ht : (pc : Int) + off = (tgt : Int)) (kt : x = 0 → jj G Y d Q rc rs tgt L st M) (kf : ¬ x = 0 → jj G Y d Q rc rs (pc + 3) L st M) : jj G Y d Q rc rs pc L (.int x :: st) M := by
  intro p l e R s m args below meth c H locs cells slots ls F A B C E1 E2 E3 E4
  exact lv_if_eq F.1 F.2.1 hd ht (fun h => kt h p l e R s m args below meth c H locs cells slots ls F A B C E1 E2 E3 E4) (fun h => kf h p l e R s m args below meth c H locs cells slots ls F A B C E1 E2 E3 E4)
theorem jj_if_ne {x : Int32} {off : Int} {tgt : Nat} (hd : decode Y.2.1 pc = .ok (.ifCond .ne off, 3)) (ht : (pc : Int) + off = (tgt : Int)) (kt : ¬ x = 0 → jj G Y d Q rc rs tgt L st M) (kf : x = 0 → jj G Y d Q rc rs (pc + 3) L st M) : jj G Y d Q rc rs pc L (.int x :: st) M := by
  intro p l e R s m args below meth c H locs cells slots ls F A B C E1 E2 E3 E4
  exact lv_if_ne F.1 F.2.1 hd ht (fun h => kt h p l e R s m args below meth c H locs cells slots ls F A B C E1 E2 E3 E4) (fun h => kf h p l e R s m args below meth c H locs cells slots ls F A B C E1 E2 E3 E4)
theorem jj_if_lt {x : Int32} {off : Int} {tgt : Nat} (hd : decode Y.2.1 pc = .ok (.ifCond .lt off, 3)) (ht : (pc : Int) + off = (tgt : Int)) (kt : x < 0 → jj G Y d Q rc rs tgt L st M) (kf : ¬ x < 0 → jj G Y d Q rc rs (pc + 3) L st M) : jj G Y d Q rc rs pc L (.int x :: st) M := by
  intro p l e R s m args below meth c H locs cells slots ls F A B C E1 E2 E3 E4
  exact lv_if_lt F.1 F.2.1 hd ht (fun h => kt h p l e R s m args below meth c H locs cells slots ls F A B C E1 E2 E3 E4) (fun h => kf h p l e R s m args below meth c H locs cells slots ls F A B C E1 E2 E3 E4)
theorem jj_if_ge {x : Int32} {off : Int} {tgt : Nat} (hd : decode Y.2.1 pc = .ok (.ifCond .ge off, 3)) (ht : (pc : Int) + off = (tgt : Int)) (kt : 0 ≤ x → jj G Y d Q rc rs tgt L st M) (kf : ¬ 0 ≤ x → jj G Y d Q rc rs (pc + 3) L st M) : jj G Y d Q rc rs pc L (.int x :: st) M := by
  intro p l e R s m args below meth c H locs cells slots ls F A B C E1 E2 E3 E4
  exact lv_if_ge F.1 F.2.1 hd ht (fun h => kt h p l e R s m args below meth c H locs cells slots ls F A B C E1 E2 E3 E4) (fun h => kf h p l e R s m args below meth c H locs cells slots ls F A B C E1 E2 E3 E4)
theorem jj_if_gt {x : Int32} {off : Int} {tgt : Nat} (hd : decode Y.2.1 pc = .ok (.ifCond .gt off, 3)) (ht : (pc : Int) + off = (tgt : Int)) (kt : 0 < x → jj G Y d Q rc rs tgt L st M) (kf : ¬ 0 < x → jj G Y d Q rc rs (pc + 3) L st M) : jj G Y d Q rc rs pc L (.int x :: st) M := by
  intro p l e R s m args below meth c H locs cells slots ls F A B C E1 E2 E3 E4
  exact lv_if_gt F.1 F.2.1 hd ht (fun h => kt h p l e R s m args below meth c H locs cells slots ls F A B C E1 E2 E3 E4) (fun h => kf h p l e R s m args below meth c H locs cells slots ls F A B C E1 E2 E3 E4)
theorem jj_if_le {x : Int32} {off : Int} {tgt : Nat} (hd : decode Y.2.1 pc = .ok (.ifCond .le off, 3)) (ht : (pc : Int) + off = (tgt : Int)) (kt : x ≤ 0 → jj G Y d Q rc rs tgt L st M) (kf : ¬ x ≤ 0 → jj G Y d Q rc rs (pc + 3) L st M) : jj G Y d Q rc rs pc L (.int x :: st) M := by
  intro p l e R s m args below meth c H locs cells slots ls F A B C E1 E2 E3 E4
  exact lv_if_le F.1 F.2.1 hd ht (fun h => kt h p l e R s m args below meth c H locs cells slots ls F A B C E1 E2 E3 E4) (fun h => kf h p l e R s m args below meth c H locs cells slots ls F A B C E1 E2 E3 E4)
theorem jj_ldc {index : Nat} {v : Int32} (hd : decode Y.2.1 pc = .ok (.ldc index, 2)) (hw : Cond.constant Y.1.cls index v ∈ G.2.2.2.1) (k : jj G Y d Q rc rs (pc + 2) L (.int v :: st) M) : jj G Y d Q rc rs pc L st M := by
  intro p l e R s m args below meth c H locs cells slots ls F A B C E1 E2 E3 E4
  obtain ⟨f1, f2, f3, f4, f5, f6, f7, f8, f9, f10, f11⟩ := id F
  exact lv_ldc f1 f2 f6 (f9 _ hw) hd (k p l e R s m args below meth c H locs cells slots ls F A B C E1 E2 E3 E4)
theorem jj_ldcw {index : Nat} {v : Int32} (hd : decode Y.2.1 pc = .ok (.ldc_w index, 3)) (hw : Cond.constant Y.1.cls index v ∈ G.2.2.2.1) (k : jj G Y d Q rc rs (pc + 3) L (.int v :: st) M) : jj G Y d Q rc rs pc L st M := by
  intro p l e R s m args below meth c H locs cells slots ls F A B C E1 E2 E3 E4
  obtain ⟨f1, f2, f3, f4, f5, f6, f7, f8, f9, f10, f11⟩ := id F
  exact lv_ldcw f1 f2 f6 (f9 _ hw) hd (k p l e R s m args below meth c H locs cells slots ls F A B C E1 E2 E3 E4)
theorem jj_ldc2 {index : Nat} {v : Int64} (hd : decode Y.2.1 pc = .ok (.ldc2_w index, 3)) (hw : Cond.constantLong Y.1.cls index v ∈ G.2.2.2.1) (k : jj G Y d Q rc rs (pc + 3) L (.long v :: st) M) : jj G Y d Q rc rs pc L st M := by
  intro p l e R s m args below meth c H locs cells slots ls F A B C E1 E2 E3 E4
  obtain ⟨f1, f2, f3, f4, f5, f6, f7, f8, f9, f10, f11⟩ := id F
  exact lv_ldc2 f1 f2 f6 (f9 _ hw) hd (k p l e R s m args below meth c H locs cells slots ls F A B C E1 E2 E3 E4)
/-- a method's end, out of the kit's own -/
theorem jj_end {p : Program} {l : Launch} {e : Env} {R : Room} {s : State} {m : MethodId} {args : Array Value} {below : List Frame} {meth : Method} {c : Code} {H : Heap} {locs : List Loc} {cells slots : Nat} {g : JFrame} {o : Outcome} (A : jj_rel G M H) (E1 : cells + rc ≤ R.cells) (E2 : slots + rs ≤ R.slots) (hq : Q o M rc rs)
    (w : W p l e R s m args below meth c H locs cells slots (MQ below (fun _ _ o' t => o' = o ∧ t.heap = H) args s cells slots (fun a => G.2.2.2.2.1.size ≤ a)) g) : W p l e R s m args below meth c H locs cells slots (jj_Q G R s below Q) g := by
  intro T hT X
  obtain ⟨t, a, o', h1, h2, ⟨h3, h4⟩, L1, ⟨-, h5, h6⟩, h7⟩ := w T hT X
  subst h3
  exact ⟨t, a, o', L1, cells, slots, h1, h2, h5, h6, h7, M, rc, rs, by rw [h4]; exact A, E1, E2, hq⟩
theorem jj_iret {v : Int32} {ty : FieldType} (hd : decode Y.2.1 pc = .ok (.ireturn, 1)) (hr : Y.2.2.2.1 = some ty) (hn : narrow ty (.int v) = .int v) (hq : Q (.returned (some (.int v))) M rc rs) : jj G Y d Q rc rs pc L [.int v] M := by
  intro p l e R s m args below meth c H locs cells slots ls F A B C E1 E2 E3 E4
  obtain ⟨f1, f2, f3, f4, f5, f6, f7, f8, f9, f10, f11⟩ := id F
  exact jj_end A E1 E2 hq (W.zret f1 f2 (f4.trans hr) hn (fun t ht _ => ⟨rfl, ht⟩) B hd f5)
theorem jj_lret {v : Int64} (hd : decode Y.2.1 pc = .ok (.lreturn, 1)) (hr : Y.2.2.2.1 = some .long) (hq : Q (.returned (some (.long v))) M rc rs) : jj G Y d Q rc rs pc L [.long v] M := by
  intro p l e R s m args below meth c H locs cells slots ls F A B C E1 E2 E3 E4
  obtain ⟨f1, f2, f3, f4, f5, f6, f7, f8, f9, f10, f11⟩ := id F
  exact jj_end A E1 E2 hq (W.lret f1 f2 (f4.trans hr) (fun t ht _ => ⟨rfl, ht⟩) B hd f5)
theorem jj_aret {v : Nat} {ty : FieldType} (hd : decode Y.2.1 pc = .ok (.areturn, 1)) (hr : Y.2.2.2.1 = some ty) (hrt : (∃ n, ty = .object n) ∨ ∃ t, ty = .array t) (hq : Q (.returned (some (.ref v))) M rc rs) : jj G Y d Q rc rs pc L [.ref v] M := by
  intro p l e R s m args below meth c H locs cells slots ls F A B C E1 E2 E3 E4
  obtain ⟨f1, f2, f3, f4, f5, f6, f7, f8, f9, f10, f11⟩ := id F
  exact jj_end A E1 E2 hq (W.aret f1 f2 (f4.trans hr) hrt (Or.inr ⟨v, rfl⟩) (fun t ht _ => ⟨rfl, ht⟩) B hd f5)
theorem jj_vret (hd : decode Y.2.1 pc = .ok (.return_, 1)) (hr : Y.2.2.2.1 = none) (hq : Q (.returned none) M rc rs) : jj G Y d Q rc rs pc L [] M := by
  intro p l e R s m args below meth c H locs cells slots ls F A B C E1 E2 E3 E4
  obtain ⟨f1, f2, f3, f4, f5, f6, f7, f8, f9, f10, f11⟩ := id F
  exact jj_end A E1 E2 hq (W.vret f1 f2 (f4.trans hr) (fun t ht _ => ⟨rfl, ht⟩) B hd f5)
end JJ
