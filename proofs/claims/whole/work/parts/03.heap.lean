/-! ===== HEAP: fields, new objects, arrays, over small states ===== -/
def jj_up (M : mheap) (a : Nat) (x : mcell) : mheap := fun q => if q = a then some x else M q
theorem jj_up_at (M : mheap) (a : Nat) (x : mcell) : jj_up M a x a = some x := by simp [jj_up]
theorem jj_up_ne (M : mheap) {a b : Nat} (x : mcell) (h : b ≠ a) : jj_up M a x b = M b := by simp [jj_up, h]
theorem jj_up_up (M : mheap) (a : Nat) (x z : mcell) : jj_up (jj_up M a x) a z = jj_up M a z := by funext q; simp only [jj_up]; split <;> rfl
theorem jj_up_comm (M : mheap) {a b : Nat} (x z : mcell) (h : a ≠ b) : jj_up (jj_up M a x) b z = jj_up (jj_up M b z) a x := by
  funext q
  simp only [jj_up]
  by_cases h1 : q = b
  · subst h1
    simp [Ne.symm h]
  · simp [h1]
theorem jj_rep_kept {G : jg} {x : mcell} {a : Nat} {H H1 : Heap} (h : jj_rep G x a H) (e : H1[a]? = H[a]?) : jj_rep G x a H1 := by
  obtain ⟨k, fs⟩ := x
  cases k with
  | inl ci =>
    obtain ⟨r, h1, h2, h3⟩ := h
    exact ⟨r, h1, h2, h3.kept e⟩
  | inr j =>
    obtain ⟨q, h1, h2⟩ := h
    exact ⟨q, h1, e.trans h2⟩
theorem jj_rep_lt {G : jg} {x : mcell} {a : Nat} {H : Heap} (h : jj_rep G x a H) : a < H.size := by
  obtain ⟨k, fs⟩ := x
  cases k with
  | inl ci =>
    obtain ⟨r, h1, h2, cell, h3, -⟩ := h
    exact (Array.getElem?_eq_some_iff.mp h3).1
  | inr j =>
    obtain ⟨q, h1, h2⟩ := h
    exact (Array.getElem?_eq_some_iff.mp h2).1
theorem jj_rep_vm {G : jg} {x : mcell} {a : Nat} {H : Heap} {c : Cell} (h : jj_rep G x a H) (hc : H[a]? = some c) : c.vm.isStatics = false := by
  obtain ⟨k, fs⟩ := x
  cases k with
  | inl ci =>
    obtain ⟨r, h1, h2, cell, h3, h4, h5, -⟩ := h
    cases h3.symm.trans hc
    rw [h5]; rfl
  | inr j =>
    obtain ⟨q, h1, h2⟩ := h
    cases h2.symm.trans hc
    rfl
theorem jj_rel_put {G : jg} {M : mheap} {H H1 : Heap} {a : Nat} {x0 x : mcell} (A : jj_rel G M H) (hM : M a = some x0) (hx : jj_rep G x a H1) (z : H1.size = H.size) (o : ∀ q, q ≠ a → H1[q]? = H[q]?) : jj_rel G (jj_up M a x) H1 := by
  obtain ⟨a1, a2, a3⟩ := A
  have hb := (a3 a x0 hM).1
  refine ⟨by rw [z]; exact a1, ⟨fun q hq => (o q (by omega)).trans (a2.1 q hq), fun q cl hq hc => ?_⟩, fun b y hy => ?_⟩
  · by_cases e : q = a
    · subst e
      exact jj_rep_vm hx hc
    · exact a2.2 q cl hq ((o q e).symm.trans hc)
  by_cases e : b = a
  · subst e
    rw [jj_up_at] at hy
    cases hy
    exact ⟨hb, hx⟩
  · rw [jj_up_ne M x e] at hy
    exact ⟨(a3 b y hy).1, jj_rep_kept (a3 b y hy).2 (o b e)⟩
theorem jj_rel_new {G : jg} {M : mheap} {H H1 : Heap} {x : mcell} (A : jj_rel G M H) (hx : jj_rep G x H.size H1) (z : H1.size = H.size + 1) (o : ∀ q, q < H.size → H1[q]? = H[q]?) : M H.size = none ∧ jj_rel G (jj_up M H.size x) H1 := by
  obtain ⟨a1, a2, a3⟩ := A
  refine ⟨?_, by omega, ⟨fun q hq => (o q (by omega)).trans (a2.1 q hq), fun q cl hq hc => ?_⟩, fun b y hy => ?_⟩
  rotate_left
  · by_cases e : q = H.size
    · subst e
      exact jj_rep_vm hx hc
    · have : q < H1.size := (Array.getElem?_eq_some_iff.mp hc).1
      exact a2.2 q cl hq ((o q (by omega)).symm.trans hc)
  rotate_right
  · cases e : M H.size with
    | none => rfl
    | some y =>
      have := jj_rep_lt (a3 _ y e).2
      omega
  · by_cases e : b = H.size
    · subst e
      rw [jj_up_at] at hy
      cases hy
      exact ⟨a1, hx⟩
    · rw [jj_up_ne M x e] at hy
      exact ⟨(a3 b y hy).1, jj_rep_kept (a3 b y hy).2 (o b (jj_rep_lt (a3 b y hy).2))⟩
theorem jj_locs {G : jg} {locs : List Loc} {a i : Nat} (B : ∀ q ∈ locs, G.2.2.2.2.1.size ≤ q.base) (h : G.2.2.2.2.1.size ≤ a) : ∀ q ∈ locs ++ [⟨a, i⟩], G.2.2.2.2.1.size ≤ q.base := by
  intro q hq
  rcases List.mem_append.mp hq with h1 | h1
  · exact B q h1
  · rw [List.mem_singleton.mp h1]; exact h
/-- what the tables say of class ci -/
def jj_cl (G : jg) (ci : Nat) (C : String) (T : u_T) (N : Nat) : Prop := G.2.1[ci]? = some (C, T, N) ∧ (∀ w ∈ u_ws C T N, w ∈ G.2.2.2.1) ∧ ∃ ty : Nat → FieldType, (∀ k, k < N → parseFieldDescriptor (T k).2.2.1 = some (ty k)) ∧ ∀ a, a < N → ∀ b, b < N → a ≠ b → (T a).2.1 ≠ (T b).2.1
/-- an entry of own's pool is field k of class ci -/
def jj_fl (G : jg) (own : String) (index ci k : Nat) : Prop := ∃ (C : String) (T : u_T) (N : Nat), jj_cl G ci C T N ∧ k < N ∧ (Cond.fieldLink own index (T k).1 (T k).2.1 (T k).2.2.1 ∈ G.2.2.2.1 ∨ ∃ host, Cond.fieldLinkNest own index (T k).1 (T k).2.1 (T k).2.2.1 host ∈ G.2.2.2.1)
/-- the same, of a field that isn't final, and its type -/
def jj_fp (G : jg) (own : String) (index ci k : Nat) (ty : FieldType) : Prop := ∃ (C : String) (T : u_T) (N : Nat), jj_cl G ci C T N ∧ k < N ∧ (T k).2.2.2 = false ∧ parseFieldDescriptor (T k).2.2.1 = some ty ∧ (Cond.fieldLink own index (T k).1 (T k).2.1 (T k).2.2.1 ∈ G.2.2.2.1 ∨ ∃ host, Cond.fieldLinkNest own index (T k).1 (T k).2.1 (T k).2.2.1 host ∈ G.2.2.2.1)
/-- the same, of a final field of own itself -/
def jj_ff (G : jg) (own : String) (index ci k : Nat) (ty : FieldType) : Prop := ∃ (C : String) (T : u_T) (N : Nat), jj_cl G ci C T N ∧ k < N ∧ (T k).2.2.2 = true ∧ (T k).1 = own ∧ parseFieldDescriptor (T k).2.2.1 = some ty ∧ Cond.fieldLink own index (T k).1 (T k).2.1 (T k).2.2.1 ∈ G.2.2.2.1
section JH
variable {G : jg} {Y : jm} {d : Nat} {Q : jq} {rc rs pc : Nat} {L : List (Option Value)} {st : List Value} {M : mheap}
theorem jj_getf {index ci k a : Nat} {fs : List Value} {v : Value} (hd : decode Y.2.1 pc = .ok (.getfield index, 3)) (hf : jj_fl G Y.1.cls index ci k) (hM : M a = some (.inl ci, fs)) (hv : fs[k]? = some v) (kk : jj G Y d Q rc rs (pc + 3) L (v :: st) M) : jj G Y d Q rc rs pc L (.ref a :: st) M := by
  intro p l e R s m args below meth c H locs cells slots ls F A B C E1 E2 E3 E4
  have kw := kk p l e R s m args below meth c H locs cells slots ls F A B C E1 E2 E3 E4
  obtain ⟨f1, f2, f3, f4, f5, f6, f7, f8, f9, f10, f11⟩ := F
  obtain ⟨C0, T, N, ⟨hc, hin, -⟩, hk, hl⟩ := hf
  obtain ⟨-, r, h1, h2, cell, q1, q2, q3, q4⟩ := A.2.2 a _ hM
  obtain rfl : r = (C0, T, N) := Option.some.inj (h1.symm.trans hc)
  obtain ⟨hS, hfc, kC, hkC, hkind⟩ := f10.1 ci _ hc
  obtain ⟨cf, kf, fi, f, hi, hsl⟩ := hS k hk
  have hs : cell.slots[f.slot]? = some v := by rw [hsl, q4 k hk]; simp [vp_V, hv]
  rcases hl with hl | ⟨host, hl⟩
  · exact W.getf f1 f2 f6 (f9 _ hl) hi (u_facts hfc hkC (u_lays f9 hin hk) hi).1 q1 (by rw [q3]; exact fun h => by cases h) hs rfl rfl hd kw
  · exact va_Wgetf f1 f2 f6 (f9 _ hl) hi (u_facts hfc hkC (u_lays f9 hin hk) hi).1 q1 (by rw [q3]; exact fun h => by cases h) hs rfl rfl hd kw
theorem jj_putf {index ci k a : Nat} {fs : List Value} {v : Value} {ty : FieldType} (hd : decode Y.2.1 pc = .ok (.putfield index, 3)) (hf : jj_fp G Y.1.cls index ci k ty) (hM : M a = some (.inl ci, fs)) (hn : narrow ty v = v) (hfit : fits ty v = true) (kk : jj G Y d Q rc rs (pc + 3) L st (jj_up M a (.inl ci, fs.set k v))) : jj G Y d Q rc rs pc L (v :: .ref a :: st) M := by
  intro p l e R s m args below meth c H locs cells slots ls F A B C E1 E2 E3 E4
  obtain ⟨f1, f2, f3, f4, f5, f6, f7, f8, f9, f10, f11⟩ := id F
  obtain ⟨C0, T, N, ⟨hc, hin, ty0, hty, hnm⟩, hk, hfin, hpd, hl⟩ := hf
  obtain ⟨hb, r, h1, h2, cell, q1, q2, q3, q4⟩ := A.2.2 a _ hM
  obtain rfl : r = (C0, T, N) := Option.some.inj (h1.symm.trans hc)
  have hap := va_apart (own := Y.1.cls) (args := args) f9 hin ty0 hty hnm f10 hc
  obtain ⟨hS, hfc, kC, hkC, hkind⟩ := f10.1 ci _ hc
  obtain ⟨cf, kf, fi, f, hi, hsl⟩ := hS k hk
  have hlay := f9 _ (hin _ (u_in_lay hk))
  unfold u_lay at hlay
  rw [if_neg (by rw [hfin]; decide)] at hlay
  have hst := (u_facts hfc hkC (u_lays f9 hin hk) hi).1
  have h6 := u_store hfc hkC hkind hlay hi hpd hn hfit
  have hlen : k < fs.length := by have : N = fs.length := h2; omega
  have go : ∀ H' : Heap, H'[a]? = some (cell.setSlot f.slot v) → H'.size = H.size → (∀ q, q ≠ a → H'[q]? = H[q]?) → W p l e R s m args below meth c H' (locs ++ [⟨a, f.slot⟩]) cells slots (jj_Q G R s below Q) (F0 m (pc + 3) ls st) := by
    intro H' e1 e2 e3
    refine kk p l e R s m args below meth c H' (locs ++ [⟨a, f.slot⟩]) cells slots ls F (jj_rel_put A hM ?_ e2 e3) (jj_locs B hb) C E1 E2 E3 E4
    rw [hsl] at e1
    exact ⟨_, hc, by rw [List.length_set]; exact h2, t_OB.to (V := updV (vp_V fs) k v) ⟨_, e1, q2, q3, t_set q4 hap hk v⟩ (fun j _ => vp_updV_set hlen v j)⟩
  rcases hl with hl | ⟨host, hl⟩
  · exact W.putK f1 f2 (f := f) ⟨f6, f9 _ hl, ⟨_, _, _, hi⟩, hst⟩ (by rw [q2]; exact h6) q1 q3 (by rw [hsl]; exact k2_hasslot (q4 k hk)) rfl rfl hd go
  · exact va_WputK f1 f2 (f := f) f6 (f9 _ hl) hi hst (by rw [q2]; exact h6) q1 q3 (by rw [hsl]; exact k2_hasslot (q4 k hk)) rfl rfl hd go
theorem jj_putF {index ci k a : Nat} {fs : List Value} {v : Value} {ty : FieldType} (hd : decode Y.2.1 pc = .ok (.putfield index, 3)) (hf : jj_ff G Y.1.cls index ci k ty) (hi0 : Y.1.name = "<init>") (hM : M a = some (.inl ci, fs)) (hn : narrow ty v = v) (hfit : fits ty v = true) (kk : jj G Y d Q rc rs (pc + 3) L st (jj_up M a (.inl ci, fs.set k v))) : jj G Y d Q rc rs pc L (v :: .ref a :: st) M := by
  intro p l e R s m args below meth c H locs cells slots ls F A B C E1 E2 E3 E4
  obtain ⟨f1, f2, f3, f4, f5, f6, f7, f8, f9, f10, f11⟩ := id F
  obtain ⟨C0, T, N, ⟨hc, hin, ty0, hty, hnm⟩, hk, hfin, hdecl, hpd, hl⟩ := hf
  obtain ⟨hb, r, h1, h2, cell, q1, q2, q3, q4⟩ := A.2.2 a _ hM
  obtain rfl : r = (C0, T, N) := Option.some.inj (h1.symm.trans hc)
  have hap := va_apart (own := Y.1.cls) (args := args) f9 hin ty0 hty hnm f10 hc
  obtain ⟨hS, hfc, kC, hkC, hkind⟩ := f10.1 ci _ hc
  obtain ⟨cf, kf, fi, f, hi, hsl⟩ := hS k hk
  have hlay := f9 _ (hin _ (u_in_lay hk))
  unfold u_lay at hlay
  rw [if_pos hfin] at hlay
  have hst := (u_facts hfc hkC (u_lays f9 hin hk) hi).1
  have hcf : m.cls = cf := by
    obtain ⟨_, _, c', _, _, _, -, -, hf', -, -, -, hown2, -⟩ := Cond.laysFinal_spec hlay
    have e1 : c' = cf := by have := hi.symm.trans hf'; simp at this; exact this.1.symm
    rw [hdecl] at hown2
    rw [← e1]; exact Option.some.inj (f6.symm.trans hown2)
  have h6 := u_fits hfc hkC hkind (Or.inr hlay) hi hpd hn hfit
  have hlen : k < fs.length := by have : N = fs.length := h2; omega
  refine W.putFinK f1 f2 f6 (f9 _ hl) hi hst hcf (f7.trans hi0) (by rw [q2]; exact h6) q1 q3 (by rw [hsl]; exact k2_hasslot (q4 k hk)) rfl rfl hd fun H' e1 e2 e3 => ?_
  refine kk p l e R s m args below meth c H' _ cells slots ls F (jj_rel_put A hM ?_ e2 e3) (jj_locs B hb) C E1 E2 E3 E4
  rw [hsl] at e1
  exact ⟨_, hc, by rw [List.length_set]; exact h2, t_OB.to (V := updV (vp_V fs) k v) ⟨_, e1, q2, q3, t_set q4 hap hk v⟩ (fun j _ => vp_updV_set hlen v j)⟩
/-- an entry of own's pool is class ci, which can be made; its fields at first -/
def jj_nw (G : jg) (own : String) (index ci : Nat) (fs : List Value) : Prop := ∃ (C : String) (T : u_T) (N : Nat), G.2.1[ci]? = some (C, T, N) ∧ (∀ w ∈ u_ws C T N, w ∈ G.2.2.2.1) ∧ N = fs.length ∧ (∃ ty : Nat → FieldType, (∀ k, k < N → parseFieldDescriptor (T k).2.2.1 = some (ty k)) ∧ ∀ j, j < N → defaultValue (ty j) = vp_V fs j) ∧ Cond.classLink own index C ∈ G.2.2.2.1 ∧ Cond.instantiable C N ∈ G.2.2.2.1 ∧ Cond.initialized C ∈ G.2.2.2.1
theorem jj_new {index ci : Nat} {fs : List Value} (hd : decode Y.2.1 pc = .ok (.new index, 3)) (hf : jj_nw G Y.1.cls index ci fs) (hr1 : 1 ≤ rc) (hr2 : fs.length ≤ rs) (kk : ∀ a, M a = none → jj G Y d Q (rc - 1) (rs - fs.length) (pc + 3) L (.ref a :: st) (jj_up M a (.inl ci, fs))) : jj G Y d Q rc rs pc L st M := by
  intro p l e R s m args below meth c H locs cells slots ls F A B C E1 E2 E3 E4
  obtain ⟨f1, f2, f3, f4, f5, f6, f7, f8, f9, f10, f11⟩ := id F
  obtain ⟨C0, T, N, hc, hin, hN, ⟨ty, hty, hfs⟩, w1, w2, w3⟩ := hf
  have hKn := f10.1 ci _ hc
  refine W.newcK f1 f2 f6 (f9 _ w1) (f9 _ w2) (f9 _ w3) rfl hd (by omega) (by omega) hKn.2.1 rfl fun H1 kC hkC e1 z1 o1 => ?_
  have hx : jj_rep G (.inl ci, fs) H.size H1 := ⟨_, hc, hN, (u_born ty f9 hin hKn hkC e1 hty).to hfs⟩
  obtain ⟨n1, n2⟩ := jj_rel_new A hx z1 o1
  exact kk H.size n1 p l e R s m args below meth c H1 locs (cells + 1) (slots + N) ls F n2 B C (by omega) (by omega) E3 E4
/-! arrays -/
theorem jj_arr_len {fs : List Value} {cA : ClassId} : (arrV cA fs.length (vp_V fs)).slots.size = fs.length := arrV_size _ _ _
theorem jj_vin {i : Int32} {n j : Nat} (hi : i = nI j) (hj : j < n) (hn : n < 2 ^ 31) : vp_in i n := by rw [hi]; exact vp_in_nI hj hn
theorem jj_alen {j a : Nat} {fs : List Value} (hd : decode Y.2.1 pc = .ok (.arraylength, 1)) (hM : M a = some (.inr j, fs)) (kk : jj G Y d Q rc rs (pc + 1) L (.int (nI fs.length) :: st) M) : jj G Y d Q rc rs pc L (.ref a :: st) M := by
  intro p l e R s m args below meth c H locs cells slots ls F A B C E1 E2 E3 E4
  have kw := kk p l e R s m args below meth c H locs cells slots ls F A B C E1 E2 E3 E4
  obtain ⟨f1, f2, f3, f4, f5, f6, f7, f8, f9, f10, f11⟩ := F
  obtain ⟨-, q, h1, h2⟩ := A.2.2 a _ hM
  exact W.alen f1 f2 h2 ((f10.2 j q h1).1 _ _) (by rw [jj_arr_len]; rfl) rfl rfl hd kw
theorem jj_ald_core {a i : Nat} {fs : List Value} {v : Value} {x : Int32} {H : Heap} {q : ClassId × FieldType} (h2 : H[a]? = some (arrV q.1 fs.length (vp_V fs))) (hv : fs[i]? = some v) (hx : x = nI i) (hlen : fs.length < 2 ^ 31) : ¬ (x < 0 ∨ (arrV q.1 fs.length (vp_V fs)).slots.size ≤ x.toNatClampNeg) ∧ (arrV q.1 fs.length (vp_V fs)).slots[x.toNatClampNeg]? = some v := by
  have hi : i < fs.length := (List.getElem?_eq_some_iff.mp hv).1
  subst hx
  have e : (nI i).toNatClampNeg = i := nI_clamp (by omega)
  refine ⟨by rw [jj_arr_len]; exact vp_in_nI hi hlen, ?_⟩
  rw [e, arrV_read _ _ hi]
  simp [vp_V, hv]
theorem jj_iald {j a i : Nat} {fs : List Value} {v : Value} {x : Int32} (hd : decode Y.2.1 pc = .ok (.iaload, 1)) (hT : (G.2.2.1[j]?).map (·.2) = some .int) (hM : M a = some (.inr j, fs)) (hx : x = nI i) (hlen : fs.length < 2 ^ 31) (hv : fs[i]? = some v) (kk : jj G Y d Q rc rs (pc + 1) L (v :: st) M) : jj G Y d Q rc rs pc L (.int x :: .ref a :: st) M := by
  intro p l e R s m args below meth c H locs cells slots ls F A B C E1 E2 E3 E4
  have kw := kk p l e R s m args below meth c H locs cells slots ls F A B C E1 E2 E3 E4
  obtain ⟨f1, f2, f3, f4, f5, f6, f7, f8, f9, f10, f11⟩ := F
  obtain ⟨-, q, h1, h2⟩ := A.2.2 a _ hM
  have hq : q.2 = .int := by rw [h1] at hT; simpa using hT
  obtain ⟨g1, g2⟩ := jj_ald_core (i := i) h2 hv hx hlen
  exact W.iald f1 f2 h2 (by rw [← hq]; exact (f10.2 j q h1).1 _ _) (fun h => by cases h) g1 g2 rfl rfl hd kw
theorem jj_lald {j a i : Nat} {fs : List Value} {v : Value} {x : Int32} (hd : decode Y.2.1 pc = .ok (.laload, 1)) (hT : (G.2.2.1[j]?).map (·.2) = some .long) (hM : M a = some (.inr j, fs)) (hx : x = nI i) (hlen : fs.length < 2 ^ 31) (hv : fs[i]? = some v) (kk : jj G Y d Q rc rs (pc + 1) L (v :: st) M) : jj G Y d Q rc rs pc L (.int x :: .ref a :: st) M := by
  intro p l e R s m args below meth c H locs cells slots ls F A B C E1 E2 E3 E4
  have kw := kk p l e R s m args below meth c H locs cells slots ls F A B C E1 E2 E3 E4
  obtain ⟨f1, f2, f3, f4, f5, f6, f7, f8, f9, f10, f11⟩ := F
  obtain ⟨-, q, h1, h2⟩ := A.2.2 a _ hM
  have hq : q.2 = .long := by rw [h1] at hT; simpa using hT
  obtain ⟨g1, g2⟩ := jj_ald_core (i := i) h2 hv hx hlen
  exact W.lald f1 f2 h2 (by rw [← hq]; exact (f10.2 j q h1).1 _ _) (fun h => by cases h) g1 g2 rfl rfl hd kw
theorem jj_zald {j a i : Nat} {fs : List Value} {v : Value} {x : Int32} (hd : decode Y.2.1 pc = .ok (.baload, 1)) (hT : (G.2.2.1[j]?).map (·.2) = some .boolean) (hM : M a = some (.inr j, fs)) (hx : x = nI i) (hlen : fs.length < 2 ^ 31) (hv : fs[i]? = some v) (kk : jj G Y d Q rc rs (pc + 1) L (v :: st) M) : jj G Y d Q rc rs pc L (.int x :: .ref a :: st) M := by
  intro p l e R s m args below meth c H locs cells slots ls F A B C E1 E2 E3 E4
  have kw := kk p l e R s m args below meth c H locs cells slots ls F A B C E1 E2 E3 E4
  obtain ⟨f1, f2, f3, f4, f5, f6, f7, f8, f9, f10, f11⟩ := F
  obtain ⟨-, q, h1, h2⟩ := A.2.2 a _ hM
  have hq : q.2 = .boolean := by rw [h1] at hT; simpa using hT
  obtain ⟨g1, g2⟩ := jj_ald_core (i := i) h2 hv hx hlen
  exact W.zald f1 f2 h2 (by rw [← hq]; exact (f10.2 j q h1).1 _ _) (fun h => by cases h) g1 g2 rfl rfl hd kw
theorem jj_aald {j a i : Nat} {fs : List Value} {v : Value} {x : Int32} {C0 : String} (hd : decode Y.2.1 pc = .ok (.aaload, 1)) (hT : (G.2.2.1[j]?).map (·.2) = some (.object C0)) (hM : M a = some (.inr j, fs)) (hx : x = nI i) (hlen : fs.length < 2 ^ 31) (hv : fs[i]? = some v) (kk : jj G Y d Q rc rs (pc + 1) L (v :: st) M) : jj G Y d Q rc rs pc L (.int x :: .ref a :: st) M := by
  intro p l e R s m args below meth c H locs cells slots ls F A B C E1 E2 E3 E4
  have kw := kk p l e R s m args below meth c H locs cells slots ls F A B C E1 E2 E3 E4
  obtain ⟨f1, f2, f3, f4, f5, f6, f7, f8, f9, f10, f11⟩ := F
  obtain ⟨-, q, h1, h2⟩ := A.2.2 a _ hM
  have hq : q.2 = .object C0 := by rw [h1] at hT; simpa using hT
  obtain ⟨g1, g2⟩ := jj_ald_core (i := i) h2 hv hx hlen
  exact W.aald (ty := .object C0) f1 f2 h2 (by rw [← hq]; exact (f10.2 j q h1).1 _ _) rfl (fun h => by cases h) g1 g2 rfl rfl hd kw
theorem jj_arr_put {G : jg} {j i : Nat} {fs : List Value} {v : Value} {q : ClassId × FieldType} {H1 : Heap} {a : Nat} (h1 : G.2.2.1[j]? = some q) (hi : i < fs.length) (e : H1[a]? = some ((arrV q.1 fs.length (vp_V fs)).setSlot i v)) : jj_rep G (.inr j, fs.set i v) a H1 := by
  refine ⟨q, h1, ?_⟩
  rw [e, arrV_store]
  show some (arrV q.1 fs.length (updV (vp_V fs) i v)) = some (arrV q.1 (fs.set i v).length (vp_V (fs.set i v)))
  rw [List.length_set]
  congr 2
  funext k
  exact vp_updV_set hi v k
theorem jj_iast {j a i : Nat} {fs : List Value} {x : Int32} {y : Int32} (hd : decode Y.2.1 pc = .ok (.iastore, 1)) (hT : (G.2.2.1[j]?).map (·.2) = some .int) (hM : M a = some (.inr j, fs)) (hx : x = nI i) (hlen : fs.length < 2 ^ 31) (hi : i < fs.length) (kk : jj G Y d Q rc rs (pc + 1) L st (jj_up M a (.inr j, fs.set i (.int y)))) : jj G Y d Q rc rs pc L (.int y :: .int x :: .ref a :: st) M := by
  intro p l e R s m args below meth c H locs cells slots ls F A B C E1 E2 E3 E4
  obtain ⟨f1, f2, f3, f4, f5, f6, f7, f8, f9, f10, f11⟩ := id F
  obtain ⟨hb, q, h1, h2⟩ := A.2.2 a _ hM
  have hq : q.2 = .int := by rw [h1] at hT; simpa using hT
  subst hx
  have ec : (nI i).toNatClampNeg = i := nI_clamp (by omega)
  refine W.iast f1 f2 h2 (by rw [← hq]; exact (f10.2 j q h1).1 _ _) (fun h => by cases h) (by rw [jj_arr_len]; exact vp_in_nI hi hlen) rfl rfl hd fun H1 e1 e2 e3 => ?_
  rw [ec] at e1 ⊢
  exact kk p l e R s m args below meth c H1 _ cells slots ls F (jj_rel_put A hM (jj_arr_put h1 hi e1) e2 e3) (jj_locs B hb) C E1 E2 E3 E4
theorem jj_last {j a i : Nat} {fs : List Value} {x : Int32} {y : Int64} (hd : decode Y.2.1 pc = .ok (.lastore, 1)) (hT : (G.2.2.1[j]?).map (·.2) = some .long) (hM : M a = some (.inr j, fs)) (hx : x = nI i) (hlen : fs.length < 2 ^ 31) (hi : i < fs.length) (kk : jj G Y d Q rc rs (pc + 1) L st (jj_up M a (.inr j, fs.set i (.long y)))) : jj G Y d Q rc rs pc L (.long y :: .int x :: .ref a :: st) M := by
  intro p l e R s m args below meth c H locs cells slots ls F A B C E1 E2 E3 E4
  obtain ⟨f1, f2, f3, f4, f5, f6, f7, f8, f9, f10, f11⟩ := id F
  obtain ⟨hb, q, h1, h2⟩ := A.2.2 a _ hM
  have hq : q.2 = .long := by rw [h1] at hT; simpa using hT
  subst hx
  have ec : (nI i).toNatClampNeg = i := nI_clamp (by omega)
  refine W.last f1 f2 h2 (by rw [← hq]; exact (f10.2 j q h1).1 _ _) (fun h => by cases h) (by rw [jj_arr_len]; exact vp_in_nI hi hlen) rfl rfl hd fun H1 e1 e2 e3 => ?_
  rw [ec] at e1 ⊢
  exact kk p l e R s m args below meth c H1 _ cells slots ls F (jj_rel_put A hM (jj_arr_put h1 hi e1) e2 e3) (jj_locs B hb) C E1 E2 E3 E4
theorem jj_zast {j a i : Nat} {fs : List Value} {x y : Int32} (hd : decode Y.2.1 pc = .ok (.bastore, 1)) (hT : (G.2.2.1[j]?).map (·.2) = some .boolean) (hM : M a = some (.inr j, fs)) (hx : x = nI i) (hlen : fs.length < 2 ^ 31) (hi : i < fs.length) (hn : narrow .boolean (.int y) = .int y) (kk : jj G Y d Q rc rs (pc + 1) L st (jj_up M a (.inr j, fs.set i (.int y)))) : jj G Y d Q rc rs pc L (.int y :: .int x :: .ref a :: st) M := by
  intro p l e R s m args below meth c H locs cells slots ls F A B C E1 E2 E3 E4
  obtain ⟨f1, f2, f3, f4, f5, f6, f7, f8, f9, f10, f11⟩ := id F
  obtain ⟨hb, q, h1, h2⟩ := A.2.2 a _ hM
  have hq : q.2 = .boolean := by rw [h1] at hT; simpa using hT
  subst hx
  have ec : (nI i).toNatClampNeg = i := nI_clamp (by omega)
  refine W.zast f1 f2 h2 (by rw [← hq]; exact (f10.2 j q h1).1 _ _) (fun h => by cases h) (by rw [jj_arr_len]; exact vp_in_nI hi hlen) rfl rfl hd fun H1 e1 e2 e3 => ?_
  rw [ec, hn] at e1
  rw [ec]
  exact kk p l e R s m args below meth c H1 _ cells slots ls F (jj_rel_put A hM (jj_arr_put h1 hi e1) e2 e3) (jj_locs B hb) C E1 E2 E3 E4
theorem jj_aast {j a i ci v : Nat} {fs vs : List Value} {x : Int32} {r : vw_C} (hd : decode Y.2.1 pc = .ok (.aastore, 1)) (hc : G.2.1[ci]? = some r) (hT : (G.2.2.1[j]?).map (·.2) = some (.object r.1)) (hM : M a = some (.inr j, fs)) (hV : M v = some (.inl ci, vs)) (hx : x = nI i) (hlen : fs.length < 2 ^ 31) (hi : i < fs.length) (kk : jj G Y d Q rc rs (pc + 1) L st (jj_up M a (.inr j, fs.set i (.ref v)))) : jj G Y d Q rc rs pc L (.ref v :: .int x :: .ref a :: st) M := by
  intro p l e R s m args below meth c H locs cells slots ls F A B C E1 E2 E3 E4
  obtain ⟨f1, f2, f3, f4, f5, f6, f7, f8, f9, f10, f11⟩ := id F
  obtain ⟨hb, q, h1, h2⟩ := A.2.2 a _ hM
  have hq : q.2 = .object r.1 := by rw [h1] at hT; simpa using hT
  obtain ⟨-, r', g0, -, cellV, g1, g2, g3, -⟩ := A.2.2 v _ hV
  have hcls := (f10.1 ci r hc).2
  have hra : va_RA s q.1 (.object r.1) := by rw [← hq]; exact (f10.2 j q h1).2
  obtain ⟨kA, comp, k1, k2, k3, -⟩ := hra
  have hcomp : comp = G.1.1 ci := Option.some.inj (k3.symm.trans hcls.1)
  subst hcomp
  obtain ⟨kC, hkC, -⟩ := hcls.2
  subst hx
  have ec : (nI i).toNatClampNeg = i := nI_clamp (by omega)
  refine W.aast f1 f2 h2 (fun q h => by cases h) (fun h => by cases h) k1 k2 rfl hkC ⟨nI_pos (by omega), by rw [jj_arr_len, ec]; exact hi⟩ g1 (fun q h => by rw [g3] at h; cases h) (by rw [g2]; exact hkC) (by rw [g2]; exact va_assign hcls) rfl rfl hd fun H1 e1 e2 e3 => ?_
  rw [ec] at e1 ⊢
  exact kk p l e R s m args below meth c H1 _ cells slots ls F (jj_rel_put A hM (jj_arr_put h1 hi e1) e2 e3) (jj_locs B hb) C E1 E2 E3 E4
theorem jj_rep_len {G : jg} {j n a : Nat} {v : Value} {q : ClassId × FieldType} {H : Heap} (h1 : G.2.2.1[j]? = some q) (h : H[a]? = some ({ cls := q.1, slots := Array.replicate n v, vm := .none } : Cell)) : jj_rep G (.inr j, List.replicate n v) a H := by
  refine ⟨q, h1, ?_⟩
  rw [h]
  simp only [arrV, List.length_replicate]
  congr 2
  apply Array.ext
  · simp
  · intro i h2 h3
    simp only [Array.size_replicate] at h2
    simp [vp_V, h2]
theorem jj_newa {j n : Nat} {x : Int32} {at0 : ArrayType} {ty : FieldType} (hd : decode Y.2.1 pc = .ok (.newarray at0, 2)) (hty : newarray.typeOf at0 = ty) (hT : (G.2.2.1[j]?).map (·.2) = some ty) (hprim : ∀ C, ty ≠ .object C) (hw : Cond.arrayClass ty ∈ G.2.2.2.1) (hx : x = nI n) (hn : n < 16777216) (hr1 : 1 ≤ rc) (hr2 : n ≤ rs) (kk : ∀ a, M a = none → jj G Y d Q (rc - 1) (rs - n) (pc + 2) L (.ref a :: st) (jj_up M a (.inr j, List.replicate n (defaultValue ty)))) : jj G Y d Q rc rs pc L (.int x :: st) M := by
  intro p l e R s m args below meth c H locs cells slots ls F A B C E1 E2 E3 E4
  obtain ⟨f1, f2, f3, f4, f5, f6, f7, f8, f9, f10, f11⟩ := id F
  subst hx
  subst hty
  have ec : (nI n).toNatClampNeg = n := nI_clamp (by omega)
  obtain ⟨q, h1, hq⟩ : ∃ q, G.2.2.1[j]? = some q ∧ q.2 = newarray.typeOf at0 := by
    cases h : G.2.2.1[j]? with
    | none => simp [h] at hT
    | some q => exact ⟨q, rfl, by simpa [h] using hT⟩
  have hcb : componentBytes (newarray.typeOf at0) ≤ 8 := by cases at0 <;> decide
  refine W.newa f1 f2 (f9 _ hw) rfl hd rfl (nI_pos (by omega)) (by rw [ec]; calc n * componentBytes (newarray.typeOf at0) ≤ n * 8 := Nat.mul_le_mul_left _ hcb
      _ ≤ 536870912 := by omega) (by omega) (by rw [ec]; omega) fun cA kA comp g1 g2 g3 => ?_
  have hra : s.vm.findClass ("[" ++ (newarray.typeOf at0).toString) = some q.1 := by
    have := (f10.2 j q h1).2
    rw [hq] at this
    cases at0 <;> exact this
  have hcA : cA = q.1 := Option.some.inj (g1.symm.trans hra)
  subst hcA
  rw [ec]
  have hx : jj_rep G (.inr j, List.replicate n (defaultValue (newarray.typeOf at0))) H.size (H.push { cls := q.1, slots := Array.replicate n (defaultValue (newarray.typeOf at0)), vm := .none }) := jj_rep_len h1 (by simp)
  obtain ⟨n1, n2⟩ := jj_rel_new A hx (by simp) (fun k hk => by simp [Array.getElem?_push, Nat.ne_of_lt hk])
  exact kk H.size n1 p l e R s m args below meth c _ locs (cells + 1) (slots + n) ls F n2 B C (by omega) (by omega) E3 E4
theorem jj_anew {j n index : Nat} {x : Int32} {C0 : String} (hd : decode Y.2.1 pc = .ok (.anewarray index, 3)) (hT : (G.2.2.1[j]?).map (·.2) = some (.object C0)) (hw1 : Cond.classLink Y.1.cls index C0 ∈ G.2.2.2.1) (hw2 : Cond.arrayOver (.object C0) ∈ G.2.2.2.1) (hx : x = nI n) (hn : n < 16777216) (hr1 : 1 ≤ rc) (hr2 : n ≤ rs) (kk : ∀ a, M a = none → jj G Y d Q (rc - 1) (rs - n) (pc + 3) L (.ref a :: st) (jj_up M a (.inr j, List.replicate n .null))) : jj G Y d Q rc rs pc L (.int x :: st) M := by
  intro p l e R s m args below meth c H locs cells slots ls F A B C E1 E2 E3 E4
  obtain ⟨f1, f2, f3, f4, f5, f6, f7, f8, f9, f10, f11⟩ := id F
  subst hx
  have ec : (nI n).toNatClampNeg = n := nI_clamp (by omega)
  obtain ⟨q, h1, hq⟩ : ∃ q, G.2.2.1[j]? = some q ∧ q.2 = .object C0 := by
    cases h : G.2.2.1[j]? with
    | none => simp [h] at hT
    | some q => exact ⟨q, rfl, by simpa [h] using hT⟩
  refine W.anew f1 f2 f6 (f9 _ hw1) (f9 _ hw2) rfl hd rfl (nI_pos (by omega)) (by rw [ec]; omega) (by omega) (by rw [ec]; omega) fun cA kA comp g1 g2 g3 g4 => ?_
  have hra : va_RA s q.1 (.object C0) := by rw [← hq]; exact (f10.2 j q h1).2
  obtain ⟨_, _, _, _, _, k4⟩ := hra
  have hcA : cA = q.1 := Option.some.inj (g1.symm.trans k4)
  subst hcA
  rw [ec]
  have hx : jj_rep G (.inr j, List.replicate n .null) H.size (H.push { cls := q.1, slots := Array.replicate n .null, vm := .none }) := jj_rep_len h1 (by simp)
  obtain ⟨n1, n2⟩ := jj_rel_new A hx (by simp) (fun k hk => by simp [Array.getElem?_push, Nat.ne_of_lt hk])
  exact kk H.size n1 p l e R s m args below meth c _ locs (cells + 1) (slots + n) ls F n2 B C (by omega) (by omega) E3 E4
end JH
