/-! ===== System.arraycopy of ints ===== -/
def jj_cp (fs gs : List Value) (sp dp n : Nat) : List Value := gs.take dp ++ ((fs.drop sp).take n ++ gs.drop (dp + n))
theorem jj_cp_len {fs gs : List Value} {sp dp n : Nat} (h1 : sp + n ≤ fs.length) (h2 : dp + n ≤ gs.length) : (jj_cp fs gs sp dp n).length = gs.length := by
  simp [jj_cp]; omega
theorem jj_cp_at {fs gs : List Value} {sp dp n : Nat} (h1 : sp + n ≤ fs.length) (h2 : dp + n ≤ gs.length) (k : Nat) : (jj_cp fs gs sp dp n)[k]? = if dp ≤ k ∧ k < dp + n then fs[sp + (k - dp)]? else gs[k]? := by
  unfold jj_cp
  have e1 : (gs.take dp).length = dp := by simp; omega
  by_cases hk : k < dp
  · rw [List.getElem?_append_left (by omega), List.getElem?_take_of_lt hk, if_neg (by omega)]
  · rw [List.getElem?_append_right (by omega), e1]
    have e2 : ((fs.drop sp).take n).length = n := by simp; omega
    by_cases hk2 : k < dp + n
    · rw [List.getElem?_append_left (by omega), List.getElem?_take_of_lt (by omega), List.getElem?_drop, if_pos ⟨by omega, hk2⟩]
    · rw [List.getElem?_append_right (by omega), e2, List.getElem?_drop, if_neg (by omega)]
      congr 1; omega
theorem jj_cp_V {fs gs : List Value} {sp dp n : Nat} (h1 : sp + n ≤ fs.length) (h2 : dp + n ≤ gs.length) : va_cpy (vp_V fs) (vp_V gs) sp dp n = vp_V (jj_cp fs gs sp dp n) := by
  funext k
  simp only [vp_V, va_cpy, List.getD_eq_getElem?_getD, jj_cp_at h1 h2]
  split <;> rfl
section JA
variable {G : jg} {Y Y' : jm} {d : Nat} {Q : jq} {rc rs pc : Nat} {L : List (Option Value)} {st : List Value} {M : mheap}
theorem jj_acopy {index j a a0 sp dp n : Nat} {fs gs : List Value} {x1 x2 x3 : Int32} (hd : decode Y.2.1 pc = .ok (.invokestatic index, 3)) (w1 : Cond.methodLink Y.1.cls index arraycopyName ∈ G.2.2.2.1) (w2 : Cond.native arraycopyName ∈ G.2.2.2.1) (w3 : Cond.static arraycopyName ∈ G.2.2.2.1) (w4 : Cond.initialized "java/lang/System" ∈ G.2.2.2.1) (hT : (G.2.2.1[j]?).map (·.2) = some .int) (hM0 : M a0 = some (.inr j, fs)) (hM : M a = some (.inr j, gs)) (hx1 : x1 = nI sp) (hx2 : x2 = nI dp) (hx3 : x3 = nI n) (h1 : sp + n ≤ fs.length) (h2 : dp + n ≤ gs.length) (hl1 : fs.length < 2 ^ 31) (hl2 : gs.length < 2 ^ 31) (hint : ∀ i, i < n → ∃ v : Int32, fs[sp + i]? = some (.int v)) (hL : L.length = Y.2.2.1) (hst : (st.map fun v => v.category).sum + (nativeFrameWords "java/lang/System" "arraycopy" 5 + 11) ≤ 100) (kk : jj G Y (d + 1) Q rc rs (pc + 3) L st (jj_up M a (.inr j, jj_cp fs gs sp dp n))) : jj G Y (d + 1) Q rc rs pc L (.int x3 :: .int x2 :: .ref a :: .int x1 :: .ref a0 :: st) M := by
  intro p l e R s m args below meth c H locs cells slots ls F A B C E1 E2 E3 E4 T hT0 X
  obtain ⟨f1, f2, f3, f4, f5, f6, f7, f8, f9, f10, f11, f12, f13⟩ := id F
  obtain ⟨hb0, q, g1, g2⟩ := A.2.2 a0 _ hM0
  obtain ⟨hb, q', g1', g3⟩ := A.2.2 a _ hM
  obtain rfl : q = q' := Option.some.inj (g1.symm.trans g1')
  have hq : q.2 = .int := by rw [g1] at hT; simpa using hT
  have ec1 : x1.toNatClampNeg = sp := by rw [hx1]; exact nI_clamp (by omega)
  have ec2 : x2.toNatClampNeg = dp := by rw [hx2]; exact nI_clamp (by omega)
  have ec3 : x3.toNatClampNeg = n := by rw [hx3]; exact nI_clamp (by omega)
  have et1 : x1.toInt = sp := by rw [hx1]; exact nI_toInt (by omega)
  have et2 : x2.toInt = dp := by rw [hx2]; exact nI_toInt (by omega)
  have et3 : x3.toInt = n := by rw [hx3]; exact nI_toInt (by omega)
  obtain ⟨-, k0, hk0, cm0, hkk0⟩ := (f10.2 j q g1).1 fs.length (vp_V fs)
  obtain ⟨-, k1, hk1, cm1, hkk1⟩ := (f10.2 j q g1).1 gs.length (vp_V gs)
  rw [hq] at hkk0 hkk1
  obtain ⟨vm', X', step⟩ := X.arraycopy f1 f6 (f9 _ w1) (f9 _ w2) (f9 _ w3) (f9 _ w4) (src := a0) (dst := a) (cs := arrV q.1 fs.length (vp_V fs)) (cd := arrV q.1 gs.length (vp_V gs)) (srcPos := x1) (destPos := x2) (n := x3) (by rw [hT0]; exact g2) (by rw [hT0]; exact g3)
    (fun _ h => by cases h) (fun _ h => by cases h) (fun h => by cases h) (fun h => by cases h) hk0 hk1 hkk0 hkk1 (by simp [refKind]) (by rw [hx1]; exact nI_pos (by omega)) (by rw [hx2]; exact nI_pos (by omega)) (by rw [hx3]; exact nI_pos (by omega))
    (by rw [et1, et3, jj_arr_len]; omega) (by rw [et2, et3, jj_arr_len]; omega)
    (fun vm₁ _ i hi => by
      rw [ec3] at hi
      obtain ⟨v, hv⟩ := hint i hi
      have e9 : (arrV q.1 fs.length (vp_V fs)).slots.getD (x1.toNatClampNeg + i) .null = .int v := by
        rw [ec1, Array.getD_eq_getD_getElem?, arrV_read _ _ (by omega)]
        simp [vp_V, hv]
      refine ⟨?_, ?_⟩
      · rw [e9]; rfl
      · rw [e9]; exact trivial)
    (g := F0 m pc ls (.int x3 :: .int x2 :: .ref a :: .int x1 :: .ref a0 :: st)) rfl (by show ls.size = _; rw [C.1, hL, f3]) (rest := st) rfl (by rw [f2]; exact hd) (by omega) (by show 2 * 0 + _ + _ ≤ _; omega)
  have e1 : copied (arrV q.1 fs.length (vp_V fs)) (arrV q.1 gs.length (vp_V gs)) x1 x2 x3 = arrV q.1 (jj_cp fs gs sp dp n).length (vp_V (jj_cp fs gs sp dp n)) := by
    have := va_copied (fun z => z) q.1 q.1 (n0 := fs.length) (n1 := gs.length) (sp := sp) (dp := dp) (n := n) (vp_V fs) (vp_V gs) h1
    rw [jj_cp_V h1 h2] at this
    rw [jj_cp_len h1 h2]
    show Cell.storeRun _ x2.toNatClampNeg (Cell.stretch _ x1.toNatClampNeg x3.toNatClampNeg) = _
    rw [ec1, ec2, ec3]
    exact this
  rw [e1] at X' step
  have hl : a < T.heap.size := by rw [hT0]; exact (Array.getElem?_eq_some_iff.mp g3).1
  have hr := jj_rel_put (x := (.inr j, jj_cp fs gs sp dp n)) (H1 := ((T.setVm vm').setCell a (arrV q.1 (jj_cp fs gs sp dp n).length (vp_V (jj_cp fs gs sp dp n)))).heap) A hM ⟨q, g1, heapAt_setCell_self (s := T.setVm vm') _ hl⟩ (by rw [size_setCell, ← hT0]; rfl) (fun k hk => by rw [heapAt_setCell_ne _ (Ne.symm hk), ← hT0]; rfl)
  obtain ⟨t, a1, b1⟩ := kk p l e R s m args below meth c _ _ cells slots ls F hr (fun z hz => by
      rcases List.mem_append.mp hz with h | h
      · exact B z h
      · obtain ⟨w, -, hw⟩ := List.mem_map.mp h
        rw [← hw]; exact hb) C E1 E2 E3 E4 _ rfl X'
  exact ⟨t, step t a1, b1⟩
end JA
