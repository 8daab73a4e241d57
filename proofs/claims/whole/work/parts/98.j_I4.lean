/-! ===== Desk: the constructor (printed by wip/gen/rI4.py) ===== -/
section I4
variable {G : jg} {d : Nat} {Q : jq} {rc rs : Nat} {M : mheap} {ad : Nat → Nat} {D : Nat → Prop}
theorem k_init {ob ko : Nat} (hG : kG G) (hob : M ob = some (.inl nK, [.null, .null, .null, .null, .null, .null, .null, .null])) (hJ : INI M ad D) (eo : ad ko = ob) (dko : D ko) (k6 : 6244 ≤ ko) (hd : ∀ k, D k → (26 ≤ k ∧ k < 6275) ∨ 6279 ≤ k) (hrc : 30 ≤ rc) (hrs : 3836 ≤ rs) (k : ∀ (M' : mheap) (ad' : Nat → Nat) (rc' rs' : Nat), INI M' ad' (fun k => D k ∨ (k < 26 ∨ (6275 ≤ k ∧ k < 6279))) → (∀ k, D k → ad' k = ad k) → M' ob = some (.inl nK, [.ref (ad' 6276), .ref (ad' 6275), .ref (ad' 14), .ref (ad' 16), .ref (ad' 18), .ref (ad' 20), .ref (ad' 22), .ref (ad' 24)]) → M' (ad' 6276) = some (.inl nD, [.ref (ad' 0), .ref (ad' 2), .ref (ad' 6277), .ref (ad' 6278)]) → M' (ad' 6277) = some (.inr 0, (List.replicate 253 (0 : Int32)).map .int) → M' (ad' 6278) = some (.inr 0, (List.replicate 253 (0 : Int32)).map .int) → M' (ad' 6275) = some (.inl nU, [.ref (ad' 4), .ref (ad' 6), .ref (ad' 8), .ref (ad' 10), .ref (ad' 12), .ref (ad' 6276), .int (nI 0), .long 0, .long 0, .long 0, .long 0]) → (∀ x, x ≠ ob → M x ≠ none → M' x = M x) → rc ≤ rc' + 30 → rs ≤ rs' + 3836 → Q (.returned none) M' rc' rs') : jj G kK_init (d + 3) Q rc rs 0 (jj_ent [.ref ob] 1) [] M := by
  show jj G kK_init (d + 3) Q rc rs 0 [some (.ref ob)] [] M
  refine jj_aload_n (pc := 0) kK_init_d0 rfl ?_
  refine jj_objInit (pc := 1) kK_init_d1 (koK_obj hG) (ko_inst hG) (ko_code hG) rfl (Nat.le_of_ble_eq_true rfl) ?_
  show jj G kK_init (d + 3) Q rc rs 4 [some (.ref ob)] [] M
  have J0 := hJ
  obtain ⟨ad0, ea0⟩ : ∃ f, ad = f := ⟨_, rfl⟩
  rw [ea0] at J0 eo
  have g0 : ∀ k, D k → ad0 k = ad k := fun k _ => by rw [ea0]
  have f0 : ∀ x, x ≠ ob → M x ≠ none → M x = M x := fun _ _ _ => rfl
  have o0 : ad0 ko = ob := eo
  have u0 : ad0 ko = ob := o0
  refine jj_aload_n (pc := 4) kK_init_d4 rfl ?_
  refine jj_new (pc := 5) kK_init_d5 (knK_D hG) (by omega) (show 4 ≤ _ by omega) (fun a1 ha1 => ?_)
  refine jn_gen (fun Mp1 eMp1 => ?_)
  have na1 : a1 ≠ ob := fun e => by rw [e, hob] at ha1; cases ha1
  have hp1 := (show Mp1 ob = M ob by rw [eMp1, jj_up_ne _ _ (Ne.symm na1)]).trans hob
  have hc1 : Mp1 a1 = some (.inl nD, [.null, .null, .null, .null]) := by rw [eMp1]; exact jj_up_at _ _ _
  have kp1 : ∀ x, M x ≠ none → Mp1 x = M x := fun x hx => by rw [eMp1, jj_up_ne _ _ (fun e => hx (by rw [e]; exact ha1))]
  have Jp1 := J0.new (M' := Mp1) (ko := 6276) ha1 (by omega) (fun x hx => by rw [eMp1, jj_up_ne _ _ hx]) (by rw [hc1]; exact fun e => (by cases e))
  obtain ⟨dq1, ed1⟩ : ∃ f, adu ad0 (6276) a1 = f := ⟨_, rfl⟩
  rw [ed1] at Jp1
  have y1 : dq1 (6276) = a1 := by rw [← ed1, adu_at]
  show jj G kK_init (d + 3) Q (rc - 1) (rs - 4) 8 [some (.ref ob)] [.ref a1, .ref ob] Mp1
  refine jj_dup (pc := 8) kK_init_d8 rfl ?_
  refine jj_callI (pc := 9) (b := a1) (As := []) kK_init_d9 (kvK_D_init hG) rfl rfl rfl (Nat.le_of_ble_eq_true rfl) (Nat.le_of_ble_eq_true rfl) (jj_bare0 rfl) ?_
  refine d_init hG (ko := 6276) hc1 Jp1 y1 (Or.inr rfl) (by omega) (fun k hk => ?_) (by omega) (by omega) (fun Mn1 ad1 rc1 rs1 Jn1 gn1 cn1 zh1 zl1 fn1 rcl1 rsl1 => ?_)
  · rcases hk with h | h
    · have := hd k h; omega
    · omega
  have hq1 := (fn1 ob (Ne.symm na1) (by rw [hp1]; exact fun e => (by cases e))).trans hp1
  have g1 : ∀ k, D k → ad1 k = ad k := fun k hk => by
    have := hd k hk
    rw [gn1 k (Or.inl (hk)), ← ed1, adu_ne _ (by omega)]; exact g0 k hk
  have x1 : ad1 (6276) = a1 := (gn1 _ (Or.inr rfl)).trans y1
  have o1 : ad1 ko = ob := by
    rw [g1 ko dko, ea0]; exact o0
  show jj G kK_init (d + 3) Q rc1 rs1 12 [some (.ref ob)] [.ref a1, .ref ob] Mn1
  refine jj_putF (pc := 12) kK_init_d12 (kpK_divider hG) rfl hq1 (by rfl) rfl ?_
  refine jn_gen (fun M101 hM102 => ?_)
  have h103 : M101 ob = some (.inl nK, [.ref a1, .null, .null, .null, .null, .null, .null, .null]) := by rw [hM102]; exact jj_up_at _ _ _
  have J1 := Jn1.put (M' := M101) (ko := ko) (by refine Or.inl ?_; refine Or.inl ?_; exact dko) k6 (fun x hx => by rw [hM102, jj_up_ne _ _ (by rw [← o1]; exact hx)]) (by rw [o1, h103]; exact fun e => (by cases e))
  have f1 : ∀ x, x ≠ ob → M x ≠ none → M101 x = M x := fun x h1 h2 => by
    have h3 := f0 x h1 h2
    have h4 : M x ≠ none := by rw [h3]; exact h2
    have h5 := kp1 x h4
    have h6 := fn1 x (fun e => h4 (by rw [e]; exact ha1)) (by rw [h5]; exact h4)
    exact (show M101 x = Mn1 x by rw [hM102, jj_up_ne _ _ h1]).trans (h6.trans (h5.trans h3))
  have hy1 := (show M101 a1 = Mn1 a1 by rw [hM102, jj_up_ne _ _ na1]).trans cn1
  have nzzh1 : ad1 6277 ≠ ob := fun e => by rw [e, hq1] at zh1; cases zh1
  have hyzh1 : M101 (ad1 6277) = some (.inr 0, (List.replicate 253 (0 : Int32)).map .int) := by rw [hM102, jj_up_ne _ _ nzzh1]; exact zh1
  obtain ⟨vzh1, evzh1⟩ : ∃ v, ad1 6277 = v := ⟨_, rfl⟩
  rw [evzh1] at hyzh1 nzzh1
  have nzzl1 : ad1 6278 ≠ ob := fun e => by rw [e, hq1] at zl1; cases zl1
  have hyzl1 : M101 (ad1 6278) = some (.inr 0, (List.replicate 253 (0 : Int32)).map .int) := by rw [hM102, jj_up_ne _ _ nzzl1]; exact zl1
  obtain ⟨vzl1, evzl1⟩ : ∃ v, ad1 6278 = v := ⟨_, rfl⟩
  rw [evzl1] at hyzl1 nzzl1
  have z0_1 : ad1 0 = ad1 0 := rfl
  have z2_1 : ad1 2 = ad1 2 := rfl
  refine jj_aload_n (pc := 15) kK_init_d15 rfl ?_
  refine jj_new (pc := 16) kK_init_d16 (knK_U hG) (by omega) (show 11 ≤ _ by omega) (fun a2 ha2 => ?_)
  refine jn_gen (fun Mp2 eMp2 => ?_)
  have na2 : a2 ≠ ob := fun e => by rw [e, h103] at ha2; cases ha2
  have hp2 := (show Mp2 ob = M101 ob by rw [eMp2, jj_up_ne _ _ (Ne.symm na2)]).trans h103
  have hc2 : Mp2 a2 = some (.inl nU, [.null, .null, .null, .null, .null, .null, .int (nI (0)), .long 0, .long 0, .long 0, .long 0]) := by rw [eMp2]; exact jj_up_at _ _ _
  have kp2 : ∀ x, M101 x ≠ none → Mp2 x = M101 x := fun x hx => by rw [eMp2, jj_up_ne _ _ (fun e => hx (by rw [e]; exact ha2))]
  have Jp2 := J1.new (M' := Mp2) (ko := 6275) ha2 (by omega) (fun x hx => by rw [eMp2, jj_up_ne _ _ hx]) (by rw [hc2]; exact fun e => (by cases e))
  obtain ⟨dq2, ed2⟩ : ∃ f, adu ad1 (6275) a2 = f := ⟨_, rfl⟩
  rw [ed2] at Jp2
  have y2 : dq2 (6275) = a2 := by rw [← ed2, adu_at]
  show jj G kK_init (d + 3) Q (rc1 - 1) (rs1 - 11) 19 [some (.ref ob)] [.ref a2, .ref ob] Mp2
  refine jj_dup (pc := 19) kK_init_d19 rfl ?_
  refine jj_aload_n (pc := 20) kK_init_d20 rfl ?_
  refine jj_getf (pc := 21) kK_init_d21 (kfK_divider hG) hp2 rfl ?_
  refine jj_callI (pc := 24) (b := a2) (As := [.ref a1]) kK_init_d24 (kvK_U_init hG) rfl rfl rfl (Nat.le_of_ble_eq_true rfl) (Nat.le_of_ble_eq_true rfl) (jj_bare0 rfl) ?_
  refine u_init hG (ko := 6275) hc2 Jp2 y2 (Or.inr rfl) (by omega) (fun k hk => ?_) (by omega) (by omega) (fun Mn2 ad2 rc2 rs2 Jn2 gn2 cn2  fn2 rcl2 rsl2 => ?_)
  · rcases hk with ((h | h) | h) | h
    · have := hd k h; omega
    · omega
    · omega
    · omega
  have hq2 := (fn2 ob (Ne.symm na2) (by rw [hp2]; exact fun e => (by cases e))).trans hp2
  have g2 : ∀ k, D k → ad2 k = ad k := fun k hk => by
    have := hd k hk
    rw [gn2 k (Or.inl (Or.inl (Or.inl (hk)))), ← ed2, adu_ne _ (by omega)]; exact g1 k hk
  have x2 : ad2 (6275) = a2 := (gn2 _ (Or.inr rfl)).trans y2
  have o2 : ad2 ko = ob := by
    rw [g2 ko dko, ea0]; exact o0
  have evzh1_2 : ad2 6277 = vzh1 := (show ad2 6277 = ad1 6277 by rw [gn2 _ (Or.inl (Or.inr (by omega))), ← ed2, adu_ne _ (by omega)]).trans evzh1
  have evzl1_2 : ad2 6278 = vzl1 := (show ad2 6278 = ad1 6278 by rw [gn2 _ (Or.inl (Or.inr (by omega))), ← ed2, adu_ne _ (by omega)]).trans evzl1
  have z0_1_2 : ad2 0 = (ad1 0) := (show ad2 0 = ad1 0 by rw [gn2 _ (Or.inl (Or.inr (by omega))), ← ed2, adu_ne _ (by omega)]).trans z0_1
  have z2_1_2 : ad2 2 = (ad1 2) := (show ad2 2 = ad1 2 by rw [gn2 _ (Or.inl (Or.inr (by omega))), ← ed2, adu_ne _ (by omega)]).trans z2_1
  have x1_2 : ad2 (6276) = a1 := (show ad2 (6276) = ad1 (6276) by rw [gn2 _ (Or.inl (Or.inl (Or.inr rfl))), ← ed2, adu_ne _ (by omega)]).trans x1
  show jj G kK_init (d + 3) Q rc2 rs2 27 [some (.ref ob)] [.ref a2, .ref ob] Mn2
  refine jj_putF (pc := 27) kK_init_d27 (kpK_euclid hG) rfl hq2 (by rfl) rfl ?_
  refine jn_gen (fun M104 hM105 => ?_)
  have h106 : M104 ob = some (.inl nK, [.ref a1, .ref a2, .null, .null, .null, .null, .null, .null]) := by rw [hM105]; exact jj_up_at _ _ _
  have J2 := Jn2.put (M' := M104) (ko := ko) (by refine Or.inl ?_; refine Or.inl ?_; refine Or.inl ?_; refine Or.inl ?_; exact dko) k6 (fun x hx => by rw [hM105, jj_up_ne _ _ (by rw [← o2]; exact hx)]) (by rw [o2, h106]; exact fun e => (by cases e))
  have f2 : ∀ x, x ≠ ob → M x ≠ none → M104 x = M x := fun x h1 h2 => by
    have h3 := f1 x h1 h2
    have h4 : M101 x ≠ none := by rw [h3]; exact h2
    have h5 := kp2 x h4
    have h6 := fn2 x (fun e => h4 (by rw [e]; exact ha2)) (by rw [h5]; exact h4)
    exact (show M104 x = Mn2 x by rw [hM105, jj_up_ne _ _ h1]).trans (h6.trans (h5.trans h3))
  have hy2 := (show M104 a2 = Mn2 a2 by rw [hM105, jj_up_ne _ _ na2]).trans cn2
  have hyzh1_2 : M104 vzh1 = some (.inr 0, (List.replicate 253 (0 : Int32)).map .int) := by rw [hM105, jj_up_ne _ _ nzzh1, fn2 _ (fun e => (by have q9 := hyzh1; rw [e, ha2] at q9; cases q9)) (by rw [kp2 _ (by rw [hyzh1]; exact fun e => (by cases e)), hyzh1]; exact fun e => (by cases e)), kp2 _ (by rw [hyzh1]; exact fun e => (by cases e))]; exact hyzh1
  have hyzl1_2 : M104 vzl1 = some (.inr 0, (List.replicate 253 (0 : Int32)).map .int) := by rw [hM105, jj_up_ne _ _ nzzl1, fn2 _ (fun e => (by have q9 := hyzl1; rw [e, ha2] at q9; cases q9)) (by rw [kp2 _ (by rw [hyzl1]; exact fun e => (by cases e)), hyzl1]; exact fun e => (by cases e)), kp2 _ (by rw [hyzl1]; exact fun e => (by cases e))]; exact hyzl1
  have hy1_2 : M104 a1 = some (.inl nD, [.ref (ad1 0), .ref (ad1 2), .ref (ad1 6277), .ref (ad1 6278)]) := by rw [hM105, jj_up_ne _ _ na1, fn2 _ (fun e => (by have q9 := hy1; rw [e, ha2] at q9; cases q9)) (by rw [kp2 _ (by rw [hy1]; exact fun e => (by cases e)), hy1]; exact fun e => (by cases e)), kp2 _ (by rw [hy1]; exact fun e => (by cases e))]; exact hy1
  have z4_2 : ad2 4 = ad2 4 := rfl
  have z6_2 : ad2 6 = ad2 6 := rfl
  have z8_2 : ad2 8 = ad2 8 := rfl
  have z10_2 : ad2 10 = ad2 10 := rfl
  have z12_2 : ad2 12 = ad2 12 := rfl
  refine jj_aload_n (pc := 30) kK_init_d30 rfl ?_
  refine jj_new (pc := 31) kK_init_d31 (knK_W hG) (by omega) (show 3 ≤ _ by omega) (fun a3 ha3 => ?_)
  refine jj_dup (pc := 34) kK_init_d34 rfl ?_
  refine jn_sipush (pc := 35) 252 kK_init_d35 (by decide) ?_
  refine jj_callI (pc := 38) (b := a3) (As := [.int (nI (252))]) kK_init_d38 (kvK_W_init hG) rfl rfl rfl (Nat.le_of_ble_eq_true rfl) (Nat.le_of_ble_eq_true rfl) (jj_bare0 rfl) ?_
  refine w_init hG (jj_up_at _ _ _) (by omega) (by omega) (show _ ≤ _ - 3 by omega) (fun b3 hb3 => ?_)
  have hn3 := NWH.mk (c := 252) ha3 hb3
  refine jn_gen (fun Mn3 eMn3 => ?_)
  rw [← eMn3] at hn3
  show jj G kK_init (d + 3) Q (rc2 - 1 - 1) (rs2 - 3 - 252) 41 [some (.ref ob)] [.ref a3, .ref ob] Mn3
  have hq3 := (hn3.kept (x := ob) (by rw [h106]; exact fun e => (by cases e))).trans h106
  have Jn3 := J2.whole (p := 7) hn3 (by first | rfl | decide) (by first | rfl | decide)
  obtain ⟨ad3, ea3⟩ : ∃ f, adu (adu ad2 (2 * (7)) a3) (2 * (7) + 1) b3 = f := ⟨_, rfl⟩
  rw [ea3] at Jn3
  have g3 : ∀ k, D k → ad3 k = ad k := fun k hk => by
    have := hd k hk
    rw [← ea3, adu_ne _ (by omega), adu_ne _ (by omega)]; exact g2 k hk
  have x3 : ad3 (2 * (7)) = a3 := by rw [← ea3, adu_ne _ (by omega), adu_at]
  have o3 : ad3 ko = ob := by
    rw [g3 ko dko, ea0]; exact o0
  have evzh1_3 : ad3 6277 = vzh1 := (show ad3 6277 = ad2 6277 by rw [← ea3, adu_ne _ (by omega), adu_ne _ (by omega)]).trans evzh1_2
  have evzl1_3 : ad3 6278 = vzl1 := (show ad3 6278 = ad2 6278 by rw [← ea3, adu_ne _ (by omega), adu_ne _ (by omega)]).trans evzl1_2
  have z0_1_3 : ad3 0 = (ad1 0) := (show ad3 0 = ad2 0 by rw [← ea3, adu_ne _ (by omega), adu_ne _ (by omega)]).trans z0_1_2
  have z2_1_3 : ad3 2 = (ad1 2) := (show ad3 2 = ad2 2 by rw [← ea3, adu_ne _ (by omega), adu_ne _ (by omega)]).trans z2_1_2
  have x1_3 : ad3 (6276) = a1 := (show ad3 (6276) = ad2 (6276) by rw [← ea3, adu_ne _ (by omega), adu_ne _ (by omega)]).trans x1_2
  have z4_2_3 : ad3 4 = (ad2 4) := (show ad3 4 = ad2 4 by rw [← ea3, adu_ne _ (by omega), adu_ne _ (by omega)]).trans z4_2
  have z6_2_3 : ad3 6 = (ad2 6) := (show ad3 6 = ad2 6 by rw [← ea3, adu_ne _ (by omega), adu_ne _ (by omega)]).trans z6_2
  have z8_2_3 : ad3 8 = (ad2 8) := (show ad3 8 = ad2 8 by rw [← ea3, adu_ne _ (by omega), adu_ne _ (by omega)]).trans z8_2
  have z10_2_3 : ad3 10 = (ad2 10) := (show ad3 10 = ad2 10 by rw [← ea3, adu_ne _ (by omega), adu_ne _ (by omega)]).trans z10_2
  have z12_2_3 : ad3 12 = (ad2 12) := (show ad3 12 = ad2 12 by rw [← ea3, adu_ne _ (by omega), adu_ne _ (by omega)]).trans z12_2
  have x2_3 : ad3 (6275) = a2 := (show ad3 (6275) = ad2 (6275) by rw [← ea3, adu_ne _ (by omega), adu_ne _ (by omega)]).trans x2
  show jj G kK_init (d + 3) Q (rc2 - 1 - 1) (rs2 - 3 - 252) 41 [some (.ref ob)] [.ref a3, .ref ob] Mn3
  refine jj_putF (pc := 41) kK_init_d41 (kpK_left hG) rfl hq3 (by rfl) rfl ?_
  refine jn_gen (fun M107 hM108 => ?_)
  have h109 : M107 ob = some (.inl nK, [.ref a1, .ref a2, .ref a3, .null, .null, .null, .null, .null]) := by rw [hM108]; exact jj_up_at _ _ _
  have J3 := Jn3.put (M' := M107) (ko := ko) (by refine Or.inl ?_; refine Or.inl ?_; refine Or.inl ?_; refine Or.inl ?_; refine Or.inl ?_; refine Or.inl ?_; exact dko) k6 (fun x hx => by rw [hM108, jj_up_ne _ _ (by rw [← o3]; exact hx)]) (by rw [o3, h109]; exact fun e => (by cases e))
  have f3 : ∀ x, x ≠ ob → M x ≠ none → M107 x = M x := fun x h1 h2 => by
    have h3 := f2 x h1 h2
    exact (show M107 x = M104 x by rw [hM108, jj_up_ne _ _ h1, hn3.kept (by rw [h3]; exact h2)]).trans h3
  have hyzh1_3 : M107 vzh1 = some (.inr 0, (List.replicate 253 (0 : Int32)).map .int) := by rw [hM108, jj_up_ne _ _ nzzh1, hn3.kept (by rw [hyzh1_2]; exact fun e => (by cases e))]; exact hyzh1_2
  have hyzl1_3 : M107 vzl1 = some (.inr 0, (List.replicate 253 (0 : Int32)).map .int) := by rw [hM108, jj_up_ne _ _ nzzl1, hn3.kept (by rw [hyzl1_2]; exact fun e => (by cases e))]; exact hyzl1_2
  have hy1_3 : M107 a1 = some (.inl nD, [.ref (ad1 0), .ref (ad1 2), .ref (ad1 6277), .ref (ad1 6278)]) := by rw [hM108, jj_up_ne _ _ na1, hn3.kept (by rw [hy1_2]; exact fun e => (by cases e))]; exact hy1_2
  have hy2_3 : M107 a2 = some (.inl nU, [.ref (ad2 4), .ref (ad2 6), .ref (ad2 8), .ref (ad2 10), .ref (ad2 12), .ref a1, .int (nI 0), .long 0, .long 0, .long 0, .long 0]) := by rw [hM108, jj_up_ne _ _ na2, hn3.kept (by rw [hy2]; exact fun e => (by cases e))]; exact hy2
  refine jj_aload_n (pc := 44) kK_init_d44 rfl ?_
  refine jj_new (pc := 45) kK_init_d45 (knK_W hG) (by omega) (show 3 ≤ _ by omega) (fun a4 ha4 => ?_)
  refine jj_dup (pc := 48) kK_init_d48 rfl ?_
  refine jn_sipush (pc := 49) 252 kK_init_d49 (by decide) ?_
  refine jj_callI (pc := 52) (b := a4) (As := [.int (nI (252))]) kK_init_d52 (kvK_W_init hG) rfl rfl rfl (Nat.le_of_ble_eq_true rfl) (Nat.le_of_ble_eq_true rfl) (jj_bare0 rfl) ?_
  refine w_init hG (jj_up_at _ _ _) (by omega) (by omega) (show _ ≤ _ - 3 by omega) (fun b4 hb4 => ?_)
  have hn4 := NWH.mk (c := 252) ha4 hb4
  refine jn_gen (fun Mn4 eMn4 => ?_)
  rw [← eMn4] at hn4
  show jj G kK_init (d + 3) Q ((rc2 - 1 - 1) - 1 - 1) ((rs2 - 3 - 252) - 3 - 252) 55 [some (.ref ob)] [.ref a4, .ref ob] Mn4
  have hq4 := (hn4.kept (x := ob) (by rw [h109]; exact fun e => (by cases e))).trans h109
  have Jn4 := J3.whole (p := 8) hn4 (by first | rfl | decide) (by first | rfl | decide)
  obtain ⟨ad4, ea4⟩ : ∃ f, adu (adu ad3 (2 * (8)) a4) (2 * (8) + 1) b4 = f := ⟨_, rfl⟩
  rw [ea4] at Jn4
  have g4 : ∀ k, D k → ad4 k = ad k := fun k hk => by
    have := hd k hk
    rw [← ea4, adu_ne _ (by omega), adu_ne _ (by omega)]; exact g3 k hk
  have x4 : ad4 (2 * (8)) = a4 := by rw [← ea4, adu_ne _ (by omega), adu_at]
  have o4 : ad4 ko = ob := by
    rw [g4 ko dko, ea0]; exact o0
  have evzh1_4 : ad4 6277 = vzh1 := (show ad4 6277 = ad3 6277 by rw [← ea4, adu_ne _ (by omega), adu_ne _ (by omega)]).trans evzh1_3
  have evzl1_4 : ad4 6278 = vzl1 := (show ad4 6278 = ad3 6278 by rw [← ea4, adu_ne _ (by omega), adu_ne _ (by omega)]).trans evzl1_3
  have z0_1_4 : ad4 0 = (ad1 0) := (show ad4 0 = ad3 0 by rw [← ea4, adu_ne _ (by omega), adu_ne _ (by omega)]).trans z0_1_3
  have z2_1_4 : ad4 2 = (ad1 2) := (show ad4 2 = ad3 2 by rw [← ea4, adu_ne _ (by omega), adu_ne _ (by omega)]).trans z2_1_3
  have x1_4 : ad4 (6276) = a1 := (show ad4 (6276) = ad3 (6276) by rw [← ea4, adu_ne _ (by omega), adu_ne _ (by omega)]).trans x1_3
  have z4_2_4 : ad4 4 = (ad2 4) := (show ad4 4 = ad3 4 by rw [← ea4, adu_ne _ (by omega), adu_ne _ (by omega)]).trans z4_2_3
  have z6_2_4 : ad4 6 = (ad2 6) := (show ad4 6 = ad3 6 by rw [← ea4, adu_ne _ (by omega), adu_ne _ (by omega)]).trans z6_2_3
  have z8_2_4 : ad4 8 = (ad2 8) := (show ad4 8 = ad3 8 by rw [← ea4, adu_ne _ (by omega), adu_ne _ (by omega)]).trans z8_2_3
  have z10_2_4 : ad4 10 = (ad2 10) := (show ad4 10 = ad3 10 by rw [← ea4, adu_ne _ (by omega), adu_ne _ (by omega)]).trans z10_2_3
  have z12_2_4 : ad4 12 = (ad2 12) := (show ad4 12 = ad3 12 by rw [← ea4, adu_ne _ (by omega), adu_ne _ (by omega)]).trans z12_2_3
  have x2_4 : ad4 (6275) = a2 := (show ad4 (6275) = ad3 (6275) by rw [← ea4, adu_ne _ (by omega), adu_ne _ (by omega)]).trans x2_3
  have x3_4 : ad4 (2 * (7)) = a3 := (show ad4 (2 * (7)) = ad3 (2 * (7)) by rw [← ea4, adu_ne _ (by omega), adu_ne _ (by omega)]).trans x3
  show jj G kK_init (d + 3) Q ((rc2 - 1 - 1) - 1 - 1) ((rs2 - 3 - 252) - 3 - 252) 55 [some (.ref ob)] [.ref a4, .ref ob] Mn4
  refine jj_putF (pc := 55) kK_init_d55 (kpK_right hG) rfl hq4 (by rfl) rfl ?_
  refine jn_gen (fun M110 hM111 => ?_)
  have h112 : M110 ob = some (.inl nK, [.ref a1, .ref a2, .ref a3, .ref a4, .null, .null, .null, .null]) := by rw [hM111]; exact jj_up_at _ _ _
  have J4 := Jn4.put (M' := M110) (ko := ko) (by refine Or.inl ?_; refine Or.inl ?_; refine Or.inl ?_; refine Or.inl ?_; refine Or.inl ?_; refine Or.inl ?_; refine Or.inl ?_; refine Or.inl ?_; exact dko) k6 (fun x hx => by rw [hM111, jj_up_ne _ _ (by rw [← o4]; exact hx)]) (by rw [o4, h112]; exact fun e => (by cases e))
  have f4 : ∀ x, x ≠ ob → M x ≠ none → M110 x = M x := fun x h1 h2 => by
    have h3 := f3 x h1 h2
    exact (show M110 x = M107 x by rw [hM111, jj_up_ne _ _ h1, hn4.kept (by rw [h3]; exact h2)]).trans h3
  have hyzh1_4 : M110 vzh1 = some (.inr 0, (List.replicate 253 (0 : Int32)).map .int) := by rw [hM111, jj_up_ne _ _ nzzh1, hn4.kept (by rw [hyzh1_3]; exact fun e => (by cases e))]; exact hyzh1_3
  have hyzl1_4 : M110 vzl1 = some (.inr 0, (List.replicate 253 (0 : Int32)).map .int) := by rw [hM111, jj_up_ne _ _ nzzl1, hn4.kept (by rw [hyzl1_3]; exact fun e => (by cases e))]; exact hyzl1_3
  have hy1_4 : M110 a1 = some (.inl nD, [.ref (ad1 0), .ref (ad1 2), .ref (ad1 6277), .ref (ad1 6278)]) := by rw [hM111, jj_up_ne _ _ na1, hn4.kept (by rw [hy1_3]; exact fun e => (by cases e))]; exact hy1_3
  have hy2_4 : M110 a2 = some (.inl nU, [.ref (ad2 4), .ref (ad2 6), .ref (ad2 8), .ref (ad2 10), .ref (ad2 12), .ref a1, .int (nI 0), .long 0, .long 0, .long 0, .long 0]) := by rw [hM111, jj_up_ne _ _ na2, hn4.kept (by rw [hy2_3]; exact fun e => (by cases e))]; exact hy2_3
  refine jj_aload_n (pc := 58) kK_init_d58 rfl ?_
  refine jj_new (pc := 59) kK_init_d59 (knK_W hG) (by omega) (show 3 ≤ _ by omega) (fun a5 ha5 => ?_)
  refine jj_dup (pc := 62) kK_init_d62 rfl ?_
  refine jn_sipush (pc := 63) 252 kK_init_d63 (by decide) ?_
  refine jj_callI (pc := 66) (b := a5) (As := [.int (nI (252))]) kK_init_d66 (kvK_W_init hG) rfl rfl rfl (Nat.le_of_ble_eq_true rfl) (Nat.le_of_ble_eq_true rfl) (jj_bare0 rfl) ?_
  refine w_init hG (jj_up_at _ _ _) (by omega) (by omega) (show _ ≤ _ - 3 by omega) (fun b5 hb5 => ?_)
  have hn5 := NWH.mk (c := 252) ha5 hb5
  refine jn_gen (fun Mn5 eMn5 => ?_)
  rw [← eMn5] at hn5
  show jj G kK_init (d + 3) Q (((rc2 - 1 - 1) - 1 - 1) - 1 - 1) (((rs2 - 3 - 252) - 3 - 252) - 3 - 252) 69 [some (.ref ob)] [.ref a5, .ref ob] Mn5
  have hq5 := (hn5.kept (x := ob) (by rw [h112]; exact fun e => (by cases e))).trans h112
  have Jn5 := J4.whole (p := 9) hn5 (by first | rfl | decide) (by first | rfl | decide)
  obtain ⟨ad5, ea5⟩ : ∃ f, adu (adu ad4 (2 * (9)) a5) (2 * (9) + 1) b5 = f := ⟨_, rfl⟩
  rw [ea5] at Jn5
  have g5 : ∀ k, D k → ad5 k = ad k := fun k hk => by
    have := hd k hk
    rw [← ea5, adu_ne _ (by omega), adu_ne _ (by omega)]; exact g4 k hk
  have x5 : ad5 (2 * (9)) = a5 := by rw [← ea5, adu_ne _ (by omega), adu_at]
  have o5 : ad5 ko = ob := by
    rw [g5 ko dko, ea0]; exact o0
  have evzh1_5 : ad5 6277 = vzh1 := (show ad5 6277 = ad4 6277 by rw [← ea5, adu_ne _ (by omega), adu_ne _ (by omega)]).trans evzh1_4
  have evzl1_5 : ad5 6278 = vzl1 := (show ad5 6278 = ad4 6278 by rw [← ea5, adu_ne _ (by omega), adu_ne _ (by omega)]).trans evzl1_4
  have z0_1_5 : ad5 0 = (ad1 0) := (show ad5 0 = ad4 0 by rw [← ea5, adu_ne _ (by omega), adu_ne _ (by omega)]).trans z0_1_4
  have z2_1_5 : ad5 2 = (ad1 2) := (show ad5 2 = ad4 2 by rw [← ea5, adu_ne _ (by omega), adu_ne _ (by omega)]).trans z2_1_4
  have x1_5 : ad5 (6276) = a1 := (show ad5 (6276) = ad4 (6276) by rw [← ea5, adu_ne _ (by omega), adu_ne _ (by omega)]).trans x1_4
  have z4_2_5 : ad5 4 = (ad2 4) := (show ad5 4 = ad4 4 by rw [← ea5, adu_ne _ (by omega), adu_ne _ (by omega)]).trans z4_2_4
  have z6_2_5 : ad5 6 = (ad2 6) := (show ad5 6 = ad4 6 by rw [← ea5, adu_ne _ (by omega), adu_ne _ (by omega)]).trans z6_2_4
  have z8_2_5 : ad5 8 = (ad2 8) := (show ad5 8 = ad4 8 by rw [← ea5, adu_ne _ (by omega), adu_ne _ (by omega)]).trans z8_2_4
  have z10_2_5 : ad5 10 = (ad2 10) := (show ad5 10 = ad4 10 by rw [← ea5, adu_ne _ (by omega), adu_ne _ (by omega)]).trans z10_2_4
  have z12_2_5 : ad5 12 = (ad2 12) := (show ad5 12 = ad4 12 by rw [← ea5, adu_ne _ (by omega), adu_ne _ (by omega)]).trans z12_2_4
  have x2_5 : ad5 (6275) = a2 := (show ad5 (6275) = ad4 (6275) by rw [← ea5, adu_ne _ (by omega), adu_ne _ (by omega)]).trans x2_4
  have x3_5 : ad5 (2 * (7)) = a3 := (show ad5 (2 * (7)) = ad4 (2 * (7)) by rw [← ea5, adu_ne _ (by omega), adu_ne _ (by omega)]).trans x3_4
  have x4_5 : ad5 (2 * (8)) = a4 := (show ad5 (2 * (8)) = ad4 (2 * (8)) by rw [← ea5, adu_ne _ (by omega), adu_ne _ (by omega)]).trans x4
  show jj G kK_init (d + 3) Q (((rc2 - 1 - 1) - 1 - 1) - 1 - 1) (((rs2 - 3 - 252) - 3 - 252) - 3 - 252) 69 [some (.ref ob)] [.ref a5, .ref ob] Mn5
  refine jj_putF (pc := 69) kK_init_d69 (kpK_sum hG) rfl hq5 (by rfl) rfl ?_
  refine jn_gen (fun M113 hM114 => ?_)
  have h115 : M113 ob = some (.inl nK, [.ref a1, .ref a2, .ref a3, .ref a4, .ref a5, .null, .null, .null]) := by rw [hM114]; exact jj_up_at _ _ _
  have J5 := Jn5.put (M' := M113) (ko := ko) (by refine Or.inl ?_; refine Or.inl ?_; refine Or.inl ?_; refine Or.inl ?_; refine Or.inl ?_; refine Or.inl ?_; refine Or.inl ?_; refine Or.inl ?_; refine Or.inl ?_; refine Or.inl ?_; exact dko) k6 (fun x hx => by rw [hM114, jj_up_ne _ _ (by rw [← o5]; exact hx)]) (by rw [o5, h115]; exact fun e => (by cases e))
  have f5 : ∀ x, x ≠ ob → M x ≠ none → M113 x = M x := fun x h1 h2 => by
    have h3 := f4 x h1 h2
    exact (show M113 x = M110 x by rw [hM114, jj_up_ne _ _ h1, hn5.kept (by rw [h3]; exact h2)]).trans h3
  have hyzh1_5 : M113 vzh1 = some (.inr 0, (List.replicate 253 (0 : Int32)).map .int) := by rw [hM114, jj_up_ne _ _ nzzh1, hn5.kept (by rw [hyzh1_4]; exact fun e => (by cases e))]; exact hyzh1_4
  have hyzl1_5 : M113 vzl1 = some (.inr 0, (List.replicate 253 (0 : Int32)).map .int) := by rw [hM114, jj_up_ne _ _ nzzl1, hn5.kept (by rw [hyzl1_4]; exact fun e => (by cases e))]; exact hyzl1_4
  have hy1_5 : M113 a1 = some (.inl nD, [.ref (ad1 0), .ref (ad1 2), .ref (ad1 6277), .ref (ad1 6278)]) := by rw [hM114, jj_up_ne _ _ na1, hn5.kept (by rw [hy1_4]; exact fun e => (by cases e))]; exact hy1_4
  have hy2_5 : M113 a2 = some (.inl nU, [.ref (ad2 4), .ref (ad2 6), .ref (ad2 8), .ref (ad2 10), .ref (ad2 12), .ref a1, .int (nI 0), .long 0, .long 0, .long 0, .long 0]) := by rw [hM114, jj_up_ne _ _ na2, hn5.kept (by rw [hy2_4]; exact fun e => (by cases e))]; exact hy2_4
  refine jj_aload_n (pc := 72) kK_init_d72 rfl ?_
  refine jj_new (pc := 73) kK_init_d73 (knK_W hG) (by omega) (show 3 ≤ _ by omega) (fun a6 ha6 => ?_)
  refine jj_dup (pc := 76) kK_init_d76 rfl ?_
  refine jn_sipush (pc := 77) 252 kK_init_d77 (by decide) ?_
  refine jj_callI (pc := 80) (b := a6) (As := [.int (nI (252))]) kK_init_d80 (kvK_W_init hG) rfl rfl rfl (Nat.le_of_ble_eq_true rfl) (Nat.le_of_ble_eq_true rfl) (jj_bare0 rfl) ?_
  refine w_init hG (jj_up_at _ _ _) (by omega) (by omega) (show _ ≤ _ - 3 by omega) (fun b6 hb6 => ?_)
  have hn6 := NWH.mk (c := 252) ha6 hb6
  refine jn_gen (fun Mn6 eMn6 => ?_)
  rw [← eMn6] at hn6
  show jj G kK_init (d + 3) Q ((((rc2 - 1 - 1) - 1 - 1) - 1 - 1) - 1 - 1) ((((rs2 - 3 - 252) - 3 - 252) - 3 - 252) - 3 - 252) 83 [some (.ref ob)] [.ref a6, .ref ob] Mn6
  have hq6 := (hn6.kept (x := ob) (by rw [h115]; exact fun e => (by cases e))).trans h115
  have Jn6 := J5.whole (p := 10) hn6 (by first | rfl | decide) (by first | rfl | decide)
  obtain ⟨ad6, ea6⟩ : ∃ f, adu (adu ad5 (2 * (10)) a6) (2 * (10) + 1) b6 = f := ⟨_, rfl⟩
  rw [ea6] at Jn6
  have g6 : ∀ k, D k → ad6 k = ad k := fun k hk => by
    have := hd k hk
    rw [← ea6, adu_ne _ (by omega), adu_ne _ (by omega)]; exact g5 k hk
  have x6 : ad6 (2 * (10)) = a6 := by rw [← ea6, adu_ne _ (by omega), adu_at]
  have o6 : ad6 ko = ob := by
    rw [g6 ko dko, ea0]; exact o0
  have evzh1_6 : ad6 6277 = vzh1 := (show ad6 6277 = ad5 6277 by rw [← ea6, adu_ne _ (by omega), adu_ne _ (by omega)]).trans evzh1_5
  have evzl1_6 : ad6 6278 = vzl1 := (show ad6 6278 = ad5 6278 by rw [← ea6, adu_ne _ (by omega), adu_ne _ (by omega)]).trans evzl1_5
  have z0_1_6 : ad6 0 = (ad1 0) := (show ad6 0 = ad5 0 by rw [← ea6, adu_ne _ (by omega), adu_ne _ (by omega)]).trans z0_1_5
  have z2_1_6 : ad6 2 = (ad1 2) := (show ad6 2 = ad5 2 by rw [← ea6, adu_ne _ (by omega), adu_ne _ (by omega)]).trans z2_1_5
  have x1_6 : ad6 (6276) = a1 := (show ad6 (6276) = ad5 (6276) by rw [← ea6, adu_ne _ (by omega), adu_ne _ (by omega)]).trans x1_5
  have z4_2_6 : ad6 4 = (ad2 4) := (show ad6 4 = ad5 4 by rw [← ea6, adu_ne _ (by omega), adu_ne _ (by omega)]).trans z4_2_5
  have z6_2_6 : ad6 6 = (ad2 6) := (show ad6 6 = ad5 6 by rw [← ea6, adu_ne _ (by omega), adu_ne _ (by omega)]).trans z6_2_5
  have z8_2_6 : ad6 8 = (ad2 8) := (show ad6 8 = ad5 8 by rw [← ea6, adu_ne _ (by omega), adu_ne _ (by omega)]).trans z8_2_5
  have z10_2_6 : ad6 10 = (ad2 10) := (show ad6 10 = ad5 10 by rw [← ea6, adu_ne _ (by omega), adu_ne _ (by omega)]).trans z10_2_5
  have z12_2_6 : ad6 12 = (ad2 12) := (show ad6 12 = ad5 12 by rw [← ea6, adu_ne _ (by omega), adu_ne _ (by omega)]).trans z12_2_5
  have x2_6 : ad6 (6275) = a2 := (show ad6 (6275) = ad5 (6275) by rw [← ea6, adu_ne _ (by omega), adu_ne _ (by omega)]).trans x2_5
  have x3_6 : ad6 (2 * (7)) = a3 := (show ad6 (2 * (7)) = ad5 (2 * (7)) by rw [← ea6, adu_ne _ (by omega), adu_ne _ (by omega)]).trans x3_5
  have x4_6 : ad6 (2 * (8)) = a4 := (show ad6 (2 * (8)) = ad5 (2 * (8)) by rw [← ea6, adu_ne _ (by omega), adu_ne _ (by omega)]).trans x4_5
  have x5_6 : ad6 (2 * (9)) = a5 := (show ad6 (2 * (9)) = ad5 (2 * (9)) by rw [← ea6, adu_ne _ (by omega), adu_ne _ (by omega)]).trans x5
  show jj G kK_init (d + 3) Q ((((rc2 - 1 - 1) - 1 - 1) - 1 - 1) - 1 - 1) ((((rs2 - 3 - 252) - 3 - 252) - 3 - 252) - 3 - 252) 83 [some (.ref ob)] [.ref a6, .ref ob] Mn6
  refine jj_putF (pc := 83) kK_init_d83 (kpK_divisor hG) rfl hq6 (by rfl) rfl ?_
  refine jn_gen (fun M116 hM117 => ?_)
  have h118 : M116 ob = some (.inl nK, [.ref a1, .ref a2, .ref a3, .ref a4, .ref a5, .ref a6, .null, .null]) := by rw [hM117]; exact jj_up_at _ _ _
  have J6 := Jn6.put (M' := M116) (ko := ko) (by refine Or.inl ?_; refine Or.inl ?_; refine Or.inl ?_; refine Or.inl ?_; refine Or.inl ?_; refine Or.inl ?_; refine Or.inl ?_; refine Or.inl ?_; refine Or.inl ?_; refine Or.inl ?_; refine Or.inl ?_; refine Or.inl ?_; exact dko) k6 (fun x hx => by rw [hM117, jj_up_ne _ _ (by rw [← o6]; exact hx)]) (by rw [o6, h118]; exact fun e => (by cases e))
  have f6 : ∀ x, x ≠ ob → M x ≠ none → M116 x = M x := fun x h1 h2 => by
    have h3 := f5 x h1 h2
    exact (show M116 x = M113 x by rw [hM117, jj_up_ne _ _ h1, hn6.kept (by rw [h3]; exact h2)]).trans h3
  have hyzh1_6 : M116 vzh1 = some (.inr 0, (List.replicate 253 (0 : Int32)).map .int) := by rw [hM117, jj_up_ne _ _ nzzh1, hn6.kept (by rw [hyzh1_5]; exact fun e => (by cases e))]; exact hyzh1_5
  have hyzl1_6 : M116 vzl1 = some (.inr 0, (List.replicate 253 (0 : Int32)).map .int) := by rw [hM117, jj_up_ne _ _ nzzl1, hn6.kept (by rw [hyzl1_5]; exact fun e => (by cases e))]; exact hyzl1_5
  have hy1_6 : M116 a1 = some (.inl nD, [.ref (ad1 0), .ref (ad1 2), .ref (ad1 6277), .ref (ad1 6278)]) := by rw [hM117, jj_up_ne _ _ na1, hn6.kept (by rw [hy1_5]; exact fun e => (by cases e))]; exact hy1_5
  have hy2_6 : M116 a2 = some (.inl nU, [.ref (ad2 4), .ref (ad2 6), .ref (ad2 8), .ref (ad2 10), .ref (ad2 12), .ref a1, .int (nI 0), .long 0, .long 0, .long 0, .long 0]) := by rw [hM117, jj_up_ne _ _ na2, hn6.kept (by rw [hy2_5]; exact fun e => (by cases e))]; exact hy2_5
  refine jj_aload_n (pc := 86) kK_init_d86 rfl ?_
  refine jj_new (pc := 87) kK_init_d87 (knK_W hG) (by omega) (show 3 ≤ _ by omega) (fun a7 ha7 => ?_)
  refine jj_dup (pc := 90) kK_init_d90 rfl ?_
  refine jn_sipush (pc := 91) 252 kK_init_d91 (by decide) ?_
  refine jj_callI (pc := 94) (b := a7) (As := [.int (nI (252))]) kK_init_d94 (kvK_W_init hG) rfl rfl rfl (Nat.le_of_ble_eq_true rfl) (Nat.le_of_ble_eq_true rfl) (jj_bare0 rfl) ?_
  refine w_init hG (jj_up_at _ _ _) (by omega) (by omega) (show _ ≤ _ - 3 by omega) (fun b7 hb7 => ?_)
  have hn7 := NWH.mk (c := 252) ha7 hb7
  refine jn_gen (fun Mn7 eMn7 => ?_)
  rw [← eMn7] at hn7
  show jj G kK_init (d + 3) Q (((((rc2 - 1 - 1) - 1 - 1) - 1 - 1) - 1 - 1) - 1 - 1) (((((rs2 - 3 - 252) - 3 - 252) - 3 - 252) - 3 - 252) - 3 - 252) 97 [some (.ref ob)] [.ref a7, .ref ob] Mn7
  have hq7 := (hn7.kept (x := ob) (by rw [h118]; exact fun e => (by cases e))).trans h118
  have Jn7 := J6.whole (p := 11) hn7 (by first | rfl | decide) (by first | rfl | decide)
  obtain ⟨ad7, ea7⟩ : ∃ f, adu (adu ad6 (2 * (11)) a7) (2 * (11) + 1) b7 = f := ⟨_, rfl⟩
  rw [ea7] at Jn7
  have g7 : ∀ k, D k → ad7 k = ad k := fun k hk => by
    have := hd k hk
    rw [← ea7, adu_ne _ (by omega), adu_ne _ (by omega)]; exact g6 k hk
  have x7 : ad7 (2 * (11)) = a7 := by rw [← ea7, adu_ne _ (by omega), adu_at]
  have o7 : ad7 ko = ob := by
    rw [g7 ko dko, ea0]; exact o0
  have evzh1_7 : ad7 6277 = vzh1 := (show ad7 6277 = ad6 6277 by rw [← ea7, adu_ne _ (by omega), adu_ne _ (by omega)]).trans evzh1_6
  have evzl1_7 : ad7 6278 = vzl1 := (show ad7 6278 = ad6 6278 by rw [← ea7, adu_ne _ (by omega), adu_ne _ (by omega)]).trans evzl1_6
  have z0_1_7 : ad7 0 = (ad1 0) := (show ad7 0 = ad6 0 by rw [← ea7, adu_ne _ (by omega), adu_ne _ (by omega)]).trans z0_1_6
  have z2_1_7 : ad7 2 = (ad1 2) := (show ad7 2 = ad6 2 by rw [← ea7, adu_ne _ (by omega), adu_ne _ (by omega)]).trans z2_1_6
  have x1_7 : ad7 (6276) = a1 := (show ad7 (6276) = ad6 (6276) by rw [← ea7, adu_ne _ (by omega), adu_ne _ (by omega)]).trans x1_6
  have z4_2_7 : ad7 4 = (ad2 4) := (show ad7 4 = ad6 4 by rw [← ea7, adu_ne _ (by omega), adu_ne _ (by omega)]).trans z4_2_6
  have z6_2_7 : ad7 6 = (ad2 6) := (show ad7 6 = ad6 6 by rw [← ea7, adu_ne _ (by omega), adu_ne _ (by omega)]).trans z6_2_6
  have z8_2_7 : ad7 8 = (ad2 8) := (show ad7 8 = ad6 8 by rw [← ea7, adu_ne _ (by omega), adu_ne _ (by omega)]).trans z8_2_6
  have z10_2_7 : ad7 10 = (ad2 10) := (show ad7 10 = ad6 10 by rw [← ea7, adu_ne _ (by omega), adu_ne _ (by omega)]).trans z10_2_6
  have z12_2_7 : ad7 12 = (ad2 12) := (show ad7 12 = ad6 12 by rw [← ea7, adu_ne _ (by omega), adu_ne _ (by omega)]).trans z12_2_6
  have x2_7 : ad7 (6275) = a2 := (show ad7 (6275) = ad6 (6275) by rw [← ea7, adu_ne _ (by omega), adu_ne _ (by omega)]).trans x2_6
  have x3_7 : ad7 (2 * (7)) = a3 := (show ad7 (2 * (7)) = ad6 (2 * (7)) by rw [← ea7, adu_ne _ (by omega), adu_ne _ (by omega)]).trans x3_6
  have x4_7 : ad7 (2 * (8)) = a4 := (show ad7 (2 * (8)) = ad6 (2 * (8)) by rw [← ea7, adu_ne _ (by omega), adu_ne _ (by omega)]).trans x4_6
  have x5_7 : ad7 (2 * (9)) = a5 := (show ad7 (2 * (9)) = ad6 (2 * (9)) by rw [← ea7, adu_ne _ (by omega), adu_ne _ (by omega)]).trans x5_6
  have x6_7 : ad7 (2 * (10)) = a6 := (show ad7 (2 * (10)) = ad6 (2 * (10)) by rw [← ea7, adu_ne _ (by omega), adu_ne _ (by omega)]).trans x6
  show jj G kK_init (d + 3) Q (((((rc2 - 1 - 1) - 1 - 1) - 1 - 1) - 1 - 1) - 1 - 1) (((((rs2 - 3 - 252) - 3 - 252) - 3 - 252) - 3 - 252) - 3 - 252) 97 [some (.ref ob)] [.ref a7, .ref ob] Mn7
  refine jj_putF (pc := 97) kK_init_d97 (kpK_leftFactor hG) rfl hq7 (by rfl) rfl ?_
  refine jn_gen (fun M119 hM120 => ?_)
  have h121 : M119 ob = some (.inl nK, [.ref a1, .ref a2, .ref a3, .ref a4, .ref a5, .ref a6, .ref a7, .null]) := by rw [hM120]; exact jj_up_at _ _ _
  have J7 := Jn7.put (M' := M119) (ko := ko) (by refine Or.inl ?_; refine Or.inl ?_; refine Or.inl ?_; refine Or.inl ?_; refine Or.inl ?_; refine Or.inl ?_; refine Or.inl ?_; refine Or.inl ?_; refine Or.inl ?_; refine Or.inl ?_; refine Or.inl ?_; refine Or.inl ?_; refine Or.inl ?_; refine Or.inl ?_; exact dko) k6 (fun x hx => by rw [hM120, jj_up_ne _ _ (by rw [← o7]; exact hx)]) (by rw [o7, h121]; exact fun e => (by cases e))
  have f7 : ∀ x, x ≠ ob → M x ≠ none → M119 x = M x := fun x h1 h2 => by
    have h3 := f6 x h1 h2
    exact (show M119 x = M116 x by rw [hM120, jj_up_ne _ _ h1, hn7.kept (by rw [h3]; exact h2)]).trans h3
  have hyzh1_7 : M119 vzh1 = some (.inr 0, (List.replicate 253 (0 : Int32)).map .int) := by rw [hM120, jj_up_ne _ _ nzzh1, hn7.kept (by rw [hyzh1_6]; exact fun e => (by cases e))]; exact hyzh1_6
  have hyzl1_7 : M119 vzl1 = some (.inr 0, (List.replicate 253 (0 : Int32)).map .int) := by rw [hM120, jj_up_ne _ _ nzzl1, hn7.kept (by rw [hyzl1_6]; exact fun e => (by cases e))]; exact hyzl1_6
  have hy1_7 : M119 a1 = some (.inl nD, [.ref (ad1 0), .ref (ad1 2), .ref (ad1 6277), .ref (ad1 6278)]) := by rw [hM120, jj_up_ne _ _ na1, hn7.kept (by rw [hy1_6]; exact fun e => (by cases e))]; exact hy1_6
  have hy2_7 : M119 a2 = some (.inl nU, [.ref (ad2 4), .ref (ad2 6), .ref (ad2 8), .ref (ad2 10), .ref (ad2 12), .ref a1, .int (nI 0), .long 0, .long 0, .long 0, .long 0]) := by rw [hM120, jj_up_ne _ _ na2, hn7.kept (by rw [hy2_6]; exact fun e => (by cases e))]; exact hy2_6
  refine jj_aload_n (pc := 100) kK_init_d100 rfl ?_
  refine jj_new (pc := 101) kK_init_d101 (knK_W hG) (by omega) (show 3 ≤ _ by omega) (fun a8 ha8 => ?_)
  refine jj_dup (pc := 104) kK_init_d104 rfl ?_
  refine jn_sipush (pc := 105) 252 kK_init_d105 (by decide) ?_
  refine jj_callI (pc := 108) (b := a8) (As := [.int (nI (252))]) kK_init_d108 (kvK_W_init hG) rfl rfl rfl (Nat.le_of_ble_eq_true rfl) (Nat.le_of_ble_eq_true rfl) (jj_bare0 rfl) ?_
  refine w_init hG (jj_up_at _ _ _) (by omega) (by omega) (show _ ≤ _ - 3 by omega) (fun b8 hb8 => ?_)
  have hn8 := NWH.mk (c := 252) ha8 hb8
  refine jn_gen (fun Mn8 eMn8 => ?_)
  rw [← eMn8] at hn8
  show jj G kK_init (d + 3) Q ((((((rc2 - 1 - 1) - 1 - 1) - 1 - 1) - 1 - 1) - 1 - 1) - 1 - 1) ((((((rs2 - 3 - 252) - 3 - 252) - 3 - 252) - 3 - 252) - 3 - 252) - 3 - 252) 111 [some (.ref ob)] [.ref a8, .ref ob] Mn8
  have hq8 := (hn8.kept (x := ob) (by rw [h121]; exact fun e => (by cases e))).trans h121
  have Jn8 := J7.whole (p := 12) hn8 (by first | rfl | decide) (by first | rfl | decide)
  obtain ⟨ad8, ea8⟩ : ∃ f, adu (adu ad7 (2 * (12)) a8) (2 * (12) + 1) b8 = f := ⟨_, rfl⟩
  rw [ea8] at Jn8
  have g8 : ∀ k, D k → ad8 k = ad k := fun k hk => by
    have := hd k hk
    rw [← ea8, adu_ne _ (by omega), adu_ne _ (by omega)]; exact g7 k hk
  have x8 : ad8 (2 * (12)) = a8 := by rw [← ea8, adu_ne _ (by omega), adu_at]
  have o8 : ad8 ko = ob := by
    rw [g8 ko dko, ea0]; exact o0
  have evzh1_8 : ad8 6277 = vzh1 := (show ad8 6277 = ad7 6277 by rw [← ea8, adu_ne _ (by omega), adu_ne _ (by omega)]).trans evzh1_7
  have evzl1_8 : ad8 6278 = vzl1 := (show ad8 6278 = ad7 6278 by rw [← ea8, adu_ne _ (by omega), adu_ne _ (by omega)]).trans evzl1_7
  have z0_1_8 : ad8 0 = (ad1 0) := (show ad8 0 = ad7 0 by rw [← ea8, adu_ne _ (by omega), adu_ne _ (by omega)]).trans z0_1_7
  have z2_1_8 : ad8 2 = (ad1 2) := (show ad8 2 = ad7 2 by rw [← ea8, adu_ne _ (by omega), adu_ne _ (by omega)]).trans z2_1_7
  have x1_8 : ad8 (6276) = a1 := (show ad8 (6276) = ad7 (6276) by rw [← ea8, adu_ne _ (by omega), adu_ne _ (by omega)]).trans x1_7
  have z4_2_8 : ad8 4 = (ad2 4) := (show ad8 4 = ad7 4 by rw [← ea8, adu_ne _ (by omega), adu_ne _ (by omega)]).trans z4_2_7
  have z6_2_8 : ad8 6 = (ad2 6) := (show ad8 6 = ad7 6 by rw [← ea8, adu_ne _ (by omega), adu_ne _ (by omega)]).trans z6_2_7
  have z8_2_8 : ad8 8 = (ad2 8) := (show ad8 8 = ad7 8 by rw [← ea8, adu_ne _ (by omega), adu_ne _ (by omega)]).trans z8_2_7
  have z10_2_8 : ad8 10 = (ad2 10) := (show ad8 10 = ad7 10 by rw [← ea8, adu_ne _ (by omega), adu_ne _ (by omega)]).trans z10_2_7
  have z12_2_8 : ad8 12 = (ad2 12) := (show ad8 12 = ad7 12 by rw [← ea8, adu_ne _ (by omega), adu_ne _ (by omega)]).trans z12_2_7
  have x2_8 : ad8 (6275) = a2 := (show ad8 (6275) = ad7 (6275) by rw [← ea8, adu_ne _ (by omega), adu_ne _ (by omega)]).trans x2_7
  have x3_8 : ad8 (2 * (7)) = a3 := (show ad8 (2 * (7)) = ad7 (2 * (7)) by rw [← ea8, adu_ne _ (by omega), adu_ne _ (by omega)]).trans x3_7
  have x4_8 : ad8 (2 * (8)) = a4 := (show ad8 (2 * (8)) = ad7 (2 * (8)) by rw [← ea8, adu_ne _ (by omega), adu_ne _ (by omega)]).trans x4_7
  have x5_8 : ad8 (2 * (9)) = a5 := (show ad8 (2 * (9)) = ad7 (2 * (9)) by rw [← ea8, adu_ne _ (by omega), adu_ne _ (by omega)]).trans x5_7
  have x6_8 : ad8 (2 * (10)) = a6 := (show ad8 (2 * (10)) = ad7 (2 * (10)) by rw [← ea8, adu_ne _ (by omega), adu_ne _ (by omega)]).trans x6_7
  have x7_8 : ad8 (2 * (11)) = a7 := (show ad8 (2 * (11)) = ad7 (2 * (11)) by rw [← ea8, adu_ne _ (by omega), adu_ne _ (by omega)]).trans x7
  show jj G kK_init (d + 3) Q ((((((rc2 - 1 - 1) - 1 - 1) - 1 - 1) - 1 - 1) - 1 - 1) - 1 - 1) ((((((rs2 - 3 - 252) - 3 - 252) - 3 - 252) - 3 - 252) - 3 - 252) - 3 - 252) 111 [some (.ref ob)] [.ref a8, .ref ob] Mn8
  refine jj_putF (pc := 111) kK_init_d111 (kpK_rightFactor hG) rfl hq8 (by rfl) rfl ?_
  refine jn_gen (fun M122 hM123 => ?_)
  have h124 : M122 ob = some (.inl nK, [.ref a1, .ref a2, .ref a3, .ref a4, .ref a5, .ref a6, .ref a7, .ref a8]) := by rw [hM123]; exact jj_up_at _ _ _
  have J8 := Jn8.put (M' := M122) (ko := ko) (by refine Or.inl ?_; refine Or.inl ?_; refine Or.inl ?_; refine Or.inl ?_; refine Or.inl ?_; refine Or.inl ?_; refine Or.inl ?_; refine Or.inl ?_; refine Or.inl ?_; refine Or.inl ?_; refine Or.inl ?_; refine Or.inl ?_; refine Or.inl ?_; refine Or.inl ?_; refine Or.inl ?_; refine Or.inl ?_; exact dko) k6 (fun x hx => by rw [hM123, jj_up_ne _ _ (by rw [← o8]; exact hx)]) (by rw [o8, h124]; exact fun e => (by cases e))
  have f8 : ∀ x, x ≠ ob → M x ≠ none → M122 x = M x := fun x h1 h2 => by
    have h3 := f7 x h1 h2
    exact (show M122 x = M119 x by rw [hM123, jj_up_ne _ _ h1, hn8.kept (by rw [h3]; exact h2)]).trans h3
  have hyzh1_8 : M122 vzh1 = some (.inr 0, (List.replicate 253 (0 : Int32)).map .int) := by rw [hM123, jj_up_ne _ _ nzzh1, hn8.kept (by rw [hyzh1_7]; exact fun e => (by cases e))]; exact hyzh1_7
  have hyzl1_8 : M122 vzl1 = some (.inr 0, (List.replicate 253 (0 : Int32)).map .int) := by rw [hM123, jj_up_ne _ _ nzzl1, hn8.kept (by rw [hyzl1_7]; exact fun e => (by cases e))]; exact hyzl1_7
  have hy1_8 : M122 a1 = some (.inl nD, [.ref (ad1 0), .ref (ad1 2), .ref (ad1 6277), .ref (ad1 6278)]) := by rw [hM123, jj_up_ne _ _ na1, hn8.kept (by rw [hy1_7]; exact fun e => (by cases e))]; exact hy1_7
  have hy2_8 : M122 a2 = some (.inl nU, [.ref (ad2 4), .ref (ad2 6), .ref (ad2 8), .ref (ad2 10), .ref (ad2 12), .ref a1, .int (nI 0), .long 0, .long 0, .long 0, .long 0]) := by rw [hM123, jj_up_ne _ _ na2, hn8.kept (by rw [hy2_7]; exact fun e => (by cases e))]; exact hy2_7
  exact jj_vret (pc := 114) kK_init_d114 rfl (k M122 ad8 _ _ (J8.weak (fun k hk => by rcases hk with h | h; exact (Or.inl (Or.inl (Or.inl (Or.inl (Or.inl (Or.inl (Or.inl (Or.inl (Or.inl (Or.inl (Or.inl (Or.inl (Or.inl (Or.inl (Or.inl (Or.inl h)))))))))))))))); omega)) g8 (by rw [x1_8, x2_8, show ad8 14 = a3 from x3_8, show ad8 16 = a4 from x4_8, show ad8 18 = a5 from x5_8, show ad8 20 = a6 from x6_8, show ad8 22 = a7 from x7_8, show ad8 24 = a8 from x8]; exact h124) (by rw [x1_8, z0_1_8, z2_1_8, evzh1_8, evzl1_8, ← evzh1, ← evzl1]; exact hy1_8) (by rw [evzh1_8]; exact hyzh1_8) (by rw [evzl1_8]; exact hyzl1_8) (by rw [x2_8, x1_8, z4_2_8, z6_2_8, z8_2_8, z10_2_8, z12_2_8]; exact hy2_8) f8 (by omega) (by omega))
end I4
