/-! ===== Elimination: the constructor (printed by wip/gen/rI6.py) ===== -/
theorem ka_bool {G : jg} (h : kG G) : Cond.arrayClass .boolean ∈ G.2.2.2.1 := kG_w h kI2 42 rfl rfl
section I6
variable {G : jg} {d : Nat} {Q : jq} {rc rs : Nat} {M : mheap} {ad : Nat → Nat} {D : Nat → Prop}
theorem el_init {ob ko dk : Nat} (hG : kG G) (hob : M ob = some (.inl nE, [.null, .null, .null, .null, .int (nI (0)), .int (nI (0)), .int (nI (0)), .int (nI (0)), .null, .null, .null])) (hJ : INI M ad D) (eo : ad ko = ob) (dko : D ko) (k6 : 6244 ≤ ko) (hd : ∀ k, D k → (k < 34 ∨ 1094 ≤ k) ∧ (k < 6249 ∨ 6253 ≤ k)) (hrc : 1064 ≤ rc) (hrs : 37123 ≤ rs) (k : ∀ (M' : mheap) (ad' : Nat → Nat) (rc' rs' : Nat), INI M' ad' (fun k => D k ∨ ((34 ≤ k ∧ k < 1094) ∨ (6249 ≤ k ∧ k < 6253))) → (∀ k, D k → ad' k = ad k) → M' ob = some (.inl nE, [.ref (ad' 6249), .ref (ad' 6250), .ref (ad' 6251), .ref (ad' 66), .int (nI 0), .int (nI 0), .int (nI 0), .int (nI 0), .ref (ad' 6252), .ref (ad' 68), .ref dk]) → M' (ad' 6249) = some (.inr 3, (List.range 16).map (fun i => Value.ref (ad' (2 * (17 + i))))) → M' (ad' 6250) = some (.inr 0, (List.replicate 16 (0 : Int32)).map .int) → M' (ad' 6251) = some (.inr 2, (List.replicate 32 (0 : Int32)).map .int) → M' (ad' 6252) = some (.inr 3, (List.range 512).map (fun i => Value.ref (ad' (2 * (35 + i))))) → (∀ x, x ≠ ob → M x ≠ none → M' x = M x) → rc ≤ rc' + 1064 → rs ≤ rs' + 37123 → Q (.returned none) M' rc' rs') : jj G kE_init (d + 2) Q rc rs 0 (jj_ent [.ref ob, .ref dk] 3) [] M := by
  show jj G kE_init (d + 2) Q rc rs 0 [some (.ref ob), some (.ref dk), none] [] M
  refine jj_aload_n (pc := 0) kE_init_d0 rfl ?_
  refine jj_objInit (pc := 1) kE_init_d1 (koE_obj hG) (ko_inst hG) (ko_code hG) rfl (Nat.le_of_ble_eq_true rfl) ?_
  show jj G kE_init (d + 2) Q rc rs 4 [some (.ref ob), some (.ref dk), none] [] M
  have J0 := hJ
  obtain ⟨ad0, ea0⟩ : ∃ f, ad = f := ⟨_, rfl⟩
  rw [ea0] at J0 eo
  have g0 : ∀ k, D k → ad0 k = ad k := fun k _ => by rw [ea0]
  have f0 : ∀ x, x ≠ ob → M x ≠ none → M x = M x := fun _ _ _ => rfl
  have o0 : ad0 ko = ob := eo
  have u0 : ad0 ko = ob := o0
  refine jj_aload_n (pc := 4) kE_init_d4 rfl ?_
  refine jn_bipush (pc := 5) 16 kE_init_d5 (by decide) ?_
  refine jj_anew (pc := 7) (j := 3) (n := 16) kE_init_d7 (kG_t hG rfl) (knE_arrW hG).1 (knE_arrW hG).2 rfl (by decide) (by omega) (by omega) (fun b1 hb1 => ?_)
  refine jn_gen (fun Mn1 eMn1 => ?_)
  have nb1 : b1 ≠ ob := fun e => by rw [e, hob] at hb1; cases hb1
  have hq1 := (show Mn1 ob = M ob by rw [eMn1, jj_up_ne _ _ (Ne.symm nb1)]).trans hob
  have hz1 : Mn1 b1 = some (.inr 3, List.replicate 16 .null) := by rw [eMn1, jj_up_at]
  have kp1 : ∀ x, M x ≠ none → Mn1 x = M x := fun x hx => by rw [eMn1, jj_up_ne _ _ (fun e => hx (by rw [e]; exact hb1))]
  have Jn1 := J0.new (M' := Mn1) (ko := 6249) hb1 (by omega) (fun x hx => by rw [eMn1, jj_up_ne _ _ hx]) (by rw [hz1]; exact fun e => (by cases e))
  obtain ⟨ad1, ea1⟩ : ∃ f, adu ad0 (6249) b1 = f := ⟨_, rfl⟩
  rw [ea1] at Jn1
  have g1 : ∀ k, D k → ad1 k = ad k := fun k hk => by
    have := hd k hk
    rw [← ea1, adu_ne _ (by omega)]; exact g0 k hk
  have x1 : ad1 (6249) = b1 := by rw [← ea1, adu_at]
  have o1 : ad1 ko = ob := by
    rw [g1 ko dko, ea0]; exact o0
  show jj G kE_init (d + 2) Q (rc - 1) (rs - 16) 10 [some (.ref ob), some (.ref dk), none] [.ref b1, .ref ob] Mn1
  refine jj_putF (pc := 10) kE_init_d10 (kpE_rowFactors hG) rfl hq1 (by rfl) rfl ?_
  refine jn_gen (fun M101 hM102 => ?_)
  have h103 : M101 ob = some (.inl nE, [.ref b1, .null, .null, .null, .int (nI (0)), .int (nI (0)), .int (nI (0)), .int (nI (0)), .null, .null, .null]) := by rw [hM102]; exact jj_up_at _ _ _
  have J1 := Jn1.put (M' := M101) (ko := ko) (by refine Or.inl ?_; exact dko) k6 (fun x hx => by rw [hM102, jj_up_ne _ _ (by rw [← o1]; exact hx)]) (by rw [o1, h103]; exact fun e => (by cases e))
  have f1 : ∀ x, x ≠ ob → M x ≠ none → M101 x = M x := fun x h1 h2 => by
    have h3 := f0 x h1 h2
    exact (show M101 x = M x by rw [hM102, jj_up_ne _ _ h1, kp1 x (by rw [h3]; exact h2)]).trans h3
  have hy1 : M101 b1 = some (.inr 3, List.replicate 16 .null) := by rw [hM102, jj_up_ne _ _ nb1]; exact hz1
  refine jj_aload_n (pc := 13) kE_init_d13 rfl ?_
  refine jn_bipush (pc := 14) 16 kE_init_d14 (by decide) ?_
  refine jj_newa (pc := 16) (j := 0) (n := 16) (ty := .int) kE_init_d16 rfl (kG_t hG rfl) (fun C h => by cases h) (ka_int hG) rfl (by decide) (by omega) (by omega) (fun b2 hb2 => ?_)
  refine jn_gen (fun Mn2 eMn2 => ?_)
  have nb2 : b2 ≠ ob := fun e => by rw [e, h103] at hb2; cases hb2
  have hq2 := (show Mn2 ob = M101 ob by rw [eMn2, jj_up_ne _ _ (Ne.symm nb2)]).trans h103
  have hz2 : Mn2 b2 = some (.inr 0, (List.replicate 16 (0 : Int32)).map .int) := by rw [eMn2, jj_up_at, List.map_replicate]; rfl
  have kp2 : ∀ x, M101 x ≠ none → Mn2 x = M101 x := fun x hx => by rw [eMn2, jj_up_ne _ _ (fun e => hx (by rw [e]; exact hb2))]
  have Jn2 := J1.new (M' := Mn2) (ko := 6250) hb2 (by omega) (fun x hx => by rw [eMn2, jj_up_ne _ _ hx]) (by rw [hz2]; exact fun e => (by cases e))
  obtain ⟨ad2, ea2⟩ : ∃ f, adu ad1 (6250) b2 = f := ⟨_, rfl⟩
  rw [ea2] at Jn2
  have g2 : ∀ k, D k → ad2 k = ad k := fun k hk => by
    have := hd k hk
    rw [← ea2, adu_ne _ (by omega)]; exact g1 k hk
  have x2 : ad2 (6250) = b2 := by rw [← ea2, adu_at]
  have o2 : ad2 ko = ob := by
    rw [g2 ko dko, ea0]; exact o0
  have x1_2 : ad2 (6249) = b1 := (show ad2 (6249) = ad1 (6249) by rw [← ea2, adu_ne _ (by omega)]).trans x1
  show jj G kE_init (d + 2) Q ((rc - 1) - 1) ((rs - 16) - 16) 18 [some (.ref ob), some (.ref dk), none] [.ref b2, .ref ob] Mn2
  refine jj_putF (pc := 18) kE_init_d18 (kpE_pivotColumns hG) rfl hq2 (by rfl) rfl ?_
  refine jn_gen (fun M104 hM105 => ?_)
  have h106 : M104 ob = some (.inl nE, [.ref b1, .ref b2, .null, .null, .int (nI (0)), .int (nI (0)), .int (nI (0)), .int (nI (0)), .null, .null, .null]) := by rw [hM105]; exact jj_up_at _ _ _
  have J2 := Jn2.put (M' := M104) (ko := ko) (by refine Or.inl ?_; refine Or.inl ?_; exact dko) k6 (fun x hx => by rw [hM105, jj_up_ne _ _ (by rw [← o2]; exact hx)]) (by rw [o2, h106]; exact fun e => (by cases e))
  have f2 : ∀ x, x ≠ ob → M x ≠ none → M104 x = M x := fun x h1 h2 => by
    have h3 := f1 x h1 h2
    exact (show M104 x = M101 x by rw [hM105, jj_up_ne _ _ h1, kp2 x (by rw [h3]; exact h2)]).trans h3
  have hy2 : M104 b2 = some (.inr 0, (List.replicate 16 (0 : Int32)).map .int) := by rw [hM105, jj_up_ne _ _ nb2]; exact hz2
  have hy1_2 : M104 b1 = some (.inr 3, List.replicate 16 .null) := by rw [hM105, jj_up_ne _ _ nb1, kp2 _ (by rw [hy1]; exact fun e => (by cases e))]; exact hy1
  refine jj_aload_n (pc := 21) kE_init_d21 rfl ?_
  refine jn_bipush (pc := 22) 32 kE_init_d22 (by decide) ?_
  refine jj_newa (pc := 24) (j := 2) (n := 32) (ty := .boolean) kE_init_d24 rfl (kG_t hG rfl) (fun C h => by cases h) (ka_bool hG) rfl (by decide) (by omega) (by omega) (fun b3 hb3 => ?_)
  refine jn_gen (fun Mn3 eMn3 => ?_)
  have nb3 : b3 ≠ ob := fun e => by rw [e, h106] at hb3; cases hb3
  have hq3 := (show Mn3 ob = M104 ob by rw [eMn3, jj_up_ne _ _ (Ne.symm nb3)]).trans h106
  have hz3 : Mn3 b3 = some (.inr 2, (List.replicate 32 (0 : Int32)).map .int) := by rw [eMn3, jj_up_at, List.map_replicate]; rfl
  have kp3 : ∀ x, M104 x ≠ none → Mn3 x = M104 x := fun x hx => by rw [eMn3, jj_up_ne _ _ (fun e => hx (by rw [e]; exact hb3))]
  have Jn3 := J2.new (M' := Mn3) (ko := 6251) hb3 (by omega) (fun x hx => by rw [eMn3, jj_up_ne _ _ hx]) (by rw [hz3]; exact fun e => (by cases e))
  obtain ⟨ad3, ea3⟩ : ∃ f, adu ad2 (6251) b3 = f := ⟨_, rfl⟩
  rw [ea3] at Jn3
  have g3 : ∀ k, D k → ad3 k = ad k := fun k hk => by
    have := hd k hk
    rw [← ea3, adu_ne _ (by omega)]; exact g2 k hk
  have x3 : ad3 (6251) = b3 := by rw [← ea3, adu_at]
  have o3 : ad3 ko = ob := by
    rw [g3 ko dko, ea0]; exact o0
  have x1_3 : ad3 (6249) = b1 := (show ad3 (6249) = ad2 (6249) by rw [← ea3, adu_ne _ (by omega)]).trans x1_2
  have x2_3 : ad3 (6250) = b2 := (show ad3 (6250) = ad2 (6250) by rw [← ea3, adu_ne _ (by omega)]).trans x2
  show jj G kE_init (d + 2) Q (((rc - 1) - 1) - 1) (((rs - 16) - 16) - 32) 26 [some (.ref ob), some (.ref dk), none] [.ref b3, .ref ob] Mn3
  refine jj_putF (pc := 26) kE_init_d26 (kpE_isPivot hG) rfl hq3 (by rfl) rfl ?_
  refine jn_gen (fun M107 hM108 => ?_)
  have h109 : M107 ob = some (.inl nE, [.ref b1, .ref b2, .ref b3, .null, .int (nI (0)), .int (nI (0)), .int (nI (0)), .int (nI (0)), .null, .null, .null]) := by rw [hM108]; exact jj_up_at _ _ _
  have J3 := Jn3.put (M' := M107) (ko := ko) (by refine Or.inl ?_; refine Or.inl ?_; refine Or.inl ?_; exact dko) k6 (fun x hx => by rw [hM108, jj_up_ne _ _ (by rw [← o3]; exact hx)]) (by rw [o3, h109]; exact fun e => (by cases e))
  have f3 : ∀ x, x ≠ ob → M x ≠ none → M107 x = M x := fun x h1 h2 => by
    have h3 := f2 x h1 h2
    exact (show M107 x = M104 x by rw [hM108, jj_up_ne _ _ h1, kp3 x (by rw [h3]; exact h2)]).trans h3
  have hy3 : M107 b3 = some (.inr 2, (List.replicate 32 (0 : Int32)).map .int) := by rw [hM108, jj_up_ne _ _ nb3]; exact hz3
  have hy1_3 : M107 b1 = some (.inr 3, List.replicate 16 .null) := by rw [hM108, jj_up_ne _ _ nb1, kp3 _ (by rw [hy1_2]; exact fun e => (by cases e))]; exact hy1_2
  have hy2_3 : M107 b2 = some (.inr 0, (List.replicate 16 (0 : Int32)).map .int) := by rw [hM108, jj_up_ne _ _ nb2, kp3 _ (by rw [hy2]; exact fun e => (by cases e))]; exact hy2
  refine jj_aload_n (pc := 29) kE_init_d29 rfl ?_
  refine jj_new (pc := 30) kE_init_d30 (knE_W hG) (by omega) (show 3 ≤ _ by omega) (fun a4 ha4 => ?_)
  refine jj_dup (pc := 33) kE_init_d33 rfl ?_
  refine jn_bipush (pc := 34) 64 kE_init_d34 (by decide) ?_
  refine jj_callI (pc := 36) (b := a4) (As := [.int (nI (64))]) kE_init_d36 (kvE_W_init hG) rfl rfl rfl (Nat.le_of_ble_eq_true rfl) (Nat.le_of_ble_eq_true rfl) (jj_bare0 rfl) ?_
  refine w_init hG (jj_up_at _ _ _) (by omega) (by omega) (show _ ≤ _ - 3 by omega) (fun b4 hb4 => ?_)
  have hn4 := NWH.mk (c := 64) ha4 hb4
  refine jn_gen (fun Mn4 eMn4 => ?_)
  rw [← eMn4] at hn4
  show jj G kE_init (d + 2) Q ((((rc - 1) - 1) - 1) - 1 - 1) ((((rs - 16) - 16) - 32) - 3 - 64) 39 [some (.ref ob), some (.ref dk), none] [.ref a4, .ref ob] Mn4
  have hq4 := (hn4.kept (x := ob) (by rw [h109]; exact fun e => (by cases e))).trans h109
  have Jn4 := J3.whole (p := 33) hn4 (by first | rfl | decide) (by first | rfl | decide)
  obtain ⟨ad4, ea4⟩ : ∃ f, adu (adu ad3 (2 * (33)) a4) (2 * (33) + 1) b4 = f := ⟨_, rfl⟩
  rw [ea4] at Jn4
  have g4 : ∀ k, D k → ad4 k = ad k := fun k hk => by
    have := hd k hk
    rw [← ea4, adu_ne _ (by omega), adu_ne _ (by omega)]; exact g3 k hk
  have x4 : ad4 (2 * (33)) = a4 := by rw [← ea4, adu_ne _ (by omega), adu_at]
  have o4 : ad4 ko = ob := by
    rw [g4 ko dko, ea0]; exact o0
  have x1_4 : ad4 (6249) = b1 := (show ad4 (6249) = ad3 (6249) by rw [← ea4, adu_ne _ (by omega), adu_ne _ (by omega)]).trans x1_3
  have x2_4 : ad4 (6250) = b2 := (show ad4 (6250) = ad3 (6250) by rw [← ea4, adu_ne _ (by omega), adu_ne _ (by omega)]).trans x2_3
  have x3_4 : ad4 (6251) = b3 := (show ad4 (6251) = ad3 (6251) by rw [← ea4, adu_ne _ (by omega), adu_ne _ (by omega)]).trans x3
  show jj G kE_init (d + 2) Q ((((rc - 1) - 1) - 1) - 1 - 1) ((((rs - 16) - 16) - 32) - 3 - 64) 39 [some (.ref ob), some (.ref dk), none] [.ref a4, .ref ob] Mn4
  refine jj_putF (pc := 39) kE_init_d39 (kpE_last hG) rfl hq4 (by rfl) rfl ?_
  refine jn_gen (fun M110 hM111 => ?_)
  have h112 : M110 ob = some (.inl nE, [.ref b1, .ref b2, .ref b3, .ref a4, .int (nI (0)), .int (nI (0)), .int (nI (0)), .int (nI (0)), .null, .null, .null]) := by rw [hM111]; exact jj_up_at _ _ _
  have J4 := Jn4.put (M' := M110) (ko := ko) (by refine Or.inl ?_; refine Or.inl ?_; refine Or.inl ?_; refine Or.inl ?_; refine Or.inl ?_; exact dko) k6 (fun x hx => by rw [hM111, jj_up_ne _ _ (by rw [← o4]; exact hx)]) (by rw [o4, h112]; exact fun e => (by cases e))
  have f4 : ∀ x, x ≠ ob → M x ≠ none → M110 x = M x := fun x h1 h2 => by
    have h3 := f3 x h1 h2
    exact (show M110 x = M107 x by rw [hM111, jj_up_ne _ _ h1, hn4.kept (by rw [h3]; exact h2)]).trans h3
  have hy1_4 : M110 b1 = some (.inr 3, List.replicate 16 .null) := by rw [hM111, jj_up_ne _ _ nb1, hn4.kept (by rw [hy1_3]; exact fun e => (by cases e))]; exact hy1_3
  have hy2_4 : M110 b2 = some (.inr 0, (List.replicate 16 (0 : Int32)).map .int) := by rw [hM111, jj_up_ne _ _ nb2, hn4.kept (by rw [hy2_3]; exact fun e => (by cases e))]; exact hy2_3
  have hy3_4 : M110 b3 = some (.inr 2, (List.replicate 32 (0 : Int32)).map .int) := by rw [hM111, jj_up_ne _ _ nb3, hn4.kept (by rw [hy3]; exact fun e => (by cases e))]; exact hy3
  refine jj_aload_n (pc := 42) kE_init_d42 rfl ?_
  refine jn_sipush (pc := 43) 512 kE_init_d43 (by decide) ?_
  refine jj_anew (pc := 46) (j := 3) (n := 512) kE_init_d46 (kG_t hG rfl) (knE_arrW hG).1 (knE_arrW hG).2 rfl (by decide) (by omega) (by omega) (fun b5 hb5 => ?_)
  refine jn_gen (fun Mn5 eMn5 => ?_)
  have nb5 : b5 ≠ ob := fun e => by rw [e, h112] at hb5; cases hb5
  have hq5 := (show Mn5 ob = M110 ob by rw [eMn5, jj_up_ne _ _ (Ne.symm nb5)]).trans h112
  have hz5 : Mn5 b5 = some (.inr 3, List.replicate 512 .null) := by rw [eMn5, jj_up_at]
  have kp5 : ∀ x, M110 x ≠ none → Mn5 x = M110 x := fun x hx => by rw [eMn5, jj_up_ne _ _ (fun e => hx (by rw [e]; exact hb5))]
  have Jn5 := J4.new (M' := Mn5) (ko := 6252) hb5 (by omega) (fun x hx => by rw [eMn5, jj_up_ne _ _ hx]) (by rw [hz5]; exact fun e => (by cases e))
  obtain ⟨ad5, ea5⟩ : ∃ f, adu ad4 (6252) b5 = f := ⟨_, rfl⟩
  rw [ea5] at Jn5
  have g5 : ∀ k, D k → ad5 k = ad k := fun k hk => by
    have := hd k hk
    rw [← ea5, adu_ne _ (by omega)]; exact g4 k hk
  have x5 : ad5 (6252) = b5 := by rw [← ea5, adu_at]
  have o5 : ad5 ko = ob := by
    rw [g5 ko dko, ea0]; exact o0
  have x1_5 : ad5 (6249) = b1 := (show ad5 (6249) = ad4 (6249) by rw [← ea5, adu_ne _ (by omega)]).trans x1_4
  have x2_5 : ad5 (6250) = b2 := (show ad5 (6250) = ad4 (6250) by rw [← ea5, adu_ne _ (by omega)]).trans x2_4
  have x3_5 : ad5 (6251) = b3 := (show ad5 (6251) = ad4 (6251) by rw [← ea5, adu_ne _ (by omega)]).trans x3_4
  have x4_5 : ad5 (2 * (33)) = a4 := (show ad5 (2 * (33)) = ad4 (2 * (33)) by rw [← ea5, adu_ne _ (by omega)]).trans x4
  show jj G kE_init (d + 2) Q (((((rc - 1) - 1) - 1) - 1 - 1) - 1) (((((rs - 16) - 16) - 32) - 3 - 64) - 512) 49 [some (.ref ob), some (.ref dk), none] [.ref b5, .ref ob] Mn5
  refine jj_putF (pc := 49) kE_init_d49 (kpE_grid hG) rfl hq5 (by rfl) rfl ?_
  refine jn_gen (fun M113 hM114 => ?_)
  have h115 : M113 ob = some (.inl nE, [.ref b1, .ref b2, .ref b3, .ref a4, .int (nI (0)), .int (nI (0)), .int (nI (0)), .int (nI (0)), .ref b5, .null, .null]) := by rw [hM114]; exact jj_up_at _ _ _
  have J5 := Jn5.put (M' := M113) (ko := ko) (by refine Or.inl ?_; refine Or.inl ?_; refine Or.inl ?_; refine Or.inl ?_; refine Or.inl ?_; refine Or.inl ?_; exact dko) k6 (fun x hx => by rw [hM114, jj_up_ne _ _ (by rw [← o5]; exact hx)]) (by rw [o5, h115]; exact fun e => (by cases e))
  have f5 : ∀ x, x ≠ ob → M x ≠ none → M113 x = M x := fun x h1 h2 => by
    have h3 := f4 x h1 h2
    exact (show M113 x = M110 x by rw [hM114, jj_up_ne _ _ h1, kp5 x (by rw [h3]; exact h2)]).trans h3
  have hy5 : M113 b5 = some (.inr 3, List.replicate 512 .null) := by rw [hM114, jj_up_ne _ _ nb5]; exact hz5
  have hy1_5 : M113 b1 = some (.inr 3, List.replicate 16 .null) := by rw [hM114, jj_up_ne _ _ nb1, kp5 _ (by rw [hy1_4]; exact fun e => (by cases e))]; exact hy1_4
  have hy2_5 : M113 b2 = some (.inr 0, (List.replicate 16 (0 : Int32)).map .int) := by rw [hM114, jj_up_ne _ _ nb2, kp5 _ (by rw [hy2_4]; exact fun e => (by cases e))]; exact hy2_4
  have hy3_5 : M113 b3 = some (.inr 2, (List.replicate 32 (0 : Int32)).map .int) := by rw [hM114, jj_up_ne _ _ nb3, kp5 _ (by rw [hy3_4]; exact fun e => (by cases e))]; exact hy3_4
  refine jj_aload_n (pc := 52) kE_init_d52 rfl ?_
  refine jj_new (pc := 53) kE_init_d53 (knE_W hG) (by omega) (show 3 ≤ _ by omega) (fun a6 ha6 => ?_)
  refine jj_dup (pc := 56) kE_init_d56 rfl ?_
  refine jn_bipush (pc := 57) 125 kE_init_d57 (by decide) ?_
  refine jj_callI (pc := 59) (b := a6) (As := [.int (nI (125))]) kE_init_d59 (kvE_W_init hG) rfl rfl rfl (Nat.le_of_ble_eq_true rfl) (Nat.le_of_ble_eq_true rfl) (jj_bare0 rfl) ?_
  refine w_init hG (jj_up_at _ _ _) (by omega) (by omega) (show _ ≤ _ - 3 by omega) (fun b6 hb6 => ?_)
  have hn6 := NWH.mk (c := 125) ha6 hb6
  refine jn_gen (fun Mn6 eMn6 => ?_)
  rw [← eMn6] at hn6
  show jj G kE_init (d + 2) Q ((((((rc - 1) - 1) - 1) - 1 - 1) - 1) - 1 - 1) ((((((rs - 16) - 16) - 32) - 3 - 64) - 512) - 3 - 125) 62 [some (.ref ob), some (.ref dk), none] [.ref a6, .ref ob] Mn6
  have hq6 := (hn6.kept (x := ob) (by rw [h115]; exact fun e => (by cases e))).trans h115
  have Jn6 := J5.whole (p := 34) hn6 (by first | rfl | decide) (by first | rfl | decide)
  obtain ⟨ad6, ea6⟩ : ∃ f, adu (adu ad5 (2 * (34)) a6) (2 * (34) + 1) b6 = f := ⟨_, rfl⟩
  rw [ea6] at Jn6
  have g6 : ∀ k, D k → ad6 k = ad k := fun k hk => by
    have := hd k hk
    rw [← ea6, adu_ne _ (by omega), adu_ne _ (by omega)]; exact g5 k hk
  have x6 : ad6 (2 * (34)) = a6 := by rw [← ea6, adu_ne _ (by omega), adu_at]
  have o6 : ad6 ko = ob := by
    rw [g6 ko dko, ea0]; exact o0
  have x1_6 : ad6 (6249) = b1 := (show ad6 (6249) = ad5 (6249) by rw [← ea6, adu_ne _ (by omega), adu_ne _ (by omega)]).trans x1_5
  have x2_6 : ad6 (6250) = b2 := (show ad6 (6250) = ad5 (6250) by rw [← ea6, adu_ne _ (by omega), adu_ne _ (by omega)]).trans x2_5
  have x3_6 : ad6 (6251) = b3 := (show ad6 (6251) = ad5 (6251) by rw [← ea6, adu_ne _ (by omega), adu_ne _ (by omega)]).trans x3_5
  have x4_6 : ad6 (2 * (33)) = a4 := (show ad6 (2 * (33)) = ad5 (2 * (33)) by rw [← ea6, adu_ne _ (by omega), adu_ne _ (by omega)]).trans x4_5
  have x5_6 : ad6 (6252) = b5 := (show ad6 (6252) = ad5 (6252) by rw [← ea6, adu_ne _ (by omega), adu_ne _ (by omega)]).trans x5
  show jj G kE_init (d + 2) Q ((((((rc - 1) - 1) - 1) - 1 - 1) - 1) - 1 - 1) ((((((rs - 16) - 16) - 32) - 3 - 64) - 512) - 3 - 125) 62 [some (.ref ob), some (.ref dk), none] [.ref a6, .ref ob] Mn6
  refine jj_putF (pc := 62) kE_init_d62 (kpE_otherFactor hG) rfl hq6 (by rfl) rfl ?_
  refine jn_gen (fun M116 hM117 => ?_)
  have h118 : M116 ob = some (.inl nE, [.ref b1, .ref b2, .ref b3, .ref a4, .int (nI (0)), .int (nI (0)), .int (nI (0)), .int (nI (0)), .ref b5, .ref a6, .null]) := by rw [hM117]; exact jj_up_at _ _ _
  have J6 := Jn6.put (M' := M116) (ko := ko) (by refine Or.inl ?_; refine Or.inl ?_; refine Or.inl ?_; refine Or.inl ?_; refine Or.inl ?_; refine Or.inl ?_; refine Or.inl ?_; refine Or.inl ?_; exact dko) k6 (fun x hx => by rw [hM117, jj_up_ne _ _ (by rw [← o6]; exact hx)]) (by rw [o6, h118]; exact fun e => (by cases e))
  have f6 : ∀ x, x ≠ ob → M x ≠ none → M116 x = M x := fun x h1 h2 => by
    have h3 := f5 x h1 h2
    exact (show M116 x = M113 x by rw [hM117, jj_up_ne _ _ h1, hn6.kept (by rw [h3]; exact h2)]).trans h3
  have hy1_6 : M116 b1 = some (.inr 3, List.replicate 16 .null) := by rw [hM117, jj_up_ne _ _ nb1, hn6.kept (by rw [hy1_5]; exact fun e => (by cases e))]; exact hy1_5
  have hy2_6 : M116 b2 = some (.inr 0, (List.replicate 16 (0 : Int32)).map .int) := by rw [hM117, jj_up_ne _ _ nb2, hn6.kept (by rw [hy2_5]; exact fun e => (by cases e))]; exact hy2_5
  have hy3_6 : M116 b3 = some (.inr 2, (List.replicate 32 (0 : Int32)).map .int) := by rw [hM117, jj_up_ne _ _ nb3, hn6.kept (by rw [hy3_5]; exact fun e => (by cases e))]; exact hy3_5
  have hy5_6 : M116 b5 = some (.inr 3, List.replicate 512 .null) := by rw [hM117, jj_up_ne _ _ nb5, hn6.kept (by rw [hy5]; exact fun e => (by cases e))]; exact hy5
  refine jj_aload_n (pc := 65) kE_init_d65 rfl ?_
  refine jj_aload_n (pc := 66) kE_init_d66 rfl ?_
  refine jj_putF (pc := 67) kE_init_d67 (kpE_desk hG) rfl h118 (by rfl) rfl ?_
  refine jn_gen (fun M119 hM120 => ?_)
  have h121 : M119 ob = some (.inl nE, [.ref b1, .ref b2, .ref b3, .ref a4, .int (nI (0)), .int (nI (0)), .int (nI (0)), .int (nI (0)), .ref b5, .ref a6, .ref dk]) := by rw [hM120]; exact jj_up_at _ _ _
  have Jn7 := J6.put (M' := M119) (ko := ko) (by refine Or.inl ?_; refine Or.inl ?_; refine Or.inl ?_; refine Or.inl ?_; refine Or.inl ?_; refine Or.inl ?_; refine Or.inl ?_; refine Or.inl ?_; exact dko) k6 (fun x hx => by rw [hM120, jj_up_ne _ _ (by rw [← o6]; exact hx)]) (by rw [o6, h121]; exact fun e => (by cases e))
  obtain ⟨ad7, ea7⟩ : ∃ f, ad6 = f := ⟨_, rfl⟩
  have J7 := Jn7
  rw [ea7] at J7
  have g7 : ∀ k, D k → ad7 k = ad k := fun k hk => by rw [← ea7]; exact g6 k hk
  have o7 : ad7 ko = ob := by rw [← ea7]; exact o6
  have f7 : ∀ x, x ≠ ob → M x ≠ none → M119 x = M x := fun x h1 h2 => (show M119 x = M116 x by rw [hM120, jj_up_ne _ _ h1]).trans (f6 x h1 h2)
  have x1_7 : ad7 (6249) = b1 := (show ad7 (6249) = ad6 (6249) by rw [← ea7]).trans x1_6
  have x2_7 : ad7 (6250) = b2 := (show ad7 (6250) = ad6 (6250) by rw [← ea7]).trans x2_6
  have x3_7 : ad7 (6251) = b3 := (show ad7 (6251) = ad6 (6251) by rw [← ea7]).trans x3_6
  have x4_7 : ad7 (2 * (33)) = a4 := (show ad7 (2 * (33)) = ad6 (2 * (33)) by rw [← ea7]).trans x4_6
  have x5_7 : ad7 (6252) = b5 := (show ad7 (6252) = ad6 (6252) by rw [← ea7]).trans x5_6
  have x6_7 : ad7 (2 * (34)) = a6 := (show ad7 (2 * (34)) = ad6 (2 * (34)) by rw [← ea7]).trans x6
  have hy1_7 : M119 b1 = some (.inr 3, List.replicate 16 .null) := by rw [hM120, jj_up_ne _ _ nb1]; exact hy1_6
  have hy2_7 : M119 b2 = some (.inr 0, (List.replicate 16 (0 : Int32)).map .int) := by rw [hM120, jj_up_ne _ _ nb2]; exact hy2_6
  have hy3_7 : M119 b3 = some (.inr 2, (List.replicate 32 (0 : Int32)).map .int) := by rw [hM120, jj_up_ne _ _ nb3]; exact hy3_6
  have hy5_7 : M119 b5 = some (.inr 3, List.replicate 512 .null) := by rw [hM120, jj_up_ne _ _ nb5]; exact hy5_6
  refine jn_iconst (pc := 70) 0 kE_init_d70 (by decide) ?_
  refine jj_istore_n (pc := 71) kE_init_d71 (Nat.le_of_ble_eq_true rfl) ?_
  show jj G kE_init (d + 2) Q ((((((rc - 1) - 1) - 1) - 1 - 1) - 1) - 1 - 1) ((((((rs - 16) - 16) - 32) - 3 - 64) - 512) - 3 - 125) 72 [some (.ref ob), some (.ref dk), some (.int (nI (0)))] [] M119
  have fb : ∀ b, M b ≠ none → b ≠ ob → M119 b = M b := fun b h1 h2 => f7 b h2 h1
  have mb1 : M b1 = none := hb1
  have mb5 : M b5 = none := Classical.byContradiction (fun h => by
    have := f4 b5 nb5 h
    rw [hb5] at this
    exact h this.symm)
  have Jw : INI M119 ad7 (fun k => D k ∨ (66 ≤ k ∧ k < 70) ∨ (6249 ≤ k ∧ k < 6253)) := J7.weak (fun k hk => by
    rcases hk with h | h | h
    · exact Or.inl (Or.inl (Or.inl (Or.inl (Or.inl (Or.inl (Or.inl (Or.inl (h))))))))
    · omega
    · omega)
  obtain ⟨rcq, erc⟩ : ∃ r, ((((((rc - 1) - 1) - 1) - 1 - 1) - 1) - 1 - 1) = r := ⟨_, rfl⟩
  obtain ⟨rsq, ers⟩ : ∃ r, ((((((rs - 16) - 16) - 32) - 3 - 64) - 512) - 3 - 125) = r := ⟨_, rfl⟩
  rw [erc, ers]
  have hrq : rc ≤ rcq + 8 := by omega
  have hsq : rs ≤ rsq + 771 := by omega
  have loop2 : ∀ (adB : Nat → Nat), (∀ k, (fun k => D k ∨ (66 ≤ k ∧ k < 70) ∨ (6249 ≤ k ∧ k < 6253)) k → adB k = ad7 k) → ∀ mu i, 512 = i + mu → ∀ (M9 : mheap) (ad9 : Nat → Nat) (rc9 rs9 : Nat), M9 ob = some (.inl nE, [.ref b1, .ref b2, .ref b3, .ref a4, .int (nI (0)), .int (nI (0)), .int (nI (0)), .int (nI (0)), .ref b5, .ref a6, .ref dk]) → M9 b5 = some (.inr 3, (List.range 512).map (fun l => if l < i then Value.ref (ad9 (2 * (35 + l))) else .null)) → M9 b1 = some (.inr 3, (List.range 16).map (fun i => Value.ref (adB (2 * (17 + i))))) → M9 b2 = some (.inr 0, (List.replicate 16 (0 : Int32)).map .int) → M9 b3 = some (.inr 2, (List.replicate 32 (0 : Int32)).map .int) → INI M9 ad9 (fun k => (fun k => (fun k => D k ∨ (66 ≤ k ∧ k < 70) ∨ (6249 ≤ k ∧ k < 6253)) k ∨ (34 ≤ k ∧ k < 66)) k ∨ (70 ≤ k ∧ k < 2 * (35 + i))) → (∀ k, (fun k => (fun k => D k ∨ (66 ≤ k ∧ k < 70) ∨ (6249 ≤ k ∧ k < 6253)) k ∨ (34 ≤ k ∧ k < 66)) k → ad9 k = adB k) → (∀ x, x ≠ ob → M x ≠ none → M9 x = M x) → rc ≤ rc9 + (40 + 2 * i) → rs ≤ rs9 + (2819 + 67 * i) → jj G kE_init (d + 2) Q rc9 rs9 101 [some (.ref ob), some (.ref dk), some (.int (nI (i)))] [] M9 := by
    intro adB hB
    intro mu
    induction mu with
    | zero =>
      intro i hi6 M9 ad9 rc9 rs9 hm9 ha9 he_b1 he_b2 he_b3 L9 g9 f9 c9 s9
      have ei : i = 512 := by omega
      subst ei
      have k_b5 : ad9 6252 = b5 := (g9 _ (Or.inl (Or.inr (Or.inr ⟨by omega, by omega⟩)))).trans (by rw [hB _ (Or.inr (Or.inr ⟨by omega, by omega⟩))]; exact x5_7)
      have k_b1 : ad9 6249 = b1 := (g9 _ (Or.inl (Or.inr (Or.inr ⟨by omega, by omega⟩)))).trans (by rw [hB _ (Or.inr (Or.inr ⟨by omega, by omega⟩))]; exact x1_7)
      have k_b2 : ad9 6250 = b2 := (g9 _ (Or.inl (Or.inr (Or.inr ⟨by omega, by omega⟩)))).trans (by rw [hB _ (Or.inr (Or.inr ⟨by omega, by omega⟩))]; exact x2_7)
      have k_b3 : ad9 6251 = b3 := (g9 _ (Or.inl (Or.inr (Or.inr ⟨by omega, by omega⟩)))).trans (by rw [hB _ (Or.inr (Or.inr ⟨by omega, by omega⟩))]; exact x3_7)
      refine jj_iload_n (pc := 101) kE_init_d101 rfl ?_
      refine jn_sipush (pc := 102) 512 kE_init_d102 (by decide) ?_
      refine jn_icmp_ge (pc := 105) (tgt := 129) kE_init_d105 (by decide) (by omega) (by omega) (fun _ => ?_) (fun c => by exfalso; omega)
      have k_66 : ad9 66 = a4 := (g9 _ (Or.inl (Or.inr (Or.inl ⟨by omega, by omega⟩)))).trans (by rw [hB _ (Or.inr (Or.inl ⟨by omega, by omega⟩))]; exact x4_7)
      have k_68 : ad9 68 = a6 := (g9 _ (Or.inl (Or.inr (Or.inl ⟨by omega, by omega⟩)))).trans (by rw [hB _ (Or.inr (Or.inl ⟨by omega, by omega⟩))]; exact x6_7)
      exact jj_vret (pc := 129) kE_init_d129 rfl (k M9 ad9 _ _ (L9.weak (fun k hk => by
                rcases hk with h | h | h
                · exact Or.inl (Or.inl (Or.inl h))
                · by_cases c1 : k < 66
                  · exact Or.inl (Or.inr ⟨h.1, c1⟩)
                  · by_cases c2 : k < 70
                    · exact Or.inl (Or.inl (Or.inr (Or.inl ⟨by omega, c2⟩)))
                    · exact Or.inr (by omega)
                · exact Or.inl (Or.inl (Or.inr (Or.inr h))))) (fun k hk => (g9 k (Or.inl (Or.inl hk))).trans ((hB k (Or.inl hk)).trans (g7 k hk))) (by rw [k_b1, k_b2, k_b3, k_b5, k_66, k_68]; exact hm9) (by
                rw [k_b1, he_b1]
                refine congrArg some (congrArg (Prod.mk _) (List.map_congr_left (fun l hl => ?_)))
                have hl2 := List.mem_range.mp hl
                rw [g9 (2 * (17 + l)) (Or.inr ⟨by omega, by omega⟩)]) (by rw [k_b2]; exact he_b2) (by rw [k_b3]; exact he_b3) (by
                rw [k_b5, ha9]
                refine congrArg some (congrArg (Prod.mk _) (List.map_congr_left (fun l hl => ?_)))
                rw [if_pos (List.mem_range.mp hl)]) f9 (by omega) (by omega))
    | succ mu ih =>
      intro i hi6 M9 ad9 rc9 rs9 hm9 ha9 he_b1 he_b2 he_b3 L9 g9 f9 c9 s9
      have k_b5 : ad9 6252 = b5 := (g9 _ (Or.inl (Or.inr (Or.inr ⟨by omega, by omega⟩)))).trans (by rw [hB _ (Or.inr (Or.inr ⟨by omega, by omega⟩))]; exact x5_7)
      have k_b1 : ad9 6249 = b1 := (g9 _ (Or.inl (Or.inr (Or.inr ⟨by omega, by omega⟩)))).trans (by rw [hB _ (Or.inr (Or.inr ⟨by omega, by omega⟩))]; exact x1_7)
      have k_b2 : ad9 6250 = b2 := (g9 _ (Or.inl (Or.inr (Or.inr ⟨by omega, by omega⟩)))).trans (by rw [hB _ (Or.inr (Or.inr ⟨by omega, by omega⟩))]; exact x2_7)
      have k_b3 : ad9 6251 = b3 := (g9 _ (Or.inl (Or.inr (Or.inr ⟨by omega, by omega⟩)))).trans (by rw [hB _ (Or.inr (Or.inr ⟨by omega, by omega⟩))]; exact x3_7)
      have nbo : b5 ≠ ob := fun e => by rw [e, hm9] at ha9; cases ha9
      refine jj_iload_n (pc := 101) kE_init_d101 rfl ?_
      refine jn_sipush (pc := 102) 512 kE_init_d102 (by decide) ?_
      refine jn_icmp_ge (pc := 105) (tgt := 129) kE_init_d105 (by decide) (by omega) (by omega) (fun c => by exfalso; omega) (fun _ => ?_)
      refine jj_aload_n (pc := 108) kE_init_d108 rfl ?_
      refine jj_getf (pc := 109) kE_init_d109 (kfE_grid hG) hm9 rfl ?_
      refine jj_iload_n (pc := 112) kE_init_d112 rfl ?_
      refine jj_new (pc := 113) kE_init_d113 (knE_W hG) (by omega) (show 3 ≤ _ by omega) (fun a ha => ?_)
      refine jj_dup (pc := 116) kE_init_d116 rfl ?_
      refine jn_bipush (pc := 117) 64 kE_init_d117 (by decide) ?_
      refine jj_callI (pc := 119) (b := a) (As := [.int (nI (64))]) kE_init_d119 (kvE_W_init hG) rfl rfl rfl (Nat.le_of_ble_eq_true rfl) (Nat.le_of_ble_eq_true rfl) (jj_bare0 rfl) ?_
      refine w_init hG (jj_up_at _ _ _) (by omega) (by omega) (show _ ≤ _ - 3 by omega) (fun bb hbb => ?_)
      have hn := NWH.mk (c := 64) ha hbb
      refine jn_gen (fun Mc eMc => ?_)
      rw [← eMc] at hn
      show jj G kE_init (d + 2) Q (rc9 - 1 - 1) (rs9 - 3 - 64) 122 [some (.ref ob), some (.ref dk), some (.int (nI (i)))] [.ref a, .int (nI (i)), .ref b5] Mc
      have hac := (hn.kept (x := b5) (by rw [ha9]; exact fun e => (by cases e))).trans ha9
      have hmc := (hn.kept (x := ob) (by rw [hm9]; exact fun e => (by cases e))).trans hm9
      refine jj_aast (pc := 122) (i := i) kE_init_d122 (kG_cl hG rfl) (kG_t hG rfl) hac hn.2.2.2.1 rfl (by rw [List.length_map, List.length_range]; decide) (by rw [List.length_map, List.length_range]; omega) ?_
      refine jn_gen (fun Md eMd => ?_)
      have e1 : ∀ l, l < i → (adu (adu ad9 (2 * (35 + i)) a) (2 * (35 + i) + 1) bb) (2 * (35 + l)) = ad9 (2 * (35 + l)) := fun l hl => by rw [adu_ne _ (by omega), adu_ne _ (by omega)]
      have e3 : (adu (adu ad9 (2 * (35 + i)) a) (2 * (35 + i) + 1) bb) (2 * (35 + i)) = a := by rw [adu_ne _ (by omega), adu_at]
      have e5 : (adu (adu ad9 (2 * (35 + i)) a) (2 * (35 + i) + 1) bb) 6252 = b5 := by rw [adu_ne _ (by omega), adu_ne _ (by omega)]; exact k_b5
      have hmd : Md ob = some (.inl nE, [.ref b1, .ref b2, .ref b3, .ref a4, .int (nI (0)), .int (nI (0)), .int (nI (0)), .int (nI (0)), .ref b5, .ref a6, .ref dk]) := by rw [eMd, jj_up_ne _ _ (Ne.symm nbo)]; exact hmc
      have had : Md b5 = some (.inr 3, (List.range 512).map (fun l => if l < i + 1 then Value.ref ((adu (adu ad9 (2 * (35 + i)) a) (2 * (35 + i) + 1) bb) (2 * (35 + l))) else .null)) := by
        rw [eMd, jj_up_at]
        refine congrArg some (congrArg (Prod.mk _) (range_set ?_ (fun y hy1 hy => ?_)))
        · (try dsimp only); rw [if_pos (by omega), e3]
        · (try dsimp only)
          by_cases c1 : y < i
          · rw [if_pos c1, if_pos (by omega), e1 y c1]
          · rw [if_neg c1, if_neg (by omega)]
      have cpx : capx (35 + i) = 64 := by
        unfold capx
        (repeat' split) <;> omega
      have vpx : vx (35 + i) = 0 := by unfold vx; rw [if_neg (by omega)]
      have Lz := (L9.whole (p := 35 + i) hn cpx vpx).put (M' := Md) (ko := 6252) (Or.inl (Or.inl (Or.inl (Or.inl (Or.inr (Or.inr ⟨by omega, by omega⟩)))))) (by omega) (fun y hy => by rw [eMd, jj_up_ne _ _ (by rw [← e5]; exact hy)]) (by rw [e5, had]; exact fun e => (by cases e))
      have ne_b1 : b1 ≠ b5 := fun h => by
        have := L9.1.2 6249 6252 (Or.inl (Or.inl (Or.inr (Or.inr ⟨by omega, by omega⟩)))) (Or.inl (Or.inl (Or.inr (Or.inr ⟨by omega, by omega⟩)))) (by rw [k_b1, k_b5]; exact h)
        omega
      have hx_b1 : Md b1 = some (.inr 3, (List.range 16).map (fun i => Value.ref (adB (2 * (17 + i))))) := by rw [eMd, jj_up_ne _ _ ne_b1, hn.kept (by rw [he_b1]; exact fun e => (by cases e))]; exact he_b1
      have ne_b2 : b2 ≠ b5 := fun h => by
        have := L9.1.2 6250 6252 (Or.inl (Or.inl (Or.inr (Or.inr ⟨by omega, by omega⟩)))) (Or.inl (Or.inl (Or.inr (Or.inr ⟨by omega, by omega⟩)))) (by rw [k_b2, k_b5]; exact h)
        omega
      have hx_b2 : Md b2 = some (.inr 0, (List.replicate 16 (0 : Int32)).map .int) := by rw [eMd, jj_up_ne _ _ ne_b2, hn.kept (by rw [he_b2]; exact fun e => (by cases e))]; exact he_b2
      have ne_b3 : b3 ≠ b5 := fun h => by
        have := L9.1.2 6251 6252 (Or.inl (Or.inl (Or.inr (Or.inr ⟨by omega, by omega⟩)))) (Or.inl (Or.inl (Or.inr (Or.inr ⟨by omega, by omega⟩)))) (by rw [k_b3, k_b5]; exact h)
        omega
      have hx_b3 : Md b3 = some (.inr 2, (List.replicate 32 (0 : Int32)).map .int) := by rw [eMd, jj_up_ne _ _ ne_b3, hn.kept (by rw [he_b3]; exact fun e => (by cases e))]; exact he_b3
      show jj G kE_init (d + 2) Q (rc9 - 1 - 1) (rs9 - 3 - 64) 123 [some (.ref ob), some (.ref dk), some (.int (nI (i)))] [] Md
      refine jn_iinc (pc := 123) (i + 1) kE_init_d123 rfl (nI_1 _) ?_
      refine jj_goto (pc := 126) (tgt := 101) kE_init_d126 (by decide) ?_
      show jj G kE_init (d + 2) Q (rc9 - 1 - 1) (rs9 - 3 - 64) 101 [some (.ref ob), some (.ref dk), some (.int (nI (i + 1)))] [] Md
      refine ih (i + 1) (by omega) Md (adu (adu ad9 (2 * (35 + i)) a) (2 * (35 + i) + 1) bb) _ _ hmd had hx_b1 hx_b2 hx_b3 (Lz.weak (fun k hk => ?_)) (fun k hk => ?_) (fun y h1 h2 => ?_) (by omega) (by omega)
      · rcases hk with h | h
        · exact Or.inl (Or.inl (Or.inl h))
        · by_cases c1 : k < 2 * (35 + i)
          · exact Or.inl (Or.inl (Or.inr ⟨h.1, c1⟩))
          · by_cases c2 : k = 2 * (35 + i)
            · exact Or.inl (Or.inr c2)
            · exact Or.inr (by omega)
      · have hk2 : k < 70 ∨ 1094 ≤ k := by
          rcases hk with (h | h | h) | h
          · have := hd k h; omega
          · omega
          · omega
          · omega
        rw [adu_ne _ (by omega), adu_ne _ (by omega)]; exact g9 k hk
      · have h3 := f9 y h1 h2
        have h4 : y ≠ b5 := fun e => h2 (by rw [e]; exact mb5)
        exact (show Md y = M9 y by rw [eMd, jj_up_ne _ _ h4, hn.kept (by rw [h3]; exact h2)]).trans h3
  have loop1 : ∀ mu i, 16 = i + mu → ∀ (M9 : mheap) (ad9 : Nat → Nat) (rc9 rs9 : Nat), M9 ob = some (.inl nE, [.ref b1, .ref b2, .ref b3, .ref a4, .int (nI (0)), .int (nI (0)), .int (nI (0)), .int (nI (0)), .ref b5, .ref a6, .ref dk]) → M9 b1 = some (.inr 3, (List.range 16).map (fun l => if l < i then Value.ref (ad9 (2 * (17 + l))) else .null)) → M9 b2 = some (.inr 0, (List.replicate 16 (0 : Int32)).map .int) → M9 b3 = some (.inr 2, (List.replicate 32 (0 : Int32)).map .int) → M9 b5 = some (.inr 3, List.replicate 512 .null) → INI M9 ad9 (fun k => (fun k => D k ∨ (66 ≤ k ∧ k < 70) ∨ (6249 ≤ k ∧ k < 6253)) k ∨ (34 ≤ k ∧ k < 2 * (17 + i))) → (∀ k, (fun k => D k ∨ (66 ≤ k ∧ k < 70) ∨ (6249 ≤ k ∧ k < 6253)) k → ad9 k = ad7 k) → (∀ x, x ≠ ob → M x ≠ none → M9 x = M x) → rc ≤ rc9 + (8 + 2 * i) → rs ≤ rs9 + (771 + 128 * i) → jj G kE_init (d + 2) Q rc9 rs9 72 [some (.ref ob), some (.ref dk), some (.int (nI (i)))] [] M9 := by
    skip
    intro mu
    induction mu with
    | zero =>
      intro i hi6 M9 ad9 rc9 rs9 hm9 ha9 he_b2 he_b3 he_b5 L9 g9 f9 c9 s9
      have ei : i = 16 := by omega
      subst ei
      have k_b1 : ad9 6249 = b1 := (g9 _ (Or.inr (Or.inr ⟨by omega, by omega⟩))).trans x1_7
      have k_b2 : ad9 6250 = b2 := (g9 _ (Or.inr (Or.inr ⟨by omega, by omega⟩))).trans x2_7
      have k_b3 : ad9 6251 = b3 := (g9 _ (Or.inr (Or.inr ⟨by omega, by omega⟩))).trans x3_7
      have k_b5 : ad9 6252 = b5 := (g9 _ (Or.inr (Or.inr ⟨by omega, by omega⟩))).trans x5_7
      refine jj_iload_n (pc := 72) kE_init_d72 rfl ?_
      refine jn_bipush (pc := 73) 16 kE_init_d73 (by decide) ?_
      refine jn_icmp_ge (pc := 75) (tgt := 99) kE_init_d75 (by decide) (by omega) (by omega) (fun _ => ?_) (fun c => by exfalso; omega)
      refine jn_iconst (pc := 99) 0 kE_init_d99 (by decide) ?_
      refine jj_istore_n (pc := 100) kE_init_d100 (Nat.le_of_ble_eq_true rfl) ?_
      show jj G kE_init (d + 2) Q rc9 rs9 101 [some (.ref ob), some (.ref dk), some (.int (nI (0)))] [] M9
      show jj G kE_init (d + 2) Q rc9 rs9 101 [some (.ref ob), some (.ref dk), some (.int (nI (0)))] [] M9
      refine loop2 ad9 g9 512 0 (by omega) M9 ad9 rc9 rs9 hm9 ?_ ?_ he_b2 he_b3 (L9.weak (fun k hk => ?_)) (fun _ _ => rfl) f9 (by omega) (by omega)
      · rw [he_b5, rep_range (f := fun l => if l < 0 then Value.ref (ad9 (2 * (35 + l))) else .null) (fun l => if_neg (Nat.not_lt_zero l))]
      · rw [ha9]
        refine congrArg some (congrArg (Prod.mk _) (List.map_congr_left (fun l hl => ?_)))
        rw [if_pos (List.mem_range.mp hl)]
      · rcases hk with (h | h) | h
        · exact Or.inl h
        · exact Or.inr ⟨h.1, by omega⟩
        · omega
    | succ mu ih =>
      intro i hi6 M9 ad9 rc9 rs9 hm9 ha9 he_b2 he_b3 he_b5 L9 g9 f9 c9 s9
      have k_b1 : ad9 6249 = b1 := (g9 _ (Or.inr (Or.inr ⟨by omega, by omega⟩))).trans x1_7
      have k_b2 : ad9 6250 = b2 := (g9 _ (Or.inr (Or.inr ⟨by omega, by omega⟩))).trans x2_7
      have k_b3 : ad9 6251 = b3 := (g9 _ (Or.inr (Or.inr ⟨by omega, by omega⟩))).trans x3_7
      have k_b5 : ad9 6252 = b5 := (g9 _ (Or.inr (Or.inr ⟨by omega, by omega⟩))).trans x5_7
      have nbo : b1 ≠ ob := fun e => by rw [e, hm9] at ha9; cases ha9
      refine jj_iload_n (pc := 72) kE_init_d72 rfl ?_
      refine jn_bipush (pc := 73) 16 kE_init_d73 (by decide) ?_
      refine jn_icmp_ge (pc := 75) (tgt := 99) kE_init_d75 (by decide) (by omega) (by omega) (fun c => by exfalso; omega) (fun _ => ?_)
      refine jj_aload_n (pc := 78) kE_init_d78 rfl ?_
      refine jj_getf (pc := 79) kE_init_d79 (kfE_rowFactors hG) hm9 rfl ?_
      refine jj_iload_n (pc := 82) kE_init_d82 rfl ?_
      refine jj_new (pc := 83) kE_init_d83 (knE_W hG) (by omega) (show 3 ≤ _ by omega) (fun a ha => ?_)
      refine jj_dup (pc := 86) kE_init_d86 rfl ?_
      refine jn_bipush (pc := 87) 125 kE_init_d87 (by decide) ?_
      refine jj_callI (pc := 89) (b := a) (As := [.int (nI (125))]) kE_init_d89 (kvE_W_init hG) rfl rfl rfl (Nat.le_of_ble_eq_true rfl) (Nat.le_of_ble_eq_true rfl) (jj_bare0 rfl) ?_
      refine w_init hG (jj_up_at _ _ _) (by omega) (by omega) (show _ ≤ _ - 3 by omega) (fun bb hbb => ?_)
      have hn := NWH.mk (c := 125) ha hbb
      refine jn_gen (fun Mc eMc => ?_)
      rw [← eMc] at hn
      show jj G kE_init (d + 2) Q (rc9 - 1 - 1) (rs9 - 3 - 125) 92 [some (.ref ob), some (.ref dk), some (.int (nI (i)))] [.ref a, .int (nI (i)), .ref b1] Mc
      have hac := (hn.kept (x := b1) (by rw [ha9]; exact fun e => (by cases e))).trans ha9
      have hmc := (hn.kept (x := ob) (by rw [hm9]; exact fun e => (by cases e))).trans hm9
      refine jj_aast (pc := 92) (i := i) kE_init_d92 (kG_cl hG rfl) (kG_t hG rfl) hac hn.2.2.2.1 rfl (by rw [List.length_map, List.length_range]; decide) (by rw [List.length_map, List.length_range]; omega) ?_
      refine jn_gen (fun Md eMd => ?_)
      have e1 : ∀ l, l < i → (adu (adu ad9 (2 * (17 + i)) a) (2 * (17 + i) + 1) bb) (2 * (17 + l)) = ad9 (2 * (17 + l)) := fun l hl => by rw [adu_ne _ (by omega), adu_ne _ (by omega)]
      have e3 : (adu (adu ad9 (2 * (17 + i)) a) (2 * (17 + i) + 1) bb) (2 * (17 + i)) = a := by rw [adu_ne _ (by omega), adu_at]
      have e5 : (adu (adu ad9 (2 * (17 + i)) a) (2 * (17 + i) + 1) bb) 6249 = b1 := by rw [adu_ne _ (by omega), adu_ne _ (by omega)]; exact k_b1
      have hmd : Md ob = some (.inl nE, [.ref b1, .ref b2, .ref b3, .ref a4, .int (nI (0)), .int (nI (0)), .int (nI (0)), .int (nI (0)), .ref b5, .ref a6, .ref dk]) := by rw [eMd, jj_up_ne _ _ (Ne.symm nbo)]; exact hmc
      have had : Md b1 = some (.inr 3, (List.range 16).map (fun l => if l < i + 1 then Value.ref ((adu (adu ad9 (2 * (17 + i)) a) (2 * (17 + i) + 1) bb) (2 * (17 + l))) else .null)) := by
        rw [eMd, jj_up_at]
        refine congrArg some (congrArg (Prod.mk _) (range_set ?_ (fun y hy1 hy => ?_)))
        · (try dsimp only); rw [if_pos (by omega), e3]
        · (try dsimp only)
          by_cases c1 : y < i
          · rw [if_pos c1, if_pos (by omega), e1 y c1]
          · rw [if_neg c1, if_neg (by omega)]
      have cpx : capx (17 + i) = 125 := by
        unfold capx
        (repeat' split) <;> omega
      have vpx : vx (17 + i) = 0 := by unfold vx; rw [if_neg (by omega)]
      have Lz := (L9.whole (p := 17 + i) hn cpx vpx).put (M' := Md) (ko := 6249) (Or.inl (Or.inl (Or.inl (Or.inr (Or.inr ⟨by omega, by omega⟩))))) (by omega) (fun y hy => by rw [eMd, jj_up_ne _ _ (by rw [← e5]; exact hy)]) (by rw [e5, had]; exact fun e => (by cases e))
      have ne_b2 : b2 ≠ b1 := fun h => by
        have := L9.1.2 6250 6249 (Or.inl (Or.inr (Or.inr ⟨by omega, by omega⟩))) (Or.inl (Or.inr (Or.inr ⟨by omega, by omega⟩))) (by rw [k_b2, k_b1]; exact h)
        omega
      have hx_b2 : Md b2 = some (.inr 0, (List.replicate 16 (0 : Int32)).map .int) := by rw [eMd, jj_up_ne _ _ ne_b2, hn.kept (by rw [he_b2]; exact fun e => (by cases e))]; exact he_b2
      have ne_b3 : b3 ≠ b1 := fun h => by
        have := L9.1.2 6251 6249 (Or.inl (Or.inr (Or.inr ⟨by omega, by omega⟩))) (Or.inl (Or.inr (Or.inr ⟨by omega, by omega⟩))) (by rw [k_b3, k_b1]; exact h)
        omega
      have hx_b3 : Md b3 = some (.inr 2, (List.replicate 32 (0 : Int32)).map .int) := by rw [eMd, jj_up_ne _ _ ne_b3, hn.kept (by rw [he_b3]; exact fun e => (by cases e))]; exact he_b3
      have ne_b5 : b5 ≠ b1 := fun h => by
        have := L9.1.2 6252 6249 (Or.inl (Or.inr (Or.inr ⟨by omega, by omega⟩))) (Or.inl (Or.inr (Or.inr ⟨by omega, by omega⟩))) (by rw [k_b5, k_b1]; exact h)
        omega
      have hx_b5 : Md b5 = some (.inr 3, List.replicate 512 .null) := by rw [eMd, jj_up_ne _ _ ne_b5, hn.kept (by rw [he_b5]; exact fun e => (by cases e))]; exact he_b5
      show jj G kE_init (d + 2) Q (rc9 - 1 - 1) (rs9 - 3 - 125) 93 [some (.ref ob), some (.ref dk), some (.int (nI (i)))] [] Md
      refine jn_iinc (pc := 93) (i + 1) kE_init_d93 rfl (nI_1 _) ?_
      refine jj_goto (pc := 96) (tgt := 72) kE_init_d96 (by decide) ?_
      show jj G kE_init (d + 2) Q (rc9 - 1 - 1) (rs9 - 3 - 125) 72 [some (.ref ob), some (.ref dk), some (.int (nI (i + 1)))] [] Md
      refine ih (i + 1) (by omega) Md (adu (adu ad9 (2 * (17 + i)) a) (2 * (17 + i) + 1) bb) _ _ hmd had hx_b2 hx_b3 hx_b5 (Lz.weak (fun k hk => ?_)) (fun k hk => ?_) (fun y h1 h2 => ?_) (by omega) (by omega)
      · rcases hk with h | h
        · exact Or.inl (Or.inl (Or.inl h))
        · by_cases c1 : k < 2 * (17 + i)
          · exact Or.inl (Or.inl (Or.inr ⟨h.1, c1⟩))
          · by_cases c2 : k = 2 * (17 + i)
            · exact Or.inl (Or.inr c2)
            · exact Or.inr (by omega)
      · have hk2 : k < 34 ∨ 66 ≤ k := by
          rcases hk with h | h | h
          · have := hd k h; omega
          · omega
          · omega
        rw [adu_ne _ (by omega), adu_ne _ (by omega)]; exact g9 k hk
      · have h3 := f9 y h1 h2
        have h4 : y ≠ b1 := fun e => h2 (by rw [e]; exact mb1)
        exact (show Md y = M9 y by rw [eMd, jj_up_ne _ _ h4, hn.kept (by rw [h3]; exact h2)]).trans h3
  refine loop1 16 0 (by omega) M119 ad7 rcq rsq h121 ?_ hy2_7 hy3_7 hy5_7 (Jw.weak (fun k hk => by rcases hk with h | h; exact h; omega)) (fun _ _ => rfl) f7 (by omega) (by omega)
  rw [hy1_7, rep_range (f := fun l => if l < 0 then Value.ref (ad7 (2 * (17 + l))) else .null) (fun l => if_neg (Nat.not_lt_zero l))]
end I6
