/-! ===== Residues: the constructor (printed by wip/gen/rI5.py) ===== -/
section I5
variable {G : jg} {d : Nat} {Q : jq} {rc rs : Nat} {M : mheap} {ad : Nat → Nat} {D : Nat → Prop}
theorem s_init {ob ko dk : Nat} (hG : kG G) (hob : M ob = some (.inl nS, [.int (nI (0)), .int (nI (0)), .int (nI (0)), .int (nI (0)), .null, .null, .null, .null, .null, .null, .null, .null])) (hJ : INI M ad D) (eo : ad ko = ob) (dko : D ko) (k6 : 6244 ≤ ko) (hd : ∀ k, D k → (k < 1094 ∨ 1618 ≤ k) ∧ k ≠ 6254) (hrc : 525 ≤ rc) (hrs : 18750 ≤ rs) (k : ∀ (M' : mheap) (ad' : Nat → Nat) (rc' rs' : Nat), INI M' ad' (fun k => D k ∨ ((1094 ≤ k ∧ k < 1618) ∨ k = 6254)) → (∀ k, D k → ad' k = ad k) → M' ob = some (.inl nS, [.int (nI 0), .int (nI 0), .int (nI 16), .int (nI 1), .ref (ad' 6254), .ref (ad' 1094), .ref (ad' 1096), .ref (ad' 1098), .ref (ad' 1100), .ref (ad' 1102), .ref (ad' 1104), .ref dk]) → M' (ad' 6254) = some (.inr 3, (List.range 256).map (fun i => Value.ref (ad' (2 * (553 + i))))) → (∀ x, x ≠ ob → M x ≠ none → M' x = M x) → rc ≤ rc' + 525 → rs ≤ rs' + 18750 → Q (.returned none) M' rc' rs') : jj G kS_init (d + 2) Q rc rs 0 (jj_ent [.ref ob, .ref dk] 3) [] M := by
  show jj G kS_init (d + 2) Q rc rs 0 [some (.ref ob), some (.ref dk), none] [] M
  refine jj_aload_n (pc := 0) kS_init_d0 rfl ?_
  refine jj_objInit (pc := 1) kS_init_d1 (koS_obj hG) (ko_inst hG) (ko_code hG) rfl (Nat.le_of_ble_eq_true rfl) ?_
  show jj G kS_init (d + 2) Q rc rs 4 [some (.ref ob), some (.ref dk), none] [] M
  have J0 := hJ
  obtain ⟨ad0, ea0⟩ : ∃ f, ad = f := ⟨_, rfl⟩
  rw [ea0] at J0 eo
  have g0 : ∀ k, D k → ad0 k = ad k := fun k _ => by rw [ea0]
  have f0 : ∀ x, x ≠ ob → M x ≠ none → M x = M x := fun _ _ _ => rfl
  have o0 : ad0 ko = ob := eo
  have u0 : ad0 ko = ob := o0
  refine jj_aload_n (pc := 4) kS_init_d4 rfl ?_
  refine jn_bipush (pc := 5) 16 kS_init_d5 (by decide) ?_
  refine jj_putf (pc := 7) kS_init_d7 (kpS_lineStep hG) hob (by rfl) rfl ?_
  refine jn_gen (fun M101 hM102 => ?_)
  have h103 : M101 ob = some (.inl nS, [.int (nI (0)), .int (nI (0)), .int (nI (16)), .int (nI (0)), .null, .null, .null, .null, .null, .null, .null, .null]) := by rw [hM102]; exact jj_up_at _ _ _
  have Jn1 := J0.put (M' := M101) (ko := ko) (by exact dko) k6 (fun x hx => by rw [hM102, jj_up_ne _ _ (by rw [← o0]; exact hx)]) (by rw [o0, h103]; exact fun e => (by cases e))
  obtain ⟨ad1, ea1⟩ : ∃ f, ad0 = f := ⟨_, rfl⟩
  have J1 := Jn1
  rw [ea1] at J1
  have g1 : ∀ k, D k → ad1 k = ad k := fun k hk => by rw [← ea1]; exact g0 k hk
  have o1 : ad1 ko = ob := by rw [← ea1]; exact o0
  have f1 : ∀ x, x ≠ ob → M x ≠ none → M101 x = M x := fun x h1 h2 => (show M101 x = M x by rw [hM102, jj_up_ne _ _ h1]).trans (f0 x h1 h2)
  refine jj_aload_n (pc := 10) kS_init_d10 rfl ?_
  refine jn_iconst (pc := 11) 1 kS_init_d11 (by decide) ?_
  refine jj_putf (pc := 12) kS_init_d12 (kpS_placeStep hG) h103 (by rfl) rfl ?_
  refine jn_gen (fun M104 hM105 => ?_)
  have h106 : M104 ob = some (.inl nS, [.int (nI (0)), .int (nI (0)), .int (nI (16)), .int (nI (1)), .null, .null, .null, .null, .null, .null, .null, .null]) := by rw [hM105]; exact jj_up_at _ _ _
  have Jn2 := J1.put (M' := M104) (ko := ko) (by exact dko) k6 (fun x hx => by rw [hM105, jj_up_ne _ _ (by rw [← o1]; exact hx)]) (by rw [o1, h106]; exact fun e => (by cases e))
  obtain ⟨ad2, ea2⟩ : ∃ f, ad1 = f := ⟨_, rfl⟩
  have J2 := Jn2
  rw [ea2] at J2
  have g2 : ∀ k, D k → ad2 k = ad k := fun k hk => by rw [← ea2]; exact g1 k hk
  have o2 : ad2 ko = ob := by rw [← ea2]; exact o1
  have f2 : ∀ x, x ≠ ob → M x ≠ none → M104 x = M x := fun x h1 h2 => (show M104 x = M101 x by rw [hM105, jj_up_ne _ _ h1]).trans (f1 x h1 h2)
  refine jj_aload_n (pc := 15) kS_init_d15 rfl ?_
  refine jn_sipush (pc := 16) 256 kS_init_d16 (by decide) ?_
  refine jj_anew (pc := 19) (j := 3) (n := 256) kS_init_d19 (kG_t hG rfl) (knS_arrW hG).1 (knS_arrW hG).2 rfl (by decide) (by omega) (by omega) (fun b3 hb3 => ?_)
  refine jn_gen (fun Mn3 eMn3 => ?_)
  have nb3 : b3 ≠ ob := fun e => by rw [e, h106] at hb3; cases hb3
  have hq3 := (show Mn3 ob = M104 ob by rw [eMn3, jj_up_ne _ _ (Ne.symm nb3)]).trans h106
  have hz3 : Mn3 b3 = some (.inr 3, List.replicate 256 .null) := by rw [eMn3, jj_up_at]
  have kp3 : ∀ x, M104 x ≠ none → Mn3 x = M104 x := fun x hx => by rw [eMn3, jj_up_ne _ _ (fun e => hx (by rw [e]; exact hb3))]
  have Jn3 := J2.new (M' := Mn3) (ko := 6254) hb3 (by omega) (fun x hx => by rw [eMn3, jj_up_ne _ _ hx]) (by rw [hz3]; exact fun e => (by cases e))
  obtain ⟨ad3, ea3⟩ : ∃ f, adu ad2 (6254) b3 = f := ⟨_, rfl⟩
  rw [ea3] at Jn3
  have g3 : ∀ k, D k → ad3 k = ad k := fun k hk => by
    have := hd k hk
    rw [← ea3, adu_ne _ (by omega)]; exact g2 k hk
  have x3 : ad3 (6254) = b3 := by rw [← ea3, adu_at]
  have o3 : ad3 ko = ob := by
    rw [g3 ko dko, ea0]; exact o0
  show jj G kS_init (d + 2) Q (rc - 1) (rs - 256) 22 [some (.ref ob), some (.ref dk), none] [.ref b3, .ref ob] Mn3
  refine jj_putF (pc := 22) kS_init_d22 (kpS_cells hG) rfl hq3 (by rfl) rfl ?_
  refine jn_gen (fun M107 hM108 => ?_)
  have h109 : M107 ob = some (.inl nS, [.int (nI (0)), .int (nI (0)), .int (nI (16)), .int (nI (1)), .ref b3, .null, .null, .null, .null, .null, .null, .null]) := by rw [hM108]; exact jj_up_at _ _ _
  have J3 := Jn3.put (M' := M107) (ko := ko) (by refine Or.inl ?_; exact dko) k6 (fun x hx => by rw [hM108, jj_up_ne _ _ (by rw [← o3]; exact hx)]) (by rw [o3, h109]; exact fun e => (by cases e))
  have f3 : ∀ x, x ≠ ob → M x ≠ none → M107 x = M x := fun x h1 h2 => by
    have h3 := f2 x h1 h2
    exact (show M107 x = M104 x by rw [hM108, jj_up_ne _ _ h1, kp3 x (by rw [h3]; exact h2)]).trans h3
  have hy3 : M107 b3 = some (.inr 3, List.replicate 256 .null) := by rw [hM108, jj_up_ne _ _ nb3]; exact hz3
  refine jj_aload_n (pc := 25) kS_init_d25 rfl ?_
  refine jj_new (pc := 26) kS_init_d26 (knS_W hG) (by omega) (show 3 ≤ _ by omega) (fun a4 ha4 => ?_)
  refine jj_dup (pc := 29) kS_init_d29 rfl ?_
  refine jn_bipush (pc := 30) 64 kS_init_d30 (by decide) ?_
  refine jj_callI (pc := 32) (b := a4) (As := [.int (nI (64))]) kS_init_d32 (kvS_W_init hG) rfl rfl rfl (Nat.le_of_ble_eq_true rfl) (Nat.le_of_ble_eq_true rfl) (jj_bare0 rfl) ?_
  refine w_init hG (jj_up_at _ _ _) (by omega) (by omega) (show _ ≤ _ - 3 by omega) (fun b4 hb4 => ?_)
  have hn4 := NWH.mk (c := 64) ha4 hb4
  refine jn_gen (fun Mn4 eMn4 => ?_)
  rw [← eMn4] at hn4
  show jj G kS_init (d + 2) Q ((rc - 1) - 1 - 1) ((rs - 256) - 3 - 64) 35 [some (.ref ob), some (.ref dk), none] [.ref a4, .ref ob] Mn4
  have hq4 := (hn4.kept (x := ob) (by rw [h109]; exact fun e => (by cases e))).trans h109
  have Jn4 := J3.whole (p := 547) hn4 (by first | rfl | decide) (by first | rfl | decide)
  obtain ⟨ad4, ea4⟩ : ∃ f, adu (adu ad3 (2 * (547)) a4) (2 * (547) + 1) b4 = f := ⟨_, rfl⟩
  rw [ea4] at Jn4
  have g4 : ∀ k, D k → ad4 k = ad k := fun k hk => by
    have := hd k hk
    rw [← ea4, adu_ne _ (by omega), adu_ne _ (by omega)]; exact g3 k hk
  have x4 : ad4 (2 * (547)) = a4 := by rw [← ea4, adu_ne _ (by omega), adu_at]
  have o4 : ad4 ko = ob := by
    rw [g4 ko dko, ea0]; exact o0
  have x3_4 : ad4 (6254) = b3 := (show ad4 (6254) = ad3 (6254) by rw [← ea4, adu_ne _ (by omega), adu_ne _ (by omega)]).trans x3
  show jj G kS_init (d + 2) Q ((rc - 1) - 1 - 1) ((rs - 256) - 3 - 64) 35 [some (.ref ob), some (.ref dk), none] [.ref a4, .ref ob] Mn4
  refine jj_putF (pc := 35) kS_init_d35 (kpS_modulus hG) rfl hq4 (by rfl) rfl ?_
  refine jn_gen (fun M110 hM111 => ?_)
  have h112 : M110 ob = some (.inl nS, [.int (nI (0)), .int (nI (0)), .int (nI (16)), .int (nI (1)), .ref b3, .ref a4, .null, .null, .null, .null, .null, .null]) := by rw [hM111]; exact jj_up_at _ _ _
  have J4 := Jn4.put (M' := M110) (ko := ko) (by refine Or.inl ?_; refine Or.inl ?_; refine Or.inl ?_; exact dko) k6 (fun x hx => by rw [hM111, jj_up_ne _ _ (by rw [← o4]; exact hx)]) (by rw [o4, h112]; exact fun e => (by cases e))
  have f4 : ∀ x, x ≠ ob → M x ≠ none → M110 x = M x := fun x h1 h2 => by
    have h3 := f3 x h1 h2
    exact (show M110 x = M107 x by rw [hM111, jj_up_ne _ _ h1, hn4.kept (by rw [h3]; exact h2)]).trans h3
  have hy3_4 : M110 b3 = some (.inr 3, List.replicate 256 .null) := by rw [hM111, jj_up_ne _ _ nb3, hn4.kept (by rw [hy3]; exact fun e => (by cases e))]; exact hy3
  refine jj_aload_n (pc := 38) kS_init_d38 rfl ?_
  refine jj_new (pc := 39) kS_init_d39 (knS_W hG) (by omega) (show 3 ≤ _ by omega) (fun a5 ha5 => ?_)
  refine jj_dup (pc := 42) kS_init_d42 rfl ?_
  refine jn_sipush (pc := 43) 252 kS_init_d43 (by decide) ?_
  refine jj_callI (pc := 46) (b := a5) (As := [.int (nI (252))]) kS_init_d46 (kvS_W_init hG) rfl rfl rfl (Nat.le_of_ble_eq_true rfl) (Nat.le_of_ble_eq_true rfl) (jj_bare0 rfl) ?_
  refine w_init hG (jj_up_at _ _ _) (by omega) (by omega) (show _ ≤ _ - 3 by omega) (fun b5 hb5 => ?_)
  have hn5 := NWH.mk (c := 252) ha5 hb5
  refine jn_gen (fun Mn5 eMn5 => ?_)
  rw [← eMn5] at hn5
  show jj G kS_init (d + 2) Q (((rc - 1) - 1 - 1) - 1 - 1) (((rs - 256) - 3 - 64) - 3 - 252) 49 [some (.ref ob), some (.ref dk), none] [.ref a5, .ref ob] Mn5
  have hq5 := (hn5.kept (x := ob) (by rw [h112]; exact fun e => (by cases e))).trans h112
  have Jn5 := J4.whole (p := 548) hn5 (by first | rfl | decide) (by first | rfl | decide)
  obtain ⟨ad5, ea5⟩ : ∃ f, adu (adu ad4 (2 * (548)) a5) (2 * (548) + 1) b5 = f := ⟨_, rfl⟩
  rw [ea5] at Jn5
  have g5 : ∀ k, D k → ad5 k = ad k := fun k hk => by
    have := hd k hk
    rw [← ea5, adu_ne _ (by omega), adu_ne _ (by omega)]; exact g4 k hk
  have x5 : ad5 (2 * (548)) = a5 := by rw [← ea5, adu_ne _ (by omega), adu_at]
  have o5 : ad5 ko = ob := by
    rw [g5 ko dko, ea0]; exact o0
  have x3_5 : ad5 (6254) = b3 := (show ad5 (6254) = ad4 (6254) by rw [← ea5, adu_ne _ (by omega), adu_ne _ (by omega)]).trans x3_4
  have x4_5 : ad5 (2 * (547)) = a4 := (show ad5 (2 * (547)) = ad4 (2 * (547)) by rw [← ea5, adu_ne _ (by omega), adu_ne _ (by omega)]).trans x4
  show jj G kS_init (d + 2) Q (((rc - 1) - 1 - 1) - 1 - 1) (((rs - 256) - 3 - 64) - 3 - 252) 49 [some (.ref ob), some (.ref dk), none] [.ref a5, .ref ob] Mn5
  refine jj_putF (pc := 49) kS_init_d49 (kpS_firstFactor hG) rfl hq5 (by rfl) rfl ?_
  refine jn_gen (fun M113 hM114 => ?_)
  have h115 : M113 ob = some (.inl nS, [.int (nI (0)), .int (nI (0)), .int (nI (16)), .int (nI (1)), .ref b3, .ref a4, .ref a5, .null, .null, .null, .null, .null]) := by rw [hM114]; exact jj_up_at _ _ _
  have J5 := Jn5.put (M' := M113) (ko := ko) (by refine Or.inl ?_; refine Or.inl ?_; refine Or.inl ?_; refine Or.inl ?_; refine Or.inl ?_; exact dko) k6 (fun x hx => by rw [hM114, jj_up_ne _ _ (by rw [← o5]; exact hx)]) (by rw [o5, h115]; exact fun e => (by cases e))
  have f5 : ∀ x, x ≠ ob → M x ≠ none → M113 x = M x := fun x h1 h2 => by
    have h3 := f4 x h1 h2
    exact (show M113 x = M110 x by rw [hM114, jj_up_ne _ _ h1, hn5.kept (by rw [h3]; exact h2)]).trans h3
  have hy3_5 : M113 b3 = some (.inr 3, List.replicate 256 .null) := by rw [hM114, jj_up_ne _ _ nb3, hn5.kept (by rw [hy3_4]; exact fun e => (by cases e))]; exact hy3_4
  refine jj_aload_n (pc := 52) kS_init_d52 rfl ?_
  refine jj_new (pc := 53) kS_init_d53 (knS_W hG) (by omega) (show 3 ≤ _ by omega) (fun a6 ha6 => ?_)
  refine jj_dup (pc := 56) kS_init_d56 rfl ?_
  refine jn_sipush (pc := 57) 252 kS_init_d57 (by decide) ?_
  refine jj_callI (pc := 60) (b := a6) (As := [.int (nI (252))]) kS_init_d60 (kvS_W_init hG) rfl rfl rfl (Nat.le_of_ble_eq_true rfl) (Nat.le_of_ble_eq_true rfl) (jj_bare0 rfl) ?_
  refine w_init hG (jj_up_at _ _ _) (by omega) (by omega) (show _ ≤ _ - 3 by omega) (fun b6 hb6 => ?_)
  have hn6 := NWH.mk (c := 252) ha6 hb6
  refine jn_gen (fun Mn6 eMn6 => ?_)
  rw [← eMn6] at hn6
  show jj G kS_init (d + 2) Q ((((rc - 1) - 1 - 1) - 1 - 1) - 1 - 1) ((((rs - 256) - 3 - 64) - 3 - 252) - 3 - 252) 63 [some (.ref ob), some (.ref dk), none] [.ref a6, .ref ob] Mn6
  have hq6 := (hn6.kept (x := ob) (by rw [h115]; exact fun e => (by cases e))).trans h115
  have Jn6 := J5.whole (p := 549) hn6 (by first | rfl | decide) (by first | rfl | decide)
  obtain ⟨ad6, ea6⟩ : ∃ f, adu (adu ad5 (2 * (549)) a6) (2 * (549) + 1) b6 = f := ⟨_, rfl⟩
  rw [ea6] at Jn6
  have g6 : ∀ k, D k → ad6 k = ad k := fun k hk => by
    have := hd k hk
    rw [← ea6, adu_ne _ (by omega), adu_ne _ (by omega)]; exact g5 k hk
  have x6 : ad6 (2 * (549)) = a6 := by rw [← ea6, adu_ne _ (by omega), adu_at]
  have o6 : ad6 ko = ob := by
    rw [g6 ko dko, ea0]; exact o0
  have x3_6 : ad6 (6254) = b3 := (show ad6 (6254) = ad5 (6254) by rw [← ea6, adu_ne _ (by omega), adu_ne _ (by omega)]).trans x3_5
  have x4_6 : ad6 (2 * (547)) = a4 := (show ad6 (2 * (547)) = ad5 (2 * (547)) by rw [← ea6, adu_ne _ (by omega), adu_ne _ (by omega)]).trans x4_5
  have x5_6 : ad6 (2 * (548)) = a5 := (show ad6 (2 * (548)) = ad5 (2 * (548)) by rw [← ea6, adu_ne _ (by omega), adu_ne _ (by omega)]).trans x5
  show jj G kS_init (d + 2) Q ((((rc - 1) - 1 - 1) - 1 - 1) - 1 - 1) ((((rs - 256) - 3 - 64) - 3 - 252) - 3 - 252) 63 [some (.ref ob), some (.ref dk), none] [.ref a6, .ref ob] Mn6
  refine jj_putF (pc := 63) kS_init_d63 (kpS_secondFactor hG) rfl hq6 (by rfl) rfl ?_
  refine jn_gen (fun M116 hM117 => ?_)
  have h118 : M116 ob = some (.inl nS, [.int (nI (0)), .int (nI (0)), .int (nI (16)), .int (nI (1)), .ref b3, .ref a4, .ref a5, .ref a6, .null, .null, .null, .null]) := by rw [hM117]; exact jj_up_at _ _ _
  have J6 := Jn6.put (M' := M116) (ko := ko) (by refine Or.inl ?_; refine Or.inl ?_; refine Or.inl ?_; refine Or.inl ?_; refine Or.inl ?_; refine Or.inl ?_; refine Or.inl ?_; exact dko) k6 (fun x hx => by rw [hM117, jj_up_ne _ _ (by rw [← o6]; exact hx)]) (by rw [o6, h118]; exact fun e => (by cases e))
  have f6 : ∀ x, x ≠ ob → M x ≠ none → M116 x = M x := fun x h1 h2 => by
    have h3 := f5 x h1 h2
    exact (show M116 x = M113 x by rw [hM117, jj_up_ne _ _ h1, hn6.kept (by rw [h3]; exact h2)]).trans h3
  have hy3_6 : M116 b3 = some (.inr 3, List.replicate 256 .null) := by rw [hM117, jj_up_ne _ _ nb3, hn6.kept (by rw [hy3_5]; exact fun e => (by cases e))]; exact hy3_5
  refine jj_aload_n (pc := 66) kS_init_d66 rfl ?_
  refine jj_new (pc := 67) kS_init_d67 (knS_W hG) (by omega) (show 3 ≤ _ by omega) (fun a7 ha7 => ?_)
  refine jj_dup (pc := 70) kS_init_d70 rfl ?_
  refine jn_sipush (pc := 71) 252 kS_init_d71 (by decide) ?_
  refine jj_callI (pc := 74) (b := a7) (As := [.int (nI (252))]) kS_init_d74 (kvS_W_init hG) rfl rfl rfl (Nat.le_of_ble_eq_true rfl) (Nat.le_of_ble_eq_true rfl) (jj_bare0 rfl) ?_
  refine w_init hG (jj_up_at _ _ _) (by omega) (by omega) (show _ ≤ _ - 3 by omega) (fun b7 hb7 => ?_)
  have hn7 := NWH.mk (c := 252) ha7 hb7
  refine jn_gen (fun Mn7 eMn7 => ?_)
  rw [← eMn7] at hn7
  show jj G kS_init (d + 2) Q (((((rc - 1) - 1 - 1) - 1 - 1) - 1 - 1) - 1 - 1) (((((rs - 256) - 3 - 64) - 3 - 252) - 3 - 252) - 3 - 252) 77 [some (.ref ob), some (.ref dk), none] [.ref a7, .ref ob] Mn7
  have hq7 := (hn7.kept (x := ob) (by rw [h118]; exact fun e => (by cases e))).trans h118
  have Jn7 := J6.whole (p := 550) hn7 (by first | rfl | decide) (by first | rfl | decide)
  obtain ⟨ad7, ea7⟩ : ∃ f, adu (adu ad6 (2 * (550)) a7) (2 * (550) + 1) b7 = f := ⟨_, rfl⟩
  rw [ea7] at Jn7
  have g7 : ∀ k, D k → ad7 k = ad k := fun k hk => by
    have := hd k hk
    rw [← ea7, adu_ne _ (by omega), adu_ne _ (by omega)]; exact g6 k hk
  have x7 : ad7 (2 * (550)) = a7 := by rw [← ea7, adu_ne _ (by omega), adu_at]
  have o7 : ad7 ko = ob := by
    rw [g7 ko dko, ea0]; exact o0
  have x3_7 : ad7 (6254) = b3 := (show ad7 (6254) = ad6 (6254) by rw [← ea7, adu_ne _ (by omega), adu_ne _ (by omega)]).trans x3_6
  have x4_7 : ad7 (2 * (547)) = a4 := (show ad7 (2 * (547)) = ad6 (2 * (547)) by rw [← ea7, adu_ne _ (by omega), adu_ne _ (by omega)]).trans x4_6
  have x5_7 : ad7 (2 * (548)) = a5 := (show ad7 (2 * (548)) = ad6 (2 * (548)) by rw [← ea7, adu_ne _ (by omega), adu_ne _ (by omega)]).trans x5_6
  have x6_7 : ad7 (2 * (549)) = a6 := (show ad7 (2 * (549)) = ad6 (2 * (549)) by rw [← ea7, adu_ne _ (by omega), adu_ne _ (by omega)]).trans x6
  show jj G kS_init (d + 2) Q (((((rc - 1) - 1 - 1) - 1 - 1) - 1 - 1) - 1 - 1) (((((rs - 256) - 3 - 64) - 3 - 252) - 3 - 252) - 3 - 252) 77 [some (.ref ob), some (.ref dk), none] [.ref a7, .ref ob] Mn7
  refine jj_putF (pc := 77) kS_init_d77 (kpS_firstRest hG) rfl hq7 (by rfl) rfl ?_
  refine jn_gen (fun M119 hM120 => ?_)
  have h121 : M119 ob = some (.inl nS, [.int (nI (0)), .int (nI (0)), .int (nI (16)), .int (nI (1)), .ref b3, .ref a4, .ref a5, .ref a6, .ref a7, .null, .null, .null]) := by rw [hM120]; exact jj_up_at _ _ _
  have J7 := Jn7.put (M' := M119) (ko := ko) (by refine Or.inl ?_; refine Or.inl ?_; refine Or.inl ?_; refine Or.inl ?_; refine Or.inl ?_; refine Or.inl ?_; refine Or.inl ?_; refine Or.inl ?_; refine Or.inl ?_; exact dko) k6 (fun x hx => by rw [hM120, jj_up_ne _ _ (by rw [← o7]; exact hx)]) (by rw [o7, h121]; exact fun e => (by cases e))
  have f7 : ∀ x, x ≠ ob → M x ≠ none → M119 x = M x := fun x h1 h2 => by
    have h3 := f6 x h1 h2
    exact (show M119 x = M116 x by rw [hM120, jj_up_ne _ _ h1, hn7.kept (by rw [h3]; exact h2)]).trans h3
  have hy3_7 : M119 b3 = some (.inr 3, List.replicate 256 .null) := by rw [hM120, jj_up_ne _ _ nb3, hn7.kept (by rw [hy3_6]; exact fun e => (by cases e))]; exact hy3_6
  refine jj_aload_n (pc := 80) kS_init_d80 rfl ?_
  refine jj_new (pc := 81) kS_init_d81 (knS_W hG) (by omega) (show 3 ≤ _ by omega) (fun a8 ha8 => ?_)
  refine jj_dup (pc := 84) kS_init_d84 rfl ?_
  refine jn_sipush (pc := 85) 252 kS_init_d85 (by decide) ?_
  refine jj_callI (pc := 88) (b := a8) (As := [.int (nI (252))]) kS_init_d88 (kvS_W_init hG) rfl rfl rfl (Nat.le_of_ble_eq_true rfl) (Nat.le_of_ble_eq_true rfl) (jj_bare0 rfl) ?_
  refine w_init hG (jj_up_at _ _ _) (by omega) (by omega) (show _ ≤ _ - 3 by omega) (fun b8 hb8 => ?_)
  have hn8 := NWH.mk (c := 252) ha8 hb8
  refine jn_gen (fun Mn8 eMn8 => ?_)
  rw [← eMn8] at hn8
  show jj G kS_init (d + 2) Q ((((((rc - 1) - 1 - 1) - 1 - 1) - 1 - 1) - 1 - 1) - 1 - 1) ((((((rs - 256) - 3 - 64) - 3 - 252) - 3 - 252) - 3 - 252) - 3 - 252) 91 [some (.ref ob), some (.ref dk), none] [.ref a8, .ref ob] Mn8
  have hq8 := (hn8.kept (x := ob) (by rw [h121]; exact fun e => (by cases e))).trans h121
  have Jn8 := J7.whole (p := 551) hn8 (by first | rfl | decide) (by first | rfl | decide)
  obtain ⟨ad8, ea8⟩ : ∃ f, adu (adu ad7 (2 * (551)) a8) (2 * (551) + 1) b8 = f := ⟨_, rfl⟩
  rw [ea8] at Jn8
  have g8 : ∀ k, D k → ad8 k = ad k := fun k hk => by
    have := hd k hk
    rw [← ea8, adu_ne _ (by omega), adu_ne _ (by omega)]; exact g7 k hk
  have x8 : ad8 (2 * (551)) = a8 := by rw [← ea8, adu_ne _ (by omega), adu_at]
  have o8 : ad8 ko = ob := by
    rw [g8 ko dko, ea0]; exact o0
  have x3_8 : ad8 (6254) = b3 := (show ad8 (6254) = ad7 (6254) by rw [← ea8, adu_ne _ (by omega), adu_ne _ (by omega)]).trans x3_7
  have x4_8 : ad8 (2 * (547)) = a4 := (show ad8 (2 * (547)) = ad7 (2 * (547)) by rw [← ea8, adu_ne _ (by omega), adu_ne _ (by omega)]).trans x4_7
  have x5_8 : ad8 (2 * (548)) = a5 := (show ad8 (2 * (548)) = ad7 (2 * (548)) by rw [← ea8, adu_ne _ (by omega), adu_ne _ (by omega)]).trans x5_7
  have x6_8 : ad8 (2 * (549)) = a6 := (show ad8 (2 * (549)) = ad7 (2 * (549)) by rw [← ea8, adu_ne _ (by omega), adu_ne _ (by omega)]).trans x6_7
  have x7_8 : ad8 (2 * (550)) = a7 := (show ad8 (2 * (550)) = ad7 (2 * (550)) by rw [← ea8, adu_ne _ (by omega), adu_ne _ (by omega)]).trans x7
  show jj G kS_init (d + 2) Q ((((((rc - 1) - 1 - 1) - 1 - 1) - 1 - 1) - 1 - 1) - 1 - 1) ((((((rs - 256) - 3 - 64) - 3 - 252) - 3 - 252) - 3 - 252) - 3 - 252) 91 [some (.ref ob), some (.ref dk), none] [.ref a8, .ref ob] Mn8
  refine jj_putF (pc := 91) kS_init_d91 (kpS_secondRest hG) rfl hq8 (by rfl) rfl ?_
  refine jn_gen (fun M122 hM123 => ?_)
  have h124 : M122 ob = some (.inl nS, [.int (nI (0)), .int (nI (0)), .int (nI (16)), .int (nI (1)), .ref b3, .ref a4, .ref a5, .ref a6, .ref a7, .ref a8, .null, .null]) := by rw [hM123]; exact jj_up_at _ _ _
  have J8 := Jn8.put (M' := M122) (ko := ko) (by refine Or.inl ?_; refine Or.inl ?_; refine Or.inl ?_; refine Or.inl ?_; refine Or.inl ?_; refine Or.inl ?_; refine Or.inl ?_; refine Or.inl ?_; refine Or.inl ?_; refine Or.inl ?_; refine Or.inl ?_; exact dko) k6 (fun x hx => by rw [hM123, jj_up_ne _ _ (by rw [← o8]; exact hx)]) (by rw [o8, h124]; exact fun e => (by cases e))
  have f8 : ∀ x, x ≠ ob → M x ≠ none → M122 x = M x := fun x h1 h2 => by
    have h3 := f7 x h1 h2
    exact (show M122 x = M119 x by rw [hM123, jj_up_ne _ _ h1, hn8.kept (by rw [h3]; exact h2)]).trans h3
  have hy3_8 : M122 b3 = some (.inr 3, List.replicate 256 .null) := by rw [hM123, jj_up_ne _ _ nb3, hn8.kept (by rw [hy3_7]; exact fun e => (by cases e))]; exact hy3_7
  refine jj_aload_n (pc := 94) kS_init_d94 rfl ?_
  refine jj_new (pc := 95) kS_init_d95 (knS_W hG) (by omega) (show 3 ≤ _ by omega) (fun a9 ha9 => ?_)
  refine jj_dup (pc := 98) kS_init_d98 rfl ?_
  refine jn_sipush (pc := 99) 252 kS_init_d99 (by decide) ?_
  refine jj_callI (pc := 102) (b := a9) (As := [.int (nI (252))]) kS_init_d102 (kvS_W_init hG) rfl rfl rfl (Nat.le_of_ble_eq_true rfl) (Nat.le_of_ble_eq_true rfl) (jj_bare0 rfl) ?_
  refine w_init hG (jj_up_at _ _ _) (by omega) (by omega) (show _ ≤ _ - 3 by omega) (fun b9 hb9 => ?_)
  have hn9 := NWH.mk (c := 252) ha9 hb9
  refine jn_gen (fun Mn9 eMn9 => ?_)
  rw [← eMn9] at hn9
  show jj G kS_init (d + 2) Q (((((((rc - 1) - 1 - 1) - 1 - 1) - 1 - 1) - 1 - 1) - 1 - 1) - 1 - 1) (((((((rs - 256) - 3 - 64) - 3 - 252) - 3 - 252) - 3 - 252) - 3 - 252) - 3 - 252) 105 [some (.ref ob), some (.ref dk), none] [.ref a9, .ref ob] Mn9
  have hq9 := (hn9.kept (x := ob) (by rw [h124]; exact fun e => (by cases e))).trans h124
  have Jn9 := J8.whole (p := 552) hn9 (by first | rfl | decide) (by first | rfl | decide)
  obtain ⟨ad9, ea9⟩ : ∃ f, adu (adu ad8 (2 * (552)) a9) (2 * (552) + 1) b9 = f := ⟨_, rfl⟩
  rw [ea9] at Jn9
  have g9 : ∀ k, D k → ad9 k = ad k := fun k hk => by
    have := hd k hk
    rw [← ea9, adu_ne _ (by omega), adu_ne _ (by omega)]; exact g8 k hk
  have x9 : ad9 (2 * (552)) = a9 := by rw [← ea9, adu_ne _ (by omega), adu_at]
  have o9 : ad9 ko = ob := by
    rw [g9 ko dko, ea0]; exact o0
  have x3_9 : ad9 (6254) = b3 := (show ad9 (6254) = ad8 (6254) by rw [← ea9, adu_ne _ (by omega), adu_ne _ (by omega)]).trans x3_8
  have x4_9 : ad9 (2 * (547)) = a4 := (show ad9 (2 * (547)) = ad8 (2 * (547)) by rw [← ea9, adu_ne _ (by omega), adu_ne _ (by omega)]).trans x4_8
  have x5_9 : ad9 (2 * (548)) = a5 := (show ad9 (2 * (548)) = ad8 (2 * (548)) by rw [← ea9, adu_ne _ (by omega), adu_ne _ (by omega)]).trans x5_8
  have x6_9 : ad9 (2 * (549)) = a6 := (show ad9 (2 * (549)) = ad8 (2 * (549)) by rw [← ea9, adu_ne _ (by omega), adu_ne _ (by omega)]).trans x6_8
  have x7_9 : ad9 (2 * (550)) = a7 := (show ad9 (2 * (550)) = ad8 (2 * (550)) by rw [← ea9, adu_ne _ (by omega), adu_ne _ (by omega)]).trans x7_8
  have x8_9 : ad9 (2 * (551)) = a8 := (show ad9 (2 * (551)) = ad8 (2 * (551)) by rw [← ea9, adu_ne _ (by omega), adu_ne _ (by omega)]).trans x8
  show jj G kS_init (d + 2) Q (((((((rc - 1) - 1 - 1) - 1 - 1) - 1 - 1) - 1 - 1) - 1 - 1) - 1 - 1) (((((((rs - 256) - 3 - 64) - 3 - 252) - 3 - 252) - 3 - 252) - 3 - 252) - 3 - 252) 105 [some (.ref ob), some (.ref dk), none] [.ref a9, .ref ob] Mn9
  refine jj_putF (pc := 105) kS_init_d105 (kpS_spare hG) rfl hq9 (by rfl) rfl ?_
  refine jn_gen (fun M125 hM126 => ?_)
  have h127 : M125 ob = some (.inl nS, [.int (nI (0)), .int (nI (0)), .int (nI (16)), .int (nI (1)), .ref b3, .ref a4, .ref a5, .ref a6, .ref a7, .ref a8, .ref a9, .null]) := by rw [hM126]; exact jj_up_at _ _ _
  have J9 := Jn9.put (M' := M125) (ko := ko) (by refine Or.inl ?_; refine Or.inl ?_; refine Or.inl ?_; refine Or.inl ?_; refine Or.inl ?_; refine Or.inl ?_; refine Or.inl ?_; refine Or.inl ?_; refine Or.inl ?_; refine Or.inl ?_; refine Or.inl ?_; refine Or.inl ?_; refine Or.inl ?_; exact dko) k6 (fun x hx => by rw [hM126, jj_up_ne _ _ (by rw [← o9]; exact hx)]) (by rw [o9, h127]; exact fun e => (by cases e))
  have f9 : ∀ x, x ≠ ob → M x ≠ none → M125 x = M x := fun x h1 h2 => by
    have h3 := f8 x h1 h2
    exact (show M125 x = M122 x by rw [hM126, jj_up_ne _ _ h1, hn9.kept (by rw [h3]; exact h2)]).trans h3
  have hy3_9 : M125 b3 = some (.inr 3, List.replicate 256 .null) := by rw [hM126, jj_up_ne _ _ nb3, hn9.kept (by rw [hy3_8]; exact fun e => (by cases e))]; exact hy3_8
  refine jj_aload_n (pc := 108) kS_init_d108 rfl ?_
  refine jj_aload_n (pc := 109) kS_init_d109 rfl ?_
  refine jj_putF (pc := 110) kS_init_d110 (kpS_desk hG) rfl h127 (by rfl) rfl ?_
  refine jn_gen (fun M128 hM129 => ?_)
  have h130 : M128 ob = some (.inl nS, [.int (nI (0)), .int (nI (0)), .int (nI (16)), .int (nI (1)), .ref b3, .ref a4, .ref a5, .ref a6, .ref a7, .ref a8, .ref a9, .ref dk]) := by rw [hM129]; exact jj_up_at _ _ _
  have Jn10 := J9.put (M' := M128) (ko := ko) (by refine Or.inl ?_; refine Or.inl ?_; refine Or.inl ?_; refine Or.inl ?_; refine Or.inl ?_; refine Or.inl ?_; refine Or.inl ?_; refine Or.inl ?_; refine Or.inl ?_; refine Or.inl ?_; refine Or.inl ?_; refine Or.inl ?_; refine Or.inl ?_; exact dko) k6 (fun x hx => by rw [hM129, jj_up_ne _ _ (by rw [← o9]; exact hx)]) (by rw [o9, h130]; exact fun e => (by cases e))
  obtain ⟨ad10, ea10⟩ : ∃ f, ad9 = f := ⟨_, rfl⟩
  have J10 := Jn10
  rw [ea10] at J10
  have g10 : ∀ k, D k → ad10 k = ad k := fun k hk => by rw [← ea10]; exact g9 k hk
  have o10 : ad10 ko = ob := by rw [← ea10]; exact o9
  have f10 : ∀ x, x ≠ ob → M x ≠ none → M128 x = M x := fun x h1 h2 => (show M128 x = M125 x by rw [hM129, jj_up_ne _ _ h1]).trans (f9 x h1 h2)
  have x3_10 : ad10 (6254) = b3 := (show ad10 (6254) = ad9 (6254) by rw [← ea10]).trans x3_9
  have x4_10 : ad10 (2 * (547)) = a4 := (show ad10 (2 * (547)) = ad9 (2 * (547)) by rw [← ea10]).trans x4_9
  have x5_10 : ad10 (2 * (548)) = a5 := (show ad10 (2 * (548)) = ad9 (2 * (548)) by rw [← ea10]).trans x5_9
  have x6_10 : ad10 (2 * (549)) = a6 := (show ad10 (2 * (549)) = ad9 (2 * (549)) by rw [← ea10]).trans x6_9
  have x7_10 : ad10 (2 * (550)) = a7 := (show ad10 (2 * (550)) = ad9 (2 * (550)) by rw [← ea10]).trans x7_9
  have x8_10 : ad10 (2 * (551)) = a8 := (show ad10 (2 * (551)) = ad9 (2 * (551)) by rw [← ea10]).trans x8_9
  have x9_10 : ad10 (2 * (552)) = a9 := (show ad10 (2 * (552)) = ad9 (2 * (552)) by rw [← ea10]).trans x9
  have hy3_10 : M128 b3 = some (.inr 3, List.replicate 256 .null) := by rw [hM129, jj_up_ne _ _ nb3]; exact hy3_9
  refine jn_iconst (pc := 113) 0 kS_init_d113 (by decide) ?_
  refine jj_istore_n (pc := 114) kS_init_d114 (Nat.le_of_ble_eq_true rfl) ?_
  show jj G kS_init (d + 2) Q (((((((rc - 1) - 1 - 1) - 1 - 1) - 1 - 1) - 1 - 1) - 1 - 1) - 1 - 1) (((((((rs - 256) - 3 - 64) - 3 - 252) - 3 - 252) - 3 - 252) - 3 - 252) - 3 - 252) 115 [some (.ref ob), some (.ref dk), some (.int (nI (0)))] [] M128
  have mb3 : M b3 = none := Classical.byContradiction (fun h => by
    have := f2 b3 nb3 h
    rw [hb3] at this
    exact h this.symm)
  have Jw : INI M128 ad10 (fun k => D k ∨ (1094 ≤ k ∧ k < 1106) ∨ k = 6254) := J10.weak (fun k hk => by
    rcases hk with h | h | h
    · exact Or.inl (Or.inl (Or.inl (Or.inl (Or.inl (Or.inl (Or.inl (Or.inl (Or.inl (Or.inl (Or.inl (Or.inl (Or.inl (h)))))))))))))
    · omega
    · omega)
  have hsh : M128 b3 = some (.inr 3, (List.range 256).map (fun l => if l < 0 then Value.ref (ad10 (2 * (553 + l))) else .null)) := by
    rw [hy3_10, rep_range (f := fun l => if l < 0 then Value.ref (ad10 (2 * (553 + l))) else .null) (fun l => if_neg (Nat.not_lt_zero l))]
  have x3z : ad10 6254 = b3 := x3_10
  obtain ⟨rcq, erc⟩ : ∃ r, (((((((rc - 1) - 1 - 1) - 1 - 1) - 1 - 1) - 1 - 1) - 1 - 1) - 1 - 1) = r := ⟨_, rfl⟩
  obtain ⟨rsq, ers⟩ : ∃ r, (((((((rs - 256) - 3 - 64) - 3 - 252) - 3 - 252) - 3 - 252) - 3 - 252) - 3 - 252) = r := ⟨_, rfl⟩
  rw [erc, ers]
  have hrq : rc ≤ rcq + 13 := by omega
  have hsq : rs ≤ rsq + 1598 := by omega
  have loop : ∀ mu i, 256 = i + mu → ∀ (M9 : mheap) (ad9 : Nat → Nat) (rc9 rs9 : Nat), M9 ob = some (.inl nS, [.int (nI (0)), .int (nI (0)), .int (nI (16)), .int (nI (1)), .ref b3, .ref a4, .ref a5, .ref a6, .ref a7, .ref a8, .ref a9, .ref dk]) → M9 b3 = some (.inr 3, (List.range 256).map (fun l => if l < i then Value.ref (ad9 (2 * (553 + l))) else .null)) → INI M9 ad9 (fun k => (fun k => D k ∨ (1094 ≤ k ∧ k < 1106) ∨ k = 6254) k ∨ (1106 ≤ k ∧ k < 2 * (553 + i))) → (∀ k, (fun k => D k ∨ (1094 ≤ k ∧ k < 1106) ∨ k = 6254) k → ad9 k = ad10 k) → (∀ x, x ≠ ob → M x ≠ none → M9 x = M x) → rc ≤ rc9 + (13 + 2 * i) → rs ≤ rs9 + (1598 + 67 * i) → jj G kS_init (d + 2) Q rc9 rs9 115 [some (.ref ob), some (.ref dk), some (.int (nI (i)))] [] M9 := by
    intro mu
    induction mu with
    | zero =>
      intro i hi6 M9 ad9 rc9 rs9 hm9 ha9 L9 g9 f9 c9 s9
      have ei : i = 256 := by omega
      subst ei
      have q3 : ad9 6254 = b3 := (g9 _ (Or.inr (Or.inr rfl))).trans x3z
      have q4 : ad9 1094 = a4 := (g9 _ (Or.inr (Or.inl (by omega)))).trans (show ad10 1094 = a4 from x4_10)
      have q5 : ad9 1096 = a5 := (g9 _ (Or.inr (Or.inl (by omega)))).trans (show ad10 1096 = a5 from x5_10)
      have q6 : ad9 1098 = a6 := (g9 _ (Or.inr (Or.inl (by omega)))).trans (show ad10 1098 = a6 from x6_10)
      have q7 : ad9 1100 = a7 := (g9 _ (Or.inr (Or.inl (by omega)))).trans (show ad10 1100 = a7 from x7_10)
      have q8 : ad9 1102 = a8 := (g9 _ (Or.inr (Or.inl (by omega)))).trans (show ad10 1102 = a8 from x8_10)
      have q9 : ad9 1104 = a9 := (g9 _ (Or.inr (Or.inl (by omega)))).trans (show ad10 1104 = a9 from x9_10)
      refine jj_iload_n (pc := 115) kS_init_d115 rfl ?_
      refine jn_sipush (pc := 116) 256 kS_init_d116 (by decide) ?_
      refine jn_icmp_ge (pc := 119) (tgt := 143) kS_init_d119 (by decide) (by omega) (by omega) (fun _ => ?_) (fun c => by exfalso; omega)
      exact jj_vret (pc := 143) kS_init_d143 rfl (k M9 ad9 _ _ (L9.weak (fun k hk => by
                rcases hk with h | h
                · exact Or.inl (Or.inl h)
                · rcases h with h | h
                  · by_cases c1 : k < 1106
                    · exact Or.inl (Or.inr (Or.inl ⟨h.1, c1⟩))
                    · exact Or.inr (by omega)
                  · exact Or.inl (Or.inr (Or.inr h)))) (fun k hk => (g9 k (Or.inl hk)).trans (g10 k hk)) (by rw [q3, q4, q5, q6, q7, q8, q9]; exact hm9) (by
                rw [q3, ha9]
                refine congrArg some (congrArg (Prod.mk _) (List.map_congr_left (fun l hl => ?_)))
                rw [if_pos (List.mem_range.mp hl)]) f9 (by omega) (by omega))
    | succ mu ih =>
      intro i hi6 M9 ad9 rc9 rs9 hm9 ha9 L9 g9 f9 c9 s9
      have q3 : ad9 6254 = b3 := (g9 _ (Or.inr (Or.inr rfl))).trans x3z
      have nbo : b3 ≠ ob := fun e => by rw [e, hm9] at ha9; cases ha9
      refine jj_iload_n (pc := 115) kS_init_d115 rfl ?_
      refine jn_sipush (pc := 116) 256 kS_init_d116 (by decide) ?_
      refine jn_icmp_ge (pc := 119) (tgt := 143) kS_init_d119 (by decide) (by omega) (by omega) (fun c => by exfalso; omega) (fun _ => ?_)
      refine jj_aload_n (pc := 122) kS_init_d122 rfl ?_
      refine jj_getf (pc := 123) kS_init_d123 (kfS_cells hG) hm9 rfl ?_
      refine jj_iload_n (pc := 126) kS_init_d126 rfl ?_
      refine jj_new (pc := 127) kS_init_d127 (knS_W hG) (by omega) (show 3 ≤ _ by omega) (fun a ha => ?_)
      refine jj_dup (pc := 130) kS_init_d130 rfl ?_
      refine jn_bipush (pc := 131) 64 kS_init_d131 (by decide) ?_
      refine jj_callI (pc := 133) (b := a) (As := [.int (nI (64))]) kS_init_d133 (kvS_W_init hG) rfl rfl rfl (Nat.le_of_ble_eq_true rfl) (Nat.le_of_ble_eq_true rfl) (jj_bare0 rfl) ?_
      refine w_init hG (jj_up_at _ _ _) (by omega) (by omega) (show _ ≤ _ - 3 by omega) (fun bb hbb => ?_)
      have hn := NWH.mk (c := 64) ha hbb
      refine jn_gen (fun Mc eMc => ?_)
      rw [← eMc] at hn
      show jj G kS_init (d + 2) Q (rc9 - 1 - 1) (rs9 - 3 - 64) 136 [some (.ref ob), some (.ref dk), some (.int (nI (i)))] [.ref a, .int (nI (i)), .ref b3] Mc
      have hac := (hn.kept (x := b3) (by rw [ha9]; exact fun e => (by cases e))).trans ha9
      have hmc := (hn.kept (x := ob) (by rw [hm9]; exact fun e => (by cases e))).trans hm9
      refine jj_aast (pc := 136) (i := i) kS_init_d136 (kG_cl hG rfl) (kG_t hG rfl) hac hn.2.2.2.1 rfl (by rw [List.length_map, List.length_range]; decide) (by rw [List.length_map, List.length_range]; omega) ?_
      refine jn_gen (fun Md eMd => ?_)
      have e1 : ∀ l, l < i → (adu (adu ad9 (2 * (553 + i)) a) (2 * (553 + i) + 1) bb) (2 * (553 + l)) = ad9 (2 * (553 + l)) := fun l hl => by rw [adu_ne _ (by omega), adu_ne _ (by omega)]
      have e3 : (adu (adu ad9 (2 * (553 + i)) a) (2 * (553 + i) + 1) bb) (2 * (553 + i)) = a := by rw [adu_ne _ (by omega), adu_at]
      have e5 : (adu (adu ad9 (2 * (553 + i)) a) (2 * (553 + i) + 1) bb) 6254 = b3 := by rw [adu_ne _ (by omega), adu_ne _ (by omega)]; exact q3
      have hmd : Md ob = some (.inl nS, [.int (nI (0)), .int (nI (0)), .int (nI (16)), .int (nI (1)), .ref b3, .ref a4, .ref a5, .ref a6, .ref a7, .ref a8, .ref a9, .ref dk]) := by rw [eMd, jj_up_ne _ _ (Ne.symm nbo)]; exact hmc
      have had : Md b3 = some (.inr 3, (List.range 256).map (fun l => if l < i + 1 then Value.ref ((adu (adu ad9 (2 * (553 + i)) a) (2 * (553 + i) + 1) bb) (2 * (553 + l))) else .null)) := by
        rw [eMd, jj_up_at]
        refine congrArg some (congrArg (Prod.mk _) (range_set ?_ (fun y hy1 hy => ?_)))
        · (try dsimp only); rw [if_pos (by omega), e3]
        · (try dsimp only)
          by_cases c1 : y < i
          · rw [if_pos c1, if_pos (by omega), e1 y c1]
          · rw [if_neg c1, if_neg (by omega)]
      have cpx : capx (553 + i) = 64 := by
        unfold capx
        (repeat' split) <;> omega
      have vpx : vx (553 + i) = 0 := by unfold vx; rw [if_neg (by omega)]
      have Lz := (L9.whole (p := 553 + i) hn cpx vpx).put (M' := Md) (ko := 6254) (Or.inl (Or.inl (Or.inl (Or.inr (Or.inr rfl))))) (by omega) (fun y hy => by rw [eMd, jj_up_ne _ _ (by rw [← e5]; exact hy)]) (by rw [e5, had]; exact fun e => (by cases e))
      show jj G kS_init (d + 2) Q (rc9 - 1 - 1) (rs9 - 3 - 64) 137 [some (.ref ob), some (.ref dk), some (.int (nI (i)))] [] Md
      refine jn_iinc (pc := 137) (i + 1) kS_init_d137 rfl (nI_1 _) ?_
      refine jj_goto (pc := 140) (tgt := 115) kS_init_d140 (by decide) ?_
      show jj G kS_init (d + 2) Q (rc9 - 1 - 1) (rs9 - 3 - 64) 115 [some (.ref ob), some (.ref dk), some (.int (nI (i + 1)))] [] Md
      refine ih (i + 1) (by omega) Md (adu (adu ad9 (2 * (553 + i)) a) (2 * (553 + i) + 1) bb) _ _ hmd had (Lz.weak (fun k hk => ?_)) (fun k hk => ?_) (fun y h1 h2 => ?_) (by omega) (by omega)
      · rcases hk with h | h
        · exact Or.inl (Or.inl (Or.inl h))
        · by_cases c1 : k < 2 * (553 + i)
          · exact Or.inl (Or.inl (Or.inr ⟨h.1, c1⟩))
          · by_cases c2 : k = 2 * (553 + i)
            · exact Or.inl (Or.inr c2)
            · exact Or.inr (by omega)
      · have hk2 : k < 1106 ∨ 1618 ≤ k := by
          rcases hk with h | h | h
          · have := hd k h; omega
          · omega
          · omega
        rw [adu_ne _ (by omega), adu_ne _ (by omega)]; exact g9 k hk
      · have h3 := f9 y h1 h2
        have h4 : y ≠ b3 := fun e => h2 (by rw [e]; exact mb3)
        exact (show Md y = M9 y by rw [eMd, jj_up_ne _ _ h4, hn.kept (by rw [h3]; exact h2)]).trans h3
  exact loop 256 0 (by omega) M128 ad10 rcq rsq h130 hsh (Jw.weak (fun k hk => by rcases hk with h | h; exact h; omega)) (fun _ _ => rfl) f10 (by omega) (by omega)
end I5
