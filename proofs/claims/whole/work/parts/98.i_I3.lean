/-! ===== what the constructors have made; Fraction, Divider, Euclid (printed by wip/gen/rI3.py) ===== -/
def vx (p : Nat) : Int := if 809 ≤ p ∧ (p - 809) % 257 = 256 then 1 else 0
def INI (M : mheap) (ad : Nat → Nat) (D : Nat → Prop) : Prop := LB M ad D ∧ ∀ p, p < 3122 → D (2 * p) → D (2 * p + 1) → WH M (ad (2 * p)) (ad (2 * p + 1)) (capx p) (vx p)
theorem INI.weak {M : mheap} {ad : Nat → Nat} {D D' : Nat → Prop} (h : INI M ad D) (hd : ∀ k, D' k → D k) : INI M ad D' := ⟨h.1.weak hd, fun p hp h1 h2 => h.2 p hp (hd _ h1) (hd _ h2)⟩
theorem INI.whole {M M2 : mheap} {ad : Nat → Nat} {D : Nat → Prop} {a b c p : Nat} (h : INI M ad D) (hn : NWH M M2 a b c) (hc : capx p = c) (hv : vx p = 0) : INI M2 (adu (adu ad (2 * p) a) (2 * p + 1) b) (fun k => (D k ∨ k = 2 * p) ∨ k = 2 * p + 1) := by
  refine ⟨h.1.whole hn, fun q hq h1 h2 => ?_⟩
  by_cases e : q = p
  · rw [e, adu_at, adu_ne _ (by omega), adu_at, hc, hv]; exact hn.wh
  · have d1 : D (2 * q) := by
      rcases h1 with (h1 | h1) | h1
      · exact h1
      · omega
      · omega
    have d2 : D (2 * q + 1) := by
      rcases h2 with (h2 | h2) | h2
      · exact h2
      · omega
      · omega
    have w := h.2 q hq d1 d2
    rw [adu_ne _ (by omega), adu_ne _ (by omega), adu_ne _ (by omega), adu_ne _ (by omega)]
    exact w.same (hn.kept w.used.1) (hn.kept w.used.2)
/-- an object's cell is written -/
theorem INI.put {M M' : mheap} {ad : Nat → Nat} {D : Nat → Prop} {ko : Nat} (h : INI M ad D) (hk : D ko) (h6 : 6244 ≤ ko) (hM : ∀ x, x ≠ ad ko → M' x = M x) (hu : M' (ad ko) ≠ none) : INI M' ad D := by
  refine ⟨h.1.grow (fun x hx => ?_), fun p hp h1 h2 => ?_⟩
  · by_cases e : x = ad ko
    · rw [e]; exact hu
    · rw [hM x e]; exact hx
  · refine (h.2 p hp h1 h2).same (hM _ (fun e => ?_)) (hM _ (fun e => ?_))
    · have := h.1.2 _ _ h1 hk e; omega
    · have := h.1.2 _ _ h2 hk e; omega
/-- a new cell that is no Whole's -/
theorem INI.new {M M' : mheap} {ad : Nat → Nat} {D : Nat → Prop} {ko a : Nat} (h : INI M ad D) (ha : M a = none) (h6 : 6244 ≤ ko) (hM : ∀ x, x ≠ a → M' x = M x) (hu : M' a ≠ none) : INI M' (adu ad ko a) (fun k => D k ∨ k = ko) := by
  refine ⟨h.1.add ha (fun x hx => ?_) hu, fun p hp h1 h2 => ?_⟩
  · rw [hM x (fun e => hx (by rw [e]; exact ha))]; exact hx
  · have d1 : D (2 * p) := by
      rcases h1 with h1 | h1
      · exact h1
      · omega
    have d2 : D (2 * p + 1) := by
      rcases h2 with h2 | h2
      · exact h2
      · omega
    have w := h.2 p hp d1 d2
    rw [adu_ne _ (by omega), adu_ne _ (by omega)]
    exact w.same (hM _ (fun e => w.used.1 (by rw [e]; exact ha))) (hM _ (fun e => w.used.2 (by rw [e]; exact ha)))
section I3
variable {G : jg} {d : Nat} {Q : jq} {rc rs : Nat} {M : mheap} {ad : Nat → Nat} {D : Nat → Prop}
theorem f_init {ob ko dk p : Nat} (hG : kG G) (hob : M ob = some (.inl nF, [.null, .null, .null])) (hJ : INI M ad D) (eo : ad ko = ob) (dko : D ko) (k6 : 6244 ≤ ko) (hp : p + 1 < 17) (hd : ∀ k, D k → k < 2 * p ∨ 2 * p + 4 ≤ k) (hrc : 4 ≤ rc) (hrs : 510 ≤ rs) (k : ∀ (M' : mheap) (ad' : Nat → Nat) (rc' rs' : Nat), INI M' ad' (fun k => D k ∨ (2 * p ≤ k ∧ k < 2 * p + 4)) → (∀ k, D k → ad' k = ad k) → M' ob = some (.inl nF, [.ref (ad' (2 * p)), .ref (ad' (2 * (p + 1))), .ref dk]) → (∀ x, x ≠ ob → M x ≠ none → M' x = M x) → rc ≤ rc' + 4 → rs ≤ rs' + 510 → Q (.returned none) M' rc' rs') : jj G kF_init (d + 2) Q rc rs 0 (jj_ent [.ref ob, .ref dk] 2) [] M := by
  show jj G kF_init (d + 2) Q rc rs 0 [some (.ref ob), some (.ref dk)] [] M
  refine jj_aload_n (pc := 0) kF_init_d0 rfl ?_
  refine jj_objInit (pc := 1) kF_init_d1 (koF_obj hG) (ko_inst hG) (ko_code hG) rfl (Nat.le_of_ble_eq_true rfl) ?_
  show jj G kF_init (d + 2) Q rc rs 4 [some (.ref ob), some (.ref dk)] [] M
  have J0 := hJ
  obtain ⟨ad0, ea0⟩ : ∃ f, ad = f := ⟨_, rfl⟩
  rw [ea0] at J0 eo
  have g0 : ∀ k, D k → ad0 k = ad k := fun k _ => by rw [ea0]
  have f0 : ∀ x, x ≠ ob → M x ≠ none → M x = M x := fun _ _ _ => rfl
  have o0 : ad0 ko = ob := eo
  have u0 : ad0 ko = ob := o0
  refine jj_aload_n (pc := 4) kF_init_d4 rfl ?_
  refine jj_new (pc := 5) kF_init_d5 (knF_W hG) (by omega) (show 3 ≤ _ by omega) (fun a1 ha1 => ?_)
  refine jj_dup (pc := 8) kF_init_d8 rfl ?_
  refine jn_sipush (pc := 9) 252 kF_init_d9 (by decide) ?_
  refine jj_callI (pc := 12) (b := a1) (As := [.int (nI (252))]) kF_init_d12 (kvF_W_init hG) rfl rfl rfl (Nat.le_of_ble_eq_true rfl) (Nat.le_of_ble_eq_true rfl) (jj_bare0 rfl) ?_
  refine w_init hG (jj_up_at _ _ _) (by omega) (by omega) (show _ ≤ _ - 3 by omega) (fun b1 hb1 => ?_)
  have hn1 := NWH.mk (c := 252) ha1 hb1
  refine jn_gen (fun Mn1 eMn1 => ?_)
  rw [← eMn1] at hn1
  show jj G kF_init (d + 2) Q (rc - 1 - 1) (rs - 3 - 252) 15 [some (.ref ob), some (.ref dk)] [.ref a1, .ref ob] Mn1
  have hq1 := (hn1.kept (x := ob) (by rw [hob]; exact fun e => (by cases e))).trans hob
  have Jn1 := J0.whole (p := p) hn1 (by first | (unfold capx; rw [if_pos (by omega)]) | (unfold vx; rw [if_neg (by omega)])) (by first | (unfold capx; rw [if_pos (by omega)]) | (unfold vx; rw [if_neg (by omega)]))
  obtain ⟨ad1, ea1⟩ : ∃ f, adu (adu ad0 (2 * (p)) a1) (2 * (p) + 1) b1 = f := ⟨_, rfl⟩
  rw [ea1] at Jn1
  have g1 : ∀ k, D k → ad1 k = ad k := fun k hk => by
    have := hd k hk
    rw [← ea1, adu_ne _ (by omega), adu_ne _ (by omega)]; exact g0 k hk
  have x1 : ad1 (2 * (p)) = a1 := by rw [← ea1, adu_ne _ (by omega), adu_at]
  have o1 : ad1 ko = ob := by
    rw [g1 ko dko, ea0]; exact o0
  show jj G kF_init (d + 2) Q (rc - 1 - 1) (rs - 3 - 252) 15 [some (.ref ob), some (.ref dk)] [.ref a1, .ref ob] Mn1
  refine jj_putF (pc := 15) kF_init_d15 (kpF_upper hG) rfl hq1 (by rfl) rfl ?_
  refine jn_gen (fun M101 hM102 => ?_)
  have h103 : M101 ob = some (.inl nF, [.ref a1, .null, .null]) := by rw [hM102]; exact jj_up_at _ _ _
  have J1 := Jn1.put (M' := M101) (ko := ko) (by refine Or.inl ?_; refine Or.inl ?_; exact dko) k6 (fun x hx => by rw [hM102, jj_up_ne _ _ (by rw [← o1]; exact hx)]) (by rw [o1, h103]; exact fun e => (by cases e))
  have f1 : ∀ x, x ≠ ob → M x ≠ none → M101 x = M x := fun x h1 h2 => by
    have h3 := f0 x h1 h2
    exact (show M101 x = M x by rw [hM102, jj_up_ne _ _ h1, hn1.kept (by rw [h3]; exact h2)]).trans h3
  refine jj_aload_n (pc := 18) kF_init_d18 rfl ?_
  refine jj_new (pc := 19) kF_init_d19 (knF_W hG) (by omega) (show 3 ≤ _ by omega) (fun a2 ha2 => ?_)
  refine jj_dup (pc := 22) kF_init_d22 rfl ?_
  refine jn_sipush (pc := 23) 252 kF_init_d23 (by decide) ?_
  refine jj_callI (pc := 26) (b := a2) (As := [.int (nI (252))]) kF_init_d26 (kvF_W_init hG) rfl rfl rfl (Nat.le_of_ble_eq_true rfl) (Nat.le_of_ble_eq_true rfl) (jj_bare0 rfl) ?_
  refine w_init hG (jj_up_at _ _ _) (by omega) (by omega) (show _ ≤ _ - 3 by omega) (fun b2 hb2 => ?_)
  have hn2 := NWH.mk (c := 252) ha2 hb2
  refine jn_gen (fun Mn2 eMn2 => ?_)
  rw [← eMn2] at hn2
  show jj G kF_init (d + 2) Q ((rc - 1 - 1) - 1 - 1) ((rs - 3 - 252) - 3 - 252) 29 [some (.ref ob), some (.ref dk)] [.ref a2, .ref ob] Mn2
  have hq2 := (hn2.kept (x := ob) (by rw [h103]; exact fun e => (by cases e))).trans h103
  have Jn2 := J1.whole (p := p + 1) hn2 (by first | (unfold capx; rw [if_pos (by omega)]) | (unfold vx; rw [if_neg (by omega)])) (by first | (unfold capx; rw [if_pos (by omega)]) | (unfold vx; rw [if_neg (by omega)]))
  obtain ⟨ad2, ea2⟩ : ∃ f, adu (adu ad1 (2 * (p + 1)) a2) (2 * (p + 1) + 1) b2 = f := ⟨_, rfl⟩
  rw [ea2] at Jn2
  have g2 : ∀ k, D k → ad2 k = ad k := fun k hk => by
    have := hd k hk
    rw [← ea2, adu_ne _ (by omega), adu_ne _ (by omega)]; exact g1 k hk
  have x2 : ad2 (2 * (p + 1)) = a2 := by rw [← ea2, adu_ne _ (by omega), adu_at]
  have o2 : ad2 ko = ob := by
    rw [g2 ko dko, ea0]; exact o0
  have x1_2 : ad2 (2 * (p)) = a1 := (show ad2 (2 * (p)) = ad1 (2 * (p)) by rw [← ea2, adu_ne _ (by omega), adu_ne _ (by omega)]).trans x1
  show jj G kF_init (d + 2) Q ((rc - 1 - 1) - 1 - 1) ((rs - 3 - 252) - 3 - 252) 29 [some (.ref ob), some (.ref dk)] [.ref a2, .ref ob] Mn2
  refine jj_putF (pc := 29) kF_init_d29 (kpF_lower hG) rfl hq2 (by rfl) rfl ?_
  refine jn_gen (fun M104 hM105 => ?_)
  have h106 : M104 ob = some (.inl nF, [.ref a1, .ref a2, .null]) := by rw [hM105]; exact jj_up_at _ _ _
  have J2 := Jn2.put (M' := M104) (ko := ko) (by refine Or.inl ?_; refine Or.inl ?_; refine Or.inl ?_; refine Or.inl ?_; exact dko) k6 (fun x hx => by rw [hM105, jj_up_ne _ _ (by rw [← o2]; exact hx)]) (by rw [o2, h106]; exact fun e => (by cases e))
  have f2 : ∀ x, x ≠ ob → M x ≠ none → M104 x = M x := fun x h1 h2 => by
    have h3 := f1 x h1 h2
    exact (show M104 x = M101 x by rw [hM105, jj_up_ne _ _ h1, hn2.kept (by rw [h3]; exact h2)]).trans h3
  refine jj_aload_n (pc := 32) kF_init_d32 rfl ?_
  refine jj_aload_n (pc := 33) kF_init_d33 rfl ?_
  refine jj_putF (pc := 34) kF_init_d34 (kpF_desk hG) rfl h106 (by rfl) rfl ?_
  refine jn_gen (fun M107 hM108 => ?_)
  have h109 : M107 ob = some (.inl nF, [.ref a1, .ref a2, .ref dk]) := by rw [hM108]; exact jj_up_at _ _ _
  have J2s := J2.put (M' := M107) (ko := ko) (by refine Or.inl ?_; refine Or.inl ?_; refine Or.inl ?_; refine Or.inl ?_; exact dko) k6 (fun x hx => by rw [hM108, jj_up_ne _ _ (by rw [← o2]; exact hx)]) (by rw [o2, h109]; exact fun e => (by cases e))
  have f2s : ∀ x, x ≠ ob → M x ≠ none → M107 x = M x := fun x h1 h2 => by rw [hM108, jj_up_ne _ _ h1]; exact f2 x h1 h2
  exact jj_vret (pc := 37) kF_init_d37 rfl (k M107 ad2 _ _ (J2s.weak (fun k hk => by rcases hk with h | h; exact (Or.inl (Or.inl (Or.inl (Or.inl h)))); omega)) g2 (by rw [x1_2, x2]; exact h109) f2s (by omega) (by omega))
theorem d_init {ob ko : Nat} (hG : kG G) (hob : M ob = some (.inl nD, [.null, .null, .null, .null])) (hJ : INI M ad D) (eo : ad ko = ob) (dko : D ko) (k6 : 6244 ≤ ko) (hd : ∀ k, D k → 4 ≤ k ∧ k ≠ 6277 ∧ k ≠ 6278) (hrc : 6 ≤ rc) (hrs : 1016 ≤ rs) (k : ∀ (M' : mheap) (ad' : Nat → Nat) (rc' rs' : Nat), INI M' ad' (fun k => D k ∨ (k < 4 ∨ k = 6277 ∨ k = 6278)) → (∀ k, D k → ad' k = ad k) → M' ob = some (.inl nD, [.ref (ad' 0), .ref (ad' 2), .ref (ad' 6277), .ref (ad' 6278)]) → M' (ad' 6277) = some (.inr 0, (List.replicate 253 (0 : Int32)).map .int) → M' (ad' 6278) = some (.inr 0, (List.replicate 253 (0 : Int32)).map .int) → (∀ x, x ≠ ob → M x ≠ none → M' x = M x) → rc ≤ rc' + 6 → rs ≤ rs' + 1016 → Q (.returned none) M' rc' rs') : jj G kD_init (d + 2) Q rc rs 0 (jj_ent [.ref ob] 1) [] M := by
  show jj G kD_init (d + 2) Q rc rs 0 [some (.ref ob)] [] M
  refine jj_aload_n (pc := 0) kD_init_d0 rfl ?_
  refine jj_objInit (pc := 1) kD_init_d1 (koD_obj hG) (ko_inst hG) (ko_code hG) rfl (Nat.le_of_ble_eq_true rfl) ?_
  show jj G kD_init (d + 2) Q rc rs 4 [some (.ref ob)] [] M
  have J0 := hJ
  obtain ⟨ad0, ea0⟩ : ∃ f, ad = f := ⟨_, rfl⟩
  rw [ea0] at J0 eo
  have g0 : ∀ k, D k → ad0 k = ad k := fun k _ => by rw [ea0]
  have f0 : ∀ x, x ≠ ob → M x ≠ none → M x = M x := fun _ _ _ => rfl
  have o0 : ad0 ko = ob := eo
  have u0 : ad0 ko = ob := o0
  refine jj_aload_n (pc := 4) kD_init_d4 rfl ?_
  refine jj_new (pc := 5) kD_init_d5 (knD_W hG) (by omega) (show 3 ≤ _ by omega) (fun a1 ha1 => ?_)
  refine jj_dup (pc := 8) kD_init_d8 rfl ?_
  refine jn_sipush (pc := 9) 252 kD_init_d9 (by decide) ?_
  refine jj_callI (pc := 12) (b := a1) (As := [.int (nI (252))]) kD_init_d12 (kvD_W_init hG) rfl rfl rfl (Nat.le_of_ble_eq_true rfl) (Nat.le_of_ble_eq_true rfl) (jj_bare0 rfl) ?_
  refine w_init hG (jj_up_at _ _ _) (by omega) (by omega) (show _ ≤ _ - 3 by omega) (fun b1 hb1 => ?_)
  have hn1 := NWH.mk (c := 252) ha1 hb1
  refine jn_gen (fun Mn1 eMn1 => ?_)
  rw [← eMn1] at hn1
  show jj G kD_init (d + 2) Q (rc - 1 - 1) (rs - 3 - 252) 15 [some (.ref ob)] [.ref a1, .ref ob] Mn1
  have hq1 := (hn1.kept (x := ob) (by rw [hob]; exact fun e => (by cases e))).trans hob
  have Jn1 := J0.whole (p := 0) hn1 (by first | rfl | decide) (by first | rfl | decide)
  obtain ⟨ad1, ea1⟩ : ∃ f, adu (adu ad0 (2 * (0)) a1) (2 * (0) + 1) b1 = f := ⟨_, rfl⟩
  rw [ea1] at Jn1
  have g1 : ∀ k, D k → ad1 k = ad k := fun k hk => by
    have := hd k hk
    rw [← ea1, adu_ne _ (by omega), adu_ne _ (by omega)]; exact g0 k hk
  have x1 : ad1 (2 * (0)) = a1 := by rw [← ea1, adu_ne _ (by omega), adu_at]
  have o1 : ad1 ko = ob := by
    rw [g1 ko dko, ea0]; exact o0
  show jj G kD_init (d + 2) Q (rc - 1 - 1) (rs - 3 - 252) 15 [some (.ref ob)] [.ref a1, .ref ob] Mn1
  refine jj_putf (pc := 15) kD_init_d15 (kpD_quotient hG) hq1 (by rfl) rfl ?_
  refine jn_gen (fun M110 hM111 => ?_)
  have h112 : M110 ob = some (.inl nD, [.ref a1, .null, .null, .null]) := by rw [hM111]; exact jj_up_at _ _ _
  have J1 := Jn1.put (M' := M110) (ko := ko) (by refine Or.inl ?_; refine Or.inl ?_; exact dko) k6 (fun x hx => by rw [hM111, jj_up_ne _ _ (by rw [← o1]; exact hx)]) (by rw [o1, h112]; exact fun e => (by cases e))
  have f1 : ∀ x, x ≠ ob → M x ≠ none → M110 x = M x := fun x h1 h2 => by
    have h3 := f0 x h1 h2
    exact (show M110 x = M x by rw [hM111, jj_up_ne _ _ h1, hn1.kept (by rw [h3]; exact h2)]).trans h3
  refine jj_aload_n (pc := 18) kD_init_d18 rfl ?_
  refine jj_new (pc := 19) kD_init_d19 (knD_W hG) (by omega) (show 3 ≤ _ by omega) (fun a2 ha2 => ?_)
  refine jj_dup (pc := 22) kD_init_d22 rfl ?_
  refine jn_sipush (pc := 23) 252 kD_init_d23 (by decide) ?_
  refine jj_callI (pc := 26) (b := a2) (As := [.int (nI (252))]) kD_init_d26 (kvD_W_init hG) rfl rfl rfl (Nat.le_of_ble_eq_true rfl) (Nat.le_of_ble_eq_true rfl) (jj_bare0 rfl) ?_
  refine w_init hG (jj_up_at _ _ _) (by omega) (by omega) (show _ ≤ _ - 3 by omega) (fun b2 hb2 => ?_)
  have hn2 := NWH.mk (c := 252) ha2 hb2
  refine jn_gen (fun Mn2 eMn2 => ?_)
  rw [← eMn2] at hn2
  show jj G kD_init (d + 2) Q ((rc - 1 - 1) - 1 - 1) ((rs - 3 - 252) - 3 - 252) 29 [some (.ref ob)] [.ref a2, .ref ob] Mn2
  have hq2 := (hn2.kept (x := ob) (by rw [h112]; exact fun e => (by cases e))).trans h112
  have Jn2 := J1.whole (p := 1) hn2 (by first | rfl | decide) (by first | rfl | decide)
  obtain ⟨ad2, ea2⟩ : ∃ f, adu (adu ad1 (2 * (1)) a2) (2 * (1) + 1) b2 = f := ⟨_, rfl⟩
  rw [ea2] at Jn2
  have g2 : ∀ k, D k → ad2 k = ad k := fun k hk => by
    have := hd k hk
    rw [← ea2, adu_ne _ (by omega), adu_ne _ (by omega)]; exact g1 k hk
  have x2 : ad2 (2 * (1)) = a2 := by rw [← ea2, adu_ne _ (by omega), adu_at]
  have o2 : ad2 ko = ob := by
    rw [g2 ko dko, ea0]; exact o0
  have x1_2 : ad2 (2 * (0)) = a1 := (show ad2 (2 * (0)) = ad1 (2 * (0)) by rw [← ea2, adu_ne _ (by omega), adu_ne _ (by omega)]).trans x1
  show jj G kD_init (d + 2) Q ((rc - 1 - 1) - 1 - 1) ((rs - 3 - 252) - 3 - 252) 29 [some (.ref ob)] [.ref a2, .ref ob] Mn2
  refine jj_putf (pc := 29) kD_init_d29 (kpD_remainder hG) hq2 (by rfl) rfl ?_
  refine jn_gen (fun M113 hM114 => ?_)
  have h115 : M113 ob = some (.inl nD, [.ref a1, .ref a2, .null, .null]) := by rw [hM114]; exact jj_up_at _ _ _
  have J2 := Jn2.put (M' := M113) (ko := ko) (by refine Or.inl ?_; refine Or.inl ?_; refine Or.inl ?_; refine Or.inl ?_; exact dko) k6 (fun x hx => by rw [hM114, jj_up_ne _ _ (by rw [← o2]; exact hx)]) (by rw [o2, h115]; exact fun e => (by cases e))
  have f2 : ∀ x, x ≠ ob → M x ≠ none → M113 x = M x := fun x h1 h2 => by
    have h3 := f1 x h1 h2
    exact (show M113 x = M110 x by rw [hM114, jj_up_ne _ _ h1, hn2.kept (by rw [h3]; exact h2)]).trans h3
  refine jj_aload_n (pc := 32) kD_init_d32 rfl ?_
  refine jn_sipush (pc := 33) 253 kD_init_d33 (by decide) ?_
  refine jj_newa (pc := 36) (j := 0) (n := 253) (ty := .int) kD_init_d36 rfl (kG_t hG rfl) (fun C h => by cases h) (ka_int hG) rfl (by decide) (by omega) (by omega) (fun b3 hb3 => ?_)
  refine jn_gen (fun Mn3 eMn3 => ?_)
  have nb3 : b3 ≠ ob := fun e => by rw [e, h115] at hb3; cases hb3
  have hq3 := (show Mn3 ob = M113 ob by rw [eMn3, jj_up_ne _ _ (Ne.symm nb3)]).trans h115
  have hz3 : Mn3 b3 = some (.inr 0, (List.replicate 253 (0 : Int32)).map .int) := by rw [eMn3, jj_up_at, List.map_replicate]; rfl
  have kp3 : ∀ x, M113 x ≠ none → Mn3 x = M113 x := fun x hx => by rw [eMn3, jj_up_ne _ _ (fun e => hx (by rw [e]; exact hb3))]
  have Jn3 := J2.new (M' := Mn3) (ko := 6277) hb3 (by omega) (fun x hx => by rw [eMn3, jj_up_ne _ _ hx]) (by rw [hz3]; exact fun e => (by cases e))
  obtain ⟨ad3, ea3⟩ : ∃ f, adu ad2 (6277) b3 = f := ⟨_, rfl⟩
  rw [ea3] at Jn3
  have g3 : ∀ k, D k → ad3 k = ad k := fun k hk => by
    have := hd k hk
    rw [← ea3, adu_ne _ (by omega)]; exact g2 k hk
  have x3 : ad3 (6277) = b3 := by rw [← ea3, adu_at]
  have o3 : ad3 ko = ob := by
    rw [g3 ko dko, ea0]; exact o0
  have x1_3 : ad3 (2 * (0)) = a1 := (show ad3 (2 * (0)) = ad2 (2 * (0)) by rw [← ea3, adu_ne _ (by omega)]).trans x1_2
  have x2_3 : ad3 (2 * (1)) = a2 := (show ad3 (2 * (1)) = ad2 (2 * (1)) by rw [← ea3, adu_ne _ (by omega)]).trans x2
  show jj G kD_init (d + 2) Q (((rc - 1 - 1) - 1 - 1) - 1) (((rs - 3 - 252) - 3 - 252) - 253) 38 [some (.ref ob)] [.ref b3, .ref ob] Mn3
  refine jj_putF (pc := 38) kD_init_d38 (kpD_high hG) rfl hq3 (by rfl) rfl ?_
  refine jn_gen (fun M116 hM117 => ?_)
  have h118 : M116 ob = some (.inl nD, [.ref a1, .ref a2, .ref b3, .null]) := by rw [hM117]; exact jj_up_at _ _ _
  have J3 := Jn3.put (M' := M116) (ko := ko) (by refine Or.inl ?_; refine Or.inl ?_; refine Or.inl ?_; refine Or.inl ?_; refine Or.inl ?_; exact dko) k6 (fun x hx => by rw [hM117, jj_up_ne _ _ (by rw [← o3]; exact hx)]) (by rw [o3, h118]; exact fun e => (by cases e))
  have f3 : ∀ x, x ≠ ob → M x ≠ none → M116 x = M x := fun x h1 h2 => by
    have h3 := f2 x h1 h2
    exact (show M116 x = M113 x by rw [hM117, jj_up_ne _ _ h1, kp3 x (by rw [h3]; exact h2)]).trans h3
  have hy3 : M116 b3 = some (.inr 0, (List.replicate 253 (0 : Int32)).map .int) := by rw [hM117, jj_up_ne _ _ nb3]; exact hz3
  refine jj_aload_n (pc := 41) kD_init_d41 rfl ?_
  refine jn_sipush (pc := 42) 253 kD_init_d42 (by decide) ?_
  refine jj_newa (pc := 45) (j := 0) (n := 253) (ty := .int) kD_init_d45 rfl (kG_t hG rfl) (fun C h => by cases h) (ka_int hG) rfl (by decide) (by omega) (by omega) (fun b4 hb4 => ?_)
  refine jn_gen (fun Mn4 eMn4 => ?_)
  have nb4 : b4 ≠ ob := fun e => by rw [e, h118] at hb4; cases hb4
  have hq4 := (show Mn4 ob = M116 ob by rw [eMn4, jj_up_ne _ _ (Ne.symm nb4)]).trans h118
  have hz4 : Mn4 b4 = some (.inr 0, (List.replicate 253 (0 : Int32)).map .int) := by rw [eMn4, jj_up_at, List.map_replicate]; rfl
  have kp4 : ∀ x, M116 x ≠ none → Mn4 x = M116 x := fun x hx => by rw [eMn4, jj_up_ne _ _ (fun e => hx (by rw [e]; exact hb4))]
  have Jn4 := J3.new (M' := Mn4) (ko := 6278) hb4 (by omega) (fun x hx => by rw [eMn4, jj_up_ne _ _ hx]) (by rw [hz4]; exact fun e => (by cases e))
  obtain ⟨ad4, ea4⟩ : ∃ f, adu ad3 (6278) b4 = f := ⟨_, rfl⟩
  rw [ea4] at Jn4
  have g4 : ∀ k, D k → ad4 k = ad k := fun k hk => by
    have := hd k hk
    rw [← ea4, adu_ne _ (by omega)]; exact g3 k hk
  have x4 : ad4 (6278) = b4 := by rw [← ea4, adu_at]
  have o4 : ad4 ko = ob := by
    rw [g4 ko dko, ea0]; exact o0
  have x1_4 : ad4 (2 * (0)) = a1 := (show ad4 (2 * (0)) = ad3 (2 * (0)) by rw [← ea4, adu_ne _ (by omega)]).trans x1_3
  have x2_4 : ad4 (2 * (1)) = a2 := (show ad4 (2 * (1)) = ad3 (2 * (1)) by rw [← ea4, adu_ne _ (by omega)]).trans x2_3
  have x3_4 : ad4 (6277) = b3 := (show ad4 (6277) = ad3 (6277) by rw [← ea4, adu_ne _ (by omega)]).trans x3
  show jj G kD_init (d + 2) Q ((((rc - 1 - 1) - 1 - 1) - 1) - 1) ((((rs - 3 - 252) - 3 - 252) - 253) - 253) 47 [some (.ref ob)] [.ref b4, .ref ob] Mn4
  refine jj_putF (pc := 47) kD_init_d47 (kpD_low hG) rfl hq4 (by rfl) rfl ?_
  refine jn_gen (fun M119 hM120 => ?_)
  have h121 : M119 ob = some (.inl nD, [.ref a1, .ref a2, .ref b3, .ref b4]) := by rw [hM120]; exact jj_up_at _ _ _
  have J4 := Jn4.put (M' := M119) (ko := ko) (by refine Or.inl ?_; refine Or.inl ?_; refine Or.inl ?_; refine Or.inl ?_; refine Or.inl ?_; refine Or.inl ?_; exact dko) k6 (fun x hx => by rw [hM120, jj_up_ne _ _ (by rw [← o4]; exact hx)]) (by rw [o4, h121]; exact fun e => (by cases e))
  have f4 : ∀ x, x ≠ ob → M x ≠ none → M119 x = M x := fun x h1 h2 => by
    have h3 := f3 x h1 h2
    exact (show M119 x = M116 x by rw [hM120, jj_up_ne _ _ h1, kp4 x (by rw [h3]; exact h2)]).trans h3
  have hy4 : M119 b4 = some (.inr 0, (List.replicate 253 (0 : Int32)).map .int) := by rw [hM120, jj_up_ne _ _ nb4]; exact hz4
  have hy3_4 : M119 b3 = some (.inr 0, (List.replicate 253 (0 : Int32)).map .int) := by rw [hM120, jj_up_ne _ _ nb3, kp4 _ (by rw [hy3]; exact fun e => (by cases e))]; exact hy3
  exact jj_vret (pc := 50) kD_init_d50 rfl (k M119 ad4 _ _ (J4.weak (fun k hk => by rcases hk with h | h; exact (Or.inl (Or.inl (Or.inl (Or.inl (Or.inl (Or.inl h)))))); omega)) g4 (by rw [show ad4 0 = a1 from x1_4, show ad4 2 = a2 from x2_4, x3_4, x4]; exact h121) (by rw [x3_4]; exact hy3_4) (by rw [x4]; exact hy4) f4 (by omega) (by omega))
theorem u_init {ob ko dv : Nat} (hG : kG G) (hob : M ob = some (.inl nU, [.null, .null, .null, .null, .null, .null, .int (nI (0)), .long 0, .long 0, .long 0, .long 0])) (hJ : INI M ad D) (eo : ad ko = ob) (dko : D ko) (k6 : 6244 ≤ ko) (hd : ∀ k, D k → k < 4 ∨ 14 ≤ k) (hrc : 10 ≤ rc) (hrs : 1275 ≤ rs) (k : ∀ (M' : mheap) (ad' : Nat → Nat) (rc' rs' : Nat), INI M' ad' (fun k => D k ∨ (4 ≤ k ∧ k < 14)) → (∀ k, D k → ad' k = ad k) → M' ob = some (.inl nU, [.ref (ad' 4), .ref (ad' 6), .ref (ad' 8), .ref (ad' 10), .ref (ad' 12), .ref dv, .int (nI 0), .long 0, .long 0, .long 0, .long 0]) → (∀ x, x ≠ ob → M x ≠ none → M' x = M x) → rc ≤ rc' + 10 → rs ≤ rs' + 1275 → Q (.returned none) M' rc' rs') : jj G kU_init (d + 2) Q rc rs 0 (jj_ent [.ref ob, .ref dv] 2) [] M := by
  show jj G kU_init (d + 2) Q rc rs 0 [some (.ref ob), some (.ref dv)] [] M
  refine jj_aload_n (pc := 0) kU_init_d0 rfl ?_
  refine jj_objInit (pc := 1) kU_init_d1 (koU_obj hG) (ko_inst hG) (ko_code hG) rfl (Nat.le_of_ble_eq_true rfl) ?_
  show jj G kU_init (d + 2) Q rc rs 4 [some (.ref ob), some (.ref dv)] [] M
  have J0 := hJ
  obtain ⟨ad0, ea0⟩ : ∃ f, ad = f := ⟨_, rfl⟩
  rw [ea0] at J0 eo
  have g0 : ∀ k, D k → ad0 k = ad k := fun k _ => by rw [ea0]
  have f0 : ∀ x, x ≠ ob → M x ≠ none → M x = M x := fun _ _ _ => rfl
  have o0 : ad0 ko = ob := eo
  have u0 : ad0 ko = ob := o0
  refine jj_aload_n (pc := 4) kU_init_d4 rfl ?_
  refine jj_new (pc := 5) kU_init_d5 (knU_W hG) (by omega) (show 3 ≤ _ by omega) (fun a1 ha1 => ?_)
  refine jj_dup (pc := 8) kU_init_d8 rfl ?_
  refine jn_sipush (pc := 9) 252 kU_init_d9 (by decide) ?_
  refine jj_callI (pc := 12) (b := a1) (As := [.int (nI (252))]) kU_init_d12 (kvU_W_init hG) rfl rfl rfl (Nat.le_of_ble_eq_true rfl) (Nat.le_of_ble_eq_true rfl) (jj_bare0 rfl) ?_
  refine w_init hG (jj_up_at _ _ _) (by omega) (by omega) (show _ ≤ _ - 3 by omega) (fun b1 hb1 => ?_)
  have hn1 := NWH.mk (c := 252) ha1 hb1
  refine jn_gen (fun Mn1 eMn1 => ?_)
  rw [← eMn1] at hn1
  show jj G kU_init (d + 2) Q (rc - 1 - 1) (rs - 3 - 252) 15 [some (.ref ob), some (.ref dv)] [.ref a1, .ref ob] Mn1
  have hq1 := (hn1.kept (x := ob) (by rw [hob]; exact fun e => (by cases e))).trans hob
  have Jn1 := J0.whole (p := 2) hn1 (by first | rfl | decide) (by first | rfl | decide)
  obtain ⟨ad1, ea1⟩ : ∃ f, adu (adu ad0 (2 * (2)) a1) (2 * (2) + 1) b1 = f := ⟨_, rfl⟩
  rw [ea1] at Jn1
  have g1 : ∀ k, D k → ad1 k = ad k := fun k hk => by
    have := hd k hk
    rw [← ea1, adu_ne _ (by omega), adu_ne _ (by omega)]; exact g0 k hk
  have x1 : ad1 (2 * (2)) = a1 := by rw [← ea1, adu_ne _ (by omega), adu_at]
  have o1 : ad1 ko = ob := by
    rw [g1 ko dko, ea0]; exact o0
  show jj G kU_init (d + 2) Q (rc - 1 - 1) (rs - 3 - 252) 15 [some (.ref ob), some (.ref dv)] [.ref a1, .ref ob] Mn1
  refine jj_putf (pc := 15) kU_init_d15 (kpU_x hG) hq1 (by rfl) rfl ?_
  refine jn_gen (fun M122 hM123 => ?_)
  have h124 : M122 ob = some (.inl nU, [.ref a1, .null, .null, .null, .null, .null, .int (nI (0)), .long 0, .long 0, .long 0, .long 0]) := by rw [hM123]; exact jj_up_at _ _ _
  have J1 := Jn1.put (M' := M122) (ko := ko) (by refine Or.inl ?_; refine Or.inl ?_; exact dko) k6 (fun x hx => by rw [hM123, jj_up_ne _ _ (by rw [← o1]; exact hx)]) (by rw [o1, h124]; exact fun e => (by cases e))
  have f1 : ∀ x, x ≠ ob → M x ≠ none → M122 x = M x := fun x h1 h2 => by
    have h3 := f0 x h1 h2
    exact (show M122 x = M x by rw [hM123, jj_up_ne _ _ h1, hn1.kept (by rw [h3]; exact h2)]).trans h3
  refine jj_aload_n (pc := 18) kU_init_d18 rfl ?_
  refine jj_new (pc := 19) kU_init_d19 (knU_W hG) (by omega) (show 3 ≤ _ by omega) (fun a2 ha2 => ?_)
  refine jj_dup (pc := 22) kU_init_d22 rfl ?_
  refine jn_sipush (pc := 23) 252 kU_init_d23 (by decide) ?_
  refine jj_callI (pc := 26) (b := a2) (As := [.int (nI (252))]) kU_init_d26 (kvU_W_init hG) rfl rfl rfl (Nat.le_of_ble_eq_true rfl) (Nat.le_of_ble_eq_true rfl) (jj_bare0 rfl) ?_
  refine w_init hG (jj_up_at _ _ _) (by omega) (by omega) (show _ ≤ _ - 3 by omega) (fun b2 hb2 => ?_)
  have hn2 := NWH.mk (c := 252) ha2 hb2
  refine jn_gen (fun Mn2 eMn2 => ?_)
  rw [← eMn2] at hn2
  show jj G kU_init (d + 2) Q ((rc - 1 - 1) - 1 - 1) ((rs - 3 - 252) - 3 - 252) 29 [some (.ref ob), some (.ref dv)] [.ref a2, .ref ob] Mn2
  have hq2 := (hn2.kept (x := ob) (by rw [h124]; exact fun e => (by cases e))).trans h124
  have Jn2 := J1.whole (p := 3) hn2 (by first | rfl | decide) (by first | rfl | decide)
  obtain ⟨ad2, ea2⟩ : ∃ f, adu (adu ad1 (2 * (3)) a2) (2 * (3) + 1) b2 = f := ⟨_, rfl⟩
  rw [ea2] at Jn2
  have g2 : ∀ k, D k → ad2 k = ad k := fun k hk => by
    have := hd k hk
    rw [← ea2, adu_ne _ (by omega), adu_ne _ (by omega)]; exact g1 k hk
  have x2 : ad2 (2 * (3)) = a2 := by rw [← ea2, adu_ne _ (by omega), adu_at]
  have o2 : ad2 ko = ob := by
    rw [g2 ko dko, ea0]; exact o0
  have x1_2 : ad2 (2 * (2)) = a1 := (show ad2 (2 * (2)) = ad1 (2 * (2)) by rw [← ea2, adu_ne _ (by omega), adu_ne _ (by omega)]).trans x1
  show jj G kU_init (d + 2) Q ((rc - 1 - 1) - 1 - 1) ((rs - 3 - 252) - 3 - 252) 29 [some (.ref ob), some (.ref dv)] [.ref a2, .ref ob] Mn2
  refine jj_putf (pc := 29) kU_init_d29 (kpU_factor hG) hq2 (by rfl) rfl ?_
  refine jn_gen (fun M125 hM126 => ?_)
  have h127 : M125 ob = some (.inl nU, [.ref a1, .ref a2, .null, .null, .null, .null, .int (nI (0)), .long 0, .long 0, .long 0, .long 0]) := by rw [hM126]; exact jj_up_at _ _ _
  have J2 := Jn2.put (M' := M125) (ko := ko) (by refine Or.inl ?_; refine Or.inl ?_; refine Or.inl ?_; refine Or.inl ?_; exact dko) k6 (fun x hx => by rw [hM126, jj_up_ne _ _ (by rw [← o2]; exact hx)]) (by rw [o2, h127]; exact fun e => (by cases e))
  have f2 : ∀ x, x ≠ ob → M x ≠ none → M125 x = M x := fun x h1 h2 => by
    have h3 := f1 x h1 h2
    exact (show M125 x = M122 x by rw [hM126, jj_up_ne _ _ h1, hn2.kept (by rw [h3]; exact h2)]).trans h3
  refine jj_aload_n (pc := 32) kU_init_d32 rfl ?_
  refine jj_new (pc := 33) kU_init_d33 (knU_W hG) (by omega) (show 3 ≤ _ by omega) (fun a3 ha3 => ?_)
  refine jj_dup (pc := 36) kU_init_d36 rfl ?_
  refine jn_sipush (pc := 37) 252 kU_init_d37 (by decide) ?_
  refine jj_callI (pc := 40) (b := a3) (As := [.int (nI (252))]) kU_init_d40 (kvU_W_init hG) rfl rfl rfl (Nat.le_of_ble_eq_true rfl) (Nat.le_of_ble_eq_true rfl) (jj_bare0 rfl) ?_
  refine w_init hG (jj_up_at _ _ _) (by omega) (by omega) (show _ ≤ _ - 3 by omega) (fun b3 hb3 => ?_)
  have hn3 := NWH.mk (c := 252) ha3 hb3
  refine jn_gen (fun Mn3 eMn3 => ?_)
  rw [← eMn3] at hn3
  show jj G kU_init (d + 2) Q (((rc - 1 - 1) - 1 - 1) - 1 - 1) (((rs - 3 - 252) - 3 - 252) - 3 - 252) 43 [some (.ref ob), some (.ref dv)] [.ref a3, .ref ob] Mn3
  have hq3 := (hn3.kept (x := ob) (by rw [h127]; exact fun e => (by cases e))).trans h127
  have Jn3 := J2.whole (p := 4) hn3 (by first | rfl | decide) (by first | rfl | decide)
  obtain ⟨ad3, ea3⟩ : ∃ f, adu (adu ad2 (2 * (4)) a3) (2 * (4) + 1) b3 = f := ⟨_, rfl⟩
  rw [ea3] at Jn3
  have g3 : ∀ k, D k → ad3 k = ad k := fun k hk => by
    have := hd k hk
    rw [← ea3, adu_ne _ (by omega), adu_ne _ (by omega)]; exact g2 k hk
  have x3 : ad3 (2 * (4)) = a3 := by rw [← ea3, adu_ne _ (by omega), adu_at]
  have o3 : ad3 ko = ob := by
    rw [g3 ko dko, ea0]; exact o0
  have x1_3 : ad3 (2 * (2)) = a1 := (show ad3 (2 * (2)) = ad2 (2 * (2)) by rw [← ea3, adu_ne _ (by omega), adu_ne _ (by omega)]).trans x1_2
  have x2_3 : ad3 (2 * (3)) = a2 := (show ad3 (2 * (3)) = ad2 (2 * (3)) by rw [← ea3, adu_ne _ (by omega), adu_ne _ (by omega)]).trans x2
  show jj G kU_init (d + 2) Q (((rc - 1 - 1) - 1 - 1) - 1 - 1) (((rs - 3 - 252) - 3 - 252) - 3 - 252) 43 [some (.ref ob), some (.ref dv)] [.ref a3, .ref ob] Mn3
  refine jj_putf (pc := 43) kU_init_d43 (kpU_y hG) hq3 (by rfl) rfl ?_
  refine jn_gen (fun M128 hM129 => ?_)
  have h130 : M128 ob = some (.inl nU, [.ref a1, .ref a2, .ref a3, .null, .null, .null, .int (nI (0)), .long 0, .long 0, .long 0, .long 0]) := by rw [hM129]; exact jj_up_at _ _ _
  have J3 := Jn3.put (M' := M128) (ko := ko) (by refine Or.inl ?_; refine Or.inl ?_; refine Or.inl ?_; refine Or.inl ?_; refine Or.inl ?_; refine Or.inl ?_; exact dko) k6 (fun x hx => by rw [hM129, jj_up_ne _ _ (by rw [← o3]; exact hx)]) (by rw [o3, h130]; exact fun e => (by cases e))
  have f3 : ∀ x, x ≠ ob → M x ≠ none → M128 x = M x := fun x h1 h2 => by
    have h3 := f2 x h1 h2
    exact (show M128 x = M125 x by rw [hM129, jj_up_ne _ _ h1, hn3.kept (by rw [h3]; exact h2)]).trans h3
  refine jj_aload_n (pc := 46) kU_init_d46 rfl ?_
  refine jj_new (pc := 47) kU_init_d47 (knU_W hG) (by omega) (show 3 ≤ _ by omega) (fun a4 ha4 => ?_)
  refine jj_dup (pc := 50) kU_init_d50 rfl ?_
  refine jn_sipush (pc := 51) 252 kU_init_d51 (by decide) ?_
  refine jj_callI (pc := 54) (b := a4) (As := [.int (nI (252))]) kU_init_d54 (kvU_W_init hG) rfl rfl rfl (Nat.le_of_ble_eq_true rfl) (Nat.le_of_ble_eq_true rfl) (jj_bare0 rfl) ?_
  refine w_init hG (jj_up_at _ _ _) (by omega) (by omega) (show _ ≤ _ - 3 by omega) (fun b4 hb4 => ?_)
  have hn4 := NWH.mk (c := 252) ha4 hb4
  refine jn_gen (fun Mn4 eMn4 => ?_)
  rw [← eMn4] at hn4
  show jj G kU_init (d + 2) Q ((((rc - 1 - 1) - 1 - 1) - 1 - 1) - 1 - 1) ((((rs - 3 - 252) - 3 - 252) - 3 - 252) - 3 - 252) 57 [some (.ref ob), some (.ref dv)] [.ref a4, .ref ob] Mn4
  have hq4 := (hn4.kept (x := ob) (by rw [h130]; exact fun e => (by cases e))).trans h130
  have Jn4 := J3.whole (p := 5) hn4 (by first | rfl | decide) (by first | rfl | decide)
  obtain ⟨ad4, ea4⟩ : ∃ f, adu (adu ad3 (2 * (5)) a4) (2 * (5) + 1) b4 = f := ⟨_, rfl⟩
  rw [ea4] at Jn4
  have g4 : ∀ k, D k → ad4 k = ad k := fun k hk => by
    have := hd k hk
    rw [← ea4, adu_ne _ (by omega), adu_ne _ (by omega)]; exact g3 k hk
  have x4 : ad4 (2 * (5)) = a4 := by rw [← ea4, adu_ne _ (by omega), adu_at]
  have o4 : ad4 ko = ob := by
    rw [g4 ko dko, ea0]; exact o0
  have x1_4 : ad4 (2 * (2)) = a1 := (show ad4 (2 * (2)) = ad3 (2 * (2)) by rw [← ea4, adu_ne _ (by omega), adu_ne _ (by omega)]).trans x1_3
  have x2_4 : ad4 (2 * (3)) = a2 := (show ad4 (2 * (3)) = ad3 (2 * (3)) by rw [← ea4, adu_ne _ (by omega), adu_ne _ (by omega)]).trans x2_3
  have x3_4 : ad4 (2 * (4)) = a3 := (show ad4 (2 * (4)) = ad3 (2 * (4)) by rw [← ea4, adu_ne _ (by omega), adu_ne _ (by omega)]).trans x3
  show jj G kU_init (d + 2) Q ((((rc - 1 - 1) - 1 - 1) - 1 - 1) - 1 - 1) ((((rs - 3 - 252) - 3 - 252) - 3 - 252) - 3 - 252) 57 [some (.ref ob), some (.ref dv)] [.ref a4, .ref ob] Mn4
  refine jj_putf (pc := 57) kU_init_d57 (kpU_otherFactor hG) hq4 (by rfl) rfl ?_
  refine jn_gen (fun M131 hM132 => ?_)
  have h133 : M131 ob = some (.inl nU, [.ref a1, .ref a2, .ref a3, .ref a4, .null, .null, .int (nI (0)), .long 0, .long 0, .long 0, .long 0]) := by rw [hM132]; exact jj_up_at _ _ _
  have J4 := Jn4.put (M' := M131) (ko := ko) (by refine Or.inl ?_; refine Or.inl ?_; refine Or.inl ?_; refine Or.inl ?_; refine Or.inl ?_; refine Or.inl ?_; refine Or.inl ?_; refine Or.inl ?_; exact dko) k6 (fun x hx => by rw [hM132, jj_up_ne _ _ (by rw [← o4]; exact hx)]) (by rw [o4, h133]; exact fun e => (by cases e))
  have f4 : ∀ x, x ≠ ob → M x ≠ none → M131 x = M x := fun x h1 h2 => by
    have h3 := f3 x h1 h2
    exact (show M131 x = M128 x by rw [hM132, jj_up_ne _ _ h1, hn4.kept (by rw [h3]; exact h2)]).trans h3
  refine jj_aload_n (pc := 60) kU_init_d60 rfl ?_
  refine jj_new (pc := 61) kU_init_d61 (knU_W hG) (by omega) (show 3 ≤ _ by omega) (fun a5 ha5 => ?_)
  refine jj_dup (pc := 64) kU_init_d64 rfl ?_
  refine jn_sipush (pc := 65) 252 kU_init_d65 (by decide) ?_
  refine jj_callI (pc := 68) (b := a5) (As := [.int (nI (252))]) kU_init_d68 (kvU_W_init hG) rfl rfl rfl (Nat.le_of_ble_eq_true rfl) (Nat.le_of_ble_eq_true rfl) (jj_bare0 rfl) ?_
  refine w_init hG (jj_up_at _ _ _) (by omega) (by omega) (show _ ≤ _ - 3 by omega) (fun b5 hb5 => ?_)
  have hn5 := NWH.mk (c := 252) ha5 hb5
  refine jn_gen (fun Mn5 eMn5 => ?_)
  rw [← eMn5] at hn5
  show jj G kU_init (d + 2) Q (((((rc - 1 - 1) - 1 - 1) - 1 - 1) - 1 - 1) - 1 - 1) (((((rs - 3 - 252) - 3 - 252) - 3 - 252) - 3 - 252) - 3 - 252) 71 [some (.ref ob), some (.ref dv)] [.ref a5, .ref ob] Mn5
  have hq5 := (hn5.kept (x := ob) (by rw [h133]; exact fun e => (by cases e))).trans h133
  have Jn5 := J4.whole (p := 6) hn5 (by first | rfl | decide) (by first | rfl | decide)
  obtain ⟨ad5, ea5⟩ : ∃ f, adu (adu ad4 (2 * (6)) a5) (2 * (6) + 1) b5 = f := ⟨_, rfl⟩
  rw [ea5] at Jn5
  have g5 : ∀ k, D k → ad5 k = ad k := fun k hk => by
    have := hd k hk
    rw [← ea5, adu_ne _ (by omega), adu_ne _ (by omega)]; exact g4 k hk
  have x5 : ad5 (2 * (6)) = a5 := by rw [← ea5, adu_ne _ (by omega), adu_at]
  have o5 : ad5 ko = ob := by
    rw [g5 ko dko, ea0]; exact o0
  have x1_5 : ad5 (2 * (2)) = a1 := (show ad5 (2 * (2)) = ad4 (2 * (2)) by rw [← ea5, adu_ne _ (by omega), adu_ne _ (by omega)]).trans x1_4
  have x2_5 : ad5 (2 * (3)) = a2 := (show ad5 (2 * (3)) = ad4 (2 * (3)) by rw [← ea5, adu_ne _ (by omega), adu_ne _ (by omega)]).trans x2_4
  have x3_5 : ad5 (2 * (4)) = a3 := (show ad5 (2 * (4)) = ad4 (2 * (4)) by rw [← ea5, adu_ne _ (by omega), adu_ne _ (by omega)]).trans x3_4
  have x4_5 : ad5 (2 * (5)) = a4 := (show ad5 (2 * (5)) = ad4 (2 * (5)) by rw [← ea5, adu_ne _ (by omega), adu_ne _ (by omega)]).trans x4
  show jj G kU_init (d + 2) Q (((((rc - 1 - 1) - 1 - 1) - 1 - 1) - 1 - 1) - 1 - 1) (((((rs - 3 - 252) - 3 - 252) - 3 - 252) - 3 - 252) - 3 - 252) 71 [some (.ref ob), some (.ref dv)] [.ref a5, .ref ob] Mn5
  refine jj_putf (pc := 71) kU_init_d71 (kpU_spare hG) hq5 (by rfl) rfl ?_
  refine jn_gen (fun M134 hM135 => ?_)
  have h136 : M134 ob = some (.inl nU, [.ref a1, .ref a2, .ref a3, .ref a4, .ref a5, .null, .int (nI (0)), .long 0, .long 0, .long 0, .long 0]) := by rw [hM135]; exact jj_up_at _ _ _
  have J5 := Jn5.put (M' := M134) (ko := ko) (by refine Or.inl ?_; refine Or.inl ?_; refine Or.inl ?_; refine Or.inl ?_; refine Or.inl ?_; refine Or.inl ?_; refine Or.inl ?_; refine Or.inl ?_; refine Or.inl ?_; refine Or.inl ?_; exact dko) k6 (fun x hx => by rw [hM135, jj_up_ne _ _ (by rw [← o5]; exact hx)]) (by rw [o5, h136]; exact fun e => (by cases e))
  have f5 : ∀ x, x ≠ ob → M x ≠ none → M134 x = M x := fun x h1 h2 => by
    have h3 := f4 x h1 h2
    exact (show M134 x = M131 x by rw [hM135, jj_up_ne _ _ h1, hn5.kept (by rw [h3]; exact h2)]).trans h3
  refine jj_aload_n (pc := 74) kU_init_d74 rfl ?_
  refine jj_aload_n (pc := 75) kU_init_d75 rfl ?_
  refine jj_putF (pc := 76) kU_init_d76 (kpU_divider hG) rfl h136 (by rfl) rfl ?_
  refine jn_gen (fun M137 hM138 => ?_)
  have h139 : M137 ob = some (.inl nU, [.ref a1, .ref a2, .ref a3, .ref a4, .ref a5, .ref dv, .int (nI (0)), .long 0, .long 0, .long 0, .long 0]) := by rw [hM138]; exact jj_up_at _ _ _
  have J5s := J5.put (M' := M137) (ko := ko) (by refine Or.inl ?_; refine Or.inl ?_; refine Or.inl ?_; refine Or.inl ?_; refine Or.inl ?_; refine Or.inl ?_; refine Or.inl ?_; refine Or.inl ?_; refine Or.inl ?_; refine Or.inl ?_; exact dko) k6 (fun x hx => by rw [hM138, jj_up_ne _ _ (by rw [← o5]; exact hx)]) (by rw [o5, h139]; exact fun e => (by cases e))
  have f5s : ∀ x, x ≠ ob → M x ≠ none → M137 x = M x := fun x h1 h2 => by rw [hM138, jj_up_ne _ _ h1]; exact f5 x h1 h2
  exact jj_vret (pc := 79) kU_init_d79 rfl (k M137 ad5 _ _ (J5s.weak (fun k hk => by rcases hk with h | h; exact (Or.inl (Or.inl (Or.inl (Or.inl (Or.inl (Or.inl (Or.inl (Or.inl (Or.inl (Or.inl h)))))))))); omega)) g5 (by rw [show ad5 4 = a1 from x1_5, show ad5 6 = a2 from x2_5, show ad5 8 = a3 from x3_5, show ad5 10 = a4 from x4_5, show ad5 12 = a5 from x5]; exact h139) f5s (by omega) (by omega))
end I3
