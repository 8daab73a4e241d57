/-! ===== the law: its methods (printed by wip/gen/rL2.py) ===== -/
section LW3
variable {G : jg} {d : Nat} {Q : jq} {M : mheap} {wa la oa F : Nat → Nat} {eu dv hi lo ot : Nat} {σ : rst} {code : Int32} {X Z rc rs : Nat}
theorem lm_make {x y z : Int32} (hG : kG G) (hJ : XJ wa la capx oa eu dv hi lo) (hH : HW M wa la oa F eu dv hi lo ot σ σ code (X + 6) (Z + 1) rc rs) (K : ∀ (M' : mheap) (cd : Nat) (σ' : rst) (rc' rs' : Nat), semMake σ x y z cd σ' → HW M' wa la oa F eu dv hi lo ot σ' σ code X Z rc' rs' → cd ≤ 3 → Q (.returned (some (.int (nI cd)))) M' rc' rs') : jj G kL_make (d + 11) Q rc rs 0 (jj_ent [.ref (oa 0), .int (x), .int (y), .int (z)] 5) [] M := by
  obtain ⟨fs, hob⟩ := hH.ob
  have hrm := hH.2.1.room
  show jj G kL_make (d + 11) Q rc rs 0 [some (.ref (oa 0)), some (.int (x)), some (.int (y)), some (.int (z)), none] [] M
  refine jj_aload_n (pc := 0) kL_make_d0 rfl ?_
  refine jj_iload_n (pc := 1) kL_make_d1 rfl ?_
  refine jj_iload_n (pc := 2) kL_make_d2 rfl ?_
  refine jj_iload_n (pc := 3) kL_make_d3 rfl ?_
  refine jj_callVC (pc := 4) (d := d + 10) (b := oa 0) (As := [.int (x), .int (y), .int (z)]) (Q' := (fun oc M' rc' rs' => match oc with | .returned v => jj G kL_make (d + 11) Q rc' rs' 7 [some (.ref (oa 0)), some (.int (x)), some (.int (y)), some (.int (z)), none] (v.toList ++ []) M' | .threw xq => ∃ (ci hpc : Nat) (E : String) (T0 : u_T), M' xq = some (.inl ci, []) ∧ G.2.1[ci]? = some (E, T0, 0) ∧ jj_find G "ExactFormsLaw" 4 E hpc [(0, 7, 10, 13), (0, 7, 14, 15)] ∧ jj G kL_make (d + 11) Q rc' rs' hpc [some (.ref (oa 0)), some (.int (x)), some (.int (y)), some (.int (z)), none] [.ref xq] M')) kL_make_d4 (kvL_X_make hG) (kG_cl hG rfl) rfl hob rfl rfl rfl (Nat.le_of_ble_eq_true rfl) (Nat.le_of_ble_eq_true rfl) (fun v M' rc' rs' h => h) (fun x M' rc' rs' h => h) ?_
  refine xp_make hG hJ hH.1 (by omega) (by omega) (fun M1 σ1 hs hx hf => ?_) (fun M1 cd ci hs hc hx hf x9 hn => ?_)
  · skip
    show jj G kL_make (d + 11) Q rc rs 7 [some (.ref (oa 0)), some (.int (x)), some (.int (y)), some (.int (z)), none] [] M1
    refine jj_goto (pc := 7) (tgt := 18) kL_make_d7 (by decide) ?_
    refine jn_iconst (pc := 18) 0 kL_make_d18 (by decide) ?_
    exact jj_iret (pc := 19) kL_make_d19 rfl (by rfl) (K M1 0 σ1 rc rs hs ((hH.cls hx hf).less (by omega) (by omega)) (by decide))
  · skip
    rcases hc with ⟨rfl, rfl⟩ | ⟨rfl, rfl⟩
    · skip
      refine ⟨4, 10, _, _, jj_up_at _ _ _, kG_cl hG rfl, Or.inr ⟨by decide, by decide, _, kcL_IOB hG, Or.inl ⟨rfl, rfl⟩⟩, ?_⟩
      show jj G kL_make (d + 11) Q (rc - 1) (rs - 6) 10 [some (.ref (oa 0)), some (.int (x)), some (.int (y)), some (.int (z)), none] [.ref x9] (jj_up M1 x9 (.inl 4, []))
      refine jj_astore (pc := 10) kL_make_d10 (Nat.le_of_ble_eq_true rfl) ?_
      show jj G kL_make (d + 11) Q (rc - 1) (rs - 6) 12 [some (.ref (oa 0)), some (.int (x)), some (.int (y)), some (.int (z)), some (.ref x9)] [] (jj_up M1 x9 (.inl 4, []))
      refine jn_iconst (pc := 12) 1 kL_make_d12 (by decide) ?_
      exact jj_iret (pc := 13) kL_make_d13 rfl (by rfl) (K _ 1 σ _ _ hs (((hH.cls hx hf).thr hn).less (by omega) (by omega)) (by decide))
    · skip
      refine ⟨5, 14, _, _, jj_up_at _ _ _, kG_cl hG rfl, Or.inr ⟨by decide, by decide, _, kcL_IOB hG, Or.inr ⟨kncL_IAE_IOB hG, Or.inr ⟨by decide, by decide, _, kcL_IAE hG, Or.inl ⟨rfl, rfl⟩⟩⟩⟩, ?_⟩
      show jj G kL_make (d + 11) Q (rc - 1) (rs - 6) 14 [some (.ref (oa 0)), some (.int (x)), some (.int (y)), some (.int (z)), none] [.ref x9] (jj_up M1 x9 (.inl 5, []))
      refine jj_astore (pc := 14) kL_make_d14 (Nat.le_of_ble_eq_true rfl) ?_
      show jj G kL_make (d + 11) Q (rc - 1) (rs - 6) 16 [some (.ref (oa 0)), some (.int (x)), some (.int (y)), some (.int (z)), some (.ref x9)] [] (jj_up M1 x9 (.inl 5, []))
      refine jn_iconst (pc := 16) 2 kL_make_d16 (by decide) ?_
      exact jj_iret (pc := 17) kL_make_d17 rfl (by rfl) (K _ 2 σ _ _ hs (((hH.cls hx hf).thr hn).less (by omega) (by omega)) (by decide))
theorem lm_set {x y z : Int32} {uu ll : Int64} (hG : kG G) (hJ : XJ wa la capx oa eu dv hi lo) (hH : HW M wa la oa F eu dv hi lo ot σ σ code (X + 6) (Z + 1) rc rs) (K : ∀ (M' : mheap) (cd : Nat) (σ' : rst) (rc' rs' : Nat), semSet σ x y z uu ll cd σ' → HW M' wa la oa F eu dv hi lo ot σ' σ code X Z rc' rs' → cd ≤ 3 → Q (.returned (some (.int (nI cd)))) M' rc' rs') : jj G kL_set (d + 11) Q rc rs 0 (jj_ent [.ref (oa 0), .int (x), .int (y), .int (z), .long (uu), .long (ll)] 9) [] M := by
  obtain ⟨fs, hob⟩ := hH.ob
  have hrm := hH.2.1.room
  show jj G kL_set (d + 11) Q rc rs 0 [some (.ref (oa 0)), some (.int (x)), some (.int (y)), some (.int (z)), some (.long (uu)), none, some (.long (ll)), none, none] [] M
  refine jj_aload_n (pc := 0) kL_set_d0 rfl ?_
  refine jj_iload_n (pc := 1) kL_set_d1 rfl ?_
  refine jj_iload_n (pc := 2) kL_set_d2 rfl ?_
  refine jj_iload_n (pc := 3) kL_set_d3 rfl ?_
  refine jj_lload (pc := 4) kL_set_d4 rfl ?_
  refine jj_lload (pc := 6) kL_set_d6 rfl ?_
  refine jj_callVC (pc := 8) (d := d + 10) (b := oa 0) (As := [.int (x), .int (y), .int (z), .long (uu), .long (ll)]) (Q' := (fun oc M' rc' rs' => match oc with | .returned v => jj G kL_set (d + 11) Q rc' rs' 11 [some (.ref (oa 0)), some (.int (x)), some (.int (y)), some (.int (z)), some (.long (uu)), none, some (.long (ll)), none, none] (v.toList ++ []) M' | .threw xq => ∃ (ci hpc : Nat) (E : String) (T0 : u_T), M' xq = some (.inl ci, []) ∧ G.2.1[ci]? = some (E, T0, 0) ∧ jj_find G "ExactFormsLaw" 8 E hpc [(0, 11, 14, 13), (0, 11, 18, 15), (0, 11, 22, 21)] ∧ jj G kL_set (d + 11) Q rc' rs' hpc [some (.ref (oa 0)), some (.int (x)), some (.int (y)), some (.int (z)), some (.long (uu)), none, some (.long (ll)), none, none] [.ref xq] M')) kL_set_d8 (kvL_X_set hG) (kG_cl hG rfl) rfl hob rfl rfl rfl (Nat.le_of_ble_eq_true rfl) (Nat.le_of_ble_eq_true rfl) (fun v M' rc' rs' h => h) (fun x M' rc' rs' h => h) ?_
  refine xp_set hG hJ hH.1 (by omega) (by omega) (fun M1 σ1 hs hx hf => ?_) (fun M1 cd ci hs hc hx hf x9 hn => ?_)
  · skip
    show jj G kL_set (d + 11) Q rc rs 11 [some (.ref (oa 0)), some (.int (x)), some (.int (y)), some (.int (z)), some (.long (uu)), none, some (.long (ll)), none, none] [] M1
    refine jj_goto (pc := 11) (tgt := 26) kL_set_d11 (by decide) ?_
    refine jn_iconst (pc := 26) 0 kL_set_d26 (by decide) ?_
    exact jj_iret (pc := 27) kL_set_d27 rfl (by rfl) (K M1 0 σ1 rc rs hs ((hH.cls hx hf).less (by omega) (by omega)) (by decide))
  · skip
    rcases hc with ⟨rfl, rfl⟩ | ⟨rfl, rfl⟩ | ⟨rfl, rfl⟩
    · skip
      refine ⟨4, 14, _, _, jj_up_at _ _ _, kG_cl hG rfl, Or.inr ⟨by decide, by decide, _, kcL_IOB hG, Or.inl ⟨rfl, rfl⟩⟩, ?_⟩
      show jj G kL_set (d + 11) Q (rc - 1) (rs - 6) 14 [some (.ref (oa 0)), some (.int (x)), some (.int (y)), some (.int (z)), some (.long (uu)), none, some (.long (ll)), none, none] [.ref x9] (jj_up M1 x9 (.inl 4, []))
      refine jj_astore (pc := 14) kL_set_d14 (Nat.le_of_ble_eq_true rfl) ?_
      show jj G kL_set (d + 11) Q (rc - 1) (rs - 6) 16 [some (.ref (oa 0)), some (.int (x)), some (.int (y)), some (.int (z)), some (.long (uu)), none, some (.long (ll)), none, some (.ref x9)] [] (jj_up M1 x9 (.inl 4, []))
      refine jn_iconst (pc := 16) 1 kL_set_d16 (by decide) ?_
      exact jj_iret (pc := 17) kL_set_d17 rfl (by rfl) (K _ 1 σ _ _ hs (((hH.cls hx hf).thr hn).less (by omega) (by omega)) (by decide))
    · skip
      refine ⟨5, 18, _, _, jj_up_at _ _ _, kG_cl hG rfl, Or.inr ⟨by decide, by decide, _, kcL_IOB hG, Or.inr ⟨kncL_IAE_IOB hG, Or.inr ⟨by decide, by decide, _, kcL_IAE hG, Or.inl ⟨rfl, rfl⟩⟩⟩⟩, ?_⟩
      show jj G kL_set (d + 11) Q (rc - 1) (rs - 6) 18 [some (.ref (oa 0)), some (.int (x)), some (.int (y)), some (.int (z)), some (.long (uu)), none, some (.long (ll)), none, none] [.ref x9] (jj_up M1 x9 (.inl 5, []))
      refine jj_astore (pc := 18) kL_set_d18 (Nat.le_of_ble_eq_true rfl) ?_
      show jj G kL_set (d + 11) Q (rc - 1) (rs - 6) 20 [some (.ref (oa 0)), some (.int (x)), some (.int (y)), some (.int (z)), some (.long (uu)), none, some (.long (ll)), none, some (.ref x9)] [] (jj_up M1 x9 (.inl 5, []))
      refine jn_iconst (pc := 20) 2 kL_set_d20 (by decide) ?_
      exact jj_iret (pc := 21) kL_set_d21 rfl (by rfl) (K _ 2 σ _ _ hs (((hH.cls hx hf).thr hn).less (by omega) (by omega)) (by decide))
    · skip
      refine ⟨6, 22, _, _, jj_up_at _ _ _, kG_cl hG rfl, Or.inr ⟨by decide, by decide, _, kcL_IOB hG, Or.inr ⟨kncL_UOE_IOB hG, Or.inr ⟨by decide, by decide, _, kcL_IAE hG, Or.inr ⟨kncL_UOE_IAE hG, Or.inr ⟨by decide, by decide, _, kcL_UOE hG, Or.inl ⟨rfl, rfl⟩⟩⟩⟩⟩⟩, ?_⟩
      show jj G kL_set (d + 11) Q (rc - 1) (rs - 6) 22 [some (.ref (oa 0)), some (.int (x)), some (.int (y)), some (.int (z)), some (.long (uu)), none, some (.long (ll)), none, none] [.ref x9] (jj_up M1 x9 (.inl 6, []))
      refine jj_astore (pc := 22) kL_set_d22 (Nat.le_of_ble_eq_true rfl) ?_
      show jj G kL_set (d + 11) Q (rc - 1) (rs - 6) 24 [some (.ref (oa 0)), some (.int (x)), some (.int (y)), some (.int (z)), some (.long (uu)), none, some (.long (ll)), none, some (.ref x9)] [] (jj_up M1 x9 (.inl 6, []))
      refine jn_iconst (pc := 24) 3 kL_set_d24 (by decide) ?_
      exact jj_iret (pc := 25) kL_set_d25 rfl (by rfl) (K _ 3 σ _ _ hs (((hH.cls hx hf).thr hn).less (by omega) (by omega)) (by decide))
theorem lm_unit {x y : Int32} (hG : kG G) (hJ : XJ wa la capx oa eu dv hi lo) (hH : HW M wa la oa F eu dv hi lo ot σ σ code (X + 6) (Z + 1) rc rs) (K : ∀ (M' : mheap) (cd : Nat) (σ' : rst) (rc' rs' : Nat), semUnit σ x y cd σ' → HW M' wa la oa F eu dv hi lo ot σ' σ code X Z rc' rs' → cd ≤ 3 → Q (.returned (some (.int (nI cd)))) M' rc' rs') : jj G kL_unit (d + 11) Q rc rs 0 (jj_ent [.ref (oa 0), .int (x), .int (y)] 4) [] M := by
  obtain ⟨fs, hob⟩ := hH.ob
  have hrm := hH.2.1.room
  show jj G kL_unit (d + 11) Q rc rs 0 [some (.ref (oa 0)), some (.int (x)), some (.int (y)), none] [] M
  refine jj_aload_n (pc := 0) kL_unit_d0 rfl ?_
  refine jj_iload_n (pc := 1) kL_unit_d1 rfl ?_
  refine jj_iload_n (pc := 2) kL_unit_d2 rfl ?_
  refine jj_callVC (pc := 3) (d := d + 10) (b := oa 0) (As := [.int (x), .int (y)]) (Q' := (fun oc M' rc' rs' => match oc with | .returned v => jj G kL_unit (d + 11) Q rc' rs' 6 [some (.ref (oa 0)), some (.int (x)), some (.int (y)), none] (v.toList ++ []) M' | .threw xq => ∃ (ci hpc : Nat) (E : String) (T0 : u_T), M' xq = some (.inl ci, []) ∧ G.2.1[ci]? = some (E, T0, 0) ∧ jj_find G "ExactFormsLaw" 3 E hpc [(0, 6, 9, 13), (0, 6, 12, 15)] ∧ jj G kL_unit (d + 11) Q rc' rs' hpc [some (.ref (oa 0)), some (.int (x)), some (.int (y)), none] [.ref xq] M')) kL_unit_d3 (kvL_X_unit hG) (kG_cl hG rfl) rfl hob rfl rfl rfl (Nat.le_of_ble_eq_true rfl) (Nat.le_of_ble_eq_true rfl) (fun v M' rc' rs' h => h) (fun x M' rc' rs' h => h) ?_
  refine xp_unit hG hJ hH.1 (by omega) (by omega) (fun M1 σ1 hs hx hf => ?_) (fun M1 cd ci hs hc hx hf x9 hn => ?_)
  · skip
    show jj G kL_unit (d + 11) Q rc rs 6 [some (.ref (oa 0)), some (.int (x)), some (.int (y)), none] [] M1
    refine jj_goto (pc := 6) (tgt := 15) kL_unit_d6 (by decide) ?_
    refine jn_iconst (pc := 15) 0 kL_unit_d15 (by decide) ?_
    exact jj_iret (pc := 16) kL_unit_d16 rfl (by rfl) (K M1 0 σ1 rc rs hs ((hH.cls hx hf).less (by omega) (by omega)) (by decide))
  · skip
    rcases hc with ⟨rfl, rfl⟩ | ⟨rfl, rfl⟩
    · skip
      refine ⟨4, 9, _, _, jj_up_at _ _ _, kG_cl hG rfl, Or.inr ⟨by decide, by decide, _, kcL_IOB hG, Or.inl ⟨rfl, rfl⟩⟩, ?_⟩
      show jj G kL_unit (d + 11) Q (rc - 1) (rs - 6) 9 [some (.ref (oa 0)), some (.int (x)), some (.int (y)), none] [.ref x9] (jj_up M1 x9 (.inl 4, []))
      refine jj_astore_n (pc := 9) kL_unit_d9 (Nat.le_of_ble_eq_true rfl) ?_
      show jj G kL_unit (d + 11) Q (rc - 1) (rs - 6) 10 [some (.ref (oa 0)), some (.int (x)), some (.int (y)), some (.ref x9)] [] (jj_up M1 x9 (.inl 4, []))
      refine jn_iconst (pc := 10) 1 kL_unit_d10 (by decide) ?_
      exact jj_iret (pc := 11) kL_unit_d11 rfl (by rfl) (K _ 1 σ _ _ hs (((hH.cls hx hf).thr hn).less (by omega) (by omega)) (by decide))
    · skip
      refine ⟨5, 12, _, _, jj_up_at _ _ _, kG_cl hG rfl, Or.inr ⟨by decide, by decide, _, kcL_IOB hG, Or.inr ⟨kncL_IAE_IOB hG, Or.inr ⟨by decide, by decide, _, kcL_IAE hG, Or.inl ⟨rfl, rfl⟩⟩⟩⟩, ?_⟩
      show jj G kL_unit (d + 11) Q (rc - 1) (rs - 6) 12 [some (.ref (oa 0)), some (.int (x)), some (.int (y)), none] [.ref x9] (jj_up M1 x9 (.inl 5, []))
      refine jj_astore_n (pc := 12) kL_unit_d12 (Nat.le_of_ble_eq_true rfl) ?_
      show jj G kL_unit (d + 11) Q (rc - 1) (rs - 6) 13 [some (.ref (oa 0)), some (.int (x)), some (.int (y)), some (.ref x9)] [] (jj_up M1 x9 (.inl 5, []))
      refine jn_iconst (pc := 13) 2 kL_unit_d13 (by decide) ?_
      exact jj_iret (pc := 14) kL_unit_d14 rfl (by rfl) (K _ 2 σ _ _ hs (((hH.cls hx hf).thr hn).less (by omega) (by omega)) (by decide))
theorem lm_add {x y z b : Int32} (hG : kG G) (hJ : XJ wa la capx oa eu dv hi lo) (hb01 : b = 0 ∨ b = 1) (hH : HW M wa la oa F eu dv hi lo ot σ σ code (X + 6) (Z + 1) rc rs) (K : ∀ (M' : mheap) (cd : Nat) (σ' : rst) (rc' rs' : Nat), semAdd σ x y z b cd σ' → HW M' wa la oa F eu dv hi lo ot σ' σ code X Z rc' rs' → cd ≤ 3 → Q (.returned (some (.int (nI cd)))) M' rc' rs') : jj G kL_add (d + 11) Q rc rs 0 (jj_ent [.ref (oa 0), .int (x), .int (y), .int (z), .int (b)] 6) [] M := by
  obtain ⟨fs, hob⟩ := hH.ob
  have hrm := hH.2.1.room
  show jj G kL_add (d + 11) Q rc rs 0 [some (.ref (oa 0)), some (.int (x)), some (.int (y)), some (.int (z)), some (.int (b)), none] [] M
  refine jj_aload_n (pc := 0) kL_add_d0 rfl ?_
  refine jj_iload_n (pc := 1) kL_add_d1 rfl ?_
  refine jj_iload_n (pc := 2) kL_add_d2 rfl ?_
  refine jj_iload_n (pc := 3) kL_add_d3 rfl ?_
  refine jj_iload (pc := 4) kL_add_d4 rfl ?_
  refine jj_callVC (pc := 6) (d := d + 10) (b := oa 0) (As := [.int (x), .int (y), .int (z), .int (b)]) (Q' := (fun oc M' rc' rs' => match oc with | .returned v => jj G kL_add (d + 11) Q rc' rs' 9 [some (.ref (oa 0)), some (.int (x)), some (.int (y)), some (.int (z)), some (.int (b)), none] (v.toList ++ []) M' | .threw xq => ∃ (ci hpc : Nat) (E : String) (T0 : u_T), M' xq = some (.inl ci, []) ∧ G.2.1[ci]? = some (E, T0, 0) ∧ jj_find G "ExactFormsLaw" 6 E hpc [(0, 9, 12, 13), (0, 9, 16, 15), (0, 9, 20, 21)] ∧ jj G kL_add (d + 11) Q rc' rs' hpc [some (.ref (oa 0)), some (.int (x)), some (.int (y)), some (.int (z)), some (.int (b)), none] [.ref xq] M')) kL_add_d6 (kvL_X_add hG) (kG_cl hG rfl) rfl hob rfl rfl rfl (Nat.le_of_ble_eq_true rfl) (Nat.le_of_ble_eq_true rfl) (fun v M' rc' rs' h => h) (fun x M' rc' rs' h => h) ?_
  refine xp_add hG hJ hH.1 hb01 (by omega) (by omega) (fun M1 σ1 hs hx hf => ?_) (fun M1 cd ci hs hc hx hf x9 hn => ?_)
  · skip
    show jj G kL_add (d + 11) Q rc rs 9 [some (.ref (oa 0)), some (.int (x)), some (.int (y)), some (.int (z)), some (.int (b)), none] [] M1
    refine jj_goto (pc := 9) (tgt := 24) kL_add_d9 (by decide) ?_
    refine jn_iconst (pc := 24) 0 kL_add_d24 (by decide) ?_
    exact jj_iret (pc := 25) kL_add_d25 rfl (by rfl) (K M1 0 σ1 rc rs hs ((hH.cls hx hf).less (by omega) (by omega)) (by decide))
  · skip
    rcases hc with ⟨rfl, rfl⟩ | ⟨rfl, rfl⟩ | ⟨rfl, rfl⟩
    · skip
      refine ⟨4, 12, _, _, jj_up_at _ _ _, kG_cl hG rfl, Or.inr ⟨by decide, by decide, _, kcL_IOB hG, Or.inl ⟨rfl, rfl⟩⟩, ?_⟩
      show jj G kL_add (d + 11) Q (rc - 1) (rs - 6) 12 [some (.ref (oa 0)), some (.int (x)), some (.int (y)), some (.int (z)), some (.int (b)), none] [.ref x9] (jj_up M1 x9 (.inl 4, []))
      refine jj_astore (pc := 12) kL_add_d12 (Nat.le_of_ble_eq_true rfl) ?_
      show jj G kL_add (d + 11) Q (rc - 1) (rs - 6) 14 [some (.ref (oa 0)), some (.int (x)), some (.int (y)), some (.int (z)), some (.int (b)), some (.ref x9)] [] (jj_up M1 x9 (.inl 4, []))
      refine jn_iconst (pc := 14) 1 kL_add_d14 (by decide) ?_
      exact jj_iret (pc := 15) kL_add_d15 rfl (by rfl) (K _ 1 σ _ _ hs (((hH.cls hx hf).thr hn).less (by omega) (by omega)) (by decide))
    · skip
      refine ⟨5, 16, _, _, jj_up_at _ _ _, kG_cl hG rfl, Or.inr ⟨by decide, by decide, _, kcL_IOB hG, Or.inr ⟨kncL_IAE_IOB hG, Or.inr ⟨by decide, by decide, _, kcL_IAE hG, Or.inl ⟨rfl, rfl⟩⟩⟩⟩, ?_⟩
      show jj G kL_add (d + 11) Q (rc - 1) (rs - 6) 16 [some (.ref (oa 0)), some (.int (x)), some (.int (y)), some (.int (z)), some (.int (b)), none] [.ref x9] (jj_up M1 x9 (.inl 5, []))
      refine jj_astore (pc := 16) kL_add_d16 (Nat.le_of_ble_eq_true rfl) ?_
      show jj G kL_add (d + 11) Q (rc - 1) (rs - 6) 18 [some (.ref (oa 0)), some (.int (x)), some (.int (y)), some (.int (z)), some (.int (b)), some (.ref x9)] [] (jj_up M1 x9 (.inl 5, []))
      refine jn_iconst (pc := 18) 2 kL_add_d18 (by decide) ?_
      exact jj_iret (pc := 19) kL_add_d19 rfl (by rfl) (K _ 2 σ _ _ hs (((hH.cls hx hf).thr hn).less (by omega) (by omega)) (by decide))
    · skip
      refine ⟨6, 20, _, _, jj_up_at _ _ _, kG_cl hG rfl, Or.inr ⟨by decide, by decide, _, kcL_IOB hG, Or.inr ⟨kncL_UOE_IOB hG, Or.inr ⟨by decide, by decide, _, kcL_IAE hG, Or.inr ⟨kncL_UOE_IAE hG, Or.inr ⟨by decide, by decide, _, kcL_UOE hG, Or.inl ⟨rfl, rfl⟩⟩⟩⟩⟩⟩, ?_⟩
      show jj G kL_add (d + 11) Q (rc - 1) (rs - 6) 20 [some (.ref (oa 0)), some (.int (x)), some (.int (y)), some (.int (z)), some (.int (b)), none] [.ref x9] (jj_up M1 x9 (.inl 6, []))
      refine jj_astore (pc := 20) kL_add_d20 (Nat.le_of_ble_eq_true rfl) ?_
      show jj G kL_add (d + 11) Q (rc - 1) (rs - 6) 22 [some (.ref (oa 0)), some (.int (x)), some (.int (y)), some (.int (z)), some (.int (b)), some (.ref x9)] [] (jj_up M1 x9 (.inl 6, []))
      refine jn_iconst (pc := 22) 3 kL_add_d22 (by decide) ?_
      exact jj_iret (pc := 23) kL_add_d23 rfl (by rfl) (K _ 3 σ _ _ hs (((hH.cls hx hf).thr hn).less (by omega) (by omega)) (by decide))
theorem lm_multiply {x y z : Int32} (hG : kG G) (hJ : XJ wa la capx oa eu dv hi lo) (hH : HW M wa la oa F eu dv hi lo ot σ σ code (X + 6) (Z + 1) rc rs) (K : ∀ (M' : mheap) (cd : Nat) (σ' : rst) (rc' rs' : Nat), semMul σ x y z cd σ' → HW M' wa la oa F eu dv hi lo ot σ' σ code X Z rc' rs' → cd ≤ 3 → Q (.returned (some (.int (nI cd)))) M' rc' rs') : jj G kL_multiply (d + 11) Q rc rs 0 (jj_ent [.ref (oa 0), .int (x), .int (y), .int (z)] 5) [] M := by
  obtain ⟨fs, hob⟩ := hH.ob
  have hrm := hH.2.1.room
  show jj G kL_multiply (d + 11) Q rc rs 0 [some (.ref (oa 0)), some (.int (x)), some (.int (y)), some (.int (z)), none] [] M
  refine jj_aload_n (pc := 0) kL_multiply_d0 rfl ?_
  refine jj_iload_n (pc := 1) kL_multiply_d1 rfl ?_
  refine jj_iload_n (pc := 2) kL_multiply_d2 rfl ?_
  refine jj_iload_n (pc := 3) kL_multiply_d3 rfl ?_
  refine jj_callVC (pc := 4) (d := d + 10) (b := oa 0) (As := [.int (x), .int (y), .int (z)]) (Q' := (fun oc M' rc' rs' => match oc with | .returned v => jj G kL_multiply (d + 11) Q rc' rs' 7 [some (.ref (oa 0)), some (.int (x)), some (.int (y)), some (.int (z)), none] (v.toList ++ []) M' | .threw xq => ∃ (ci hpc : Nat) (E : String) (T0 : u_T), M' xq = some (.inl ci, []) ∧ G.2.1[ci]? = some (E, T0, 0) ∧ jj_find G "ExactFormsLaw" 4 E hpc [(0, 7, 10, 13), (0, 7, 14, 15), (0, 7, 18, 21)] ∧ jj G kL_multiply (d + 11) Q rc' rs' hpc [some (.ref (oa 0)), some (.int (x)), some (.int (y)), some (.int (z)), none] [.ref xq] M')) kL_multiply_d4 (kvL_X_multiply hG) (kG_cl hG rfl) rfl hob rfl rfl rfl (Nat.le_of_ble_eq_true rfl) (Nat.le_of_ble_eq_true rfl) (fun v M' rc' rs' h => h) (fun x M' rc' rs' h => h) ?_
  refine xp_multiply hG hJ hH.1 (by omega) (by omega) (fun M1 σ1 hs hx hf => ?_) (fun M1 cd ci hs hc hx hf x9 hn => ?_)
  · skip
    show jj G kL_multiply (d + 11) Q rc rs 7 [some (.ref (oa 0)), some (.int (x)), some (.int (y)), some (.int (z)), none] [] M1
    refine jj_goto (pc := 7) (tgt := 22) kL_multiply_d7 (by decide) ?_
    refine jn_iconst (pc := 22) 0 kL_multiply_d22 (by decide) ?_
    exact jj_iret (pc := 23) kL_multiply_d23 rfl (by rfl) (K M1 0 σ1 rc rs hs ((hH.cls hx hf).less (by omega) (by omega)) (by decide))
  · skip
    rcases hc with ⟨rfl, rfl⟩ | ⟨rfl, rfl⟩ | ⟨rfl, rfl⟩
    · skip
      refine ⟨4, 10, _, _, jj_up_at _ _ _, kG_cl hG rfl, Or.inr ⟨by decide, by decide, _, kcL_IOB hG, Or.inl ⟨rfl, rfl⟩⟩, ?_⟩
      show jj G kL_multiply (d + 11) Q (rc - 1) (rs - 6) 10 [some (.ref (oa 0)), some (.int (x)), some (.int (y)), some (.int (z)), none] [.ref x9] (jj_up M1 x9 (.inl 4, []))
      refine jj_astore (pc := 10) kL_multiply_d10 (Nat.le_of_ble_eq_true rfl) ?_
      show jj G kL_multiply (d + 11) Q (rc - 1) (rs - 6) 12 [some (.ref (oa 0)), some (.int (x)), some (.int (y)), some (.int (z)), some (.ref x9)] [] (jj_up M1 x9 (.inl 4, []))
      refine jn_iconst (pc := 12) 1 kL_multiply_d12 (by decide) ?_
      exact jj_iret (pc := 13) kL_multiply_d13 rfl (by rfl) (K _ 1 σ _ _ hs (((hH.cls hx hf).thr hn).less (by omega) (by omega)) (by decide))
    · skip
      refine ⟨5, 14, _, _, jj_up_at _ _ _, kG_cl hG rfl, Or.inr ⟨by decide, by decide, _, kcL_IOB hG, Or.inr ⟨kncL_IAE_IOB hG, Or.inr ⟨by decide, by decide, _, kcL_IAE hG, Or.inl ⟨rfl, rfl⟩⟩⟩⟩, ?_⟩
      show jj G kL_multiply (d + 11) Q (rc - 1) (rs - 6) 14 [some (.ref (oa 0)), some (.int (x)), some (.int (y)), some (.int (z)), none] [.ref x9] (jj_up M1 x9 (.inl 5, []))
      refine jj_astore (pc := 14) kL_multiply_d14 (Nat.le_of_ble_eq_true rfl) ?_
      show jj G kL_multiply (d + 11) Q (rc - 1) (rs - 6) 16 [some (.ref (oa 0)), some (.int (x)), some (.int (y)), some (.int (z)), some (.ref x9)] [] (jj_up M1 x9 (.inl 5, []))
      refine jn_iconst (pc := 16) 2 kL_multiply_d16 (by decide) ?_
      exact jj_iret (pc := 17) kL_multiply_d17 rfl (by rfl) (K _ 2 σ _ _ hs (((hH.cls hx hf).thr hn).less (by omega) (by omega)) (by decide))
    · skip
      refine ⟨6, 18, _, _, jj_up_at _ _ _, kG_cl hG rfl, Or.inr ⟨by decide, by decide, _, kcL_IOB hG, Or.inr ⟨kncL_UOE_IOB hG, Or.inr ⟨by decide, by decide, _, kcL_IAE hG, Or.inr ⟨kncL_UOE_IAE hG, Or.inr ⟨by decide, by decide, _, kcL_UOE hG, Or.inl ⟨rfl, rfl⟩⟩⟩⟩⟩⟩, ?_⟩
      show jj G kL_multiply (d + 11) Q (rc - 1) (rs - 6) 18 [some (.ref (oa 0)), some (.int (x)), some (.int (y)), some (.int (z)), none] [.ref x9] (jj_up M1 x9 (.inl 6, []))
      refine jj_astore (pc := 18) kL_multiply_d18 (Nat.le_of_ble_eq_true rfl) ?_
      show jj G kL_multiply (d + 11) Q (rc - 1) (rs - 6) 20 [some (.ref (oa 0)), some (.int (x)), some (.int (y)), some (.int (z)), some (.ref x9)] [] (jj_up M1 x9 (.inl 6, []))
      refine jn_iconst (pc := 20) 3 kL_multiply_d20 (by decide) ?_
      exact jj_iret (pc := 21) kL_multiply_d21 rfl (by rfl) (K _ 3 σ _ _ hs (((hH.cls hx hf).thr hn).less (by omega) (by omega)) (by decide))
theorem lm_turn {x y : Int32} (hG : kG G) (hJ : XJ wa la capx oa eu dv hi lo) (hH : HW M wa la oa F eu dv hi lo ot σ σ code (X + 6) (Z + 1) rc rs) (K : ∀ (M' : mheap) (cd : Nat) (σ' : rst) (rc' rs' : Nat), semTurn σ x y cd σ' → HW M' wa la oa F eu dv hi lo ot σ' σ code X Z rc' rs' → cd ≤ 3 → Q (.returned (some (.int (nI cd)))) M' rc' rs') : jj G kL_turn (d + 11) Q rc rs 0 (jj_ent [.ref (oa 0), .int (x), .int (y)] 4) [] M := by
  obtain ⟨fs, hob⟩ := hH.ob
  have hrm := hH.2.1.room
  show jj G kL_turn (d + 11) Q rc rs 0 [some (.ref (oa 0)), some (.int (x)), some (.int (y)), none] [] M
  refine jj_aload_n (pc := 0) kL_turn_d0 rfl ?_
  refine jj_iload_n (pc := 1) kL_turn_d1 rfl ?_
  refine jj_iload_n (pc := 2) kL_turn_d2 rfl ?_
  refine jj_callVC (pc := 3) (d := d + 10) (b := oa 0) (As := [.int (x), .int (y)]) (Q' := (fun oc M' rc' rs' => match oc with | .returned v => jj G kL_turn (d + 11) Q rc' rs' 6 [some (.ref (oa 0)), some (.int (x)), some (.int (y)), none] (v.toList ++ []) M' | .threw xq => ∃ (ci hpc : Nat) (E : String) (T0 : u_T), M' xq = some (.inl ci, []) ∧ G.2.1[ci]? = some (E, T0, 0) ∧ jj_find G "ExactFormsLaw" 3 E hpc [(0, 6, 9, 13)] ∧ jj G kL_turn (d + 11) Q rc' rs' hpc [some (.ref (oa 0)), some (.int (x)), some (.int (y)), none] [.ref xq] M')) kL_turn_d3 (kvL_X_turn hG) (kG_cl hG rfl) rfl hob rfl rfl rfl (Nat.le_of_ble_eq_true rfl) (Nat.le_of_ble_eq_true rfl) (fun v M' rc' rs' h => h) (fun x M' rc' rs' h => h) ?_
  refine xp_turn hG hJ hH.1 hH.2.2.1 (by omega) (by omega) (fun M1 σ1 hs hx hf => ?_) (fun M1 cd ci hs hc hx hf x9 hn => ?_)
  · skip
    show jj G kL_turn (d + 11) Q rc rs 6 [some (.ref (oa 0)), some (.int (x)), some (.int (y)), none] [] M1
    refine jj_goto (pc := 6) (tgt := 12) kL_turn_d6 (by decide) ?_
    refine jn_iconst (pc := 12) 0 kL_turn_d12 (by decide) ?_
    exact jj_iret (pc := 13) kL_turn_d13 rfl (by rfl) (K M1 0 σ1 rc rs hs ((hH.cls hx hf).less (by omega) (by omega)) (by decide))
  · skip
    rcases hc with ⟨rfl, rfl⟩
    · skip
      refine ⟨4, 9, _, _, jj_up_at _ _ _, kG_cl hG rfl, Or.inr ⟨by decide, by decide, _, kcL_IOB hG, Or.inl ⟨rfl, rfl⟩⟩, ?_⟩
      show jj G kL_turn (d + 11) Q (rc - 1) (rs - 6) 9 [some (.ref (oa 0)), some (.int (x)), some (.int (y)), none] [.ref x9] (jj_up M1 x9 (.inl 4, []))
      refine jj_astore_n (pc := 9) kL_turn_d9 (Nat.le_of_ble_eq_true rfl) ?_
      show jj G kL_turn (d + 11) Q (rc - 1) (rs - 6) 10 [some (.ref (oa 0)), some (.int (x)), some (.int (y)), some (.ref x9)] [] (jj_up M1 x9 (.inl 4, []))
      refine jn_iconst (pc := 10) 1 kL_turn_d10 (by decide) ?_
      exact jj_iret (pc := 11) kL_turn_d11 rfl (by rfl) (K _ 1 σ _ _ hs (((hH.cls hx hf).thr hn).less (by omega) (by omega)) (by decide))
theorem lm_beside {x y z : Int32} (hG : kG G) (hJ : XJ wa la capx oa eu dv hi lo) (hH : HW M wa la oa F eu dv hi lo ot σ σ code (X + 6) (Z + 1) rc rs) (K : ∀ (M' : mheap) (cd : Nat) (σ' : rst) (rc' rs' : Nat), semBeside σ x y z cd σ' → HW M' wa la oa F eu dv hi lo ot σ' σ code X Z rc' rs' → cd ≤ 3 → Q (.returned (some (.int (nI cd)))) M' rc' rs') : jj G kL_beside (d + 11) Q rc rs 0 (jj_ent [.ref (oa 0), .int (x), .int (y), .int (z)] 5) [] M := by
  obtain ⟨fs, hob⟩ := hH.ob
  have hrm := hH.2.1.room
  show jj G kL_beside (d + 11) Q rc rs 0 [some (.ref (oa 0)), some (.int (x)), some (.int (y)), some (.int (z)), none] [] M
  refine jj_aload_n (pc := 0) kL_beside_d0 rfl ?_
  refine jj_iload_n (pc := 1) kL_beside_d1 rfl ?_
  refine jj_iload_n (pc := 2) kL_beside_d2 rfl ?_
  refine jj_iload_n (pc := 3) kL_beside_d3 rfl ?_
  refine jj_callVC (pc := 4) (d := d + 10) (b := oa 0) (As := [.int (x), .int (y), .int (z)]) (Q' := (fun oc M' rc' rs' => match oc with | .returned v => jj G kL_beside (d + 11) Q rc' rs' 7 [some (.ref (oa 0)), some (.int (x)), some (.int (y)), some (.int (z)), none] (v.toList ++ []) M' | .threw xq => ∃ (ci hpc : Nat) (E : String) (T0 : u_T), M' xq = some (.inl ci, []) ∧ G.2.1[ci]? = some (E, T0, 0) ∧ jj_find G "ExactFormsLaw" 4 E hpc [(0, 7, 10, 13), (0, 7, 14, 15), (0, 7, 18, 21)] ∧ jj G kL_beside (d + 11) Q rc' rs' hpc [some (.ref (oa 0)), some (.int (x)), some (.int (y)), some (.int (z)), none] [.ref xq] M')) kL_beside_d4 (kvL_X_beside hG) (kG_cl hG rfl) rfl hob rfl rfl rfl (Nat.le_of_ble_eq_true rfl) (Nat.le_of_ble_eq_true rfl) (fun v M' rc' rs' h => h) (fun x M' rc' rs' h => h) ?_
  refine xp_beside hG hJ hH.1 (by omega) (by omega) (fun M1 σ1 hs hx hf => ?_) (fun M1 cd ci hs hc hx hf x9 hn => ?_)
  · skip
    show jj G kL_beside (d + 11) Q rc rs 7 [some (.ref (oa 0)), some (.int (x)), some (.int (y)), some (.int (z)), none] [] M1
    refine jj_goto (pc := 7) (tgt := 22) kL_beside_d7 (by decide) ?_
    refine jn_iconst (pc := 22) 0 kL_beside_d22 (by decide) ?_
    exact jj_iret (pc := 23) kL_beside_d23 rfl (by rfl) (K M1 0 σ1 rc rs hs ((hH.cls hx hf).less (by omega) (by omega)) (by decide))
  · skip
    rcases hc with ⟨rfl, rfl⟩ | ⟨rfl, rfl⟩ | ⟨rfl, rfl⟩
    · skip
      refine ⟨4, 10, _, _, jj_up_at _ _ _, kG_cl hG rfl, Or.inr ⟨by decide, by decide, _, kcL_IOB hG, Or.inl ⟨rfl, rfl⟩⟩, ?_⟩
      show jj G kL_beside (d + 11) Q (rc - 1) (rs - 6) 10 [some (.ref (oa 0)), some (.int (x)), some (.int (y)), some (.int (z)), none] [.ref x9] (jj_up M1 x9 (.inl 4, []))
      refine jj_astore (pc := 10) kL_beside_d10 (Nat.le_of_ble_eq_true rfl) ?_
      show jj G kL_beside (d + 11) Q (rc - 1) (rs - 6) 12 [some (.ref (oa 0)), some (.int (x)), some (.int (y)), some (.int (z)), some (.ref x9)] [] (jj_up M1 x9 (.inl 4, []))
      refine jn_iconst (pc := 12) 1 kL_beside_d12 (by decide) ?_
      exact jj_iret (pc := 13) kL_beside_d13 rfl (by rfl) (K _ 1 σ _ _ hs (((hH.cls hx hf).thr hn).less (by omega) (by omega)) (by decide))
    · skip
      refine ⟨5, 14, _, _, jj_up_at _ _ _, kG_cl hG rfl, Or.inr ⟨by decide, by decide, _, kcL_IOB hG, Or.inr ⟨kncL_IAE_IOB hG, Or.inr ⟨by decide, by decide, _, kcL_IAE hG, Or.inl ⟨rfl, rfl⟩⟩⟩⟩, ?_⟩
      show jj G kL_beside (d + 11) Q (rc - 1) (rs - 6) 14 [some (.ref (oa 0)), some (.int (x)), some (.int (y)), some (.int (z)), none] [.ref x9] (jj_up M1 x9 (.inl 5, []))
      refine jj_astore (pc := 14) kL_beside_d14 (Nat.le_of_ble_eq_true rfl) ?_
      show jj G kL_beside (d + 11) Q (rc - 1) (rs - 6) 16 [some (.ref (oa 0)), some (.int (x)), some (.int (y)), some (.int (z)), some (.ref x9)] [] (jj_up M1 x9 (.inl 5, []))
      refine jn_iconst (pc := 16) 2 kL_beside_d16 (by decide) ?_
      exact jj_iret (pc := 17) kL_beside_d17 rfl (by rfl) (K _ 2 σ _ _ hs (((hH.cls hx hf).thr hn).less (by omega) (by omega)) (by decide))
    · skip
      refine ⟨6, 18, _, _, jj_up_at _ _ _, kG_cl hG rfl, Or.inr ⟨by decide, by decide, _, kcL_IOB hG, Or.inr ⟨kncL_UOE_IOB hG, Or.inr ⟨by decide, by decide, _, kcL_IAE hG, Or.inr ⟨kncL_UOE_IAE hG, Or.inr ⟨by decide, by decide, _, kcL_UOE hG, Or.inl ⟨rfl, rfl⟩⟩⟩⟩⟩⟩, ?_⟩
      show jj G kL_beside (d + 11) Q (rc - 1) (rs - 6) 18 [some (.ref (oa 0)), some (.int (x)), some (.int (y)), some (.int (z)), none] [.ref x9] (jj_up M1 x9 (.inl 6, []))
      refine jj_astore (pc := 18) kL_beside_d18 (Nat.le_of_ble_eq_true rfl) ?_
      show jj G kL_beside (d + 11) Q (rc - 1) (rs - 6) 20 [some (.ref (oa 0)), some (.int (x)), some (.int (y)), some (.int (z)), some (.ref x9)] [] (jj_up M1 x9 (.inl 6, []))
      refine jn_iconst (pc := 20) 3 kL_beside_d20 (by decide) ?_
      exact jj_iret (pc := 21) kL_beside_d21 rfl (by rfl) (K _ 3 σ _ _ hs (((hH.cls hx hf).thr hn).less (by omega) (by omega)) (by decide))
theorem lm_part {x y i k j l : Int32} (hG : kG G) (hJ : XJ wa la capx oa eu dv hi lo) (hH : HW M wa la oa F eu dv hi lo ot σ σ code (X + 6) (Z + 1) rc rs) (K : ∀ (M' : mheap) (cd : Nat) (σ' : rst) (rc' rs' : Nat), semPart σ x y i k j l cd σ' → HW M' wa la oa F eu dv hi lo ot σ' σ code X Z rc' rs' → cd ≤ 3 → Q (.returned (some (.int (nI cd)))) M' rc' rs') : jj G kL_part (d + 11) Q rc rs 0 (jj_ent [.ref (oa 0), .int (x), .int (y), .int (i), .int (k), .int (j), .int (l)] 8) [] M := by
  obtain ⟨fs, hob⟩ := hH.ob
  have hrm := hH.2.1.room
  show jj G kL_part (d + 11) Q rc rs 0 [some (.ref (oa 0)), some (.int (x)), some (.int (y)), some (.int (i)), some (.int (k)), some (.int (j)), some (.int (l)), none] [] M
  refine jj_aload_n (pc := 0) kL_part_d0 rfl ?_
  refine jj_iload_n (pc := 1) kL_part_d1 rfl ?_
  refine jj_iload_n (pc := 2) kL_part_d2 rfl ?_
  refine jj_iload_n (pc := 3) kL_part_d3 rfl ?_
  refine jj_iload (pc := 4) kL_part_d4 rfl ?_
  refine jj_iload (pc := 6) kL_part_d6 rfl ?_
  refine jj_iload (pc := 8) kL_part_d8 rfl ?_
  refine jj_callVC (pc := 10) (d := d + 10) (b := oa 0) (As := [.int (x), .int (y), .int (i), .int (k), .int (j), .int (l)]) (Q' := (fun oc M' rc' rs' => match oc with | .returned v => jj G kL_part (d + 11) Q rc' rs' 13 [some (.ref (oa 0)), some (.int (x)), some (.int (y)), some (.int (i)), some (.int (k)), some (.int (j)), some (.int (l)), none] (v.toList ++ []) M' | .threw xq => ∃ (ci hpc : Nat) (E : String) (T0 : u_T), M' xq = some (.inl ci, []) ∧ G.2.1[ci]? = some (E, T0, 0) ∧ jj_find G "ExactFormsLaw" 10 E hpc [(0, 13, 16, 13), (0, 13, 20, 15)] ∧ jj G kL_part (d + 11) Q rc' rs' hpc [some (.ref (oa 0)), some (.int (x)), some (.int (y)), some (.int (i)), some (.int (k)), some (.int (j)), some (.int (l)), none] [.ref xq] M')) kL_part_d10 (kvL_X_part hG) (kG_cl hG rfl) rfl hob rfl rfl rfl (Nat.le_of_ble_eq_true rfl) (Nat.le_of_ble_eq_true rfl) (fun v M' rc' rs' h => h) (fun x M' rc' rs' h => h) ?_
  refine xp_part hG hJ hH.1 hH.2.2.1 (by omega) (by omega) (fun M1 σ1 hs hx hf => ?_) (fun M1 cd ci hs hc hx hf x9 hn => ?_)
  · skip
    show jj G kL_part (d + 11) Q rc rs 13 [some (.ref (oa 0)), some (.int (x)), some (.int (y)), some (.int (i)), some (.int (k)), some (.int (j)), some (.int (l)), none] [] M1
    refine jj_goto (pc := 13) (tgt := 24) kL_part_d13 (by decide) ?_
    refine jn_iconst (pc := 24) 0 kL_part_d24 (by decide) ?_
    exact jj_iret (pc := 25) kL_part_d25 rfl (by rfl) (K M1 0 σ1 rc rs hs ((hH.cls hx hf).less (by omega) (by omega)) (by decide))
  · skip
    rcases hc with ⟨rfl, rfl⟩ | ⟨rfl, rfl⟩
    · skip
      refine ⟨4, 16, _, _, jj_up_at _ _ _, kG_cl hG rfl, Or.inr ⟨by decide, by decide, _, kcL_IOB hG, Or.inl ⟨rfl, rfl⟩⟩, ?_⟩
      show jj G kL_part (d + 11) Q (rc - 1) (rs - 6) 16 [some (.ref (oa 0)), some (.int (x)), some (.int (y)), some (.int (i)), some (.int (k)), some (.int (j)), some (.int (l)), none] [.ref x9] (jj_up M1 x9 (.inl 4, []))
      refine jj_astore (pc := 16) kL_part_d16 (Nat.le_of_ble_eq_true rfl) ?_
      show jj G kL_part (d + 11) Q (rc - 1) (rs - 6) 18 [some (.ref (oa 0)), some (.int (x)), some (.int (y)), some (.int (i)), some (.int (k)), some (.int (j)), some (.int (l)), some (.ref x9)] [] (jj_up M1 x9 (.inl 4, []))
      refine jn_iconst (pc := 18) 1 kL_part_d18 (by decide) ?_
      exact jj_iret (pc := 19) kL_part_d19 rfl (by rfl) (K _ 1 σ _ _ hs (((hH.cls hx hf).thr hn).less (by omega) (by omega)) (by decide))
    · skip
      refine ⟨5, 20, _, _, jj_up_at _ _ _, kG_cl hG rfl, Or.inr ⟨by decide, by decide, _, kcL_IOB hG, Or.inr ⟨kncL_IAE_IOB hG, Or.inr ⟨by decide, by decide, _, kcL_IAE hG, Or.inl ⟨rfl, rfl⟩⟩⟩⟩, ?_⟩
      show jj G kL_part (d + 11) Q (rc - 1) (rs - 6) 20 [some (.ref (oa 0)), some (.int (x)), some (.int (y)), some (.int (i)), some (.int (k)), some (.int (j)), some (.int (l)), none] [.ref x9] (jj_up M1 x9 (.inl 5, []))
      refine jj_astore (pc := 20) kL_part_d20 (Nat.le_of_ble_eq_true rfl) ?_
      show jj G kL_part (d + 11) Q (rc - 1) (rs - 6) 22 [some (.ref (oa 0)), some (.int (x)), some (.int (y)), some (.int (i)), some (.int (k)), some (.int (j)), some (.int (l)), some (.ref x9)] [] (jj_up M1 x9 (.inl 5, []))
      refine jn_iconst (pc := 22) 2 kL_part_d22 (by decide) ?_
      exact jj_iret (pc := 23) kL_part_d23 rfl (by rfl) (K _ 2 σ _ _ hs (((hH.cls hx hf).thr hn).less (by omega) (by omega)) (by decide))
theorem lm_echelon {x y : Int32} (hG : kG G) (hJ : XJ wa la capx oa eu dv hi lo) (hH : HW M wa la oa F eu dv hi lo ot σ σ code (X + 6) (Z + 1) rc rs) (K : ∀ (M' : mheap) (cd : Nat) (v : Nat) (σ' : rst) (rc' rs' : Nat), semEch σ x y cd v σ' → HW M' wa la oa F eu dv hi lo ot σ' σ code X Z rc' rs' → cd ≤ 3 → (cd = 0 → M' ot = some (.inr 1, [.long ((nI v).toInt64)])) → Q (.returned (some (.int (nI cd)))) M' rc' rs') : jj G kL_echelon (d + 11) Q rc rs 0 (jj_ent [.ref (oa 0), .int (x), .int (y), .ref ot] 5) [] M := by
  obtain ⟨fs, hob⟩ := hH.ob
  have hrm := hH.2.1.room
  show jj G kL_echelon (d + 11) Q rc rs 0 [some (.ref (oa 0)), some (.int (x)), some (.int (y)), some (.ref ot), none] [] M
  refine jj_aload_n (pc := 0) kL_echelon_d0 rfl ?_
  refine jn_iconst (pc := 1) 0 kL_echelon_d1 (by decide) ?_
  refine jj_aload_n (pc := 2) kL_echelon_d2 rfl ?_
  refine jj_iload_n (pc := 3) kL_echelon_d3 rfl ?_
  refine jj_iload_n (pc := 4) kL_echelon_d4 rfl ?_
  refine jj_callVC (pc := 5) (d := d + 10) (b := oa 0) (As := [.int (x), .int (y)]) (Q' := (fun oc M' rc' rs' => match oc with | .returned v => jj G kL_echelon (d + 11) Q rc' rs' 8 [some (.ref (oa 0)), some (.int (x)), some (.int (y)), some (.ref ot), none] (v.toList ++ [.int (nI (0)), .ref ot]) M' | .threw xq => ∃ (ci hpc : Nat) (E : String) (T0 : u_T), M' xq = some (.inl ci, []) ∧ G.2.1[ci]? = some (E, T0, 0) ∧ jj_find G "ExactFormsLaw" 5 E hpc [(0, 10, 13, 13), (0, 10, 17, 21)] ∧ jj G kL_echelon (d + 11) Q rc' rs' hpc [some (.ref (oa 0)), some (.int (x)), some (.int (y)), some (.ref ot), none] [.ref xq] M')) kL_echelon_d5 (kvL_X_echelon hG) (kG_cl hG rfl) rfl hob rfl rfl rfl (Nat.le_of_ble_eq_true rfl) (Nat.le_of_ble_eq_true rfl) (fun v M' rc' rs' h => h) (fun x M' rc' rs' h => h) ?_
  refine xp_echelon hG hJ hH.1 (by omega) (by omega) (fun M1 v σ1 hs hx hf => ?_) (fun M1 cd ci hs hc hx hf x9 hn => ?_)
  · skip
    obtain ⟨v0, hot⟩ := (hH.cls hx hf).2.2.2.2.1
    show jj G kL_echelon (d + 11) Q rc rs 8 [some (.ref (oa 0)), some (.int (x)), some (.int (y)), some (.ref ot), none] [.int (nI (v)), .int (nI (0)), .ref ot] M1
    refine jj_i2l (pc := 8) kL_echelon_d8 ?_
    refine jj_last (pc := 9) (j := 1) (i := 0) (fs := [.long v0]) kL_echelon_d9 (kG_t hG rfl) hot rfl (show 1 < 2 ^ 31 by decide) (show 0 < 1 by decide) ?_
    show jj G kL_echelon (d + 11) Q rc rs 10 [some (.ref (oa 0)), some (.int (x)), some (.int (y)), some (.ref ot), none] [] (jj_up M1 ot (.inr 1, [.long ((nI v).toInt64)]))
    refine jj_goto (pc := 10) (tgt := 21) kL_echelon_d10 (by decide) ?_
    refine jn_iconst (pc := 21) 0 kL_echelon_d21 (by decide) ?_
    exact jj_iret (pc := 22) kL_echelon_d22 rfl (by rfl) (K _ 0 v σ1 rc rs hs (((hH.cls hx hf).out _).less (by omega) (by omega)) (by decide) (fun _ => jj_up_at _ _ _))
  · skip
    rcases hc with ⟨rfl, rfl⟩ | ⟨rfl, rfl⟩
    · skip
      refine ⟨4, 13, _, _, jj_up_at _ _ _, kG_cl hG rfl, Or.inr ⟨by decide, by decide, _, kcL_IOB hG, Or.inl ⟨rfl, rfl⟩⟩, ?_⟩
      show jj G kL_echelon (d + 11) Q (rc - 1) (rs - 6) 13 [some (.ref (oa 0)), some (.int (x)), some (.int (y)), some (.ref ot), none] [.ref x9] (jj_up M1 x9 (.inl 4, []))
      refine jj_astore (pc := 13) kL_echelon_d13 (Nat.le_of_ble_eq_true rfl) ?_
      show jj G kL_echelon (d + 11) Q (rc - 1) (rs - 6) 15 [some (.ref (oa 0)), some (.int (x)), some (.int (y)), some (.ref ot), some (.ref x9)] [] (jj_up M1 x9 (.inl 4, []))
      refine jn_iconst (pc := 15) 1 kL_echelon_d15 (by decide) ?_
      exact jj_iret (pc := 16) kL_echelon_d16 rfl (by rfl) (K _ 1 0 σ _ _ hs (((hH.cls hx hf).thr hn).less (by omega) (by omega)) (by decide) (fun h => by cases h))
    · skip
      refine ⟨6, 17, _, _, jj_up_at _ _ _, kG_cl hG rfl, Or.inr ⟨by decide, by decide, _, kcL_IOB hG, Or.inr ⟨kncL_UOE_IOB hG, Or.inr ⟨by decide, by decide, _, kcL_UOE hG, Or.inl ⟨rfl, rfl⟩⟩⟩⟩, ?_⟩
      show jj G kL_echelon (d + 11) Q (rc - 1) (rs - 6) 17 [some (.ref (oa 0)), some (.int (x)), some (.int (y)), some (.ref ot), none] [.ref x9] (jj_up M1 x9 (.inl 6, []))
      refine jj_astore (pc := 17) kL_echelon_d17 (Nat.le_of_ble_eq_true rfl) ?_
      show jj G kL_echelon (d + 11) Q (rc - 1) (rs - 6) 19 [some (.ref (oa 0)), some (.int (x)), some (.int (y)), some (.ref ot), some (.ref x9)] [] (jj_up M1 x9 (.inl 6, []))
      refine jn_iconst (pc := 19) 2 kL_echelon_d19 (by decide) ?_
      exact jj_iret (pc := 20) kL_echelon_d20 rfl (by rfl) (K _ 2 0 σ _ _ hs (((hH.cls hx hf).thr hn).less (by omega) (by omega)) (by decide) (fun h => by cases h))
theorem lm_kernel {x y : Int32} (hG : kG G) (hJ : XJ wa la capx oa eu dv hi lo) (hH : HW M wa la oa F eu dv hi lo ot σ σ code (X + 6) (Z + 1) rc rs) (K : ∀ (M' : mheap) (cd : Nat) (v : Nat) (σ' : rst) (rc' rs' : Nat), semKer σ x y cd v σ' → HW M' wa la oa F eu dv hi lo ot σ' σ code X Z rc' rs' → cd ≤ 3 → (cd = 0 → M' ot = some (.inr 1, [.long ((nI v).toInt64)])) → Q (.returned (some (.int (nI cd)))) M' rc' rs') : jj G kL_kernel (d + 11) Q rc rs 0 (jj_ent [.ref (oa 0), .int (x), .int (y), .ref ot] 5) [] M := by
  obtain ⟨fs, hob⟩ := hH.ob
  have hrm := hH.2.1.room
  show jj G kL_kernel (d + 11) Q rc rs 0 [some (.ref (oa 0)), some (.int (x)), some (.int (y)), some (.ref ot), none] [] M
  refine jj_aload_n (pc := 0) kL_kernel_d0 rfl ?_
  refine jn_iconst (pc := 1) 0 kL_kernel_d1 (by decide) ?_
  refine jj_aload_n (pc := 2) kL_kernel_d2 rfl ?_
  refine jj_iload_n (pc := 3) kL_kernel_d3 rfl ?_
  refine jj_iload_n (pc := 4) kL_kernel_d4 rfl ?_
  refine jj_callVC (pc := 5) (d := d + 10) (b := oa 0) (As := [.int (x), .int (y)]) (Q' := (fun oc M' rc' rs' => match oc with | .returned v => jj G kL_kernel (d + 11) Q rc' rs' 8 [some (.ref (oa 0)), some (.int (x)), some (.int (y)), some (.ref ot), none] (v.toList ++ [.int (nI (0)), .ref ot]) M' | .threw xq => ∃ (ci hpc : Nat) (E : String) (T0 : u_T), M' xq = some (.inl ci, []) ∧ G.2.1[ci]? = some (E, T0, 0) ∧ jj_find G "ExactFormsLaw" 5 E hpc [(0, 10, 13, 13), (0, 10, 17, 21)] ∧ jj G kL_kernel (d + 11) Q rc' rs' hpc [some (.ref (oa 0)), some (.int (x)), some (.int (y)), some (.ref ot), none] [.ref xq] M')) kL_kernel_d5 (kvL_X_kernel hG) (kG_cl hG rfl) rfl hob rfl rfl rfl (Nat.le_of_ble_eq_true rfl) (Nat.le_of_ble_eq_true rfl) (fun v M' rc' rs' h => h) (fun x M' rc' rs' h => h) ?_
  refine xp_kernel hG hJ hH.1 (by omega) (by omega) (fun M1 v σ1 hs hx hf => ?_) (fun M1 cd ci hs hc hx hf x9 hn => ?_)
  · skip
    obtain ⟨v0, hot⟩ := (hH.cls hx hf).2.2.2.2.1
    show jj G kL_kernel (d + 11) Q rc rs 8 [some (.ref (oa 0)), some (.int (x)), some (.int (y)), some (.ref ot), none] [.int (nI (v)), .int (nI (0)), .ref ot] M1
    refine jj_i2l (pc := 8) kL_kernel_d8 ?_
    refine jj_last (pc := 9) (j := 1) (i := 0) (fs := [.long v0]) kL_kernel_d9 (kG_t hG rfl) hot rfl (show 1 < 2 ^ 31 by decide) (show 0 < 1 by decide) ?_
    show jj G kL_kernel (d + 11) Q rc rs 10 [some (.ref (oa 0)), some (.int (x)), some (.int (y)), some (.ref ot), none] [] (jj_up M1 ot (.inr 1, [.long ((nI v).toInt64)]))
    refine jj_goto (pc := 10) (tgt := 21) kL_kernel_d10 (by decide) ?_
    refine jn_iconst (pc := 21) 0 kL_kernel_d21 (by decide) ?_
    exact jj_iret (pc := 22) kL_kernel_d22 rfl (by rfl) (K _ 0 v σ1 rc rs hs (((hH.cls hx hf).out _).less (by omega) (by omega)) (by decide) (fun _ => jj_up_at _ _ _))
  · skip
    rcases hc with ⟨rfl, rfl⟩ | ⟨rfl, rfl⟩
    · skip
      refine ⟨4, 13, _, _, jj_up_at _ _ _, kG_cl hG rfl, Or.inr ⟨by decide, by decide, _, kcL_IOB hG, Or.inl ⟨rfl, rfl⟩⟩, ?_⟩
      show jj G kL_kernel (d + 11) Q (rc - 1) (rs - 6) 13 [some (.ref (oa 0)), some (.int (x)), some (.int (y)), some (.ref ot), none] [.ref x9] (jj_up M1 x9 (.inl 4, []))
      refine jj_astore (pc := 13) kL_kernel_d13 (Nat.le_of_ble_eq_true rfl) ?_
      show jj G kL_kernel (d + 11) Q (rc - 1) (rs - 6) 15 [some (.ref (oa 0)), some (.int (x)), some (.int (y)), some (.ref ot), some (.ref x9)] [] (jj_up M1 x9 (.inl 4, []))
      refine jn_iconst (pc := 15) 1 kL_kernel_d15 (by decide) ?_
      exact jj_iret (pc := 16) kL_kernel_d16 rfl (by rfl) (K _ 1 0 σ _ _ hs (((hH.cls hx hf).thr hn).less (by omega) (by omega)) (by decide) (fun h => by cases h))
    · skip
      refine ⟨6, 17, _, _, jj_up_at _ _ _, kG_cl hG rfl, Or.inr ⟨by decide, by decide, _, kcL_IOB hG, Or.inr ⟨kncL_UOE_IOB hG, Or.inr ⟨by decide, by decide, _, kcL_UOE hG, Or.inl ⟨rfl, rfl⟩⟩⟩⟩, ?_⟩
      show jj G kL_kernel (d + 11) Q (rc - 1) (rs - 6) 17 [some (.ref (oa 0)), some (.int (x)), some (.int (y)), some (.ref ot), none] [.ref x9] (jj_up M1 x9 (.inl 6, []))
      refine jj_astore (pc := 17) kL_kernel_d17 (Nat.le_of_ble_eq_true rfl) ?_
      show jj G kL_kernel (d + 11) Q (rc - 1) (rs - 6) 19 [some (.ref (oa 0)), some (.int (x)), some (.int (y)), some (.ref ot), some (.ref x9)] [] (jj_up M1 x9 (.inl 6, []))
      refine jn_iconst (pc := 19) 2 kL_kernel_d19 (by decide) ?_
      exact jj_iret (pc := 20) kL_kernel_d20 rfl (by rfl) (K _ 2 0 σ _ _ hs (((hH.cls hx hf).thr hn).less (by omega) (by omega)) (by decide) (fun h => by cases h))
theorem lm_solve {x y z : Int32} (hG : kG G) (hJ : XJ wa la capx oa eu dv hi lo) (hH : HW M wa la oa F eu dv hi lo ot σ σ code (X + 6) (Z + 1) rc rs) (K : ∀ (M' : mheap) (cd : Nat) (v : Nat) (σ' : rst) (rc' rs' : Nat), semSolve σ x y z cd v σ' → HW M' wa la oa F eu dv hi lo ot σ' σ code X Z rc' rs' → cd ≤ 3 → (cd = 0 → M' ot = some (.inr 1, [.long (lN v)])) → Q (.returned (some (.int (nI cd)))) M' rc' rs') : jj G kL_solve (d + 11) Q rc rs 0 (jj_ent [.ref (oa 0), .int (x), .int (y), .int (z), .ref ot] 6) [] M := by
  obtain ⟨fs, hob⟩ := hH.ob
  have hrm := hH.2.1.room
  show jj G kL_solve (d + 11) Q rc rs 0 [some (.ref (oa 0)), some (.int (x)), some (.int (y)), some (.int (z)), some (.ref ot), none] [] M
  refine jj_aload (pc := 0) kL_solve_d0 rfl ?_
  refine jn_iconst (pc := 2) 0 kL_solve_d2 (by decide) ?_
  refine jj_aload_n (pc := 3) kL_solve_d3 rfl ?_
  refine jj_iload_n (pc := 4) kL_solve_d4 rfl ?_
  refine jj_iload_n (pc := 5) kL_solve_d5 rfl ?_
  refine jj_iload_n (pc := 6) kL_solve_d6 rfl ?_
  refine jj_callVC (pc := 7) (d := d + 10) (b := oa 0) (As := [.int (x), .int (y), .int (z)]) (Q' := (fun oc M' rc' rs' => match oc with | .returned v => jj G kL_solve (d + 11) Q rc' rs' 10 [some (.ref (oa 0)), some (.int (x)), some (.int (y)), some (.int (z)), some (.ref ot), none] (v.toList ++ [.int (nI (0)), .ref ot]) M' | .threw xq => ∃ (ci hpc : Nat) (E : String) (T0 : u_T), M' xq = some (.inl ci, []) ∧ G.2.1[ci]? = some (E, T0, 0) ∧ jj_find G "ExactFormsLaw" 7 E hpc [(0, 19, 22, 13), (0, 19, 26, 15), (0, 19, 30, 21)] ∧ jj G kL_solve (d + 11) Q rc' rs' hpc [some (.ref (oa 0)), some (.int (x)), some (.int (y)), some (.int (z)), some (.ref ot), none] [.ref xq] M')) kL_solve_d7 (kvL_X_solve hG) (kG_cl hG rfl) rfl hob rfl rfl rfl (Nat.le_of_ble_eq_true rfl) (Nat.le_of_ble_eq_true rfl) (fun v M' rc' rs' h => h) (fun x M' rc' rs' h => h) ?_
  refine xp_solve hG hJ hH.1 (by omega) (by omega) (fun M1 v σ1 hs hx hf => ?_) (fun M1 cd ci hs hc hx hf x9 hn => ?_)
  · skip
    obtain ⟨v0, hot⟩ := (hH.cls hx hf).2.2.2.2.1
    have hv1 := semSolve_v hs
    show jj G kL_solve (d + 11) Q rc rs 10 [some (.ref (oa 0)), some (.int (x)), some (.int (y)), some (.int (z)), some (.ref ot), none] [.int (nI (v)), .int (nI (0)), .ref ot] M1
    refine jn_if_eq (pc := 10) (tgt := 17) kL_solve_d10 (by decide) (by omega) (fun c1 => ?_) (fun c1 => ?_)
    · skip
      have ev : v = 0 := by omega
      subst ev
      refine jj_lconst (pc := 17) (v := lN 0) kL_solve_d17 (by decide) ?_
      refine jj_last (pc := 18) (j := 1) (i := 0) (fs := [.long v0]) kL_solve_d18 (kG_t hG rfl) hot rfl (show 1 < 2 ^ 31 by decide) (show 0 < 1 by decide) ?_
      show jj G kL_solve (d + 11) Q rc rs 19 [some (.ref (oa 0)), some (.int (x)), some (.int (y)), some (.int (z)), some (.ref ot), none] [] (jj_up M1 ot (.inr 1, [.long (lN 0)]))
      refine jj_goto (pc := 19) (tgt := 34) kL_solve_d19 (by decide) ?_
      refine jn_iconst (pc := 34) 0 kL_solve_d34 (by decide) ?_
      exact jj_iret (pc := 35) kL_solve_d35 rfl (by rfl) (K _ 0 0 σ1 rc rs hs (((hH.cls hx hf).out _).less (by omega) (by omega)) (by decide) (fun _ => jj_up_at _ _ _))
    · skip
      have ev : v = 1 := by omega
      subst ev
      refine jj_lconst (pc := 13) (v := lN 1) kL_solve_d13 (by decide) ?_
      refine jj_goto (pc := 14) (tgt := 18) kL_solve_d14 (by decide) ?_
      refine jj_last (pc := 18) (j := 1) (i := 0) (fs := [.long v0]) kL_solve_d18 (kG_t hG rfl) hot rfl (show 1 < 2 ^ 31 by decide) (show 0 < 1 by decide) ?_
      show jj G kL_solve (d + 11) Q rc rs 19 [some (.ref (oa 0)), some (.int (x)), some (.int (y)), some (.int (z)), some (.ref ot), none] [] (jj_up M1 ot (.inr 1, [.long (lN 1)]))
      refine jj_goto (pc := 19) (tgt := 34) kL_solve_d19 (by decide) ?_
      refine jn_iconst (pc := 34) 0 kL_solve_d34 (by decide) ?_
      exact jj_iret (pc := 35) kL_solve_d35 rfl (by rfl) (K _ 0 1 σ1 rc rs hs (((hH.cls hx hf).out _).less (by omega) (by omega)) (by decide) (fun _ => jj_up_at _ _ _))
  · skip
    rcases hc with ⟨rfl, rfl⟩ | ⟨rfl, rfl⟩ | ⟨rfl, rfl⟩
    · skip
      refine ⟨4, 22, _, _, jj_up_at _ _ _, kG_cl hG rfl, Or.inr ⟨by decide, by decide, _, kcL_IOB hG, Or.inl ⟨rfl, rfl⟩⟩, ?_⟩
      show jj G kL_solve (d + 11) Q (rc - 1) (rs - 6) 22 [some (.ref (oa 0)), some (.int (x)), some (.int (y)), some (.int (z)), some (.ref ot), none] [.ref x9] (jj_up M1 x9 (.inl 4, []))
      refine jj_astore (pc := 22) kL_solve_d22 (Nat.le_of_ble_eq_true rfl) ?_
      show jj G kL_solve (d + 11) Q (rc - 1) (rs - 6) 24 [some (.ref (oa 0)), some (.int (x)), some (.int (y)), some (.int (z)), some (.ref ot), some (.ref x9)] [] (jj_up M1 x9 (.inl 4, []))
      refine jn_iconst (pc := 24) 1 kL_solve_d24 (by decide) ?_
      exact jj_iret (pc := 25) kL_solve_d25 rfl (by rfl) (K _ 1 0 σ _ _ hs (((hH.cls hx hf).thr hn).less (by omega) (by omega)) (by decide) (fun h => by cases h))
    · skip
      refine ⟨5, 26, _, _, jj_up_at _ _ _, kG_cl hG rfl, Or.inr ⟨by decide, by decide, _, kcL_IOB hG, Or.inr ⟨kncL_IAE_IOB hG, Or.inr ⟨by decide, by decide, _, kcL_IAE hG, Or.inl ⟨rfl, rfl⟩⟩⟩⟩, ?_⟩
      show jj G kL_solve (d + 11) Q (rc - 1) (rs - 6) 26 [some (.ref (oa 0)), some (.int (x)), some (.int (y)), some (.int (z)), some (.ref ot), none] [.ref x9] (jj_up M1 x9 (.inl 5, []))
      refine jj_astore (pc := 26) kL_solve_d26 (Nat.le_of_ble_eq_true rfl) ?_
      show jj G kL_solve (d + 11) Q (rc - 1) (rs - 6) 28 [some (.ref (oa 0)), some (.int (x)), some (.int (y)), some (.int (z)), some (.ref ot), some (.ref x9)] [] (jj_up M1 x9 (.inl 5, []))
      refine jn_iconst (pc := 28) 2 kL_solve_d28 (by decide) ?_
      exact jj_iret (pc := 29) kL_solve_d29 rfl (by rfl) (K _ 2 0 σ _ _ hs (((hH.cls hx hf).thr hn).less (by omega) (by omega)) (by decide) (fun h => by cases h))
    · skip
      refine ⟨6, 30, _, _, jj_up_at _ _ _, kG_cl hG rfl, Or.inr ⟨by decide, by decide, _, kcL_IOB hG, Or.inr ⟨kncL_UOE_IOB hG, Or.inr ⟨by decide, by decide, _, kcL_IAE hG, Or.inr ⟨kncL_UOE_IAE hG, Or.inr ⟨by decide, by decide, _, kcL_UOE hG, Or.inl ⟨rfl, rfl⟩⟩⟩⟩⟩⟩, ?_⟩
      show jj G kL_solve (d + 11) Q (rc - 1) (rs - 6) 30 [some (.ref (oa 0)), some (.int (x)), some (.int (y)), some (.int (z)), some (.ref ot), none] [.ref x9] (jj_up M1 x9 (.inl 6, []))
      refine jj_astore (pc := 30) kL_solve_d30 (Nat.le_of_ble_eq_true rfl) ?_
      show jj G kL_solve (d + 11) Q (rc - 1) (rs - 6) 32 [some (.ref (oa 0)), some (.int (x)), some (.int (y)), some (.int (z)), some (.ref ot), some (.ref x9)] [] (jj_up M1 x9 (.inl 6, []))
      refine jn_iconst (pc := 32) 3 kL_solve_d32 (by decide) ?_
      exact jj_iret (pc := 33) kL_solve_d33 rfl (by rfl) (K _ 3 0 σ _ _ hs (((hH.cls hx hf).thr hn).less (by omega) (by omega)) (by decide) (fun h => by cases h))
theorem lm_invert {x y : Int32} (hG : kG G) (hJ : XJ wa la capx oa eu dv hi lo) (hH : HW M wa la oa F eu dv hi lo ot σ σ code (X + 6) (Z + 1) rc rs) (K : ∀ (M' : mheap) (cd : Nat) (v : Nat) (σ' : rst) (rc' rs' : Nat), semInv σ x y cd v σ' → HW M' wa la oa F eu dv hi lo ot σ' σ code X Z rc' rs' → cd ≤ 3 → (cd = 0 → M' ot = some (.inr 1, [.long (lN v)])) → Q (.returned (some (.int (nI cd)))) M' rc' rs') : jj G kL_invert (d + 11) Q rc rs 0 (jj_ent [.ref (oa 0), .int (x), .int (y), .ref ot] 5) [] M := by
  obtain ⟨fs, hob⟩ := hH.ob
  have hrm := hH.2.1.room
  show jj G kL_invert (d + 11) Q rc rs 0 [some (.ref (oa 0)), some (.int (x)), some (.int (y)), some (.ref ot), none] [] M
  refine jj_aload_n (pc := 0) kL_invert_d0 rfl ?_
  refine jn_iconst (pc := 1) 0 kL_invert_d1 (by decide) ?_
  refine jj_aload_n (pc := 2) kL_invert_d2 rfl ?_
  refine jj_iload_n (pc := 3) kL_invert_d3 rfl ?_
  refine jj_iload_n (pc := 4) kL_invert_d4 rfl ?_
  refine jj_callVC (pc := 5) (d := d + 10) (b := oa 0) (As := [.int (x), .int (y)]) (Q' := (fun oc M' rc' rs' => match oc with | .returned v => jj G kL_invert (d + 11) Q rc' rs' 8 [some (.ref (oa 0)), some (.int (x)), some (.int (y)), some (.ref ot), none] (v.toList ++ [.int (nI (0)), .ref ot]) M' | .threw xq => ∃ (ci hpc : Nat) (E : String) (T0 : u_T), M' xq = some (.inl ci, []) ∧ G.2.1[ci]? = some (E, T0, 0) ∧ jj_find G "ExactFormsLaw" 5 E hpc [(0, 17, 20, 13), (0, 17, 24, 15), (0, 17, 28, 21)] ∧ jj G kL_invert (d + 11) Q rc' rs' hpc [some (.ref (oa 0)), some (.int (x)), some (.int (y)), some (.ref ot), none] [.ref xq] M')) kL_invert_d5 (kvL_X_invert hG) (kG_cl hG rfl) rfl hob rfl rfl rfl (Nat.le_of_ble_eq_true rfl) (Nat.le_of_ble_eq_true rfl) (fun v M' rc' rs' h => h) (fun x M' rc' rs' h => h) ?_
  refine xp_invert hG hJ hH.1 (by omega) (by omega) (fun M1 v σ1 hs hx hf => ?_) (fun M1 cd ci hs hc hx hf x9 hn => ?_)
  · skip
    obtain ⟨v0, hot⟩ := (hH.cls hx hf).2.2.2.2.1
    have hv1 := semInv_v hs
    show jj G kL_invert (d + 11) Q rc rs 8 [some (.ref (oa 0)), some (.int (x)), some (.int (y)), some (.ref ot), none] [.int (nI (v)), .int (nI (0)), .ref ot] M1
    refine jn_if_eq (pc := 8) (tgt := 15) kL_invert_d8 (by decide) (by omega) (fun c1 => ?_) (fun c1 => ?_)
    · skip
      have ev : v = 0 := by omega
      subst ev
      refine jj_lconst (pc := 15) (v := lN 0) kL_invert_d15 (by decide) ?_
      refine jj_last (pc := 16) (j := 1) (i := 0) (fs := [.long v0]) kL_invert_d16 (kG_t hG rfl) hot rfl (show 1 < 2 ^ 31 by decide) (show 0 < 1 by decide) ?_
      show jj G kL_invert (d + 11) Q rc rs 17 [some (.ref (oa 0)), some (.int (x)), some (.int (y)), some (.ref ot), none] [] (jj_up M1 ot (.inr 1, [.long (lN 0)]))
      refine jj_goto (pc := 17) (tgt := 32) kL_invert_d17 (by decide) ?_
      refine jn_iconst (pc := 32) 0 kL_invert_d32 (by decide) ?_
      exact jj_iret (pc := 33) kL_invert_d33 rfl (by rfl) (K _ 0 0 σ1 rc rs hs (((hH.cls hx hf).out _).less (by omega) (by omega)) (by decide) (fun _ => jj_up_at _ _ _))
    · skip
      have ev : v = 1 := by omega
      subst ev
      refine jj_lconst (pc := 11) (v := lN 1) kL_invert_d11 (by decide) ?_
      refine jj_goto (pc := 12) (tgt := 16) kL_invert_d12 (by decide) ?_
      refine jj_last (pc := 16) (j := 1) (i := 0) (fs := [.long v0]) kL_invert_d16 (kG_t hG rfl) hot rfl (show 1 < 2 ^ 31 by decide) (show 0 < 1 by decide) ?_
      show jj G kL_invert (d + 11) Q rc rs 17 [some (.ref (oa 0)), some (.int (x)), some (.int (y)), some (.ref ot), none] [] (jj_up M1 ot (.inr 1, [.long (lN 1)]))
      refine jj_goto (pc := 17) (tgt := 32) kL_invert_d17 (by decide) ?_
      refine jn_iconst (pc := 32) 0 kL_invert_d32 (by decide) ?_
      exact jj_iret (pc := 33) kL_invert_d33 rfl (by rfl) (K _ 0 1 σ1 rc rs hs (((hH.cls hx hf).out _).less (by omega) (by omega)) (by decide) (fun _ => jj_up_at _ _ _))
  · skip
    rcases hc with ⟨rfl, rfl⟩ | ⟨rfl, rfl⟩ | ⟨rfl, rfl⟩
    · skip
      refine ⟨4, 20, _, _, jj_up_at _ _ _, kG_cl hG rfl, Or.inr ⟨by decide, by decide, _, kcL_IOB hG, Or.inl ⟨rfl, rfl⟩⟩, ?_⟩
      show jj G kL_invert (d + 11) Q (rc - 1) (rs - 6) 20 [some (.ref (oa 0)), some (.int (x)), some (.int (y)), some (.ref ot), none] [.ref x9] (jj_up M1 x9 (.inl 4, []))
      refine jj_astore (pc := 20) kL_invert_d20 (Nat.le_of_ble_eq_true rfl) ?_
      show jj G kL_invert (d + 11) Q (rc - 1) (rs - 6) 22 [some (.ref (oa 0)), some (.int (x)), some (.int (y)), some (.ref ot), some (.ref x9)] [] (jj_up M1 x9 (.inl 4, []))
      refine jn_iconst (pc := 22) 1 kL_invert_d22 (by decide) ?_
      exact jj_iret (pc := 23) kL_invert_d23 rfl (by rfl) (K _ 1 0 σ _ _ hs (((hH.cls hx hf).thr hn).less (by omega) (by omega)) (by decide) (fun h => by cases h))
    · skip
      refine ⟨5, 24, _, _, jj_up_at _ _ _, kG_cl hG rfl, Or.inr ⟨by decide, by decide, _, kcL_IOB hG, Or.inr ⟨kncL_IAE_IOB hG, Or.inr ⟨by decide, by decide, _, kcL_IAE hG, Or.inl ⟨rfl, rfl⟩⟩⟩⟩, ?_⟩
      show jj G kL_invert (d + 11) Q (rc - 1) (rs - 6) 24 [some (.ref (oa 0)), some (.int (x)), some (.int (y)), some (.ref ot), none] [.ref x9] (jj_up M1 x9 (.inl 5, []))
      refine jj_astore (pc := 24) kL_invert_d24 (Nat.le_of_ble_eq_true rfl) ?_
      show jj G kL_invert (d + 11) Q (rc - 1) (rs - 6) 26 [some (.ref (oa 0)), some (.int (x)), some (.int (y)), some (.ref ot), some (.ref x9)] [] (jj_up M1 x9 (.inl 5, []))
      refine jn_iconst (pc := 26) 2 kL_invert_d26 (by decide) ?_
      exact jj_iret (pc := 27) kL_invert_d27 rfl (by rfl) (K _ 2 0 σ _ _ hs (((hH.cls hx hf).thr hn).less (by omega) (by omega)) (by decide) (fun h => by cases h))
    · skip
      refine ⟨6, 28, _, _, jj_up_at _ _ _, kG_cl hG rfl, Or.inr ⟨by decide, by decide, _, kcL_IOB hG, Or.inr ⟨kncL_UOE_IOB hG, Or.inr ⟨by decide, by decide, _, kcL_IAE hG, Or.inr ⟨kncL_UOE_IAE hG, Or.inr ⟨by decide, by decide, _, kcL_UOE hG, Or.inl ⟨rfl, rfl⟩⟩⟩⟩⟩⟩, ?_⟩
      show jj G kL_invert (d + 11) Q (rc - 1) (rs - 6) 28 [some (.ref (oa 0)), some (.int (x)), some (.int (y)), some (.ref ot), none] [.ref x9] (jj_up M1 x9 (.inl 6, []))
      refine jj_astore (pc := 28) kL_invert_d28 (Nat.le_of_ble_eq_true rfl) ?_
      show jj G kL_invert (d + 11) Q (rc - 1) (rs - 6) 30 [some (.ref (oa 0)), some (.int (x)), some (.int (y)), some (.ref ot), some (.ref x9)] [] (jj_up M1 x9 (.inl 6, []))
      refine jn_iconst (pc := 30) 3 kL_invert_d30 (by decide) ?_
      exact jj_iret (pc := 31) kL_invert_d31 rfl (by rfl) (K _ 3 0 σ _ _ hs (((hH.cls hx hf).thr hn).less (by omega) (by omega)) (by decide) (fun h => by cases h))
theorem lm_determinant {x y : Int32} (hG : kG G) (hJ : XJ wa la capx oa eu dv hi lo) (hH : HW M wa la oa F eu dv hi lo ot σ σ code (X + 6) (Z + 1) rc rs) (K : ∀ (M' : mheap) (cd : Nat) (σ' : rst) (rc' rs' : Nat), semDet σ x y cd σ' → HW M' wa la oa F eu dv hi lo ot σ' σ code X Z rc' rs' → cd ≤ 3 → Q (.returned (some (.int (nI cd)))) M' rc' rs') : jj G kL_determinant (d + 11) Q rc rs 0 (jj_ent [.ref (oa 0), .int (x), .int (y)] 4) [] M := by
  obtain ⟨fs, hob⟩ := hH.ob
  have hrm := hH.2.1.room
  show jj G kL_determinant (d + 11) Q rc rs 0 [some (.ref (oa 0)), some (.int (x)), some (.int (y)), none] [] M
  refine jj_aload_n (pc := 0) kL_determinant_d0 rfl ?_
  refine jj_iload_n (pc := 1) kL_determinant_d1 rfl ?_
  refine jj_iload_n (pc := 2) kL_determinant_d2 rfl ?_
  refine jj_callVC (pc := 3) (d := d + 10) (b := oa 0) (As := [.int (x), .int (y)]) (Q' := (fun oc M' rc' rs' => match oc with | .returned v => jj G kL_determinant (d + 11) Q rc' rs' 6 [some (.ref (oa 0)), some (.int (x)), some (.int (y)), none] (v.toList ++ []) M' | .threw xq => ∃ (ci hpc : Nat) (E : String) (T0 : u_T), M' xq = some (.inl ci, []) ∧ G.2.1[ci]? = some (E, T0, 0) ∧ jj_find G "ExactFormsLaw" 3 E hpc [(0, 6, 9, 13), (0, 6, 12, 15), (0, 6, 15, 21)] ∧ jj G kL_determinant (d + 11) Q rc' rs' hpc [some (.ref (oa 0)), some (.int (x)), some (.int (y)), none] [.ref xq] M')) kL_determinant_d3 (kvL_X_determinant hG) (kG_cl hG rfl) rfl hob rfl rfl rfl (Nat.le_of_ble_eq_true rfl) (Nat.le_of_ble_eq_true rfl) (fun v M' rc' rs' h => h) (fun x M' rc' rs' h => h) ?_
  refine xp_determinant hG hJ hH.1 (by omega) (by omega) (fun M1 σ1 hs hx hf => ?_) (fun M1 cd ci hs hc hx hf x9 hn => ?_)
  · skip
    show jj G kL_determinant (d + 11) Q rc rs 6 [some (.ref (oa 0)), some (.int (x)), some (.int (y)), none] [] M1
    refine jj_goto (pc := 6) (tgt := 18) kL_determinant_d6 (by decide) ?_
    refine jn_iconst (pc := 18) 0 kL_determinant_d18 (by decide) ?_
    exact jj_iret (pc := 19) kL_determinant_d19 rfl (by rfl) (K M1 0 σ1 rc rs hs ((hH.cls hx hf).less (by omega) (by omega)) (by decide))
  · skip
    rcases hc with ⟨rfl, rfl⟩ | ⟨rfl, rfl⟩ | ⟨rfl, rfl⟩
    · skip
      refine ⟨4, 9, _, _, jj_up_at _ _ _, kG_cl hG rfl, Or.inr ⟨by decide, by decide, _, kcL_IOB hG, Or.inl ⟨rfl, rfl⟩⟩, ?_⟩
      show jj G kL_determinant (d + 11) Q (rc - 1) (rs - 6) 9 [some (.ref (oa 0)), some (.int (x)), some (.int (y)), none] [.ref x9] (jj_up M1 x9 (.inl 4, []))
      refine jj_astore_n (pc := 9) kL_determinant_d9 (Nat.le_of_ble_eq_true rfl) ?_
      show jj G kL_determinant (d + 11) Q (rc - 1) (rs - 6) 10 [some (.ref (oa 0)), some (.int (x)), some (.int (y)), some (.ref x9)] [] (jj_up M1 x9 (.inl 4, []))
      refine jn_iconst (pc := 10) 1 kL_determinant_d10 (by decide) ?_
      exact jj_iret (pc := 11) kL_determinant_d11 rfl (by rfl) (K _ 1 σ _ _ hs (((hH.cls hx hf).thr hn).less (by omega) (by omega)) (by decide))
    · skip
      refine ⟨5, 12, _, _, jj_up_at _ _ _, kG_cl hG rfl, Or.inr ⟨by decide, by decide, _, kcL_IOB hG, Or.inr ⟨kncL_IAE_IOB hG, Or.inr ⟨by decide, by decide, _, kcL_IAE hG, Or.inl ⟨rfl, rfl⟩⟩⟩⟩, ?_⟩
      show jj G kL_determinant (d + 11) Q (rc - 1) (rs - 6) 12 [some (.ref (oa 0)), some (.int (x)), some (.int (y)), none] [.ref x9] (jj_up M1 x9 (.inl 5, []))
      refine jj_astore_n (pc := 12) kL_determinant_d12 (Nat.le_of_ble_eq_true rfl) ?_
      show jj G kL_determinant (d + 11) Q (rc - 1) (rs - 6) 13 [some (.ref (oa 0)), some (.int (x)), some (.int (y)), some (.ref x9)] [] (jj_up M1 x9 (.inl 5, []))
      refine jn_iconst (pc := 13) 2 kL_determinant_d13 (by decide) ?_
      exact jj_iret (pc := 14) kL_determinant_d14 rfl (by rfl) (K _ 2 σ _ _ hs (((hH.cls hx hf).thr hn).less (by omega) (by omega)) (by decide))
    · skip
      refine ⟨6, 15, _, _, jj_up_at _ _ _, kG_cl hG rfl, Or.inr ⟨by decide, by decide, _, kcL_IOB hG, Or.inr ⟨kncL_UOE_IOB hG, Or.inr ⟨by decide, by decide, _, kcL_IAE hG, Or.inr ⟨kncL_UOE_IAE hG, Or.inr ⟨by decide, by decide, _, kcL_UOE hG, Or.inl ⟨rfl, rfl⟩⟩⟩⟩⟩⟩, ?_⟩
      show jj G kL_determinant (d + 11) Q (rc - 1) (rs - 6) 15 [some (.ref (oa 0)), some (.int (x)), some (.int (y)), none] [.ref x9] (jj_up M1 x9 (.inl 6, []))
      refine jj_astore_n (pc := 15) kL_determinant_d15 (Nat.le_of_ble_eq_true rfl) ?_
      show jj G kL_determinant (d + 11) Q (rc - 1) (rs - 6) 16 [some (.ref (oa 0)), some (.int (x)), some (.int (y)), some (.ref x9)] [] (jj_up M1 x9 (.inl 6, []))
      refine jn_iconst (pc := 16) 3 kL_determinant_d16 (by decide) ?_
      exact jj_iret (pc := 17) kL_determinant_d17 rfl (by rfl) (K _ 3 σ _ _ hs (((hH.cls hx hf).thr hn).less (by omega) (by omega)) (by decide))
theorem lm_hermite {x y : Int32} (hG : kG G) (hJ : XJ wa la capx oa eu dv hi lo) (hH : HW M wa la oa F eu dv hi lo ot σ σ code (X + 6) (Z + 1) rc rs) (K : ∀ (M' : mheap) (cd : Nat) (v : Nat) (σ' : rst) (rc' rs' : Nat), semHerm σ x y cd v σ' → HW M' wa la oa F eu dv hi lo ot σ' σ code X Z rc' rs' → cd ≤ 3 → (cd = 0 → M' ot = some (.inr 1, [.long ((nI v).toInt64)])) → Q (.returned (some (.int (nI cd)))) M' rc' rs') : jj G kL_hermite (d + 11) Q rc rs 0 (jj_ent [.ref (oa 0), .int (x), .int (y), .ref ot] 5) [] M := by
  obtain ⟨fs, hob⟩ := hH.ob
  have hrm := hH.2.1.room
  show jj G kL_hermite (d + 11) Q rc rs 0 [some (.ref (oa 0)), some (.int (x)), some (.int (y)), some (.ref ot), none] [] M
  refine jj_aload_n (pc := 0) kL_hermite_d0 rfl ?_
  refine jn_iconst (pc := 1) 0 kL_hermite_d1 (by decide) ?_
  refine jj_aload_n (pc := 2) kL_hermite_d2 rfl ?_
  refine jj_iload_n (pc := 3) kL_hermite_d3 rfl ?_
  refine jj_iload_n (pc := 4) kL_hermite_d4 rfl ?_
  refine jj_callVC (pc := 5) (d := d + 10) (b := oa 0) (As := [.int (x), .int (y)]) (Q' := (fun oc M' rc' rs' => match oc with | .returned v => jj G kL_hermite (d + 11) Q rc' rs' 8 [some (.ref (oa 0)), some (.int (x)), some (.int (y)), some (.ref ot), none] (v.toList ++ [.int (nI (0)), .ref ot]) M' | .threw xq => ∃ (ci hpc : Nat) (E : String) (T0 : u_T), M' xq = some (.inl ci, []) ∧ G.2.1[ci]? = some (E, T0, 0) ∧ jj_find G "ExactFormsLaw" 5 E hpc [(0, 10, 13, 13), (0, 10, 17, 15), (0, 10, 21, 21)] ∧ jj G kL_hermite (d + 11) Q rc' rs' hpc [some (.ref (oa 0)), some (.int (x)), some (.int (y)), some (.ref ot), none] [.ref xq] M')) kL_hermite_d5 (kvL_X_hermite hG) (kG_cl hG rfl) rfl hob rfl rfl rfl (Nat.le_of_ble_eq_true rfl) (Nat.le_of_ble_eq_true rfl) (fun v M' rc' rs' h => h) (fun x M' rc' rs' h => h) ?_
  refine xp_hermite hG hJ hH.1 (by omega) (by omega) (fun M1 v σ1 hs hx hf => ?_) (fun M1 cd ci hs hc hx hf x9 hn => ?_)
  · skip
    obtain ⟨v0, hot⟩ := (hH.cls hx hf).2.2.2.2.1
    show jj G kL_hermite (d + 11) Q rc rs 8 [some (.ref (oa 0)), some (.int (x)), some (.int (y)), some (.ref ot), none] [.int (nI (v)), .int (nI (0)), .ref ot] M1
    refine jj_i2l (pc := 8) kL_hermite_d8 ?_
    refine jj_last (pc := 9) (j := 1) (i := 0) (fs := [.long v0]) kL_hermite_d9 (kG_t hG rfl) hot rfl (show 1 < 2 ^ 31 by decide) (show 0 < 1 by decide) ?_
    show jj G kL_hermite (d + 11) Q rc rs 10 [some (.ref (oa 0)), some (.int (x)), some (.int (y)), some (.ref ot), none] [] (jj_up M1 ot (.inr 1, [.long ((nI v).toInt64)]))
    refine jj_goto (pc := 10) (tgt := 25) kL_hermite_d10 (by decide) ?_
    refine jn_iconst (pc := 25) 0 kL_hermite_d25 (by decide) ?_
    exact jj_iret (pc := 26) kL_hermite_d26 rfl (by rfl) (K _ 0 v σ1 rc rs hs (((hH.cls hx hf).out _).less (by omega) (by omega)) (by decide) (fun _ => jj_up_at _ _ _))
  · skip
    rcases hc with ⟨rfl, rfl⟩ | ⟨rfl, rfl⟩ | ⟨rfl, rfl⟩
    · skip
      refine ⟨4, 13, _, _, jj_up_at _ _ _, kG_cl hG rfl, Or.inr ⟨by decide, by decide, _, kcL_IOB hG, Or.inl ⟨rfl, rfl⟩⟩, ?_⟩
      show jj G kL_hermite (d + 11) Q (rc - 1) (rs - 6) 13 [some (.ref (oa 0)), some (.int (x)), some (.int (y)), some (.ref ot), none] [.ref x9] (jj_up M1 x9 (.inl 4, []))
      refine jj_astore (pc := 13) kL_hermite_d13 (Nat.le_of_ble_eq_true rfl) ?_
      show jj G kL_hermite (d + 11) Q (rc - 1) (rs - 6) 15 [some (.ref (oa 0)), some (.int (x)), some (.int (y)), some (.ref ot), some (.ref x9)] [] (jj_up M1 x9 (.inl 4, []))
      refine jn_iconst (pc := 15) 1 kL_hermite_d15 (by decide) ?_
      exact jj_iret (pc := 16) kL_hermite_d16 rfl (by rfl) (K _ 1 0 σ _ _ hs (((hH.cls hx hf).thr hn).less (by omega) (by omega)) (by decide) (fun h => by cases h))
    · skip
      refine ⟨5, 17, _, _, jj_up_at _ _ _, kG_cl hG rfl, Or.inr ⟨by decide, by decide, _, kcL_IOB hG, Or.inr ⟨kncL_IAE_IOB hG, Or.inr ⟨by decide, by decide, _, kcL_IAE hG, Or.inl ⟨rfl, rfl⟩⟩⟩⟩, ?_⟩
      show jj G kL_hermite (d + 11) Q (rc - 1) (rs - 6) 17 [some (.ref (oa 0)), some (.int (x)), some (.int (y)), some (.ref ot), none] [.ref x9] (jj_up M1 x9 (.inl 5, []))
      refine jj_astore (pc := 17) kL_hermite_d17 (Nat.le_of_ble_eq_true rfl) ?_
      show jj G kL_hermite (d + 11) Q (rc - 1) (rs - 6) 19 [some (.ref (oa 0)), some (.int (x)), some (.int (y)), some (.ref ot), some (.ref x9)] [] (jj_up M1 x9 (.inl 5, []))
      refine jn_iconst (pc := 19) 2 kL_hermite_d19 (by decide) ?_
      exact jj_iret (pc := 20) kL_hermite_d20 rfl (by rfl) (K _ 2 0 σ _ _ hs (((hH.cls hx hf).thr hn).less (by omega) (by omega)) (by decide) (fun h => by cases h))
    · skip
      refine ⟨6, 21, _, _, jj_up_at _ _ _, kG_cl hG rfl, Or.inr ⟨by decide, by decide, _, kcL_IOB hG, Or.inr ⟨kncL_UOE_IOB hG, Or.inr ⟨by decide, by decide, _, kcL_IAE hG, Or.inr ⟨kncL_UOE_IAE hG, Or.inr ⟨by decide, by decide, _, kcL_UOE hG, Or.inl ⟨rfl, rfl⟩⟩⟩⟩⟩⟩, ?_⟩
      show jj G kL_hermite (d + 11) Q (rc - 1) (rs - 6) 21 [some (.ref (oa 0)), some (.int (x)), some (.int (y)), some (.ref ot), none] [.ref x9] (jj_up M1 x9 (.inl 6, []))
      refine jj_astore (pc := 21) kL_hermite_d21 (Nat.le_of_ble_eq_true rfl) ?_
      show jj G kL_hermite (d + 11) Q (rc - 1) (rs - 6) 23 [some (.ref (oa 0)), some (.int (x)), some (.int (y)), some (.ref ot), some (.ref x9)] [] (jj_up M1 x9 (.inl 6, []))
      refine jn_iconst (pc := 23) 3 kL_hermite_d23 (by decide) ?_
      exact jj_iret (pc := 24) kL_hermite_d24 rfl (by rfl) (K _ 3 0 σ _ _ hs (((hH.cls hx hf).thr hn).less (by omega) (by omega)) (by decide) (fun h => by cases h))
theorem lm_smith {x y : Int32} (hG : kG G) (hJ : XJ wa la capx oa eu dv hi lo) (hH : HW M wa la oa F eu dv hi lo ot σ σ code (X + 6) (Z + 1) rc rs) (K : ∀ (M' : mheap) (cd : Nat) (v : Nat) (σ' : rst) (rc' rs' : Nat), semSmith σ x y cd v σ' → HW M' wa la oa F eu dv hi lo ot σ' σ code X Z rc' rs' → cd ≤ 3 → (cd = 0 → M' ot = some (.inr 1, [.long ((nI v).toInt64)])) → Q (.returned (some (.int (nI cd)))) M' rc' rs') : jj G kL_smith (d + 11) Q rc rs 0 (jj_ent [.ref (oa 0), .int (x), .int (y), .ref ot] 5) [] M := by
  obtain ⟨fs, hob⟩ := hH.ob
  have hrm := hH.2.1.room
  show jj G kL_smith (d + 11) Q rc rs 0 [some (.ref (oa 0)), some (.int (x)), some (.int (y)), some (.ref ot), none] [] M
  refine jj_aload_n (pc := 0) kL_smith_d0 rfl ?_
  refine jn_iconst (pc := 1) 0 kL_smith_d1 (by decide) ?_
  refine jj_aload_n (pc := 2) kL_smith_d2 rfl ?_
  refine jj_iload_n (pc := 3) kL_smith_d3 rfl ?_
  refine jj_iload_n (pc := 4) kL_smith_d4 rfl ?_
  refine jj_callVC (pc := 5) (d := d + 10) (b := oa 0) (As := [.int (x), .int (y)]) (Q' := (fun oc M' rc' rs' => match oc with | .returned v => jj G kL_smith (d + 11) Q rc' rs' 8 [some (.ref (oa 0)), some (.int (x)), some (.int (y)), some (.ref ot), none] (v.toList ++ [.int (nI (0)), .ref ot]) M' | .threw xq => ∃ (ci hpc : Nat) (E : String) (T0 : u_T), M' xq = some (.inl ci, []) ∧ G.2.1[ci]? = some (E, T0, 0) ∧ jj_find G "ExactFormsLaw" 5 E hpc [(0, 10, 13, 13), (0, 10, 17, 15), (0, 10, 21, 21)] ∧ jj G kL_smith (d + 11) Q rc' rs' hpc [some (.ref (oa 0)), some (.int (x)), some (.int (y)), some (.ref ot), none] [.ref xq] M')) kL_smith_d5 (kvL_X_smith hG) (kG_cl hG rfl) rfl hob rfl rfl rfl (Nat.le_of_ble_eq_true rfl) (Nat.le_of_ble_eq_true rfl) (fun v M' rc' rs' h => h) (fun x M' rc' rs' h => h) ?_
  refine xp_smith hG hJ hH.1 (by omega) (by omega) (fun M1 v σ1 hs hx hf => ?_) (fun M1 cd ci hs hc hx hf x9 hn => ?_)
  · skip
    obtain ⟨v0, hot⟩ := (hH.cls hx hf).2.2.2.2.1
    show jj G kL_smith (d + 11) Q rc rs 8 [some (.ref (oa 0)), some (.int (x)), some (.int (y)), some (.ref ot), none] [.int (nI (v)), .int (nI (0)), .ref ot] M1
    refine jj_i2l (pc := 8) kL_smith_d8 ?_
    refine jj_last (pc := 9) (j := 1) (i := 0) (fs := [.long v0]) kL_smith_d9 (kG_t hG rfl) hot rfl (show 1 < 2 ^ 31 by decide) (show 0 < 1 by decide) ?_
    show jj G kL_smith (d + 11) Q rc rs 10 [some (.ref (oa 0)), some (.int (x)), some (.int (y)), some (.ref ot), none] [] (jj_up M1 ot (.inr 1, [.long ((nI v).toInt64)]))
    refine jj_goto (pc := 10) (tgt := 25) kL_smith_d10 (by decide) ?_
    refine jn_iconst (pc := 25) 0 kL_smith_d25 (by decide) ?_
    exact jj_iret (pc := 26) kL_smith_d26 rfl (by rfl) (K _ 0 v σ1 rc rs hs (((hH.cls hx hf).out _).less (by omega) (by omega)) (by decide) (fun _ => jj_up_at _ _ _))
  · skip
    rcases hc with ⟨rfl, rfl⟩ | ⟨rfl, rfl⟩ | ⟨rfl, rfl⟩
    · skip
      refine ⟨4, 13, _, _, jj_up_at _ _ _, kG_cl hG rfl, Or.inr ⟨by decide, by decide, _, kcL_IOB hG, Or.inl ⟨rfl, rfl⟩⟩, ?_⟩
      show jj G kL_smith (d + 11) Q (rc - 1) (rs - 6) 13 [some (.ref (oa 0)), some (.int (x)), some (.int (y)), some (.ref ot), none] [.ref x9] (jj_up M1 x9 (.inl 4, []))
      refine jj_astore (pc := 13) kL_smith_d13 (Nat.le_of_ble_eq_true rfl) ?_
      show jj G kL_smith (d + 11) Q (rc - 1) (rs - 6) 15 [some (.ref (oa 0)), some (.int (x)), some (.int (y)), some (.ref ot), some (.ref x9)] [] (jj_up M1 x9 (.inl 4, []))
      refine jn_iconst (pc := 15) 1 kL_smith_d15 (by decide) ?_
      exact jj_iret (pc := 16) kL_smith_d16 rfl (by rfl) (K _ 1 0 σ _ _ hs (((hH.cls hx hf).thr hn).less (by omega) (by omega)) (by decide) (fun h => by cases h))
    · skip
      refine ⟨5, 17, _, _, jj_up_at _ _ _, kG_cl hG rfl, Or.inr ⟨by decide, by decide, _, kcL_IOB hG, Or.inr ⟨kncL_IAE_IOB hG, Or.inr ⟨by decide, by decide, _, kcL_IAE hG, Or.inl ⟨rfl, rfl⟩⟩⟩⟩, ?_⟩
      show jj G kL_smith (d + 11) Q (rc - 1) (rs - 6) 17 [some (.ref (oa 0)), some (.int (x)), some (.int (y)), some (.ref ot), none] [.ref x9] (jj_up M1 x9 (.inl 5, []))
      refine jj_astore (pc := 17) kL_smith_d17 (Nat.le_of_ble_eq_true rfl) ?_
      show jj G kL_smith (d + 11) Q (rc - 1) (rs - 6) 19 [some (.ref (oa 0)), some (.int (x)), some (.int (y)), some (.ref ot), some (.ref x9)] [] (jj_up M1 x9 (.inl 5, []))
      refine jn_iconst (pc := 19) 2 kL_smith_d19 (by decide) ?_
      exact jj_iret (pc := 20) kL_smith_d20 rfl (by rfl) (K _ 2 0 σ _ _ hs (((hH.cls hx hf).thr hn).less (by omega) (by omega)) (by decide) (fun h => by cases h))
    · skip
      refine ⟨6, 21, _, _, jj_up_at _ _ _, kG_cl hG rfl, Or.inr ⟨by decide, by decide, _, kcL_IOB hG, Or.inr ⟨kncL_UOE_IOB hG, Or.inr ⟨by decide, by decide, _, kcL_IAE hG, Or.inr ⟨kncL_UOE_IAE hG, Or.inr ⟨by decide, by decide, _, kcL_UOE hG, Or.inl ⟨rfl, rfl⟩⟩⟩⟩⟩⟩, ?_⟩
      show jj G kL_smith (d + 11) Q (rc - 1) (rs - 6) 21 [some (.ref (oa 0)), some (.int (x)), some (.int (y)), some (.ref ot), none] [.ref x9] (jj_up M1 x9 (.inl 6, []))
      refine jj_astore (pc := 21) kL_smith_d21 (Nat.le_of_ble_eq_true rfl) ?_
      show jj G kL_smith (d + 11) Q (rc - 1) (rs - 6) 23 [some (.ref (oa 0)), some (.int (x)), some (.int (y)), some (.ref ot), some (.ref x9)] [] (jj_up M1 x9 (.inl 6, []))
      refine jn_iconst (pc := 23) 3 kL_smith_d23 (by decide) ?_
      exact jj_iret (pc := 24) kL_smith_d24 rfl (by rfl) (K _ 3 0 σ _ _ hs (((hH.cls hx hf).thr hn).less (by omega) (by omega)) (by decide) (fun h => by cases h))
theorem lm_size {x b : Int32} (hG : kG G) (hJ : XJ wa la capx oa eu dv hi lo) (hH : HW M wa la oa F eu dv hi lo ot σ σ code (X + 6) (Z + 1) rc rs) (K : ∀ (M' : mheap) (cd : Nat) (v : Nat) (rc' rs' : Nat), semSize σ x b cd v → HW M' wa la oa F eu dv hi lo ot σ σ code X Z rc' rs' → cd ≤ 3 → (cd = 0 → M' ot = some (.inr 1, [.long ((nI v).toInt64)])) → Q (.returned (some (.int (nI cd)))) M' rc' rs') : jj G kL_size (d + 11) Q rc rs 0 (jj_ent [.ref (oa 0), .int (x), .int (b), .ref ot] 5) [] M := by
  obtain ⟨fs, hob⟩ := hH.ob
  have hrm := hH.2.1.room
  show jj G kL_size (d + 11) Q rc rs 0 [some (.ref (oa 0)), some (.int (x)), some (.int (b)), some (.ref ot), none] [] M
  refine jj_aload_n (pc := 0) kL_size_d0 rfl ?_
  refine jn_iconst (pc := 1) 0 kL_size_d1 (by decide) ?_
  refine jj_aload_n (pc := 2) kL_size_d2 rfl ?_
  refine jj_iload_n (pc := 3) kL_size_d3 rfl ?_
  refine jj_iload_n (pc := 4) kL_size_d4 rfl ?_
  refine jj_callVC (pc := 5) (d := d + 10) (b := oa 0) (As := [.int (x), .int (b)]) (Q' := (fun oc M' rc' rs' => match oc with | .returned v => jj G kL_size (d + 11) Q rc' rs' 8 [some (.ref (oa 0)), some (.int (x)), some (.int (b)), some (.ref ot), none] (v.toList ++ [.int (nI (0)), .ref ot]) M' | .threw xq => ∃ (ci hpc : Nat) (E : String) (T0 : u_T), M' xq = some (.inl ci, []) ∧ G.2.1[ci]? = some (E, T0, 0) ∧ jj_find G "ExactFormsLaw" 5 E hpc [(0, 10, 13, 13)] ∧ jj G kL_size (d + 11) Q rc' rs' hpc [some (.ref (oa 0)), some (.int (x)), some (.int (b)), some (.ref ot), none] [.ref xq] M')) kL_size_d5 (kvL_X_size hG) (kG_cl hG rfl) rfl hob rfl rfl rfl (Nat.le_of_ble_eq_true rfl) (Nat.le_of_ble_eq_true rfl) (fun v M' rc' rs' h => h) (fun x M' rc' rs' h => h) ?_
  refine xp_size hG hJ hH.1 (by omega) (by omega) (fun v hs => ?_) (fun cd ci hs hc x9 hn => ?_)
  · skip
    obtain ⟨v0, hot⟩ := hH.2.2.2.2.1
    show jj G kL_size (d + 11) Q rc rs 8 [some (.ref (oa 0)), some (.int (x)), some (.int (b)), some (.ref ot), none] [.int (nI (v)), .int (nI (0)), .ref ot] M
    refine jj_i2l (pc := 8) kL_size_d8 ?_
    refine jj_last (pc := 9) (j := 1) (i := 0) (fs := [.long v0]) kL_size_d9 (kG_t hG rfl) hot rfl (show 1 < 2 ^ 31 by decide) (show 0 < 1 by decide) ?_
    show jj G kL_size (d + 11) Q rc rs 10 [some (.ref (oa 0)), some (.int (x)), some (.int (b)), some (.ref ot), none] [] (jj_up M ot (.inr 1, [.long ((nI v).toInt64)]))
    refine jj_goto (pc := 10) (tgt := 17) kL_size_d10 (by decide) ?_
    refine jn_iconst (pc := 17) 0 kL_size_d17 (by decide) ?_
    exact jj_iret (pc := 18) kL_size_d18 rfl (by rfl) (K _ 0 v rc rs hs ((hH.out _).less (by omega) (by omega)) (by decide) (fun _ => jj_up_at _ _ _))
  · skip
    rcases hc with ⟨rfl, rfl⟩
    · skip
      refine ⟨4, 13, _, _, jj_up_at _ _ _, kG_cl hG rfl, Or.inr ⟨by decide, by decide, _, kcL_IOB hG, Or.inl ⟨rfl, rfl⟩⟩, ?_⟩
      show jj G kL_size (d + 11) Q (rc - 1) (rs - 6) 13 [some (.ref (oa 0)), some (.int (x)), some (.int (b)), some (.ref ot), none] [.ref x9] (jj_up M x9 (.inl 4, []))
      refine jj_astore (pc := 13) kL_size_d13 (Nat.le_of_ble_eq_true rfl) ?_
      show jj G kL_size (d + 11) Q (rc - 1) (rs - 6) 15 [some (.ref (oa 0)), some (.int (x)), some (.int (b)), some (.ref ot), some (.ref x9)] [] (jj_up M x9 (.inl 4, []))
      refine jn_iconst (pc := 15) 1 kL_size_d15 (by decide) ?_
      exact jj_iret (pc := 16) kL_size_d16 rfl (by rfl) (K _ 1 0 _ _ hs ((hH.thr hn).less (by omega) (by omega)) (by decide) (fun h => by cases h))
theorem lm_sign {x y z : Int32} (hG : kG G) (hJ : XJ wa la capx oa eu dv hi lo) (hH : HW M wa la oa F eu dv hi lo ot σ σ code (X + 6) (Z + 1) rc rs) (K : ∀ (M' : mheap) (cd : Nat) (v : Int32) (rc' rs' : Nat), semSign σ x y z cd v → HW M' wa la oa F eu dv hi lo ot σ σ code X Z rc' rs' → cd ≤ 3 → (cd = 0 → M' ot = some (.inr 1, [.long (v.toInt64)])) → Q (.returned (some (.int (nI cd)))) M' rc' rs') : jj G kL_sign (d + 11) Q rc rs 0 (jj_ent [.ref (oa 0), .int (x), .int (y), .int (z), .ref ot] 6) [] M := by
  obtain ⟨fs, hob⟩ := hH.ob
  have hrm := hH.2.1.room
  show jj G kL_sign (d + 11) Q rc rs 0 [some (.ref (oa 0)), some (.int (x)), some (.int (y)), some (.int (z)), some (.ref ot), none] [] M
  refine jj_aload (pc := 0) kL_sign_d0 rfl ?_
  refine jn_iconst (pc := 2) 0 kL_sign_d2 (by decide) ?_
  refine jj_aload_n (pc := 3) kL_sign_d3 rfl ?_
  refine jj_iload_n (pc := 4) kL_sign_d4 rfl ?_
  refine jj_iload_n (pc := 5) kL_sign_d5 rfl ?_
  refine jj_iload_n (pc := 6) kL_sign_d6 rfl ?_
  refine jj_callVC (pc := 7) (d := d + 10) (b := oa 0) (As := [.int (x), .int (y), .int (z)]) (Q' := (fun oc M' rc' rs' => match oc with | .returned v => jj G kL_sign (d + 11) Q rc' rs' 10 [some (.ref (oa 0)), some (.int (x)), some (.int (y)), some (.int (z)), some (.ref ot), none] (v.toList ++ [.int (nI (0)), .ref ot]) M' | .threw xq => ∃ (ci hpc : Nat) (E : String) (T0 : u_T), M' xq = some (.inl ci, []) ∧ G.2.1[ci]? = some (E, T0, 0) ∧ jj_find G "ExactFormsLaw" 7 E hpc [(0, 12, 15, 13)] ∧ jj G kL_sign (d + 11) Q rc' rs' hpc [some (.ref (oa 0)), some (.int (x)), some (.int (y)), some (.int (z)), some (.ref ot), none] [.ref xq] M')) kL_sign_d7 (kvL_X_sign hG) (kG_cl hG rfl) rfl hob rfl rfl rfl (Nat.le_of_ble_eq_true rfl) (Nat.le_of_ble_eq_true rfl) (fun v M' rc' rs' h => h) (fun x M' rc' rs' h => h) ?_
  refine xp_sign hG hJ hH.1 (by omega) (by omega) (fun v hs => ?_) (fun cd ci hs hc x9 hn => ?_)
  · skip
    obtain ⟨v0, hot⟩ := hH.2.2.2.2.1
    show jj G kL_sign (d + 11) Q rc rs 10 [some (.ref (oa 0)), some (.int (x)), some (.int (y)), some (.int (z)), some (.ref ot), none] [.int (v), .int (nI (0)), .ref ot] M
    refine jj_i2l (pc := 10) kL_sign_d10 ?_
    refine jj_last (pc := 11) (j := 1) (i := 0) (fs := [.long v0]) kL_sign_d11 (kG_t hG rfl) hot rfl (show 1 < 2 ^ 31 by decide) (show 0 < 1 by decide) ?_
    show jj G kL_sign (d + 11) Q rc rs 12 [some (.ref (oa 0)), some (.int (x)), some (.int (y)), some (.int (z)), some (.ref ot), none] [] (jj_up M ot (.inr 1, [.long (v.toInt64)]))
    refine jj_goto (pc := 12) (tgt := 19) kL_sign_d12 (by decide) ?_
    refine jn_iconst (pc := 19) 0 kL_sign_d19 (by decide) ?_
    exact jj_iret (pc := 20) kL_sign_d20 rfl (by rfl) (K _ 0 v rc rs hs ((hH.out _).less (by omega) (by omega)) (by decide) (fun _ => jj_up_at _ _ _))
  · skip
    rcases hc with ⟨rfl, rfl⟩
    · skip
      refine ⟨4, 15, _, _, jj_up_at _ _ _, kG_cl hG rfl, Or.inr ⟨by decide, by decide, _, kcL_IOB hG, Or.inl ⟨rfl, rfl⟩⟩, ?_⟩
      show jj G kL_sign (d + 11) Q (rc - 1) (rs - 6) 15 [some (.ref (oa 0)), some (.int (x)), some (.int (y)), some (.int (z)), some (.ref ot), none] [.ref x9] (jj_up M x9 (.inl 4, []))
      refine jj_astore (pc := 15) kL_sign_d15 (Nat.le_of_ble_eq_true rfl) ?_
      show jj G kL_sign (d + 11) Q (rc - 1) (rs - 6) 17 [some (.ref (oa 0)), some (.int (x)), some (.int (y)), some (.int (z)), some (.ref ot), some (.ref x9)] [] (jj_up M x9 (.inl 4, []))
      refine jn_iconst (pc := 17) 1 kL_sign_d17 (by decide) ?_
      exact jj_iret (pc := 18) kL_sign_d18 rfl (by rfl) (K _ 1 0 _ _ hs ((hH.thr hn).less (by omega) (by omega)) (by decide) (fun h => by cases h))
theorem lm_length {x y z b : Int32} (hG : kG G) (hJ : XJ wa la capx oa eu dv hi lo) (hH : HW M wa la oa F eu dv hi lo ot σ σ code (X + 6) (Z + 1) rc rs) (K : ∀ (M' : mheap) (cd : Nat) (v : Nat) (rc' rs' : Nat), semLen σ x y z b cd v → HW M' wa la oa F eu dv hi lo ot σ σ code X Z rc' rs' → cd ≤ 3 → (cd = 0 → M' ot = some (.inr 1, [.long ((nI v).toInt64)])) → Q (.returned (some (.int (nI cd)))) M' rc' rs') : jj G kL_length (d + 11) Q rc rs 0 (jj_ent [.ref (oa 0), .int (x), .int (y), .int (z), .int (b), .ref ot] 7) [] M := by
  obtain ⟨fs, hob⟩ := hH.ob
  have hrm := hH.2.1.room
  show jj G kL_length (d + 11) Q rc rs 0 [some (.ref (oa 0)), some (.int (x)), some (.int (y)), some (.int (z)), some (.int (b)), some (.ref ot), none] [] M
  refine jj_aload (pc := 0) kL_length_d0 rfl ?_
  refine jn_iconst (pc := 2) 0 kL_length_d2 (by decide) ?_
  refine jj_aload_n (pc := 3) kL_length_d3 rfl ?_
  refine jj_iload_n (pc := 4) kL_length_d4 rfl ?_
  refine jj_iload_n (pc := 5) kL_length_d5 rfl ?_
  refine jj_iload_n (pc := 6) kL_length_d6 rfl ?_
  refine jj_iload (pc := 7) kL_length_d7 rfl ?_
  refine jj_callVC (pc := 9) (d := d + 10) (b := oa 0) (As := [.int (x), .int (y), .int (z), .int (b)]) (Q' := (fun oc M' rc' rs' => match oc with | .returned v => jj G kL_length (d + 11) Q rc' rs' 12 [some (.ref (oa 0)), some (.int (x)), some (.int (y)), some (.int (z)), some (.int (b)), some (.ref ot), none] (v.toList ++ [.int (nI (0)), .ref ot]) M' | .threw xq => ∃ (ci hpc : Nat) (E : String) (T0 : u_T), M' xq = some (.inl ci, []) ∧ G.2.1[ci]? = some (E, T0, 0) ∧ jj_find G "ExactFormsLaw" 9 E hpc [(0, 14, 17, 13)] ∧ jj G kL_length (d + 11) Q rc' rs' hpc [some (.ref (oa 0)), some (.int (x)), some (.int (y)), some (.int (z)), some (.int (b)), some (.ref ot), none] [.ref xq] M')) kL_length_d9 (kvL_X_length hG) (kG_cl hG rfl) rfl hob rfl rfl rfl (Nat.le_of_ble_eq_true rfl) (Nat.le_of_ble_eq_true rfl) (fun v M' rc' rs' h => h) (fun x M' rc' rs' h => h) ?_
  refine xp_length hG hJ hH.1 (by omega) (by omega) (fun M1 v hs hx hf => ?_) (fun cd ci hs hc x9 hn => ?_)
  · skip
    obtain ⟨v0, hot⟩ := (hH.cls hx hf).2.2.2.2.1
    show jj G kL_length (d + 11) Q rc rs 12 [some (.ref (oa 0)), some (.int (x)), some (.int (y)), some (.int (z)), some (.int (b)), some (.ref ot), none] [.int (nI (v)), .int (nI (0)), .ref ot] M1
    refine jj_i2l (pc := 12) kL_length_d12 ?_
    refine jj_last (pc := 13) (j := 1) (i := 0) (fs := [.long v0]) kL_length_d13 (kG_t hG rfl) hot rfl (show 1 < 2 ^ 31 by decide) (show 0 < 1 by decide) ?_
    show jj G kL_length (d + 11) Q rc rs 14 [some (.ref (oa 0)), some (.int (x)), some (.int (y)), some (.int (z)), some (.int (b)), some (.ref ot), none] [] (jj_up M1 ot (.inr 1, [.long ((nI v).toInt64)]))
    refine jj_goto (pc := 14) (tgt := 21) kL_length_d14 (by decide) ?_
    refine jn_iconst (pc := 21) 0 kL_length_d21 (by decide) ?_
    exact jj_iret (pc := 22) kL_length_d22 rfl (by rfl) (K _ 0 v rc rs hs (((hH.cls hx hf).out _).less (by omega) (by omega)) (by decide) (fun _ => jj_up_at _ _ _))
  · skip
    rcases hc with ⟨rfl, rfl⟩
    · skip
      refine ⟨4, 17, _, _, jj_up_at _ _ _, kG_cl hG rfl, Or.inr ⟨by decide, by decide, _, kcL_IOB hG, Or.inl ⟨rfl, rfl⟩⟩, ?_⟩
      show jj G kL_length (d + 11) Q (rc - 1) (rs - 6) 17 [some (.ref (oa 0)), some (.int (x)), some (.int (y)), some (.int (z)), some (.int (b)), some (.ref ot), none] [.ref x9] (jj_up M x9 (.inl 4, []))
      refine jj_astore (pc := 17) kL_length_d17 (Nat.le_of_ble_eq_true rfl) ?_
      show jj G kL_length (d + 11) Q (rc - 1) (rs - 6) 19 [some (.ref (oa 0)), some (.int (x)), some (.int (y)), some (.int (z)), some (.int (b)), some (.ref ot), some (.ref x9)] [] (jj_up M x9 (.inl 4, []))
      refine jn_iconst (pc := 19) 1 kL_length_d19 (by decide) ?_
      exact jj_iret (pc := 20) kL_length_d20 rfl (by rfl) (K _ 1 0 _ _ hs ((hH.thr hn).less (by omega) (by omega)) (by decide) (fun h => by cases h))
theorem lm_limb {x y z b l : Int32} (hG : kG G) (hJ : XJ wa la capx oa eu dv hi lo) (hH : HW M wa la oa F eu dv hi lo ot σ σ code (X + 6) (Z + 1) rc rs) (K : ∀ (M' : mheap) (cd : Nat) (v : Int32) (rc' rs' : Nat), semLimb σ x y z b l cd v → HW M' wa la oa F eu dv hi lo ot σ σ code X Z rc' rs' → cd ≤ 3 → (cd = 0 → M' ot = some (.inr 1, [.long (v.toInt64)])) → Q (.returned (some (.int (nI cd)))) M' rc' rs') : jj G kL_limb (d + 11) Q rc rs 0 (jj_ent [.ref (oa 0), .int (x), .int (y), .int (z), .int (b), .int (l), .ref ot] 8) [] M := by
  obtain ⟨fs, hob⟩ := hH.ob
  have hrm := hH.2.1.room
  show jj G kL_limb (d + 11) Q rc rs 0 [some (.ref (oa 0)), some (.int (x)), some (.int (y)), some (.int (z)), some (.int (b)), some (.int (l)), some (.ref ot), none] [] M
  refine jj_aload (pc := 0) kL_limb_d0 rfl ?_
  refine jn_iconst (pc := 2) 0 kL_limb_d2 (by decide) ?_
  refine jj_aload_n (pc := 3) kL_limb_d3 rfl ?_
  refine jj_iload_n (pc := 4) kL_limb_d4 rfl ?_
  refine jj_iload_n (pc := 5) kL_limb_d5 rfl ?_
  refine jj_iload_n (pc := 6) kL_limb_d6 rfl ?_
  refine jj_iload (pc := 7) kL_limb_d7 rfl ?_
  refine jj_iload (pc := 9) kL_limb_d9 rfl ?_
  refine jj_callVC (pc := 11) (d := d + 10) (b := oa 0) (As := [.int (x), .int (y), .int (z), .int (b), .int (l)]) (Q' := (fun oc M' rc' rs' => match oc with | .returned v => jj G kL_limb (d + 11) Q rc' rs' 14 [some (.ref (oa 0)), some (.int (x)), some (.int (y)), some (.int (z)), some (.int (b)), some (.int (l)), some (.ref ot), none] (v.toList ++ [.int (nI (0)), .ref ot]) M' | .threw xq => ∃ (ci hpc : Nat) (E : String) (T0 : u_T), M' xq = some (.inl ci, []) ∧ G.2.1[ci]? = some (E, T0, 0) ∧ jj_find G "ExactFormsLaw" 11 E hpc [(0, 16, 19, 13)] ∧ jj G kL_limb (d + 11) Q rc' rs' hpc [some (.ref (oa 0)), some (.int (x)), some (.int (y)), some (.int (z)), some (.int (b)), some (.int (l)), some (.ref ot), none] [.ref xq] M')) kL_limb_d11 (kvL_X_limb hG) (kG_cl hG rfl) rfl hob rfl rfl rfl (Nat.le_of_ble_eq_true rfl) (Nat.le_of_ble_eq_true rfl) (fun v M' rc' rs' h => h) (fun x M' rc' rs' h => h) ?_
  refine xp_limb hG hJ hH.1 (by omega) (by omega) (fun M1 v hs hx hf => ?_) (fun cd ci hs hc x9 hn => ?_)
  · skip
    obtain ⟨v0, hot⟩ := (hH.cls hx hf).2.2.2.2.1
    show jj G kL_limb (d + 11) Q rc rs 14 [some (.ref (oa 0)), some (.int (x)), some (.int (y)), some (.int (z)), some (.int (b)), some (.int (l)), some (.ref ot), none] [.int (v), .int (nI (0)), .ref ot] M1
    refine jj_i2l (pc := 14) kL_limb_d14 ?_
    refine jj_last (pc := 15) (j := 1) (i := 0) (fs := [.long v0]) kL_limb_d15 (kG_t hG rfl) hot rfl (show 1 < 2 ^ 31 by decide) (show 0 < 1 by decide) ?_
    show jj G kL_limb (d + 11) Q rc rs 16 [some (.ref (oa 0)), some (.int (x)), some (.int (y)), some (.int (z)), some (.int (b)), some (.int (l)), some (.ref ot), none] [] (jj_up M1 ot (.inr 1, [.long (v.toInt64)]))
    refine jj_goto (pc := 16) (tgt := 23) kL_limb_d16 (by decide) ?_
    refine jn_iconst (pc := 23) 0 kL_limb_d23 (by decide) ?_
    exact jj_iret (pc := 24) kL_limb_d24 rfl (by rfl) (K _ 0 v rc rs hs (((hH.cls hx hf).out _).less (by omega) (by omega)) (by decide) (fun _ => jj_up_at _ _ _))
  · skip
    rcases hc with ⟨rfl, rfl⟩
    · skip
      refine ⟨4, 19, _, _, jj_up_at _ _ _, kG_cl hG rfl, Or.inr ⟨by decide, by decide, _, kcL_IOB hG, Or.inl ⟨rfl, rfl⟩⟩, ?_⟩
      show jj G kL_limb (d + 11) Q (rc - 1) (rs - 6) 19 [some (.ref (oa 0)), some (.int (x)), some (.int (y)), some (.int (z)), some (.int (b)), some (.int (l)), some (.ref ot), none] [.ref x9] (jj_up M x9 (.inl 4, []))
      refine jj_astore (pc := 19) kL_limb_d19 (Nat.le_of_ble_eq_true rfl) ?_
      show jj G kL_limb (d + 11) Q (rc - 1) (rs - 6) 21 [some (.ref (oa 0)), some (.int (x)), some (.int (y)), some (.int (z)), some (.int (b)), some (.int (l)), some (.ref ot), some (.ref x9)] [] (jj_up M x9 (.inl 4, []))
      refine jn_iconst (pc := 21) 1 kL_limb_d21 (by decide) ?_
      exact jj_iret (pc := 22) kL_limb_d22 rfl (by rfl) (K _ 1 0 _ _ hs ((hH.thr hn).less (by omega) (by omega)) (by decide) (fun h => by cases h))
theorem lm_same {x y : Int32} (hG : kG G) (hJ : XJ wa la capx oa eu dv hi lo) (hH : HW M wa la oa F eu dv hi lo ot σ σ code (X + 6) (Z + 1) rc rs) (K : ∀ (M' : mheap) (cd : Nat) (v : Nat) (rc' rs' : Nat), semSame σ x y cd v → HW M' wa la oa F eu dv hi lo ot σ σ code X Z rc' rs' → cd ≤ 3 → (cd = 0 → M' ot = some (.inr 1, [.long (lN v)])) → Q (.returned (some (.int (nI cd)))) M' rc' rs') : jj G kL_same (d + 11) Q rc rs 0 (jj_ent [.ref (oa 0), .int (x), .int (y), .ref ot] 5) [] M := by
  obtain ⟨fs, hob⟩ := hH.ob
  have hrm := hH.2.1.room
  show jj G kL_same (d + 11) Q rc rs 0 [some (.ref (oa 0)), some (.int (x)), some (.int (y)), some (.ref ot), none] [] M
  refine jj_aload_n (pc := 0) kL_same_d0 rfl ?_
  refine jn_iconst (pc := 1) 0 kL_same_d1 (by decide) ?_
  refine jj_aload_n (pc := 2) kL_same_d2 rfl ?_
  refine jj_iload_n (pc := 3) kL_same_d3 rfl ?_
  refine jj_iload_n (pc := 4) kL_same_d4 rfl ?_
  refine jj_callVC (pc := 5) (d := d + 10) (b := oa 0) (As := [.int (x), .int (y)]) (Q' := (fun oc M' rc' rs' => match oc with | .returned v => jj G kL_same (d + 11) Q rc' rs' 8 [some (.ref (oa 0)), some (.int (x)), some (.int (y)), some (.ref ot), none] (v.toList ++ [.int (nI (0)), .ref ot]) M' | .threw xq => ∃ (ci hpc : Nat) (E : String) (T0 : u_T), M' xq = some (.inl ci, []) ∧ G.2.1[ci]? = some (E, T0, 0) ∧ jj_find G "ExactFormsLaw" 5 E hpc [(0, 17, 20, 13)] ∧ jj G kL_same (d + 11) Q rc' rs' hpc [some (.ref (oa 0)), some (.int (x)), some (.int (y)), some (.ref ot), none] [.ref xq] M')) kL_same_d5 (kvL_X_same hG) (kG_cl hG rfl) rfl hob rfl rfl rfl (Nat.le_of_ble_eq_true rfl) (Nat.le_of_ble_eq_true rfl) (fun v M' rc' rs' h => h) (fun x M' rc' rs' h => h) ?_
  refine xp_same hG hJ hH.1 (by omega) (by omega) (fun v hs => ?_) (fun cd ci hs hc x9 hn => ?_)
  · skip
    obtain ⟨v0, hot⟩ := hH.2.2.2.2.1
    have hv1 := semSame_v hs
    show jj G kL_same (d + 11) Q rc rs 8 [some (.ref (oa 0)), some (.int (x)), some (.int (y)), some (.ref ot), none] [.int (nI (v)), .int (nI (0)), .ref ot] M
    refine jn_if_eq (pc := 8) (tgt := 15) kL_same_d8 (by decide) (by omega) (fun c1 => ?_) (fun c1 => ?_)
    · skip
      have ev : v = 0 := by omega
      subst ev
      refine jj_lconst (pc := 15) (v := lN 0) kL_same_d15 (by decide) ?_
      refine jj_last (pc := 16) (j := 1) (i := 0) (fs := [.long v0]) kL_same_d16 (kG_t hG rfl) hot rfl (show 1 < 2 ^ 31 by decide) (show 0 < 1 by decide) ?_
      show jj G kL_same (d + 11) Q rc rs 17 [some (.ref (oa 0)), some (.int (x)), some (.int (y)), some (.ref ot), none] [] (jj_up M ot (.inr 1, [.long (lN 0)]))
      refine jj_goto (pc := 17) (tgt := 24) kL_same_d17 (by decide) ?_
      refine jn_iconst (pc := 24) 0 kL_same_d24 (by decide) ?_
      exact jj_iret (pc := 25) kL_same_d25 rfl (by rfl) (K _ 0 0 rc rs hs ((hH.out _).less (by omega) (by omega)) (by decide) (fun _ => jj_up_at _ _ _))
    · skip
      have ev : v = 1 := by omega
      subst ev
      refine jj_lconst (pc := 11) (v := lN 1) kL_same_d11 (by decide) ?_
      refine jj_goto (pc := 12) (tgt := 16) kL_same_d12 (by decide) ?_
      refine jj_last (pc := 16) (j := 1) (i := 0) (fs := [.long v0]) kL_same_d16 (kG_t hG rfl) hot rfl (show 1 < 2 ^ 31 by decide) (show 0 < 1 by decide) ?_
      show jj G kL_same (d + 11) Q rc rs 17 [some (.ref (oa 0)), some (.int (x)), some (.int (y)), some (.ref ot), none] [] (jj_up M ot (.inr 1, [.long (lN 1)]))
      refine jj_goto (pc := 17) (tgt := 24) kL_same_d17 (by decide) ?_
      refine jn_iconst (pc := 24) 0 kL_same_d24 (by decide) ?_
      exact jj_iret (pc := 25) kL_same_d25 rfl (by rfl) (K _ 0 1 rc rs hs ((hH.out _).less (by omega) (by omega)) (by decide) (fun _ => jj_up_at _ _ _))
  · skip
    rcases hc with ⟨rfl, rfl⟩
    · skip
      refine ⟨4, 20, _, _, jj_up_at _ _ _, kG_cl hG rfl, Or.inr ⟨by decide, by decide, _, kcL_IOB hG, Or.inl ⟨rfl, rfl⟩⟩, ?_⟩
      show jj G kL_same (d + 11) Q (rc - 1) (rs - 6) 20 [some (.ref (oa 0)), some (.int (x)), some (.int (y)), some (.ref ot), none] [.ref x9] (jj_up M x9 (.inl 4, []))
      refine jj_astore (pc := 20) kL_same_d20 (Nat.le_of_ble_eq_true rfl) ?_
      show jj G kL_same (d + 11) Q (rc - 1) (rs - 6) 22 [some (.ref (oa 0)), some (.int (x)), some (.int (y)), some (.ref ot), some (.ref x9)] [] (jj_up M x9 (.inl 4, []))
      refine jn_iconst (pc := 22) 1 kL_same_d22 (by decide) ?_
      exact jj_iret (pc := 23) kL_same_d23 rfl (by rfl) (K _ 1 0 _ _ hs ((hH.thr hn).less (by omega) (by omega)) (by decide) (fun h => by cases h))
end LW3
