/-! ===== Matrix: the constructor (printed by wip/gen/rI2.py) ===== -/
theorem rep_range {n : Nat} {v : Value} {f : Nat → Value} (h : ∀ l, f l = v) : List.replicate n v = (List.range n).map f := by
  apply List.ext_getElem?
  intro i
  rw [List.getElem?_replicate, List.getElem?_map]
  by_cases c : i < n
  · rw [if_pos c, List.getElem?_range c]
    show some v = some (f i)
    rw [h i]
  · rw [if_neg c, List.getElem?_eq_none (by rw [List.length_range]; omega)]
    rfl
theorem key_off {k b m : Nat} (h : k < 2 * b ∨ 2 * (b + (m + 1)) ≤ k) : k ≠ 2 * (b + m) + 1 ∧ k ≠ 2 * (b + m) ∧ (k < 2 * b ∨ 2 * (b + m) ≤ k) := by omega
theorem one_LW {c : Nat} (h : 1 ≤ c) : LW ((List.replicate c (0 : Int32)).set 0 (nI 1)) 1 1 := by
  obtain ⟨n, rfl⟩ : ∃ n, c = n + 1 := ⟨c - 1, by omega⟩
  refine ⟨by rw [List.length_set, List.length_replicate]; exact h, ?_, fun _ => ?_⟩
  · rfl
  · show nI 1 ≠ 0
    decide
section I2
variable {G : jg} {d : Nat} {Q : jq} {rc rs : Nat} {M : mheap}
theorem m_init {mx c b ka : Nat} {ad : Nat → Nat} {D : Nat → Prop} (hG : kG G) (hc1 : 1 ≤ c) (hc2 : c < 2000) (hmx : M mx = some (.inl nM, [.int (nI 0), .int (nI 0), .null, .null])) (hL : LB M ad D) (hka : ka < 2 * b ∨ 2 * (b + 257) ≤ ka) (hrc : 515 ≤ rc) (hrs : 256 + 257 * (3 + c) ≤ rs) (k : ∀ (M' : mheap) (ad' : Nat → Nat) (rc' rs' : Nat), LB M' ad' (fun k => D k ∨ k = ka ∨ (2 * b ≤ k ∧ k < 2 * (b + 257))) → (∀ k, k ≠ ka → k < 2 * b ∨ 2 * (b + 257) ≤ k → ad' k = ad k) → MXT M' (fun p => ad' (2 * p)) mx (ad' ka) b 1 1 → (∀ i, i ≤ 256 → WH M' (ad' (2 * (b + i))) (ad' (2 * (b + i) + 1)) c (if i = 256 then 1 else 0)) → (∀ x, x ≠ mx → M x ≠ none → M' x = M x) → rc ≤ rc' + 515 → rs ≤ rs' + (256 + 257 * (3 + c)) → Q (.returned none) M' rc' rs') : jj G kM_init (d + 2) Q rc rs 0 (jj_ent [.ref mx, .int (nI c)] 3) [] M := by
  show jj G kM_init (d + 2) Q rc rs 0 [some (.ref mx), some (.int (nI (c))), none] [] M
  refine jj_aload_n (pc := 0) kM_init_d0 rfl ?_
  refine jj_objInit (pc := 1) kM_init_d1 (koM_obj hG) (ko_inst hG) (ko_code hG) rfl (Nat.le_of_ble_eq_true rfl) ?_
  show jj G kM_init (d + 2) Q rc rs 4 [some (.ref mx), some (.int (nI (c))), none] [] M
  refine jj_aload_n (pc := 4) kM_init_d4 rfl ?_
  refine jn_iconst (pc := 5) 1 kM_init_d5 (by decide) ?_
  refine jj_putf (pc := 6) kM_init_d6 (kpM_rows hG) hmx (by rfl) rfl ?_
  refine jn_gen (fun M101 hM102 => ?_)
  have h103 : M101 mx = some (.inl nM, [.int (nI (1)), .int (nI (0)), .null, .null]) := by rw [hM102]; exact jj_up_at _ _ _
  refine jj_aload_n (pc := 9) kM_init_d9 rfl ?_
  refine jn_iconst (pc := 10) 1 kM_init_d10 (by decide) ?_
  refine jj_putf (pc := 11) kM_init_d11 (kpM_columns hG) h103 (by rfl) rfl ?_
  refine jn_gen (fun M104 hM105 => ?_)
  have h106 : M104 mx = some (.inl nM, [.int (nI (1)), .int (nI (1)), .null, .null]) := by rw [hM105]; exact jj_up_at _ _ _
  refine jj_aload_n (pc := 14) kM_init_d14 rfl ?_
  refine jn_sipush (pc := 15) 256 kM_init_d15 (by decide) ?_
  refine jj_anew (pc := 18) (j := 3) (n := 256) kM_init_d18 (kG_t hG rfl) (knM_arrW hG).1 (knM_arrW hG).2 rfl (by decide) (by omega) (by omega) (fun ar har => ?_)
  have nar : ar ≠ mx := fun e => by rw [e, h106] at har; cases har
  refine jn_gen (fun Ma eMa => ?_)
  have hmxa := (show Ma mx = M104 mx by rw [eMa, jj_up_ne _ _ (Ne.symm nar)]).trans h106
  show jj G kM_init (d + 2) Q (rc - 1) (rs - 256) 21 [some (.ref mx), some (.int (nI (c))), none] [.ref ar, .ref mx] Ma
  refine jj_putF (pc := 21) kM_init_d21 (kpM_cells hG) rfl hmxa (by rfl) rfl ?_
  refine jn_gen (fun M107 hM108 => ?_)
  have h109 : M107 mx = some (.inl nM, [.int (nI (1)), .int (nI (1)), .null, .ref ar]) := by rw [hM108]; exact jj_up_at _ _ _
  refine jn_iconst (pc := 24) 0 kM_init_d24 (by decide) ?_
  refine jj_istore_n (pc := 25) kM_init_d25 (Nat.le_of_ble_eq_true rfl) ?_
  show jj G kM_init (d + 2) Q (rc - 1) (rs - 256) 26 [some (.ref mx), some (.int (nI (c))), some (.int (nI (0)))] [] M107
  have uM : ∀ x, x ≠ mx → x ≠ ar → M107 x = M x := fun x h1 h2 => by rw [hM108, jj_up_ne _ _ h1, eMa, jj_up_ne _ _ h2, hM105, jj_up_ne _ _ h1, hM102, jj_up_ne _ _ h1]
  have Mar : M ar = none := by rw [← har, hM105, jj_up_ne _ _ nar, hM102, jj_up_ne _ _ nar]
  have hab : M107 ar = some (.inr 3, (List.range 256).map (fun l => if l < 0 then Value.ref (adu ad ka ar (2 * (b + l))) else .null)) := by
    rw [hM108, jj_up_ne _ _ nar, eMa, jj_up_at, rep_range (f := fun l => if l < 0 then Value.ref (adu ad ka ar (2 * (b + l))) else .null) (fun l => if_neg (Nat.not_lt_zero l))]
  have frb : ∀ x, x ≠ mx → M x ≠ none → M107 x = M x := fun x h1 h2 => uM x h1 (fun e => h2 (by rw [e]; exact Mar))
  have Lb : LB M107 (adu ad ka ar) (fun k => D k ∨ k = ka) := hL.add Mar (fun x h2 => by
    by_cases c1 : x = mx
    · rw [c1, h109]; exact fun e => (by cases e)
    · rw [frb x c1 h2]; exact h2) (by rw [hab]; exact fun e => (by cases e))
  show jj G kM_init (d + 2) Q (rc - 1) (rs - 256) 26 [some (.ref mx), some (.int (nI (c))), some (.int (nI (0)))] [] M107
  have loop : ∀ mu i, 256 = i + mu → ∀ (M9 : mheap) (ad9 : Nat → Nat) (rc9 rs9 : Nat), M9 mx = some (.inl nM, [.int (nI 1), .int (nI 1), .null, .ref ar]) → M9 ar = some (.inr 3, (List.range 256).map (fun l => if l < i then Value.ref (ad9 (2 * (b + l))) else .null)) → LB M9 ad9 (fun k => D k ∨ k = ka ∨ (2 * b ≤ k ∧ k < 2 * (b + i))) → (∀ k, k ≠ ka → k < 2 * b ∨ 2 * (b + i) ≤ k → ad9 k = ad k) → ad9 ka = ar → (∀ l, l < i → WH M9 (ad9 (2 * (b + l))) (ad9 (2 * (b + l) + 1)) c 0) → (∀ x, x ≠ mx → M x ≠ none → M9 x = M x) → rc ≤ rc9 + (1 + 2 * i) → rs ≤ rs9 + (256 + (3 + c) * i) → jj G kM_init (d + 2) Q rc9 rs9 26 [some (.ref mx), some (.int (nI (c))), some (.int (nI (i)))] [] M9 := by
    intro mu
    induction mu with
    | zero =>
      intro i hi6 M9 ad9 rc9 rs9 hm9 ha9 L9 g9 k9 w9 f9 c9 s9
      have ei : i = 256 := by omega
      subst ei
      refine jj_iload_n (pc := 26) kM_init_d26 rfl ?_
      refine jn_sipush (pc := 27) 256 kM_init_d27 (by decide) ?_
      refine jn_icmp_ge (pc := 30) (tgt := 53) kM_init_d30 (by decide) (by omega) (by omega) (fun _ => ?_) (fun c => by exfalso; omega)
      refine jj_aload_n (pc := 53) kM_init_d53 rfl ?_
      refine jj_new (pc := 54) kM_init_d54 (knM_W hG) (by omega) (show 3 ≤ _ by omega) (fun a ha => ?_)
      refine jj_dup (pc := 57) kM_init_d57 rfl ?_
      refine jj_iload_n (pc := 58) kM_init_d58 rfl ?_
      refine jj_callI (pc := 59) (b := a) (As := [.int (nI (c))]) kM_init_d59 (kvM_W_init hG) rfl rfl rfl (Nat.le_of_ble_eq_true rfl) (Nat.le_of_ble_eq_true rfl) (jj_bare0 rfl) ?_
      refine w_init hG (jj_up_at _ _ _) (by omega) (by omega) (show _ ≤ _ - 3 by omega) (fun bb hbb => ?_)
      have hn := NWH.mk (c := c) ha hbb
      refine jn_gen (fun Mc eMc => ?_)
      rw [← eMc] at hn
      show jj G kM_init (d + 2) Q (rc9 - 1 - 1) (rs9 - 3 - c) 62 [some (.ref mx), some (.int (nI (c))), some (.int (nI (256)))] [.ref a, .ref mx] Mc
      have ka1 := hn.kept (x := mx) (by rw [hm9]; exact fun e => (by cases e))
      have ka2 := hn.kept (x := ar) (by rw [ha9]; exact fun e => (by cases e))
      have hmc := ka1.trans hm9
      have hac := ka2.trans ha9
      have hwa := hn.2.2.2.1
      have hwb := hn.2.2.2.2.1
      have hlr : (List.replicate c (0 : Int32)).length = c := List.length_replicate
      have na1 : a ≠ mx := fun e => by have q := hn.1; rw [e, hm9] at q; cases q
      have na2 : a ≠ ar := fun e => by have q := hn.1; rw [e, ha9] at q; cases q
      have nb1 : bb ≠ mx := fun e => by have q := hn.2.1; rw [e, hm9] at q; cases q
      have nb2 : bb ≠ ar := fun e => by have q := hn.2.1; rw [e, ha9] at q; cases q
      show jj G kM_init (d + 2) Q (rc9 - 1 - 1) (rs9 - 3 - c) 62 [some (.ref mx), some (.int (nI (c))), some (.int (nI (256)))] [.ref a, .ref mx] Mc
      refine jj_putF (pc := 62) kM_init_d62 (kpM_common hG) rfl hmc (by rfl) rfl ?_
      refine jn_gen (fun M110 hM111 => ?_)
      have h112 : M110 a = some (.inl nW, [.ref bb, .int (nI (0)), .int (sg 0)]) := by rw [hM111, jj_up_ne _ _ na1]; exact hwa
      have h113 : M110 bb = some (.inr 0, (List.replicate c (0 : Int32)).map .int) := by rw [hM111, jj_up_ne _ _ nb1]; exact hwb
      have h114 : M110 mx = some (.inl nM, [.int (nI (1)), .int (nI (1)), .ref a, .ref ar]) := by rw [hM111]; exact jj_up_at _ _ _
      refine jj_aload_n (pc := 65) kM_init_d65 rfl ?_
      refine jj_getf (pc := 66) kM_init_d66 (kfM_common hG) h114 rfl ?_
      refine jj_getf (pc := 69) kM_init_d69 (kfM_W_limbs hG) h112 rfl ?_
      refine jn_iconst (pc := 72) 0 kM_init_d72 (by decide) ?_
      refine jn_iconst (pc := 73) 1 kM_init_d73 (by decide) ?_
      refine jn_iast (pc := 74) kM_init_d74 (kG_t hG rfl) h113 (by rw [List.length_replicate]; omega) (by omega) ?_
      refine jn_gen (fun M115 hM116 => ?_)
      have h117 : M115 mx = some (.inl nM, [.int (nI (1)), .int (nI (1)), .ref a, .ref ar]) := by rw [hM116, jj_up_ne _ _ (fun e => by have q1 := h114; rw [e, h113] at q1; cases q1)]; exact h114
      have h118 : M115 a = some (.inl nW, [.ref bb, .int (nI (0)), .int (sg 0)]) := by rw [hM116, jj_up_ne _ _ (fun e => by have q1 := h112; rw [e, h113] at q1; cases q1)]; exact h112
      have h119 : M115 bb = some (.inr 0, ((List.replicate c (0 : Int32)).set (0) ((nI (1)))).map .int) := by rw [hM116]; exact jj_up_at _ _ _
      refine jj_aload_n (pc := 75) kM_init_d75 rfl ?_
      refine jj_getf (pc := 76) kM_init_d76 (kfM_common hG) h117 rfl ?_
      refine jn_iconst (pc := 79) 1 kM_init_d79 (by decide) ?_
      refine jj_putf (pc := 80) kM_init_d80 (kpM_W_count hG) h118 (by rfl) rfl ?_
      refine jn_gen (fun M120 hM121 => ?_)
      have h122 : M120 mx = some (.inl nM, [.int (nI (1)), .int (nI (1)), .ref a, .ref ar]) := by rw [hM121, jj_up_ne _ _ (Ne.symm na1)]; exact h117
      have h123 : M120 bb = some (.inr 0, ((List.replicate c (0 : Int32)).set (0) ((nI (1)))).map .int) := by rw [hM121, jj_up_ne _ _ (Ne.symm hn.2.2.1)]; exact h119
      have h124 : M120 a = some (.inl nW, [.ref bb, .int (nI (1)), .int (sg 0)]) := by rw [hM121]; exact jj_up_at _ _ _
      have kz : ∀ x, x ≠ mx → x ≠ a → x ≠ bb → M120 x = M9 x := fun x h1 h2 h3 => by rw [hM121, jj_up_ne _ _ h2, hM116, jj_up_ne _ _ h3, hM111, jj_up_ne _ _ h1]; exact hn.2.2.2.2.2 x h2 h3
      have us : ∀ x, M9 x ≠ none → x ≠ a ∧ x ≠ bb := fun x h => ⟨fun e => h (by rw [e]; exact hn.1), fun e => h (by rw [e]; exact hn.2.1)⟩
      have e1 : ∀ l, l < 256 → (adu (adu ad9 (2 * (b + 256)) a) (2 * (b + 256) + 1) bb) (2 * (b + l)) = ad9 (2 * (b + l)) := fun l hl => by rw [adu_ne _ (by omega), adu_ne _ (by omega)]
      have e2 : ∀ l, l < 256 → (adu (adu ad9 (2 * (b + 256)) a) (2 * (b + 256) + 1) bb) (2 * (b + l) + 1) = ad9 (2 * (b + l) + 1) := fun l hl => by rw [adu_ne _ (by omega), adu_ne _ (by omega)]
      have e3 : (adu (adu ad9 (2 * (b + 256)) a) (2 * (b + 256) + 1) bb) (2 * (b + 256)) = a := by rw [adu_ne _ (by omega), adu_at]
      have e4 : (adu (adu ad9 (2 * (b + 256)) a) (2 * (b + 256) + 1) bb) (2 * (b + 256) + 1) = bb := adu_at _ _ _
      have e5 : (adu (adu ad9 (2 * (b + 256)) a) (2 * (b + 256) + 1) bb) ka = ar := by rw [adu_ne _ (by omega), adu_ne _ (by omega)]; exact k9
      have g10 : ∀ k, k ≠ ka → k < 2 * b ∨ 2 * (b + 257) ≤ k → (adu (adu ad9 (2 * (b + 256)) a) (2 * (b + 256) + 1) bb) k = ad k := fun k h1 h2 => by
        obtain ⟨q1, q2, q3⟩ := key_off (m := 256) h2
        rw [adu_ne _ q1, adu_ne _ q2]
        exact g9 k h1 q3
      have Lz := (L9.whole (p := b + 256) hn).grow (M' := M120) (fun x hx => by
        by_cases c1 : x = mx
        · rw [c1, h122]; exact fun e => (by cases e)
        · by_cases c2 : x = a
          · rw [c2, h124]; exact fun e => (by cases e)
          · by_cases c3 : x = bb
            · rw [c3, h123]; exact fun e => (by cases e)
            · rw [kz x c1 c2 c3, ← hn.2.2.2.2.2 x c2 c3]; exact hx)
      have nl : ∀ l, l < 256 → (ad9 (2 * (b + l)) ≠ mx ∧ ad9 (2 * (b + l) + 1) ≠ mx) := fun l hl => by
        obtain ⟨Dl, cl, q1, q2, _⟩ := w9 l hl
        exact ⟨fun e => (by rw [e, hm9] at q1; cases q1), fun e => (by rw [e, hm9] at q2; cases q2)⟩
      exact jj_vret (pc := 83) kM_init_d83 rfl (k M120 (adu (adu ad9 (2 * (b + 256)) a) (2 * (b + 256) + 1) bb) _ _ (Lz.weak (fun k hk => by
                rcases hk with h | h | h
                · exact Or.inl (Or.inl (Or.inl h))
                · exact Or.inl (Or.inl (Or.inr (Or.inl h)))
                · by_cases c1 : k < 2 * (b + 256)
                  · exact Or.inl (Or.inl (Or.inr (Or.inr ⟨h.1, c1⟩)))
                  · by_cases c2 : k = 2 * (b + 256)
                    · exact Or.inl (Or.inr c2)
                    · exact Or.inr (by omega))) g10 (by
                refine ⟨?_, ?_⟩
                · (try dsimp only); rw [e3, e5]; exact h122
                · rw [e5, kz ar nar (Ne.symm na2) (Ne.symm nb2), ha9]
                  refine congrArg some (congrArg (Prod.mk _) (List.map_congr_left (fun l hl => ?_)))
                  have hl2 := List.mem_range.mp hl
                  (try dsimp only)
                  rw [if_pos hl2, e1 l hl2]) (fun l hl => by
                by_cases c1 : l = 256
                · rw [c1, if_pos rfl, e3, e4]
                  exact ⟨_, 1, h124, h123, by rw [List.length_set, List.length_replicate], one_LW hc1⟩
                · rw [if_neg c1, e1 l (by omega), e2 l (by omega)]
                  have u := (w9 l (by omega)).used
                  exact (w9 l (by omega)).same (kz _ (nl l (by omega)).1 (us _ u.1).1 (us _ u.1).2) (kz _ (nl l (by omega)).2 (us _ u.2).1 (us _ u.2).2)) (fun x h1 h2 => by
                have h3 := f9 x h1 h2
                have h4 := us x (by rw [h3]; exact h2)
                rw [kz x h1 h4.1 h4.2]; exact h3) (by omega) (by omega))
    | succ mu ih =>
      intro i hi6 M9 ad9 rc9 rs9 hm9 ha9 L9 g9 k9 w9 f9 c9 s9
      have hw : (3 + c) * (i + 1) ≤ (3 + c) * 256 := Nat.mul_le_mul_left _ (by omega)
      rw [Nat.mul_succ] at hw
      refine jj_iload_n (pc := 26) kM_init_d26 rfl ?_
      refine jn_sipush (pc := 27) 256 kM_init_d27 (by decide) ?_
      refine jn_icmp_ge (pc := 30) (tgt := 53) kM_init_d30 (by decide) (by omega) (by omega) (fun c => by exfalso; omega) (fun _ => ?_)
      refine jj_aload_n (pc := 33) kM_init_d33 rfl ?_
      refine jj_getf (pc := 34) kM_init_d34 (kfM_cells hG) hm9 rfl ?_
      refine jj_iload_n (pc := 37) kM_init_d37 rfl ?_
      refine jj_new (pc := 38) kM_init_d38 (knM_W hG) (by omega) (show 3 ≤ _ by omega) (fun a ha => ?_)
      refine jj_dup (pc := 41) kM_init_d41 rfl ?_
      refine jj_iload_n (pc := 42) kM_init_d42 rfl ?_
      refine jj_callI (pc := 43) (b := a) (As := [.int (nI (c))]) kM_init_d43 (kvM_W_init hG) rfl rfl rfl (Nat.le_of_ble_eq_true rfl) (Nat.le_of_ble_eq_true rfl) (jj_bare0 rfl) ?_
      refine w_init hG (jj_up_at _ _ _) (by omega) (by omega) (show _ ≤ _ - 3 by omega) (fun bb hbb => ?_)
      have hn := NWH.mk (c := c) ha hbb
      refine jn_gen (fun Mc eMc => ?_)
      rw [← eMc] at hn
      show jj G kM_init (d + 2) Q (rc9 - 1 - 1) (rs9 - 3 - c) 46 [some (.ref mx), some (.int (nI (c))), some (.int (nI (i)))] [.ref a, .int (nI (i)), .ref ar] Mc
      have ka1 := hn.kept (x := mx) (by rw [hm9]; exact fun e => (by cases e))
      have ka2 := hn.kept (x := ar) (by rw [ha9]; exact fun e => (by cases e))
      have hmc := ka1.trans hm9
      have hac := ka2.trans ha9
      have na2 : a ≠ ar := fun e => by have q := hn.1; rw [e, ha9] at q; cases q
      have nb2 : bb ≠ ar := fun e => by have q := hn.2.1; rw [e, ha9] at q; cases q
      refine jj_aast (pc := 46) (i := i) kM_init_d46 (kG_cl hG rfl) (kG_t hG rfl) hac hn.2.2.2.1 rfl (by rw [List.length_map, List.length_range]; decide) (by rw [List.length_map, List.length_range]; omega) ?_
      refine jn_gen (fun Md eMd => ?_)
      have kz : ∀ x, x ≠ ar → x ≠ a → x ≠ bb → Md x = M9 x := fun x h1 h2 h3 => by rw [eMd, jj_up_ne _ _ h1]; exact hn.2.2.2.2.2 x h2 h3
      have us : ∀ x, M9 x ≠ none → x ≠ a ∧ x ≠ bb := fun x h => ⟨fun e => h (by rw [e]; exact hn.1), fun e => h (by rw [e]; exact hn.2.1)⟩
      have e1 : ∀ l, l < i → (adu (adu ad9 (2 * (b + i)) a) (2 * (b + i) + 1) bb) (2 * (b + l)) = ad9 (2 * (b + l)) := fun l hl => by rw [adu_ne _ (by omega), adu_ne _ (by omega)]
      have e2 : ∀ l, l < i → (adu (adu ad9 (2 * (b + i)) a) (2 * (b + i) + 1) bb) (2 * (b + l) + 1) = ad9 (2 * (b + l) + 1) := fun l hl => by rw [adu_ne _ (by omega), adu_ne _ (by omega)]
      have e3 : (adu (adu ad9 (2 * (b + i)) a) (2 * (b + i) + 1) bb) (2 * (b + i)) = a := by rw [adu_ne _ (by omega), adu_at]
      have e4 : (adu (adu ad9 (2 * (b + i)) a) (2 * (b + i) + 1) bb) (2 * (b + i) + 1) = bb := adu_at _ _ _
      have hmd : Md mx = some (.inl nM, [.int (nI 1), .int (nI 1), .null, .ref ar]) := by rw [eMd, jj_up_ne _ _ (Ne.symm nar)]; exact hmc
      have had : Md ar = some (.inr 3, (List.range 256).map (fun l => if l < i + 1 then Value.ref ((adu (adu ad9 (2 * (b + i)) a) (2 * (b + i) + 1) bb) (2 * (b + l))) else .null)) := by
        rw [eMd, jj_up_at]
        refine congrArg some (congrArg (Prod.mk _) (range_set ?_ (fun y hy1 hy => ?_)))
        · (try dsimp only); rw [if_pos (by omega), e3]
        · (try dsimp only)
          by_cases c1 : y < i
          · rw [if_pos c1, if_pos (by omega), e1 y c1]
          · rw [if_neg c1, if_neg (by omega)]
      have Lz := (L9.whole (p := b + i) hn).grow (M' := Md) (fun x hx => by
        by_cases c1 : x = ar
        · rw [c1, had]; exact fun e => (by cases e)
        · rw [eMd, jj_up_ne _ _ c1]; exact hx)
      have nl : ∀ l, l < i → (ad9 (2 * (b + l)) ≠ ar ∧ ad9 (2 * (b + l) + 1) ≠ ar) := fun l hl => by
        obtain ⟨Dl, cl, q1, q2, _⟩ := w9 l hl
        exact ⟨fun e => (by rw [e, ha9] at q1; cases q1), fun e => (by rw [e, ha9] at q2; cases q2)⟩
      show jj G kM_init (d + 2) Q (rc9 - 1 - 1) (rs9 - 3 - c) 47 [some (.ref mx), some (.int (nI (c))), some (.int (nI (i)))] [] Md
      refine jn_iinc (pc := 47) (i + 1) kM_init_d47 rfl (nI_1 _) ?_
      refine jj_goto (pc := 50) (tgt := 26) kM_init_d50 (by decide) ?_
      show jj G kM_init (d + 2) Q (rc9 - 1 - 1) (rs9 - 3 - c) 26 [some (.ref mx), some (.int (nI (c))), some (.int (nI (i + 1)))] [] Md
      refine ih (i + 1) (by omega) Md (adu (adu ad9 (2 * (b + i)) a) (2 * (b + i) + 1) bb) _ _ hmd had (Lz.weak (fun k hk => ?_)) (fun k h1 h2 => by rw [adu_ne _ (by omega), adu_ne _ (by omega)]; exact g9 k h1 (by omega)) (by rw [adu_ne _ (by omega), adu_ne _ (by omega)]; exact k9) (fun l hl => ?_) (fun y h1 h2 => ?_) (by omega) (by rw [Nat.mul_succ]; omega)
      · rcases hk with h | h | h
        · exact Or.inl (Or.inl (Or.inl h))
        · exact Or.inl (Or.inl (Or.inr (Or.inl h)))
        · by_cases c1 : k < 2 * (b + i)
          · exact Or.inl (Or.inl (Or.inr (Or.inr ⟨h.1, c1⟩)))
          · by_cases c2 : k = 2 * (b + i)
            · exact Or.inl (Or.inr c2)
            · exact Or.inr (by omega)
      · by_cases c1 : l = i
        · rw [c1, e3, e4]
          refine hn.wh.same ?_ ?_
          · rw [eMd, jj_up_ne _ _ na2]
          · rw [eMd, jj_up_ne _ _ nb2]
        · rw [e1 l (by omega), e2 l (by omega)]
          have u := (w9 l (by omega)).used
          exact (w9 l (by omega)).same (kz _ (nl l (by omega)).1 (us _ u.1).1 (us _ u.1).2) (kz _ (nl l (by omega)).2 (us _ u.2).1 (us _ u.2).2)
      · have h3 := f9 y h1 h2
        have h4 := us y (by rw [h3]; exact h2)
        rw [kz y (fun e => h2 (by rw [e]; exact Mar)) h4.1 h4.2]; exact h3
  exact loop 256 0 (by omega) M107 (adu ad ka ar) _ _ h109 hab (Lb.weak (fun k hk => by rcases hk with h | h | h; exact Or.inl h; exact Or.inr h; omega)) (fun k h1 h2 => adu_ne _ h1) (adu_at _ _ _) (fun l hl => by omega) frb (by omega) (by omega)
end I2
