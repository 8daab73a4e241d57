/-! ===== ExactForms: the loops of the constructor (printed by wip/gen/rI8L.py) ===== -/
theorem rset32 {f f' : Nat → Int32} {n i : Nat} {v : Int32} (hv : f' i = v) (hf : ∀ x, x < n → x ≠ i → f' x = f x) : ((List.range n).map f).set i v = (List.range n).map f' := by
  apply List.ext_getElem?
  intro x
  by_cases hx : x < n
  · by_cases e : x = i
    · subst e
      rw [List.getElem?_set_self (by rw [List.length_map, List.length_range]; exact hx), List.getElem?_map, List.getElem?_range hx, ← hv]
      rfl
    · rw [List.getElem?_set_ne (Ne.symm e), List.getElem?_map, List.getElem?_map, List.getElem?_range hx]
      show some _ = some _
      rw [hf x hx e]
  · rw [List.getElem?_eq_none (by rw [List.length_set, List.length_map, List.length_range]; omega), List.getElem?_eq_none (by rw [List.length_map, List.length_range]; omega)]
section I8L
variable {G : jg} {d : Nat} {Q : jq} {rc rs : Nat} {M0 : mheap} {ob b1 b2 a3 a4 a5 a6 a7 a8 : Nat}
theorem x_loop2 {Mb : mheap} {adx : Nat → Nat} {rc9 rs9 : Nat} (hG : kG G) (mb2 : M0 b2 = none) (hba : Mb b1 = some (.inr 4, (List.range 8).map (fun l => if l < 8 then Value.ref (adx (6257 + l)) else .null))) (hbx : XPRE Mb adx) (hbm : (∀ k, k < 8 → MXT Mb (fun p => adx (2 * p)) (adx (6257 + k)) (adx (6266 + k)) (809 + 257 * k) 1 1)) (hbj : INI Mb adx (fun k => k < 1618 + 514 * 8 ∨ (5730 ≤ k ∧ k < 6257 + 8) ∨ (6265 ≤ k ∧ k < 6266 + 8) ∨ (6274 ≤ k ∧ k < 6279))) (hbk : adx 6244 = ob ∧ adx 6245 = b1 ∧ adx 6246 = b2 ∧ adx 6265 = a3 ∧ adx 6247 = a4 ∧ adx 6248 = a5 ∧ adx 6253 = a6 ∧ adx 6255 = a7 ∧ adx 6256 = a8) (hbf : ∀ x, x ≠ ob → M0 x ≠ none → Mb x = M0 x) (hbc : rc ≤ rc9 + 6278) (hbs : rs ≤ rs9 + 391833) (k : ∀ (M' : mheap) (ad' : Nat → Nat) (rc' rs' : Nat), INI M' ad' (fun k => k < 6279) → ad' 6244 = ob → M' ob = some (.inl nX, [.ref (ad' 6245), .ref (ad' 6246), .ref (ad' 6265), .ref (ad' 6247), .ref (ad' 6248), .ref (ad' 6253), .ref (ad' 6255), .ref (ad' 6256), .int (-1)]) → M' (ad' 6245) = some (.inr 4, (List.range 8).map (fun l => Value.ref (ad' (6257 + l)))) → M' (ad' 6246) = some (.inr 0, ((List.range 16).map nI).map .int) → XPRE M' ad' → (∀ k, k < 8 → MXT M' (fun p => ad' (2 * p)) (ad' (6257 + k)) (ad' (6266 + k)) (809 + 257 * k) 1 1) → (∀ x, x ≠ ob → M0 x ≠ none → M' x = M0 x) → rc ≤ rc' + 6278 → rs ≤ rs' + 391833 → Q (.returned none) M' rc' rs') : ∀ mu i, 16 = i + mu → ∀ (M9 : mheap), M9 ob = some (.inl nX, [.ref b1, .ref b2, .ref a3, .ref a4, .ref a5, .ref a6, .ref a7, .ref a8, .int (-1)]) → M9 b2 = some (.inr 0, ((List.range 16).map (fun l => if l < i then nI l else 0)).map .int) → (∀ x, x ≠ ob → x ≠ b2 → M9 x = Mb x) → jj G kX_init (d + 4) Q rc9 rs9 142 [some (.ref ob), some (.int (nI (i)))] [] M9 := by
  intro mu
  obtain ⟨k44, k6245, k6246, k6265, k6247, k6248, k6253, k6255, k6256⟩ := hbk
  have nb2 : b2 ≠ ob := fun e => by have := hbj.1.2 6246 6244 (by omega) (by omega) (by rw [k6246, k44]; exact e); omega
  induction mu with
  | zero =>
    intro i hi6 M9 hm9 hc9 g9
    have ei : i = 16 := by omega
    subst ei
    refine jj_iload_n (pc := 142) kX_init_d142 rfl ?_
    refine jn_bipush (pc := 143) 16 kX_init_d143 (by decide) ?_
    refine jn_icmp_ge (pc := 145) (tgt := 161) kX_init_d145 (by decide) (by omega) (by omega) (fun _ => ?_) (fun c => by exfalso; omega)
    have kk : ∀ k, k < 6279 → k ≠ 6244 → k ≠ 6246 → M9 (adx k) = Mb (adx k) := fun k h1 h2 h3 => by
      refine g9 _ (fun e => ?_) (fun e => ?_)
      · have := hbj.1.2 k 6244 (by omega) (by omega) (e.trans k44.symm)
        omega
      · have := hbj.1.2 k 6246 (by omega) (by omega) (e.trans k6246.symm)
        omega
    have hcf : ((List.range 16).map (fun l => if l < 16 then nI l else 0)) = (List.range 16).map nI := List.map_congr_left (fun l hl => if_pos (List.mem_range.mp hl))
    have Jz : INI M9 adx (fun k => k < 1618 + 514 * 8 ∨ (5730 ≤ k ∧ k < 6257 + 8) ∨ (6265 ≤ k ∧ k < 6266 + 8) ∨ (6274 ≤ k ∧ k < 6279)) := by
      refine ⟨hbj.1.grow (fun y hy => ?_), fun p hp h1 h2 => ?_⟩
      · by_cases c1 : y = ob
        · rw [c1, hm9]; exact (fun e => (by cases e))
        · by_cases c2 : y = b2
          · rw [c2, hc9]; exact (fun e => (by cases e))
          · rw [g9 y c1 c2]; exact hy
      · exact (hbj.2 p hp h1 h2).same (kk _ (by omega) (by omega) (by omega)) (kk _ (by omega) (by omega) (by omega))
    exact jj_vret (pc := 161) kX_init_d161 rfl (k M9 adx _ _ (Jz.weak (fun k hk => by omega)) k44 (by rw [k6245, k6246, k6265, k6247, k6248, k6253, k6255, k6256]; exact hm9) (by
            rw [kk 6245 (by omega) (by omega) (by omega), k6245, hba]
            refine congrArg some (congrArg (Prod.mk _) (List.map_congr_left (fun l hl => ?_)))
            rw [if_pos (List.mem_range.mp hl)]) (by rw [k6246, hc9, hcf]) (hbx.step (fun _ _ => rfl) (fun k hk => kk k (by omega) (by omega) (by omega))) (fun k hk => by
            refine ⟨(kk (6257 + k) (by omega) (by omega) (by omega)).trans (hbm k hk).1, (kk (6266 + k) (by omega) (by omega) (by omega)).trans (hbm k hk).2⟩) (fun y h1 h2 => by
            rw [g9 y h1 (fun e => h2 (by rw [e]; exact mb2))]; exact hbf y h1 h2) hbc hbs)
  | succ mu ih =>
    intro i hi6 M9 hm9 hc9 g9
    have hlc : ((List.range 16).map (fun l => if l < i then nI l else 0)).length = 16 := by rw [List.length_map, List.length_range]
    refine jj_iload_n (pc := 142) kX_init_d142 rfl ?_
    refine jn_bipush (pc := 143) 16 kX_init_d143 (by decide) ?_
    refine jn_icmp_ge (pc := 145) (tgt := 161) kX_init_d145 (by decide) (by omega) (by omega) (fun c => by exfalso; omega) (fun _ => ?_)
    refine jj_aload_n (pc := 148) kX_init_d148 rfl ?_
    refine jj_getf (pc := 149) kX_init_d149 (kfX_everyColumn hG) hm9 rfl ?_
    refine jj_iload_n (pc := 152) kX_init_d152 rfl ?_
    refine jj_iload_n (pc := 153) kX_init_d153 rfl ?_
    refine jn_iast (pc := 154) kX_init_d154 (kG_t hG rfl) hc9 (by rw [List.length_map, List.length_range]; omega) (by omega) ?_
    refine jn_gen (fun M101 hM102 => ?_)
    have h103 : M101 ob = some (.inl nX, [.ref b1, .ref b2, .ref a3, .ref a4, .ref a5, .ref a6, .ref a7, .ref a8, .int (-1)]) := by rw [hM102, jj_up_ne _ _ (fun e => by have q1 := hm9; rw [e, hc9] at q1; cases q1)]; exact hm9
    have h104 : M101 b2 = some (.inr 0, (((List.range 16).map (fun l => if l < i then nI l else 0)).set (i) ((nI (i)))).map .int) := by rw [hM102]; exact jj_up_at _ _ _
    refine jn_iinc (pc := 155) (i + 1) kX_init_d155 rfl (nI_1 _) ?_
    refine jj_goto (pc := 158) (tgt := 142) kX_init_d158 (by decide) ?_
    show jj G kX_init (d + 4) Q rc9 rs9 142 [some (.ref ob), some (.int (nI (i + 1)))] [] M101
    have hcz : M101 b2 = some (.inr 0, ((List.range 16).map (fun l => if l < (i + 1) then nI l else 0)).map .int) := by
      rw [h104]
      refine congrArg some (congrArg (Prod.mk _) (congrArg (List.map Value.int) (rset32 ?_ (fun y hy1 hy => ?_))))
      · (try dsimp only); rw [if_pos (by omega)]
      · (try dsimp only)
        by_cases c1 : y < i
        · rw [if_pos c1, if_pos (by omega)]
        · rw [if_neg c1, if_neg (by omega)]
    exact ih (i + 1) (by omega) M101 h103 hcz (fun y h1 h2 => by rw [hM102, jj_up_ne _ _ h2]; exact g9 y h1 h2)
theorem x_loop1 (hG : kG G) (mb1 : M0 b1 = none) (mb2 : M0 b2 = none) (hrc : 6278 ≤ rc) (hrs : 391833 ≤ rs) (k : ∀ (M' : mheap) (ad' : Nat → Nat) (rc' rs' : Nat), INI M' ad' (fun k => k < 6279) → ad' 6244 = ob → M' ob = some (.inl nX, [.ref (ad' 6245), .ref (ad' 6246), .ref (ad' 6265), .ref (ad' 6247), .ref (ad' 6248), .ref (ad' 6253), .ref (ad' 6255), .ref (ad' 6256), .int (-1)]) → M' (ad' 6245) = some (.inr 4, (List.range 8).map (fun l => Value.ref (ad' (6257 + l)))) → M' (ad' 6246) = some (.inr 0, ((List.range 16).map nI).map .int) → XPRE M' ad' → (∀ k, k < 8 → MXT M' (fun p => ad' (2 * p)) (ad' (6257 + k)) (ad' (6266 + k)) (809 + 257 * k) 1 1) → (∀ x, x ≠ ob → M0 x ≠ none → M' x = M0 x) → rc ≤ rc' + 6278 → rs ≤ rs' + 391833 → Q (.returned none) M' rc' rs') : ∀ mu i, 8 = i + mu → ∀ (M9 : mheap) (adx : Nat → Nat) (rc9 rs9 : Nat), M9 ob = some (.inl nX, [.ref b1, .ref b2, .ref a3, .ref a4, .ref a5, .ref a6, .ref a7, .ref a8, .int (-1)]) → M9 b1 = some (.inr 4, (List.range 8).map (fun l => if l < i then Value.ref (adx (6257 + l)) else .null)) → M9 b2 = some (.inr 0, (List.replicate 16 (0 : Int32)).map .int) → XPRE M9 adx → (∀ k, k < i → MXT M9 (fun p => adx (2 * p)) (adx (6257 + k)) (adx (6266 + k)) (809 + 257 * k) 1 1) → INI M9 adx (fun k => k < 1618 + 514 * i ∨ (5730 ≤ k ∧ k < 6257 + i) ∨ (6265 ≤ k ∧ k < 6266 + i) ∨ (6274 ≤ k ∧ k < 6279)) → (adx 6244 = ob ∧ adx 6245 = b1 ∧ adx 6246 = b2 ∧ adx 6265 = a3 ∧ adx 6247 = a4 ∧ adx 6248 = a5 ∧ adx 6253 = a6 ∧ adx 6255 = a7 ∧ adx 6256 = a8) → (∀ x, x ≠ ob → M0 x ≠ none → M9 x = M0 x) → rc ≤ rc9 + (2150 + 516 * i) → rs ≤ rs9 + (126585 + 33156 * i) → jj G kX_init (d + 4) Q rc9 rs9 113 [some (.ref ob), some (.int (nI (i)))] [] M9 := by
  intro mu
  induction mu with
  | zero =>
    intro i hi6 M9 adx rc9 rs9 hm9 ha9 hc9 x9 m9 L9 kq9 f9 c9 s9
    have ei : i = 8 := by omega
    subst ei
    refine jj_iload_n (pc := 113) kX_init_d113 rfl ?_
    refine jn_bipush (pc := 114) 8 kX_init_d114 (by decide) ?_
    refine jn_icmp_ge (pc := 116) (tgt := 140) kX_init_d116 (by decide) (by omega) (by omega) (fun _ => ?_) (fun c => by exfalso; omega)
    refine jn_iconst (pc := 140) 0 kX_init_d140 (by decide) ?_
    refine jj_istore_n (pc := 141) kX_init_d141 (Nat.le_of_ble_eq_true rfl) ?_
    show jj G kX_init (d + 4) Q rc9 rs9 142 [some (.ref ob), some (.int (nI (0)))] [] M9
    show jj G kX_init (d + 4) Q rc9 rs9 142 [some (.ref ob), some (.int (nI (0)))] [] M9
    exact x_loop2 hG mb2 ha9 x9 m9 L9 kq9 f9 (by omega) (by omega) k 16 0 (by omega) M9 hm9 (by
      rw [hc9]
      refine congrArg some (congrArg (Prod.mk _) (congrArg (List.map Value.int) ?_))
      apply List.ext_getElem?
      intro y
      rw [List.getElem?_replicate, List.getElem?_map]
      by_cases c1 : y < 16
      · rw [if_pos c1, List.getElem?_range c1]; rfl
      · rw [if_neg c1, List.getElem?_eq_none (by rw [List.length_range]; omega)]; rfl) (fun _ _ _ => rfl)
  | succ mu ih =>
    intro i hi6 M9 adx rc9 rs9 hm9 ha9 hc9 x9 m9 L9 kq9 f9 c9 s9
    obtain ⟨k44, k6245, k6246, k6265, k6247, k6248, k6253, k6255, k6256⟩ := kq9
    refine jj_iload_n (pc := 113) kX_init_d113 rfl ?_
    refine jn_bipush (pc := 114) 8 kX_init_d114 (by decide) ?_
    refine jn_icmp_ge (pc := 116) (tgt := 140) kX_init_d116 (by decide) (by omega) (by omega) (fun c => by exfalso; omega) (fun _ => ?_)
    refine jj_aload_n (pc := 119) kX_init_d119 rfl ?_
    refine jj_getf (pc := 120) kX_init_d120 (kfX_registers hG) hm9 rfl ?_
    refine jj_iload_n (pc := 123) kX_init_d123 rfl ?_
    have nb1 : b1 ≠ ob := fun e => by rw [e, hm9] at ha9; cases ha9
    have nbb : b1 ≠ b2 := fun e => by rw [e, hc9] at ha9; cases ha9
    refine jj_new (pc := 124) kX_init_d124 (knX_M hG) (by omega) (show 4 ≤ _ by omega) (fun a ha => ?_)
    refine jn_gen (fun Mp eMp => ?_)
    have na : a ≠ ob := fun e => by rw [e, hm9] at ha; cases ha
    have kp : ∀ x, M9 x ≠ none → Mp x = M9 x := fun x hx => by rw [eMp, jj_up_ne _ _ (fun e => hx (by rw [e]; exact ha))]
    have hp := (kp ob (by rw [hm9]; exact (fun e => (by cases e)))).trans hm9
    have hc : Mp a = some (.inl nM, [.int (nI 0), .int (nI 0), .null, .null]) := by rw [eMp]; exact jj_up_at _ _ _
    have Jp := L9.new (M' := Mp) (ko := 6257 + i) ha (by omega) (fun x hx => by rw [eMp, jj_up_ne _ _ hx]) (by rw [hc]; exact (fun e => (by cases e)))
    obtain ⟨dq, ed⟩ : ∃ f, adu adx (6257 + i) a = f := ⟨_, rfl⟩
    rw [ed] at Jp
    have y : dq (6257 + i) = a := by rw [← ed, adu_at]
    show jj G kX_init (d + 4) Q (rc9 - 1) (rs9 - 4) 127 [some (.ref ob), some (.int (nI (i)))] [.ref a, .int (nI (i)), .ref b1] Mp
    refine jj_dup (pc := 127) kX_init_d127 rfl ?_
    refine jn_bipush (pc := 128) 125 kX_init_d128 (by decide) ?_
    refine jj_callI (pc := 130) (b := a) (As := [.int (nI (125))]) kX_init_d130 (kvX_M_init hG) rfl rfl rfl (Nat.le_of_ble_eq_true rfl) (Nat.le_of_ble_eq_true rfl) (jj_bare0 rfl) ?_
    refine mx_make (b := 809 + 257 * i) (c := 125) (ka := 6266 + i) (by omega) (by omega) (by omega) (by omega) (fun l h6 => capx_reg (by omega) h6) hG (ko := 6257 + i) hc Jp y (Or.inr rfl) (by omega) (fun k hk => by rcases hk with h | h <;> omega) (by omega) (by omega) (fun Mn adn rcn rsn Jn gn cn crn fn rcl rsl => ?_)
    have us : ∀ q, M9 q ≠ none → Mn q = M9 q := fun q hq => (fn q (fun e => hq (by rw [e]; exact ha)) (by rw [kp q hq]; exact hq)).trans (kp q hq)
    have hq := (us ob (by rw [hm9]; exact (fun e => (by cases e)))).trans hm9
    have hqa := (us b1 (by rw [ha9]; exact (fun e => (by cases e)))).trans ha9
    have hqc := (us b2 (by rw [hc9]; exact (fun e => (by cases e)))).trans hc9
    have e0 : ∀ k,  k < 1618 + 514 * i ∨ (5730 ≤ k ∧ k < 6257 + i) ∨ (6265 ≤ k ∧ k < 6266 + i) ∨ (6274 ≤ k ∧ k < 6279) → adn k = adx k := fun k hk => by rw [gn k (Or.inl hk), ← ed, adu_ne _ (by omega)]
    have e3 : adn (6257 + i) = a := (gn _ (Or.inr rfl)).trans y
    show jj G kX_init (d + 4) Q rcn rsn 133 [some (.ref ob), some (.int (nI (i)))] [.ref a, .int (nI (i)), .ref b1] Mn
    refine jj_aast (pc := 133) (i := i) kX_init_d133 (kG_cl hG rfl) (kG_t hG rfl) hqa cn rfl (by rw [List.length_map, List.length_range]; decide) (by rw [List.length_map, List.length_range]; omega) ?_
    refine jn_gen (fun Md eMd => ?_)
    have kd : ∀ q, q ≠ b1 → Md q = Mn q := fun q h => by rw [eMd, jj_up_ne _ _ h]
    have hmd := (kd ob (Ne.symm nb1)).trans hq
    have hcd := (kd b2 (Ne.symm nbb)).trans hqc
    have had : Md b1 = some (.inr 4, (List.range 8).map (fun l => if l < (i + 1) then Value.ref (adn (6257 + l)) else .null)) := by
      rw [eMd, jj_up_at]
      refine congrArg some (congrArg (Prod.mk _) (range_set ?_ (fun y hy1 hy => ?_)))
      · (try dsimp only); rw [if_pos (by omega), e3]
      · (try dsimp only)
        by_cases c1 : y < i
        · rw [if_pos c1, if_pos (by omega), e0 _ (by omega)]
        · rw [if_neg c1, if_neg (by omega)]
    have q45 : adn 6245 = b1 := (e0 _ (by omega)).trans k6245
    have Jd := Jn.put (M' := Md) (ko := 6245) (by omega) (by omega) (fun q hq => by rw [eMd, jj_up_ne _ _ (by rw [← q45]; exact hq)]) (by rw [q45, had]; exact (fun e => (by cases e)))
    have ub : ∀ k,  k < 1618 + 514 * i ∨ (5730 ≤ k ∧ k < 6257 + i) ∨ (6265 ≤ k ∧ k < 6266 + i) ∨ (6274 ≤ k ∧ k < 6279) → k ≠ 6245 → Md (adx k) = M9 (adx k) := fun k hk hn => by
      rw [kd _ (fun e => hn (L9.1.2 k 6245 hk (by omega) (e.trans k6245.symm))), us _ (L9.1.1 k hk)]
    have nk : ∀ k, (6257 + i = k ∨ k = 6266 + i) → adn k ≠ b1 := fun k hk e => by
      have := Jn.1.2 k 6245 (by omega) (by omega) (e.trans q45.symm)
      omega
    show jj G kX_init (d + 4) Q rcn rsn 134 [some (.ref ob), some (.int (nI (i)))] [] Md
    refine jn_iinc (pc := 134) (i + 1) kX_init_d134 rfl (nI_1 _) ?_
    refine jj_goto (pc := 137) (tgt := 113) kX_init_d137 (by decide) ?_
    show jj G kX_init (d + 4) Q rcn rsn 113 [some (.ref ob), some (.int (nI (i + 1)))] [] Md
    refine ih (i + 1) (by omega) Md adn _ _ hmd had hcd (x9.step (fun k hk => e0 k (by omega)) (fun k hk => ub k (by omega) (by omega))) (fun k hk => ?_) (Jd.weak (fun k hk => by omega)) ⟨(e0 6244 (by omega)).trans k44, (e0 6245 (by omega)).trans k6245, (e0 6246 (by omega)).trans k6246, (e0 6265 (by omega)).trans k6265, (e0 6247 (by omega)).trans k6247, (e0 6248 (by omega)).trans k6248, (e0 6253 (by omega)).trans k6253, (e0 6255 (by omega)).trans k6255, (e0 6256 (by omega)).trans k6256⟩ (fun y h1 h2 => ?_) (by omega) (by omega)
    · by_cases c1 : k = i
      · subst c1
        refine ⟨?_, ?_⟩
        · rw [kd _ (nk _ (Or.inl rfl)), e3]; exact cn
        · rw [kd _ (nk _ (Or.inr rfl))]; exact crn
      · have m1 := m9 k (by omega)
        refine ⟨?_, ?_⟩
        · rw [e0 (6257 + k) (by omega), ub _ (by omega) (by omega), m1.1, e0 (6266 + k) (by omega)]
          (try dsimp only)
          rw [e0 (2 * (809 + 257 * k + 256)) (by omega)]
        · rw [e0 (6266 + k) (by omega), ub _ (by omega) (by omega), m1.2]
          refine congrArg some (congrArg (Prod.mk _) (List.map_congr_left (fun l hl => ?_)))
          have hl2 := List.mem_range.mp hl
          (try dsimp only)
          rw [e0 (2 * (809 + 257 * k + l)) (by omega)]
    · have h3 := f9 y h1 h2
      have h4 : y ≠ b1 := fun e => h2 (by rw [e]; exact mb1)
      exact ((kd y h4).trans (us y (by rw [h3]; exact h2))).trans h3
theorem x_init0 (hG : kG G) (hob : M0 ob = some (.inl nX, [.null, .null, .null, .null, .null, .null, .null, .null, .int (nI (0))])) (hrc : 6278 ≤ rc) (hrs : 391833 ≤ rs) (k : ∀ (M' : mheap) (ad' : Nat → Nat) (rc' rs' : Nat), INI M' ad' (fun k => k < 6279) → ad' 6244 = ob → M' ob = some (.inl nX, [.ref (ad' 6245), .ref (ad' 6246), .ref (ad' 6265), .ref (ad' 6247), .ref (ad' 6248), .ref (ad' 6253), .ref (ad' 6255), .ref (ad' 6256), .int (-1)]) → M' (ad' 6245) = some (.inr 4, (List.range 8).map (fun l => Value.ref (ad' (6257 + l)))) → M' (ad' 6246) = some (.inr 0, ((List.range 16).map nI).map .int) → XPRE M' ad' → (∀ k, k < 8 → MXT M' (fun p => ad' (2 * p)) (ad' (6257 + k)) (ad' (6266 + k)) (809 + 257 * k) 1 1) → (∀ x, x ≠ ob → M0 x ≠ none → M' x = M0 x) → rc ≤ rc' + 6278 → rs ≤ rs' + 391833 → Q (.returned none) M' rc' rs') : jj G kX_init (d + 4) Q rc rs 0 (jj_ent [.ref ob] 2) [] M0 := by
  show jj G kX_init (d + 4) Q rc rs 0 [some (.ref ob), none] [] M0
  refine jj_aload_n (pc := 0) kX_init_d0 rfl ?_
  refine jj_objInit (pc := 1) kX_init_d1 (koX_obj hG) (ko_inst hG) (ko_code hG) rfl (Nat.le_of_ble_eq_true rfl) ?_
  show jj G kX_init (d + 4) Q rc rs 4 [some (.ref ob), none] [] M0
  have h0 : XS0 M0 M0 ob (fun _ => ob) := ⟨⟨⟨fun k _ => by rw [hob]; exact fun e => (by cases e), fun k l h1 h2 _ => by omega⟩, fun p hp h1 _ => by exfalso; omega⟩, rfl, hob, fun _ _ _ => rfl⟩
  refine x_s1 hG h0 (by omega) (by omega) (fun M1 ad1 rc1 rs1 h1 c1 s1 => ?_)
  refine x_s2 hG h1 (by omega) (by omega) (fun M2 ad2 rc2 rs2 h2 c2 s2 => ?_)
  refine x_s3 hG h2 (by omega) (by omega) (fun M3 ad3 rc3 rs3 h3 c3 s3 => ?_)
  refine x_s4 hG h3 (by omega) (by omega) (fun M4 ad4 rc4 rs4 h4 c4 s4 => ?_)
  refine x_s5 hG h4 (by omega) (by omega) (fun M5 ad5 rc5 rs5 h5 c5 s5 => ?_)
  refine x_s6 hG h5 (by omega) (by omega) (fun M6 ad6 rc6 rs6 h6 c6 s6 => ?_)
  refine x_s7 hG h6 (by omega) (by omega) (fun M7 ad7 rc7 rs7 h7 c7 s7 => ?_)
  refine x_s8 hG h7 (by omega) (by omega) (fun M8 ad8 rc8 rs8 h8 c8 s8 => ?_)
  refine x_s9 hG h8 (by omega) (by omega) (fun M9 ad9 rc9 rs9 h9 c9 s9 => ?_)
  obtain ⟨J, eo, hb, fr, h6245, h6246, h6265, h6274, h6247, h6276, h6277, h6278, h6275, h6248, h6249, h6250, h6251, h6252, h6253, h6254, h6255, h6256, n6245, n6246⟩ := h9
  have hx : XPRE M9 ad9 := ⟨h6265, h6274, h6247, h6276, h6277, h6278, h6275, h6248, h6249, h6250, h6251, h6252, h6253, h6254, h6255, h6256⟩
  refine jn_iconst (pc := 111) 0 kX_init_d111 (by decide) ?_
  refine jj_istore_n (pc := 112) kX_init_d112 (Nat.le_of_ble_eq_true rfl) ?_
  show jj G kX_init (d + 4) Q rc9 rs9 113 [some (.ref ob), some (.int (nI (0)))] [] M9
  show jj G kX_init (d + 4) Q rc9 rs9 113 [some (.ref ob), some (.int (nI (0)))] [] M9
  refine x_loop1 (b1 := ad9 6245) (b2 := ad9 6246) (a3 := ad9 6265) (a4 := ad9 6247) (a5 := ad9 6248) (a6 := ad9 6253) (a7 := ad9 6255) (a8 := ad9 6256) hG n6245 n6246 hrc hrs k 8 0 (by omega) M9 ad9 rc9 rs9 hb ?_ h6246 hx (fun k hk => absurd hk (Nat.not_lt_zero k)) (J.weak (fun k hk => by omega)) ⟨eo, rfl, rfl, rfl, rfl, rfl, rfl, rfl, rfl⟩ fr (by omega) (by omega)
  rw [h6245, rep_range (f := fun l => if l < 0 then Value.ref (ad9 (6257 + l)) else .null) (fun l => if_neg (Nat.not_lt_zero l))]
end I8L
