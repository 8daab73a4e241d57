/-! ===== Fractions.reduce (printed by wip/gen/rf2.py) ===== -/
theorem divInt_pos {u l : Int} (h : 0 < l) : (Rat.divInt u l).num = u / (Int.gcd u l : Int) ∧ ((Rat.divInt u l).den : Int) = l / (Int.gcd u l : Int) := by
  rw [Rat.num_divInt, Rat.den_divInt, if_neg (by omega), Int.sign_eq_one_of_pos h, Int.one_mul, Int.gcd_comm l u]
  refine ⟨rfl, ?_⟩
  rw [Int.natCast_ediv]
  congr 1
  omega
theorem divInt_neg {u l : Int} (h : l < 0) : (Rat.divInt u l).num = -(u / (Int.gcd u l : Int)) ∧ ((Rat.divInt u l).den : Int) = -(l / (Int.gcd u l : Int)) := by
  rw [Rat.num_divInt, Rat.den_divInt, if_neg (by omega), Int.sign_eq_neg_one_of_neg h, Int.gcd_comm l u]
  constructor
  · rw [show -1 * u = -u by omega, Int.neg_ediv_of_dvd (Int.gcd_dvd_left u l)]
  · rw [Int.natCast_ediv, show ((l.natAbs : Nat) : Int) = -l by omega, Int.neg_ediv_of_dvd (Int.gcd_dvd_right u l)]
theorem ediv_neg_abs {u : Int} {g : Nat} (hu : u < 0) (hd : (g : Int) ∣ u) : -((u.natAbs : Int) / (g : Int)) = u / (g : Int) := by
  rw [show ((u.natAbs : Nat) : Int) = -u by omega, Int.neg_ediv_of_dvd hd]
  omega
theorem ediv_abs_le {u : Int} {g : Nat} (hg : 0 < g) (hd : (g : Int) ∣ u) : (u / (g : Int)).natAbs ≤ u.natAbs := by
  obtain ⟨k, hk⟩ := hd
  rw [hk, Int.mul_ediv_cancel_left k (by omega), Int.natAbs_mul]
  exact Nat.le_mul_of_pos_left _ (by omega)
theorem gcd_pos_r {u l : Int} (h : l ≠ 0) : 0 < Int.gcd u l := Int.gcd_pos_of_ne_zero_right u h
/-- at most a digits -/
def ZB (a : Nat) (z : Int) : Prop := z.natAbs < 32768 ^ a
theorem ZB.mul {a b : Nat} {x y : Int} (hx : ZB a x) (hy : ZB b y) : ZB (a + b) (x * y) := by
  unfold ZB at *
  rw [Int.natAbs_mul, Nat.pow_add]
  exact Nat.mul_lt_mul'' hx hy
theorem ZB.mono {a b : Nat} {x : Int} (hx : ZB a x) (h : a ≤ b) : ZB b x := Nat.lt_of_lt_of_le hx (Nat.pow_le_pow_right (by decide) h)
theorem ZB.add {a : Nat} {x y : Int} (hx : ZB a x) (hy : ZB a y) : ZB (a + 1) (x + y) := by
  unfold ZB at *
  rw [Nat.pow_succ]
  omega
theorem ZB.sub {a : Nat} {x y : Int} (hx : ZB a x) (hy : ZB a y) : ZB (a + 1) (x - y) := by
  unfold ZB at *
  rw [Nat.pow_succ]
  omega
theorem ZB.neg {a : Nat} {x : Int} (hx : ZB a x) : ZB a (-x) := by
  unfold ZB at *
  omega
section RF2
variable {G : jg} {d : Nat} {Q : jq} {rc rs : Nat} {M : mheap} {f w vv pv : Nat} {v2 : Value} {D V P : List Int32} {t : Nat} {up low rk : Int32}
/-- what holds behind a call that makes the fraction q, from mark on -/
def FRK (Q : jq) (M : mheap) (f w vv pv : Nat) (D V : List Int32) (t : Nat) (P : List Int32) (rk : Int32) (cm X Z mark E : Nat) (q : Rat) : Prop := ∀ M' D' T' p l v2' rc' rs', FC M' f w vv pv V t (nI p) (nI l) P rk → RS M' w D' T' v2' cm X Z rc' rs' → mark ≤ T' → T' ≤ E → (∀ i, i < mark → D'.getD i 0 = D.getD i 0) → FF M M' f → FQ D' T' p l q → (p = 0 ∨ mark ≤ p) → (l = 1 ∨ mark ≤ l) → Q (.returned none) M' rc' rs'
theorem rf_reduce {mark u l T a c cm X Z : Nat} {zu zl : Int} (hG : kG G) (hC : FC M f w vv pv V t up low P rk) (hS : RS M w D T v2 cm X Z rc rs) (hu : RI D T u zu) (hl : RI D T l zl) (hl0 : zl ≠ 0) (ha : ZB a zu) (hb : ZB a zl) (ha2 : a ≤ 9000) (hm : 3 ≤ mark) (hmT : mark ≤ T) (h1 : RI D mark 1 1) (hcn : ZB c (Rat.divInt zu zl).num) (hcd : ZB c ((Rat.divInt zu zl).den : Int)) (hT : T + 20000 + 20 * a + 200 ≤ cm)
    (K : FRK Q M f w vv pv D V t P rk cm X Z mark (mark + 2 * c + 2) (Rat.divInt zu zl)) : jj G kRF_reduce (d + 8) Q rc rs 0 (jj_ent [.ref f, .int (nI mark), .int (nI u), .int (nI l)] 10) [] M := by
  unfold ZB at ha hb hcn hcd
  have hz0 : D.getD 0 0 = 0 := hS.2.2.2.1
  have hg0 := gcd_pos_r (u := zu) hl0
  have hdu : (Int.gcd zu zl : Int) ∣ zu := Int.gcd_dvd_left zu zl
  have hdl : (Int.gcd zu zl : Int) ∣ zl := Int.gcd_dvd_right zu zl
  have hgl : Int.gcd zu zl < 32768 ^ a := by have := Nat.le_of_dvd (by omega) (Int.gcd_dvd_natAbs_right zu zl); omega
  have qu := ediv_abs_le hg0 hdu
  have ql := ediv_abs_le hg0 hdl
  have ql0 : zl / (Int.gcd zu zl : Int) ≠ 0 := fun e => hl0 (by have := Int.ediv_mul_cancel hdl; rw [e, Int.zero_mul] at this; exact this.symm)
  have qpos := fun h : 0 < zl => divInt_pos (u := zu) h
  have qneg := fun h : zl < 0 => divInt_neg (u := zu) h
  have nu := fun h : zu < 0 => ediv_neg_abs h hdu
  have nl := fun h : zl < 0 => ediv_neg_abs h hdl
  have hsg : 0 < zl → 0 < zl / (Int.gcd zu zl : Int) := fun h => by have := Int.ediv_nonneg (a := zl) (b := (Int.gcd zu zl : Int)) (by omega) (by omega); omega
  have hsn : zl < 0 → zl / (Int.gcd zu zl : Int) < 0 := fun h => by
    have e := nl h
    have := Int.ediv_nonneg (a := (zl.natAbs : Int)) (b := (Int.gcd zu zl : Int)) (by omega) (by omega)
    omega
  generalize hgg : Int.gcd zu zl = g at hg0 hdu hdl hgl qu ql ql0 qpos qneg nu nl hsg hsn
  generalize hqu : zu / (g : Int) = cu at qu qpos qneg nu
  generalize hql : zl / (g : Int) = cl at ql ql0 qpos qneg nl hsg hsn
  have k133 : ∀ (pa pb : Nat) (o4 o7 : Option Value) (M9 : mheap) (D9 : List Int32) (T9 : Nat) (v9 : Value) (rc9 rs9 : Nat), FC M9 f w vv pv V (t) (up) (low) P (rk) → RS M9 w D9 T9 v9 cm X Z rc9 rs9 → T ≤ T9 → T9 ≤ T + 10 * a + 60 → (∀ i, i < T → D9.getD i 0 = D.getD i 0) → FF M M9 f → RI D9 T9 pa (cu) → RI D9 T9 pb (cl) → jj G kRF_reduce (d + 8) Q rc9 rs9 133 [some (.ref f), some (.int (nI (mark))), some (.int (nI (u))), some (.int (nI (l))), (o4), some (.int (nI (pa))), some (.int (nI (pb))), (o7), none, none] [] M9 := by
    intro pa pb o4 o7 M9 D9 T9 v9 rc9 rs9 hC9 hS9 t9 u9 ho9 hF9 hN9x0 hN9x1
    obtain ⟨hW101, hB101, hTD101, hz101, hp101⟩ := id hS9
    obtain ⟨dd101, hw101, hd101⟩ := id hW101
    have hcap101 := hB101.cap
    have hsn9 := hN9x1.neg (by omega)
    have hlb := hN9x1.lt
    refine jj_aload_n (pc := 133) kRF_reduce_d133 rfl ?_
    refine jj_getf (pc := 134) kRF_reduce_d134 (kfRF_w hG) hC9.1 rfl ?_
    refine jj_iload (pc := 137) kRF_reduce_d137 rfl ?_
    refine jj_callV (pc := 139) (b := w) (As := [.int (nI (pb))]) kRF_reduce_d139 (kvRF_RW_sign hG) (kG_cl hG rfl) rfl hw101 rfl rfl rfl (Nat.le_of_ble_eq_true rfl) (Nat.le_of_ble_eq_true rfl) (jj_bare0 rfl) ?_
    refine rw_sign hG hw101 hd101 (by omega) (by omega) ?_
    show jj G kRF_reduce (d + 8) Q rc9 rs9 142 [some (.ref f), some (.int (nI (mark))), some (.int (nI (u))), some (.int (nI (l))), (o4), some (.int (nI (pa))), some (.int (nI (pb))), (o7), none, none] [.int (osg (D9.getD pb 0))] M9
    have hos := osg_val hN9x1 (by omega)
    refine jn_top (.int (cmpZ (cl) 0)) (by rw [hos]) ?_
    refine jj_if_ge (pc := 142) (tgt := 149) kRF_reduce_d142 (by decide) (fun c0 => ?_) (fun c0 => ?_)
    · skip
      have hzl : 0 < zl := by
        rcases Int.lt_or_gt_of_ne hl0 with h | h
        · exact absurd c0 (by unfold cmpZ; rw [if_neg ql0, if_neg (by have := hsn h; omega)]; decide)
        · exact h
      obtain ⟨e1, e2⟩ := qpos hzl
      have hcl := hsg hzl
      refine jn_iconst (pc := 149) 0 kRF_reduce_d149 (by decide) ?_
      refine jj_istore (pc := 150) kRF_reduce_d150 (Nat.le_of_ble_eq_true rfl) ?_
      refine jj_iload (pc := 152) kRF_reduce_d152 rfl ?_
      refine jn_if_eq (pc := 154) (tgt := 169) kRF_reduce_d154 (by decide) (by omega) (fun _ => ?_) (fun c => by exfalso; omega)
      refine jj_aload_n (pc := 169) kRF_reduce_d169 rfl ?_
      refine jj_getf (pc := 170) kRF_reduce_d170 (kfRF_w hG) hC9.1 rfl ?_
      refine jj_iload (pc := 173) kRF_reduce_d173 rfl ?_
      refine jj_callV (pc := 175) (b := w) (As := [.int (nI (pa))]) kRF_reduce_d175 (kvRF_RW_copy hG) (kG_cl hG rfl) rfl hw101 rfl rfl rfl (Nat.le_of_ble_eq_true rfl) (Nat.le_of_ble_eq_true rfl) (jj_bare0 rfl) ?_
      refine ri_copy (a := a) hG hS9 hN9x0 (by omega) (by omega) (fun M102 D102 T102 p102 rc102 rs102 hS102 t102 u102 ho102 hf102 hI102 => ?_)
      show jj G kRF_reduce (d + 8) Q rc102 rs102 178 [some (.ref f), some (.int (nI (mark))), some (.int (nI (u))), some (.int (nI (l))), (o4), some (.int (nI (pa))), some (.int (nI (pb))), some (.int (nI (0))), none, none] [.int (nI (p102))] M102
      have hC102 := hC9.rf hf102
      have hF102 := hF9.trans (FF.ofRF hC9 hf102)
      have hN9x0_102 := hN9x0.congr t102.1 ho102
      have hN9x1_102 := hN9x1.congr t102.1 ho102
      obtain ⟨hW103, hB103, hTD103, hz103, hp103⟩ := id hS102
      obtain ⟨dd103, hw103, hd103⟩ := id hW103
      have hcap103 := hB103.cap
      refine jj_istore (pc := 178) kRF_reduce_d178 (Nat.le_of_ble_eq_true rfl) ?_
      refine jj_iload (pc := 180) kRF_reduce_d180 rfl ?_
      refine jn_if_eq (pc := 182) (tgt := 197) kRF_reduce_d182 (by decide) (by omega) (fun _ => ?_) (fun c => by exfalso; omega)
      refine jj_aload_n (pc := 197) kRF_reduce_d197 rfl ?_
      refine jj_getf (pc := 198) kRF_reduce_d198 (kfRF_w hG) hC102.1 rfl ?_
      refine jj_iload (pc := 201) kRF_reduce_d201 rfl ?_
      refine jj_callV (pc := 203) (b := w) (As := [.int (nI (pb))]) kRF_reduce_d203 (kvRF_RW_copy hG) (kG_cl hG rfl) rfl hw103 rfl rfl rfl (Nat.le_of_ble_eq_true rfl) (Nat.le_of_ble_eq_true rfl) (jj_bare0 rfl) ?_
      refine ri_copy (a := a) hG hS102 hN9x1_102 (by omega) (by omega) (fun M104 D104 T104 p104 rc104 rs104 hS104 t104 u104 ho104 hf104 hI104 => ?_)
      show jj G kRF_reduce (d + 8) Q rc104 rs104 206 [some (.ref f), some (.int (nI (mark))), some (.int (nI (u))), some (.int (nI (l))), (o4), some (.int (nI (pa))), some (.int (nI (pb))), some (.int (nI (0))), some (.int (nI (p102))), none] [.int (nI (p104))] M104
      have hC104 := hC102.rf hf104
      have hF104 := hF102.trans (FF.ofRF hC102 hf104)
      have hN9x0_104 := hN9x0_102.congr t104.1 ho104
      have hN9x1_104 := hN9x1_102.congr t104.1 ho104
      have hI102_104 := hI102.congr t104.1 ho104
      obtain ⟨hW105, hB105, hTD105, hz105, hp105⟩ := id hS104
      obtain ⟨dd105, hw105, hd105⟩ := id hW105
      have hcap105 := hB105.cap
      refine jj_istore (pc := 206) kRF_reduce_d206 (Nat.le_of_ble_eq_true rfl) ?_
      refine jj_aload_n (pc := 208) kRF_reduce_d208 rfl ?_
      refine jj_iload_n (pc := 209) kRF_reduce_d209 rfl ?_
      refine jj_iload (pc := 210) kRF_reduce_d210 rfl ?_
      refine jj_iload (pc := 212) kRF_reduce_d212 rfl ?_
      have he0 : p104 ≠ 0 := fun e => by have := hI104; rw [e] at this; have := this.z0 hz105 (by omega); omega
      have hone9 : RI D9 mark 1 1 := h1.congr (Nat.le_refl _) (fun i hi => ho9 i (by omega))
      have hz9 : ∀ i, i < mark → D104.getD i 0 = D.getD i 0 := fun i hi => by rw [ho104 i (by omega), ho102 i (by omega), ho9 i (by omega)]
      refine jj_callV (pc := 214) (b := f) (As := [.int (nI (mark)), .int (nI (p102)), .int (nI (p104))]) kRF_reduce_d214 (kvRF_RF_settle hG) (kG_cl hG rfl) rfl hC104.1 rfl rfl rfl (Nat.le_of_ble_eq_true rfl) (Nat.le_of_ble_eq_true rfl) (jj_bare0 rfl) ?_
      refine rf_settle (a := c) (b := c) hG hC104 hS104 (hI102.congr (Nat.le_refl _) ho104) hI104 (by omega) (by omega) (by omega) (by omega) (by omega) (by omega) (by rw [← e1]; exact hcn) (by rw [← e2]; exact hcd) (fun M5 D5 T5 p5 l5 hC5 hS5 t5 u5 ho5 hF5 hI5 g1 g2 hl5 => ?_)
      show jj G kRF_reduce (d + 8) Q rc104 rs104 217 [some (.ref f), some (.int (nI (mark))), some (.int (nI (u))), some (.int (nI (l))), (o4), some (.int (nI (pa))), some (.int (nI (pb))), some (.int (nI (0))), some (.int (nI (p102))), some (.int (nI (p104)))] [] M5
      have hT5 : T5 < 2 ^ 31 := by have := hS5.2.1.cap; have := hS5.2.2.1; omega
      have hq : FQ D5 T5 p5 l5 (Rat.divInt zu zl) := by
        refine ⟨by rw [e1]; exact hI5, ?_, fun e => g1 (by rw [← e2, e]; rfl)⟩
        rw [e2]
        by_cases c9 : cl = 1
        · rw [c9, g1 c9]; exact h1.congr t5 (fun i hi => by rw [ho5 i hi, hz9 i hi])
        · exact (g2 c9).1
      have hl6 : l5 = 1 ∨ mark ≤ l5 := by
        by_cases c9 : cl = 1
        · exact Or.inl (g1 c9)
        · rcases (g2 c9).2 with h | h
          · have h9 := (g2 c9).1
            rw [h] at h9
            have := h9.z0 (by rw [ho5 0 (by omega), hz9 0 (by omega)]; exact hz0) (by omega)
            omega
          · exact Or.inr h
      exact jj_vret (pc := 217) kRF_reduce_d217 rfl (K _ D5 T5 p5 l5 _ _ _ hC5 hS5 t5 (by omega) (fun i hi => by rw [ho5 i hi, hz9 i hi]) (hF104.trans hF5) hq (by omega) hl6)
    · skip
      have hzl : zl < 0 := by
        rcases Int.lt_or_gt_of_ne hl0 with h | h
        · exact h
        · exact absurd (show (0 : Int32) ≤ cmpZ cl 0 by unfold cmpZ; rw [if_neg ql0, if_pos (by have := hsg h; omega)]; decide) c0
      obtain ⟨e1, e2⟩ := qneg hzl
      have hcl := hsn hzl
      refine jn_iconst (pc := 145) 1 kRF_reduce_d145 (by decide) ?_
      refine jj_goto (pc := 146) (tgt := 150) kRF_reduce_d146 (by decide) ?_
      refine jj_istore (pc := 150) kRF_reduce_d150 (Nat.le_of_ble_eq_true rfl) ?_
      refine jj_iload (pc := 152) kRF_reduce_d152 rfl ?_
      refine jn_if_eq (pc := 154) (tgt := 169) kRF_reduce_d154 (by decide) (by omega) (fun c => by exfalso; omega) (fun _ => ?_)
      refine jj_aload_n (pc := 157) kRF_reduce_d157 rfl ?_
      refine jj_getf (pc := 158) kRF_reduce_d158 (kfRF_w hG) hC9.1 rfl ?_
      refine jj_iload (pc := 161) kRF_reduce_d161 rfl ?_
      refine jj_callV (pc := 163) (b := w) (As := [.int (nI (pa))]) kRF_reduce_d163 (kvRF_RW_negative hG) (kG_cl hG rfl) rfl hw101 rfl rfl rfl (Nat.le_of_ble_eq_true rfl) (Nat.le_of_ble_eq_true rfl) (jj_bare0 rfl) ?_
      refine ri_negative (a := a) hG hS9 hN9x0 (by omega) (by omega) (fun M106 D106 T106 p106 rc106 rs106 hS106 t106 u106 ho106 hf106 hI106 => ?_)
      show jj G kRF_reduce (d + 8) Q rc106 rs106 166 [some (.ref f), some (.int (nI (mark))), some (.int (nI (u))), some (.int (nI (l))), (o4), some (.int (nI (pa))), some (.int (nI (pb))), some (.int (nI (1))), none, none] [.int (nI (p106))] M106
      have hC106 := hC9.rf hf106
      have hF106 := hF9.trans (FF.ofRF hC9 hf106)
      have hN9x0_106 := hN9x0.congr t106.1 ho106
      have hN9x1_106 := hN9x1.congr t106.1 ho106
      obtain ⟨hW107, hB107, hTD107, hz107, hp107⟩ := id hS106
      obtain ⟨dd107, hw107, hd107⟩ := id hW107
      have hcap107 := hB107.cap
      refine jj_goto (pc := 166) (tgt := 178) kRF_reduce_d166 (by decide) ?_
      refine jj_istore (pc := 178) kRF_reduce_d178 (Nat.le_of_ble_eq_true rfl) ?_
      refine jj_iload (pc := 180) kRF_reduce_d180 rfl ?_
      refine jn_if_eq (pc := 182) (tgt := 197) kRF_reduce_d182 (by decide) (by omega) (fun c => by exfalso; omega) (fun _ => ?_)
      refine jj_aload_n (pc := 185) kRF_reduce_d185 rfl ?_
      refine jj_getf (pc := 186) kRF_reduce_d186 (kfRF_w hG) hC106.1 rfl ?_
      refine jj_iload (pc := 189) kRF_reduce_d189 rfl ?_
      refine jj_callV (pc := 191) (b := w) (As := [.int (nI (pb))]) kRF_reduce_d191 (kvRF_RW_negative hG) (kG_cl hG rfl) rfl hw107 rfl rfl rfl (Nat.le_of_ble_eq_true rfl) (Nat.le_of_ble_eq_true rfl) (jj_bare0 rfl) ?_
      refine ri_negative (a := a) hG hS106 hN9x1_106 (by omega) (by omega) (fun M108 D108 T108 p108 rc108 rs108 hS108 t108 u108 ho108 hf108 hI108 => ?_)
      show jj G kRF_reduce (d + 8) Q rc108 rs108 194 [some (.ref f), some (.int (nI (mark))), some (.int (nI (u))), some (.int (nI (l))), (o4), some (.int (nI (pa))), some (.int (nI (pb))), some (.int (nI (1))), some (.int (nI (p106))), none] [.int (nI (p108))] M108
      have hC108 := hC106.rf hf108
      have hF108 := hF106.trans (FF.ofRF hC106 hf108)
      have hN9x0_108 := hN9x0_106.congr t108.1 ho108
      have hN9x1_108 := hN9x1_106.congr t108.1 ho108
      have hI106_108 := hI106.congr t108.1 ho108
      obtain ⟨hW109, hB109, hTD109, hz109, hp109⟩ := id hS108
      obtain ⟨dd109, hw109, hd109⟩ := id hW109
      have hcap109 := hB109.cap
      refine jj_goto (pc := 194) (tgt := 206) kRF_reduce_d194 (by decide) ?_
      refine jj_istore (pc := 206) kRF_reduce_d206 (Nat.le_of_ble_eq_true rfl) ?_
      refine jj_aload_n (pc := 208) kRF_reduce_d208 rfl ?_
      refine jj_iload_n (pc := 209) kRF_reduce_d209 rfl ?_
      refine jj_iload (pc := 210) kRF_reduce_d210 rfl ?_
      refine jj_iload (pc := 212) kRF_reduce_d212 rfl ?_
      have he0 : p108 ≠ 0 := fun e => by have := hI108; rw [e] at this; have := this.z0 hz109 (by omega); omega
      have hone9 : RI D9 mark 1 1 := h1.congr (Nat.le_refl _) (fun i hi => ho9 i (by omega))
      have hz9 : ∀ i, i < mark → D108.getD i 0 = D.getD i 0 := fun i hi => by rw [ho108 i (by omega), ho106 i (by omega), ho9 i (by omega)]
      refine jj_callV (pc := 214) (b := f) (As := [.int (nI (mark)), .int (nI (p106)), .int (nI (p108))]) kRF_reduce_d214 (kvRF_RF_settle hG) (kG_cl hG rfl) rfl hC108.1 rfl rfl rfl (Nat.le_of_ble_eq_true rfl) (Nat.le_of_ble_eq_true rfl) (jj_bare0 rfl) ?_
      refine rf_settle (a := c) (b := c) hG hC108 hS108 (hI106.congr (Nat.le_refl _) ho108) hI108 (by omega) (by omega) (by omega) (by omega) (by omega) (by omega) (by rw [← e1]; exact hcn) (by rw [← e2]; exact hcd) (fun M5 D5 T5 p5 l5 hC5 hS5 t5 u5 ho5 hF5 hI5 g1 g2 hl5 => ?_)
      show jj G kRF_reduce (d + 8) Q rc108 rs108 217 [some (.ref f), some (.int (nI (mark))), some (.int (nI (u))), some (.int (nI (l))), (o4), some (.int (nI (pa))), some (.int (nI (pb))), some (.int (nI (1))), some (.int (nI (p106))), some (.int (nI (p108)))] [] M5
      have hT5 : T5 < 2 ^ 31 := by have := hS5.2.1.cap; have := hS5.2.2.1; omega
      have hq : FQ D5 T5 p5 l5 (Rat.divInt zu zl) := by
        refine ⟨by rw [e1]; exact hI5, ?_, fun e => g1 (by rw [← e2, e]; rfl)⟩
        rw [e2]
        by_cases c9 : -cl = 1
        · rw [c9, g1 c9]; exact h1.congr t5 (fun i hi => by rw [ho5 i hi, hz9 i hi])
        · exact (g2 c9).1
      have hl6 : l5 = 1 ∨ mark ≤ l5 := by
        by_cases c9 : -cl = 1
        · exact Or.inl (g1 c9)
        · rcases (g2 c9).2 with h | h
          · have h9 := (g2 c9).1
            rw [h] at h9
            have := h9.z0 (by rw [ho5 0 (by omega), hz9 0 (by omega)]; exact hz0) (by omega)
            omega
          · exact Or.inr h
      exact jj_vret (pc := 217) kRF_reduce_d217 rfl (K _ D5 T5 p5 l5 _ _ _ hC5 hS5 t5 (by omega) (fun i hi => by rw [ho5 i hi, hz9 i hi]) (hF108.trans hF5) hq (by omega) hl6)
  have k77 : ∀ (pa pg : Nat) (M8 : mheap) (D8 : List Int32) (T8 : Nat) (v8 : Value) (rc8 rs8 : Nat), FC M8 f w vv pv V (t) (up) (low) P (rk) → RS M8 w D8 T8 v8 cm X Z rc8 rs8 → T ≤ T8 → T8 ≤ T + 5 * a + 20 → (∀ i, i < T → D8.getD i 0 = D.getD i 0) → FF M M8 f → RI D8 T8 pa (cu) → RI D8 T8 l (zl) → RI D8 T8 pg ((g : Int)) → jj G kRF_reduce (d + 8) Q rc8 rs8 77 [some (.ref f), some (.int (nI (mark))), some (.int (nI (u))), some (.int (nI (l))), some (.int (nI (pg))), some (.int (nI (u))), some (.int (nI (l))), none, none, none] [.int (nI (pa))] M8 := by
    intro pa pg M8 D8 T8 v8 rc8 rs8 hC8 hS8 t8 u8 ho8 hF8 hN8x0 hN8x1 hN8x2
    obtain ⟨hW110, hB110, hTD110, hz110, hp110⟩ := id hS8
    obtain ⟨dd110, hw110, hd110⟩ := id hW110
    have hcap110 := hB110.cap
    have hll := hN8x1.lt
    refine jj_istore (pc := 77) kRF_reduce_d77 (Nat.le_of_ble_eq_true rfl) ?_
    refine jj_iload (pc := 79) kRF_reduce_d79 rfl ?_
    refine jj_istore (pc := 81) kRF_reduce_d81 (Nat.le_of_ble_eq_true rfl) ?_
    refine jj_aload_n (pc := 83) kRF_reduce_d83 rfl ?_
    refine jj_getf (pc := 84) kRF_reduce_d84 (kfRF_w hG) hC8.1 rfl ?_
    refine jj_iload_n (pc := 87) kRF_reduce_d87 rfl ?_
    refine jj_callV (pc := 88) (b := w) (As := [.int (nI (l))]) kRF_reduce_d88 (kvRF_RW_sign hG) (kG_cl hG rfl) rfl hw110 rfl rfl rfl (Nat.le_of_ble_eq_true rfl) (Nat.le_of_ble_eq_true rfl) (jj_bare0 rfl) ?_
    refine rw_sign hG hw110 hd110 (by omega) (by omega) ?_
    show jj G kRF_reduce (d + 8) Q rc8 rs8 91 [some (.ref f), some (.int (nI (mark))), some (.int (nI (u))), some (.int (nI (l))), some (.int (nI (pg))), some (.int (nI (pa))), some (.int (nI (l))), some (.int (nI (pa))), none, none] [.int (osg (D8.getD l 0))] M8
    have hos := osg_val hN8x1 (by omega)
    refine jn_top (.int (cmpZ (zl) 0)) (by rw [hos]) ?_
    refine jj_if_ge (pc := 91) (tgt := 121) kRF_reduce_d91 (by decide) (fun c0 => ?_) (fun c0 => ?_)
    · skip
      refine jj_aload_n (pc := 121) kRF_reduce_d121 rfl ?_
      refine jj_getf (pc := 122) kRF_reduce_d122 (kfRF_w hG) hC8.1 rfl ?_
      refine jj_iload_n (pc := 125) kRF_reduce_d125 rfl ?_
      refine jj_iload (pc := 126) kRF_reduce_d126 rfl ?_
      refine jj_callV (pc := 128) (b := w) (As := [.int (nI (l)), .int (nI (pg))]) kRF_reduce_d128 (kvRF_RW_divide hG) (kG_cl hG rfl) rfl hw110 rfl rfl rfl (Nat.le_of_ble_eq_true rfl) (Nat.le_of_ble_eq_true rfl) (jj_bare0 rfl) ?_
      refine ri_divide (a := a) (b := a) hG hS8 hN8x1 hN8x2 (by omega) hb (by omega) (by omega) (fun M111 D111 T111 p111 s111 rc111 rs111 hS111 t111 u111 ho111 hf111 hI111 hJ111 => ?_)
      show jj G kRF_reduce (d + 8) Q rc111 rs111 131 [some (.ref f), some (.int (nI (mark))), some (.int (nI (u))), some (.int (nI (l))), some (.int (nI (pg))), some (.int (nI (pa))), some (.int (nI (l))), some (.int (nI (pa))), none, none] [.int (nI (p111))] M111
      have hC111 := hC8.rf hf111
      have hF111 := hF8.trans (FF.ofRF hC8 hf111)
      have hN8x0_111 := hN8x0.congr t111.1 ho111
      have hN8x1_111 := hN8x1.congr t111.1 ho111
      have hN8x2_111 := hN8x2.congr t111.1 ho111
      obtain ⟨hW112, hB112, hTD112, hz112, hp112⟩ := id hS111
      obtain ⟨dd112, hw112, hd112⟩ := id hW112
      have hcap112 := hB112.cap
      rw [hql] at hI111
      refine jj_istore (pc := 131) kRF_reduce_d131 (Nat.le_of_ble_eq_true rfl) ?_
      show jj G kRF_reduce (d + 8) Q rc111 rs111 133 [some (.ref f), some (.int (nI (mark))), some (.int (nI (u))), some (.int (nI (l))), some (.int (nI (pg))), some (.int (nI (pa))), some (.int (nI (p111))), some (.int (nI (pa))), none, none] [] M111
      exact k133 pa p111 _ _ M111 D111 (T111) _ rc111 rs111 hC111 hS111 (by omega) (by omega) (fun i hi => by rw [ho111 i (by omega), ho8 i (by omega)]) hF111 hN8x0_111 hI111
    · skip
      have hzl : zl < 0 := by
        rcases Int.lt_or_gt_of_ne hl0 with h | h
        · exact h
        · exact absurd (show (0 : Int32) ≤ cmpZ zl 0 by unfold cmpZ; rw [if_neg hl0, if_pos (by omega)]; decide) c0
      refine jj_aload_n (pc := 94) kRF_reduce_d94 rfl ?_
      refine jj_getf (pc := 95) kRF_reduce_d95 (kfRF_w hG) hC8.1 rfl ?_
      refine jj_aload_n (pc := 98) kRF_reduce_d98 rfl ?_
      refine jj_getf (pc := 99) kRF_reduce_d99 (kfRF_w hG) hC8.1 rfl ?_
      refine jj_aload_n (pc := 102) kRF_reduce_d102 rfl ?_
      refine jj_getf (pc := 103) kRF_reduce_d103 (kfRF_w hG) hC8.1 rfl ?_
      refine jj_iload_n (pc := 106) kRF_reduce_d106 rfl ?_
      refine jj_callV (pc := 107) (b := w) (As := [.int (nI (l))]) kRF_reduce_d107 (kvRF_RW_size hG) (kG_cl hG rfl) rfl hw110 rfl rfl rfl (Nat.le_of_ble_eq_true rfl) (Nat.le_of_ble_eq_true rfl) (jj_bare0 rfl) ?_
      refine ri_size (a := a) hG hS8 hN8x1 hb (by omega) (fun M113 D113 T113 p113 rc113 rs113 hS113 t113 u113 ho113 hf113 hI113 => ?_)
      show jj G kRF_reduce (d + 8) Q rc113 rs113 110 [some (.ref f), some (.int (nI (mark))), some (.int (nI (u))), some (.int (nI (l))), some (.int (nI (pg))), some (.int (nI (pa))), some (.int (nI (l))), some (.int (nI (pa))), none, none] [.int (nI (p113)), .ref w, .ref w] M113
      have hC113 := hC8.rf hf113
      have hF113 := hF8.trans (FF.ofRF hC8 hf113)
      have hN8x0_113 := hN8x0.congr t113 ho113
      have hN8x1_113 := hN8x1.congr t113 ho113
      have hN8x2_113 := hN8x2.congr t113 ho113
      obtain ⟨hW114, hB114, hTD114, hz114, hp114⟩ := id hS113
      obtain ⟨dd114, hw114, hd114⟩ := id hW114
      have hcap114 := hB114.cap
      refine jj_iload (pc := 110) kRF_reduce_d110 rfl ?_
      refine jj_callV (pc := 112) (b := w) (As := [.int (nI (p113)), .int (nI (pg))]) kRF_reduce_d112 (kvRF_RW_divide hG) (kG_cl hG rfl) rfl hw114 rfl rfl rfl (Nat.le_of_ble_eq_true rfl) (Nat.le_of_ble_eq_true rfl) (jj_bare0 rfl) ?_
      refine ri_divide (a := a) (b := a) hG hS113 hI113 hN8x2_113 (by omega) (by omega) (by omega) (by omega) (fun M115 D115 T115 p115 s115 rc115 rs115 hS115 t115 u115 ho115 hf115 hI115 hJ115 => ?_)
      show jj G kRF_reduce (d + 8) Q rc115 rs115 115 [some (.ref f), some (.int (nI (mark))), some (.int (nI (u))), some (.int (nI (l))), some (.int (nI (pg))), some (.int (nI (pa))), some (.int (nI (l))), some (.int (nI (pa))), none, none] [.int (nI (p115)), .ref w] M115
      have hC115 := hC113.rf hf115
      have hF115 := hF113.trans (FF.ofRF hC113 hf115)
      have hN8x0_115 := hN8x0_113.congr t115.1 ho115
      have hN8x1_115 := hN8x1_113.congr t115.1 ho115
      have hN8x2_115 := hN8x2_113.congr t115.1 ho115
      have hI113_115 := hI113.congr t115.1 ho115
      obtain ⟨hW116, hB116, hTD116, hz116, hp116⟩ := id hS115
      obtain ⟨dd116, hw116, hd116⟩ := id hW116
      have hcap116 := hB116.cap
      have hna : ((zl.natAbs : Int) / (g : Int)).natAbs < 32768 ^ a := by have := nl hzl; omega
      refine jj_callV (pc := 115) (b := w) (As := [.int (nI (p115))]) kRF_reduce_d115 (kvRF_RW_negative hG) (kG_cl hG rfl) rfl hw116 rfl rfl rfl (Nat.le_of_ble_eq_true rfl) (Nat.le_of_ble_eq_true rfl) (jj_bare0 rfl) ?_
      refine ri_negative (a := a) hG hS115 hI115 hna (by omega) (fun M117 D117 T117 p117 rc117 rs117 hS117 t117 u117 ho117 hf117 hI117 => ?_)
      show jj G kRF_reduce (d + 8) Q rc117 rs117 118 [some (.ref f), some (.int (nI (mark))), some (.int (nI (u))), some (.int (nI (l))), some (.int (nI (pg))), some (.int (nI (pa))), some (.int (nI (l))), some (.int (nI (pa))), none, none] [.int (nI (p117))] M117
      have hC117 := hC115.rf hf117
      have hF117 := hF115.trans (FF.ofRF hC115 hf117)
      have hN8x0_117 := hN8x0_115.congr t117.1 ho117
      have hN8x1_117 := hN8x1_115.congr t117.1 ho117
      have hN8x2_117 := hN8x2_115.congr t117.1 ho117
      have hI113_117 := hI113_115.congr t117.1 ho117
      have hI115_117 := hI115.congr t117.1 ho117
      have hJ115_117 := hJ115.congr t117.1 ho117
      obtain ⟨hW118, hB118, hTD118, hz118, hp118⟩ := id hS117
      obtain ⟨dd118, hw118, hd118⟩ := id hW118
      have hcap118 := hB118.cap
      rw [nl hzl] at hI117
      refine jj_goto (pc := 118) (tgt := 131) kRF_reduce_d118 (by decide) ?_
      refine jj_istore (pc := 131) kRF_reduce_d131 (Nat.le_of_ble_eq_true rfl) ?_
      show jj G kRF_reduce (d + 8) Q rc117 rs117 133 [some (.ref f), some (.int (nI (mark))), some (.int (nI (u))), some (.int (nI (l))), some (.int (nI (pg))), some (.int (nI (pa))), some (.int (nI (p117))), some (.int (nI (pa))), none, none] [] M117
      exact k133 pa p117 _ _ M117 D117 (T117) _ rc117 rs117 hC117 hS117 (by omega) (by omega) (fun i hi => by rw [ho117 i (by omega), ho115 i (by omega), ho113 i (by omega), ho8 i (by omega)]) hF117 hN8x0_117 hI117
  obtain ⟨hW119, hB119, hTD119, hz119, hp119⟩ := id hS
  obtain ⟨dd119, hw119, hd119⟩ := id hW119
  have hcap119 := hB119.cap
  show jj G kRF_reduce (d + 8) Q rc rs 0 [some (.ref f), some (.int (nI (mark))), some (.int (nI (u))), some (.int (nI (l))), none, none, none, none, none, none] [] M
  refine jj_aload_n (pc := 0) kRF_reduce_d0 rfl ?_
  refine jj_getf (pc := 1) kRF_reduce_d1 (kfRF_w hG) hC.1 rfl ?_
  refine jj_iload_n (pc := 4) kRF_reduce_d4 rfl ?_
  refine jj_iload_n (pc := 5) kRF_reduce_d5 rfl ?_
  refine jj_callV (pc := 6) (b := w) (As := [.int (nI (u)), .int (nI (l))]) kRF_reduce_d6 (kvRF_RW_common hG) (kG_cl hG rfl) rfl hw119 rfl rfl rfl (Nat.le_of_ble_eq_true rfl) (Nat.le_of_ble_eq_true rfl) (jj_bare0 rfl) ?_
  refine ri_common (a := a) hG hS hu hl ha hb ha2 (by omega) (fun M120 D120 T120 p120 v120 rc120 rs120 hS120 t120 u120 ho120 hf120 hI120 => ?_)
  show jj G kRF_reduce (d + 8) Q rc120 rs120 9 [some (.ref f), some (.int (nI (mark))), some (.int (nI (u))), some (.int (nI (l))), none, none, none, none, none, none] [.int (nI (p120))] M120
  have hC120 := hC.rf hf120
  have hF120 := (FF.refl M f).trans (FF.ofRF hC hf120)
  have hu_120 := hu.congr t120.1 ho120
  have hl_120 := hl.congr t120.1 ho120
  obtain ⟨hW121, hB121, hTD121, hz121, hp121⟩ := id hS120
  obtain ⟨dd121, hw121, hd121⟩ := id hW121
  have hcap121 := hB121.cap
  rw [hgg] at hI120
  refine jj_istore (pc := 9) kRF_reduce_d9 (Nat.le_of_ble_eq_true rfl) ?_
  refine jj_iload_n (pc := 11) kRF_reduce_d11 rfl ?_
  refine jj_istore (pc := 12) kRF_reduce_d12 (Nat.le_of_ble_eq_true rfl) ?_
  refine jj_iload_n (pc := 14) kRF_reduce_d14 rfl ?_
  refine jj_istore (pc := 15) kRF_reduce_d15 (Nat.le_of_ble_eq_true rfl) ?_
  refine jj_aload_n (pc := 17) kRF_reduce_d17 rfl ?_
  refine jj_getf (pc := 18) kRF_reduce_d18 (kfRF_w hG) hC120.1 rfl ?_
  refine jj_iload (pc := 21) kRF_reduce_d21 rfl ?_
  have hgp : 0 < p120 := by
    rcases Nat.eq_zero_or_pos p120 with e | e
    · have h := hI120; rw [e] at h; have := h.z0 hz121 (by omega); omega
    · exact e
  have hgq : p120 + 1 < T120 := by obtain ⟨r, q1, -⟩ := id hI120; omega
  have hone := hI120.one (show T120 < 2 ^ 31 by omega)
  refine jj_callV (pc := 23) (b := w) (As := [.int (nI (p120))]) kRF_reduce_d23 (kvRF_RW_isOne hG) (kG_cl hG rfl) rfl hw121 rfl rfl rfl (Nat.le_of_ble_eq_true rfl) (Nat.le_of_ble_eq_true rfl) (jj_bare0 rfl) ?_
  refine rs_isOne hG hW121 (by omega) (by omega) ?_
  show jj G kRF_reduce (d + 8) Q rc120 rs120 26 [some (.ref f), some (.int (nI (mark))), some (.int (nI (u))), some (.int (nI (l))), some (.int (nI (p120))), some (.int (nI (u))), some (.int (nI (l))), none, none, none] [.int (if D120.getD p120 0 = 1 ∧ D120.getD (p120 + 1) 0 = 1 then 1 else 0)] M120
  refine jn_ifb_ne (pc := 26) (tgt := 133) kRF_reduce_d26 (by decide) (fun c0 => ?_) (fun c0 => ?_)
  · skip
    have e1 := hone.mp c0
    have ea : zu = cu := by rw [← hqu, e1, Int.ediv_one]
    have eb : zl = cl := by rw [← hql, e1, Int.ediv_one]
    show jj G kRF_reduce (d + 8) Q rc120 rs120 133 [some (.ref f), some (.int (nI (mark))), some (.int (nI (u))), some (.int (nI (l))), some (.int (nI (p120))), some (.int (nI (u))), some (.int (nI (l))), none, none, none] [] M120
    exact k133 u l _ _ M120 D120 (T120) _ rc120 rs120 hC120 hS120 (by omega) (by omega) (fun i hi => by rw [ho120 i (by omega)]) hF120 (by rw [← ea]; exact hu_120) (by rw [← eb]; exact hl_120)
  · skip
    have hul := hu_120.lt
    refine jj_aload_n (pc := 29) kRF_reduce_d29 rfl ?_
    refine jj_getf (pc := 30) kRF_reduce_d30 (kfRF_w hG) hC120.1 rfl ?_
    refine jj_iload_n (pc := 33) kRF_reduce_d33 rfl ?_
    refine jj_callV (pc := 34) (b := w) (As := [.int (nI (u))]) kRF_reduce_d34 (kvRF_RW_sign hG) (kG_cl hG rfl) rfl hw121 rfl rfl rfl (Nat.le_of_ble_eq_true rfl) (Nat.le_of_ble_eq_true rfl) (jj_bare0 rfl) ?_
    refine rw_sign hG hw121 hd121 (by omega) (by omega) ?_
    show jj G kRF_reduce (d + 8) Q rc120 rs120 37 [some (.ref f), some (.int (nI (mark))), some (.int (nI (u))), some (.int (nI (l))), some (.int (nI (p120))), some (.int (nI (u))), some (.int (nI (l))), none, none, none] [.int (osg (D120.getD u 0))] M120
    have hos := osg_val hu_120 (by omega)
    refine jn_top (.int (cmpZ (zu) 0)) (by rw [hos]) ?_
    refine jj_if_ge (pc := 37) (tgt := 67) kRF_reduce_d37 (by decide) (fun c2 => ?_) (fun c2 => ?_)
    · skip
      refine jj_aload_n (pc := 67) kRF_reduce_d67 rfl ?_
      refine jj_getf (pc := 68) kRF_reduce_d68 (kfRF_w hG) hC120.1 rfl ?_
      refine jj_iload_n (pc := 71) kRF_reduce_d71 rfl ?_
      refine jj_iload (pc := 72) kRF_reduce_d72 rfl ?_
      refine jj_callV (pc := 74) (b := w) (As := [.int (nI (u)), .int (nI (p120))]) kRF_reduce_d74 (kvRF_RW_divide hG) (kG_cl hG rfl) rfl hw121 rfl rfl rfl (Nat.le_of_ble_eq_true rfl) (Nat.le_of_ble_eq_true rfl) (jj_bare0 rfl) ?_
      refine ri_divide (a := a) (b := a) hG hS120 hu_120 hI120 (by omega) ha (by omega) (by omega) (fun M122 D122 T122 p122 s122 rc122 rs122 hS122 t122 u122 ho122 hf122 hI122 hJ122 => ?_)
      show jj G kRF_reduce (d + 8) Q rc122 rs122 77 [some (.ref f), some (.int (nI (mark))), some (.int (nI (u))), some (.int (nI (l))), some (.int (nI (p120))), some (.int (nI (u))), some (.int (nI (l))), none, none, none] [.int (nI (p122))] M122
      have hC122 := hC120.rf hf122
      have hF122 := hF120.trans (FF.ofRF hC120 hf122)
      have hu_122 := hu_120.congr t122.1 ho122
      have hl_122 := hl_120.congr t122.1 ho122
      have hI120_122 := hI120.congr t122.1 ho122
      obtain ⟨hW123, hB123, hTD123, hz123, hp123⟩ := id hS122
      obtain ⟨dd123, hw123, hd123⟩ := id hW123
      have hcap123 := hB123.cap
      rw [hqu] at hI122
      show jj G kRF_reduce (d + 8) Q rc122 rs122 77 [some (.ref f), some (.int (nI (mark))), some (.int (nI (u))), some (.int (nI (l))), some (.int (nI (p120))), some (.int (nI (u))), some (.int (nI (l))), none, none, none] [.int (nI (p122))] M122
      exact k77 p122 p120 M122 D122 (T122) _ rc122 rs122 hC122 hS122 (by omega) (by omega) (fun i hi => by rw [ho122 i (by omega), ho120 i (by omega)]) hF122 hI122 hl_122 hI120_122
    · skip
      have hzu : zu < 0 := by
        rcases (show zu < 0 ∨ 0 ≤ zu by omega) with h | h
        · exact h
        · refine absurd ?_ c2
          unfold cmpZ
          by_cases e : zu = 0
          · rw [if_pos e]; decide
          · rw [if_neg e, if_pos h]; decide
      refine jj_aload_n (pc := 40) kRF_reduce_d40 rfl ?_
      refine jj_getf (pc := 41) kRF_reduce_d41 (kfRF_w hG) hC120.1 rfl ?_
      refine jj_aload_n (pc := 44) kRF_reduce_d44 rfl ?_
      refine jj_getf (pc := 45) kRF_reduce_d45 (kfRF_w hG) hC120.1 rfl ?_
      refine jj_aload_n (pc := 48) kRF_reduce_d48 rfl ?_
      refine jj_getf (pc := 49) kRF_reduce_d49 (kfRF_w hG) hC120.1 rfl ?_
      refine jj_iload_n (pc := 52) kRF_reduce_d52 rfl ?_
      refine jj_callV (pc := 53) (b := w) (As := [.int (nI (u))]) kRF_reduce_d53 (kvRF_RW_size hG) (kG_cl hG rfl) rfl hw121 rfl rfl rfl (Nat.le_of_ble_eq_true rfl) (Nat.le_of_ble_eq_true rfl) (jj_bare0 rfl) ?_
      refine ri_size (a := a) hG hS120 hu_120 ha (by omega) (fun M124 D124 T124 p124 rc124 rs124 hS124 t124 u124 ho124 hf124 hI124 => ?_)
      show jj G kRF_reduce (d + 8) Q rc124 rs124 56 [some (.ref f), some (.int (nI (mark))), some (.int (nI (u))), some (.int (nI (l))), some (.int (nI (p120))), some (.int (nI (u))), some (.int (nI (l))), none, none, none] [.int (nI (p124)), .ref w, .ref w] M124
      have hC124 := hC120.rf hf124
      have hF124 := hF120.trans (FF.ofRF hC120 hf124)
      have hu_124 := hu_120.congr t124 ho124
      have hl_124 := hl_120.congr t124 ho124
      have hI120_124 := hI120.congr t124 ho124
      obtain ⟨hW125, hB125, hTD125, hz125, hp125⟩ := id hS124
      obtain ⟨dd125, hw125, hd125⟩ := id hW125
      have hcap125 := hB125.cap
      refine jj_iload (pc := 56) kRF_reduce_d56 rfl ?_
      refine jj_callV (pc := 58) (b := w) (As := [.int (nI (p124)), .int (nI (p120))]) kRF_reduce_d58 (kvRF_RW_divide hG) (kG_cl hG rfl) rfl hw125 rfl rfl rfl (Nat.le_of_ble_eq_true rfl) (Nat.le_of_ble_eq_true rfl) (jj_bare0 rfl) ?_
      refine ri_divide (a := a) (b := a) hG hS124 hI124 hI120_124 (by omega) (by omega) (by omega) (by omega) (fun M126 D126 T126 p126 s126 rc126 rs126 hS126 t126 u126 ho126 hf126 hI126 hJ126 => ?_)
      show jj G kRF_reduce (d + 8) Q rc126 rs126 61 [some (.ref f), some (.int (nI (mark))), some (.int (nI (u))), some (.int (nI (l))), some (.int (nI (p120))), some (.int (nI (u))), some (.int (nI (l))), none, none, none] [.int (nI (p126)), .ref w] M126
      have hC126 := hC124.rf hf126
      have hF126 := hF124.trans (FF.ofRF hC124 hf126)
      have hu_126 := hu_124.congr t126.1 ho126
      have hl_126 := hl_124.congr t126.1 ho126
      have hI120_126 := hI120_124.congr t126.1 ho126
      have hI124_126 := hI124.congr t126.1 ho126
      obtain ⟨hW127, hB127, hTD127, hz127, hp127⟩ := id hS126
      obtain ⟨dd127, hw127, hd127⟩ := id hW127
      have hcap127 := hB127.cap
      have hna : ((zu.natAbs : Int) / (g : Int)).natAbs < 32768 ^ a := by have := nu hzu; omega
      refine jj_callV (pc := 61) (b := w) (As := [.int (nI (p126))]) kRF_reduce_d61 (kvRF_RW_negative hG) (kG_cl hG rfl) rfl hw127 rfl rfl rfl (Nat.le_of_ble_eq_true rfl) (Nat.le_of_ble_eq_true rfl) (jj_bare0 rfl) ?_
      refine ri_negative (a := a) hG hS126 hI126 hna (by omega) (fun M128 D128 T128 p128 rc128 rs128 hS128 t128 u128 ho128 hf128 hI128 => ?_)
      show jj G kRF_reduce (d + 8) Q rc128 rs128 64 [some (.ref f), some (.int (nI (mark))), some (.int (nI (u))), some (.int (nI (l))), some (.int (nI (p120))), some (.int (nI (u))), some (.int (nI (l))), none, none, none] [.int (nI (p128))] M128
      have hC128 := hC126.rf hf128
      have hF128 := hF126.trans (FF.ofRF hC126 hf128)
      have hu_128 := hu_126.congr t128.1 ho128
      have hl_128 := hl_126.congr t128.1 ho128
      have hI120_128 := hI120_126.congr t128.1 ho128
      have hI124_128 := hI124_126.congr t128.1 ho128
      have hI126_128 := hI126.congr t128.1 ho128
      have hJ126_128 := hJ126.congr t128.1 ho128
      obtain ⟨hW129, hB129, hTD129, hz129, hp129⟩ := id hS128
      obtain ⟨dd129, hw129, hd129⟩ := id hW129
      have hcap129 := hB129.cap
      rw [nu hzu] at hI128
      refine jj_goto (pc := 64) (tgt := 77) kRF_reduce_d64 (by decide) ?_
      show jj G kRF_reduce (d + 8) Q rc128 rs128 77 [some (.ref f), some (.int (nI (mark))), some (.int (nI (u))), some (.int (nI (l))), some (.int (nI (p120))), some (.int (nI (u))), some (.int (nI (l))), none, none, none] [.int (nI (p128))] M128
      exact k77 p128 p120 M128 D128 (T128) _ rc128 rs128 hC128 hS128 (by omega) (by omega) (fun i hi => by rw [ho128 i (by omega), ho126 i (by omega), ho124 i (by omega), ho120 i (by omega)]) hF128 hI128 hl_128 hI120_128
end RF2
