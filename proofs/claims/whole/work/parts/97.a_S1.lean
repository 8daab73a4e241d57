/-! ===== Residues: at, keep, turnOver, swapLines (printed by wip/gen/rS1.py) ===== -/
/-- the place of the cell of line i at place p -/
def rp (s : Nat → Nat) (ls ps i p : Nat) : Nat := s (i * ls + p * ps)
def STP (ls ps : Nat) : Prop := (ls = 16 ∧ ps = 1) ∨ (ls = 1 ∧ ps = 16)
theorem STP.lt {ls ps i p : Nat} (h : STP ls ps) (hi : i < 16) (hp : p < 16) : i * ls + p * ps < 256 := by
  rcases h with ⟨e1, e2⟩ | ⟨e1, e2⟩ <;> rw [e1, e2] <;> omega
theorem STP.inj {ls ps i p i' p' : Nat} (h : STP ls ps) (hi : i < 16) (hp : p < 16) (hi' : i' < 16) (hp' : p' < 16) (e : i * ls + p * ps = i' * ls + p' * ps) : i = i' ∧ p = p' := by
  rcases h with ⟨e1, e2⟩ | ⟨e1, e2⟩ <;> rw [e1, e2] at e <;> omega
theorem STP.turn {ls ps : Nat} (h : STP ls ps) : STP ps ls := by
  rcases h with ⟨e1, e2⟩ | ⟨e1, e2⟩
  · exact Or.inr ⟨e2, e1⟩
  · exact Or.inl ⟨e2, e1⟩
theorem RSP.b {s : Nat → Nat} {ls ps i p : Nat} (h : RSP s) (hs : STP ls ps) (hi : i < 16) (hp : p < 16) : 553 ≤ rp s ls ps i p ∧ rp s ls ps i p < 809 := h.1 _ (hs.lt hi hp)
theorem RSP.ne {s : Nat → Nat} {ls ps i p i' p' : Nat} (h : RSP s) (hs : STP ls ps) (hi : i < 16) (hp : p < 16) (hi' : i' < 16) (hp' : p' < 16) (hn : ¬ (i = i' ∧ p = p')) : rp s ls ps i p ≠ rp s ls ps i' p' := fun e => hn (hs.inj hi hp hi' hp' (h.2 _ _ (hs.lt hi hp) (hs.lt hi' hp') e))
theorem rpl_turn (s : Nat → Nat) (ls ps i p : Nat) : rp s ps ls i p = rp s ls ps p i := by unfold rp; rw [Nat.add_comm]
theorem RSP.swap {s : Nat → Nat} {a b : Nat} (h : RSP s) (ha : a < 256) (hb : b < 256) : RSP (fun n => if n = b then s a else if n = a then s b else s n) := by
  have form : ∀ n, ∃ m, (n < 256 → m < 256) ∧ (if n = b then s a else if n = a then s b else s n) = s m ∧ m = (if n = b then a else if n = a then b else n) := fun n => by
    by_cases c : n = b
    · exact ⟨a, fun _ => ha, by rw [if_pos c], by rw [if_pos c]⟩
    · by_cases c2 : n = a
      · exact ⟨b, fun _ => hb, by rw [if_neg c, if_pos c2], by rw [if_neg c, if_pos c2]⟩
      · exact ⟨n, fun h => h, by rw [if_neg c, if_neg c2], by rw [if_neg c, if_neg c2]⟩
  refine ⟨fun n hn => ?_, fun n n' hn hn' e => ?_⟩
  · obtain ⟨m, h1, h2, _⟩ := form n
    show 553 ≤ (if n = b then s a else if n = a then s b else s n) ∧ (if n = b then s a else if n = a then s b else s n) < 809
    rw [h2]; exact h.1 m (h1 hn)
  · obtain ⟨m, h1, h2, h3⟩ := form n
    obtain ⟨m', k1, k2, k3⟩ := form n'
    have e2 : s m = s m' := by rw [← h2, ← k2]; exact e
    have e3 := h.2 _ _ (h1 hn) (k1 hn') e2
    rw [h3, k3] at e3
    split at e3 <;> split at e3 <;> (try split at e3) <;> (try split at e3) <;> omega
/-- what never changes of the residues -/
def QJ (wa la cap : Nat → Nat) (N eu dv hi lo dk re rca : Nat) : Prop := 809 ≤ N ∧ cap 547 = 64 ∧ (∀ p, 548 ≤ p → p < 553 → cap p = 252) ∧ (∀ p, 553 ≤ p → p < 809 → cap p = 64) ∧ FAR wa la N eu dv hi lo re ∧ FAR wa la N eu dv hi lo rca ∧ re ≠ dk ∧ rca ≠ dk
theorem RST.ef {M M' : mheap} {wa la cap : Nat → Nat} {N eu dv hi lo dk re rca ln pl ls ps : Nat} {s : Nat → Nat} (h : RST M wa re rca dk ln pl ls ps s) (hJ : QJ wa la cap N eu dv hi lo dk re rca) (hf : EF M M' wa la N eu dv hi lo) : RST M' wa re rca dk ln pl ls ps s := ⟨(hf.far hJ.2.2.2.2.1).trans h.1, (hf.far hJ.2.2.2.2.2.1).trans h.2.1, h.2.2⟩
theorem RST.upo {M M' : mheap} {wa : Nat → Nat} {dk re rca ln pl ls ps ln' pl' ls' ps' : Nat} {s : Nat → Nat} (h : RST M wa re rca dk ln pl ls ps s) (hu : ∀ x, x ≠ re → M' x = M x) (h1 : M' re = some (.inl nS, [.int (nI ln'), .int (nI pl'), .int (nI ls'), .int (nI ps'), .ref rca, .ref (wa 547), .ref (wa 548), .ref (wa 549), .ref (wa 550), .ref (wa 551), .ref (wa 552), .ref dk])) : RST M' wa re rca dk ln' pl' ls' ps' s := ⟨h1, (hu _ (fun e => by have q := h.2.1; rw [e, h.1] at q; cases q)).trans h.2.1, h.2.2⟩
theorem RST.upc {M M' : mheap} {wa : Nat → Nat} {dk re rca ln pl ls ps : Nat} {s s' : Nat → Nat} (h : RST M wa re rca dk ln pl ls ps s) (hu : ∀ x, x ≠ rca → M' x = M x) (h1 : M' rca = some (.inr 3, (List.range 256).map (fun i => Value.ref (wa (s' i))))) (hs : RSP s') : RST M' wa re rca dk ln pl ls ps s' := ⟨(hu _ (fun e => by have q := h.1; rw [e, h.2.1] at q; cases q)).trans h.1, h1, hs⟩
section S1
variable {G : jg} {d : Nat} {Q : jq} {rc rs : Nat} {M : mheap} {wa la cap : Nat → Nat} {N eu dv hi lo dk re rca ln pl ls ps : Nat} {s : Nat → Nat} {V : Nat → Int}
theorem r_at {i p : Nat} (hG : kG G) (hR : RST M wa re rca dk ln pl ls ps s) (hs : STP ls ps) (hi16 : i < 16) (hp16 : p < 16) (k : Q (.returned (some (.ref (wa (rp s ls ps i p))))) M rc rs) : jj G kS_at d Q rc rs 0 (jj_ent [.ref re, .int (nI i), .int (nI p)] 3) [] M := by
  show jj G kS_at (d) Q rc rs 0 [some (.ref re), some (.int (nI (i))), some (.int (nI (p)))] [] M
  refine jj_aload_n (pc := 0) kS_at_d0 rfl ?_
  refine jj_getf (pc := 1) kS_at_d1 (kfS_cells hG) hR.1 rfl ?_
  refine jj_iload_n (pc := 4) kS_at_d4 rfl ?_
  refine jj_aload_n (pc := 5) kS_at_d5 rfl ?_
  refine jj_getf (pc := 6) kS_at_d6 (kfS_lineStep hG) hR.1 rfl ?_
  refine jn_imul (pc := 9) (i * ls) kS_at_d9 rfl ?_
  refine jj_iload_n (pc := 10) kS_at_d10 rfl ?_
  refine jj_aload_n (pc := 11) kS_at_d11 rfl ?_
  refine jj_getf (pc := 12) kS_at_d12 (kfS_placeStep hG) hR.1 rfl ?_
  refine jn_imul (pc := 15) (p * ps) kS_at_d15 rfl ?_
  refine jn_iadd (pc := 16) (i * ls + p * ps) kS_at_d16 (by omega) ?_
  refine jj_aald (pc := 17) (i := i * ls + p * ps) kS_at_d17 (kG_t hG rfl) hR.2.1 rfl (by rw [List.length_map, List.length_range]; decide) (by rw [List.getElem?_map, List.getElem?_range (hs.lt hi16 hp16)]; rfl) ?_
  show jj G kS_at (d) Q rc rs 18 [some (.ref re), some (.int (nI (i))), some (.int (nI (p)))] [.ref (wa (rp s ls ps i p))] M
  exact jj_aret (pc := 18) kS_at_d18 rfl (by first | exact Or.inl ⟨_, rfl⟩ | exact Or.inr ⟨_, rfl⟩) k
theorem emod_of {a m : Int} (hm : 0 < m) : a % m = if a.tmod m < 0 then a.tmod m + m else a.tmod m := by
  rcases (show 0 ≤ a ∨ a < 0 by omega) with h | h
  · rw [Int.tmod_eq_emod_of_nonneg h, if_neg (by have := Int.emod_nonneg a (show m ≠ 0 by omega); omega)]
  · have e : a.tmod m = -((-a) % m) := by
      rw [show a.tmod m = -((-a).tmod m) by rw [Int.neg_tmod, Int.neg_neg], Int.tmod_eq_emod_of_nonneg (by omega)]
    have h1 := Int.emod_nonneg (-a) (show m ≠ 0 by omega)
    have h2 := Int.emod_lt_of_pos (-a) hm
    rw [e]
    by_cases z : (-a) % m = 0
    · rw [z]
      have : m ∣ a := by
        have := Int.dvd_of_emod_eq_zero z
        exact (Int.dvd_neg.mp this)
      rw [Int.emod_eq_zero_of_dvd this]
      rfl
    · rw [if_pos (by omega)]
      have h5 := Int.mul_ediv_add_emod (-a) m
      have h6 : a = (-((-a) % m) + m) + m * (-((-a) / m) - 1) := by
        rw [Int.mul_sub, Int.mul_neg, Int.mul_one]
        omega
      have h7 : a % m = (-((-a) % m) + m) % m := by
        rw [h6, Int.add_mul_emod_self_left]
        rw [← h6]
      rw [h7]
      exact Int.emod_eq_of_lt (by omega) (by omega)
theorem r_keep {u t : Nat} (hG : kG G) (hK : KJI wa la cap N hi lo) (hS : KS M wa la cap N eu dv hi lo dk V) (hJ : QJ wa la cap N eu dv hi lo dk re rca) (hR : RST M wa re rca dk ln pl ls ps s) (hu7 : 7 ≤ u) (hu : u < N) (ht7 : 7 ≤ t) (ht : t < N) (h547 : t ≠ 547) (hct : 64 ≤ cap t) (hlu : lc (V u) ≤ 252) (hm : 0 < V 547) (hlm : lc (V 547) ≤ 63) (k : ∀ (M' : mheap) (V' : Nat → Int), KS M' wa la cap N eu dv hi lo dk V' → V' t = V u % V 547 → (∀ p, 7 ≤ p → p ≠ t → V' p = V p) → EF M M' wa la N eu dv hi lo → Q (.returned none) M' rc rs) : jj G kS_keep (d + 4) Q rc rs 0 (jj_ent [.ref re, .ref (wa u), .ref (wa t)] 3) [] M := by
  have h809 := hJ.1
  have hre := hR.1
  obtain ⟨hI, hN, hcap, hdi⟩ := id hK
  obtain ⟨hc0, ⟨r_a, px_a, pf_a, py_a, po_a, ps_a, od_a, hU0⟩, hdk0⟩ := id hS
  have hf0 : EF M M wa la N eu dv hi lo := fun _ _ _ _ _ _ => rfl
  obtain ⟨V0, hV0⟩ : ∃ V0, V = V0 := ⟨_, rfl⟩
  rw [hV0] at hc0
  have hn0 := hU0.1
  have b_r0 := hn0.2.1
  have b_x0 := hn0.2.2.1
  have b_f0 := hn0.2.2.2.1
  have hdv0 := hU0.2.1
  obtain ⟨ea0, eb0, ec0, ed0, hE0⟩ := hU0.2.2.2
  have hD0 := hdv0.1
  rw [hV0] at hlu hm hlm k
  show jj G kS_keep (d + 4) Q rc rs 0 [some (.ref re), some (.ref (wa u)), some (.ref (wa t))] [] M
  refine jj_aload_n (pc := 0) kS_keep_d0 rfl ?_
  refine jj_getf (pc := 1) kS_keep_d1 (kfS_desk hG) hre rfl ?_
  refine jj_getf (pc := 4) kS_keep_d4 (kfS_K_divider hG) hdk0 rfl ?_
  refine jj_aload_n (pc := 7) kS_keep_d7 rfl ?_
  refine jj_aload_n (pc := 8) kS_keep_d8 rfl ?_
  refine jj_getf (pc := 9) kS_keep_d9 (kfS_modulus hG) hre rfl ?_
  refine jj_callV (pc := 12) (b := dv) (As := [.ref (wa u), .ref (wa 547)]) kS_keep_d12 (kvS_D_divide hG) (kG_cl hG rfl) rfl hD0 rfl rfl rfl (Nat.le_of_ble_eq_true rfl) (Nat.le_of_ble_eq_true rfl) (jj_bare0 rfl) ?_
  refine d_divide hG hI hc0 hdv0 hdi (by omega) (by omega) hu (by omega) hn0.nqr (by omega) (by omega) (by omega) (by omega) hlu (by rw [hcap 0 (by omega)]; exact hlu) (by rw [hcap r_a (by omega)]; exact hlu) (fun M1 hcx1 hdx1 hw1 => ?_)
  obtain ⟨V1, hV1⟩ : ∃ W, vup (vup V0 0 ((V0 u).tdiv (V0 547))) r_a ((V0 u).tmod (V0 547)) = W := ⟨_, rfl⟩
  have hc1 : CW M1 wa la cap N V1 := by rw [← hV1]; exact hcx1
  have at1 : V1 0 = (V0 u).tdiv (V0 547) := by rw [← hV1, vup_ne _ _ hn0.nqr, vup_at]
  have rt1 : V1 r_a = (V0 u).tmod (V0 547) := by rw [← hV1, vup_at]
  have ot1 : ∀ p, p ≠ 0 → p ≠ r_a → V1 p = V0 p := fun p h1 h2 => by rw [← hV1, vup_ne _ _ h2, vup_ne _ _ h1]
  have hU1 := hU0.div hc0 hdx1 hw1
  have hf1 := hf0.trans (hw1.ef (eu := eu) (dv := dv))
  have q1_re := (hw1.ef (eu := eu) (dv := dv)).obj hc0 hU0 hre (by decide) (by decide) (by decide)
  have q1_dk := (hw1.ef (eu := eu) (dv := dv)).obj hc0 hU0 hdk0 (by decide) (by decide) (by decide)
  have hn1 := hU1.1
  have b_r1 := hn1.2.1
  have b_x1 := hn1.2.2.1
  have b_f1 := hn1.2.2.2.1
  have hdv1 := hU1.2.1
  obtain ⟨ea1, eb1, ec1, ed1, hE1⟩ := hU1.2.2.2
  have hD1 := hdv1.1
  show jj G kS_keep (d + 4) Q rc rs 15 [some (.ref re), some (.ref (wa u)), some (.ref (wa t))] [] M1
  have e5 : V1 547 = V0 547 := ot1 547 (by omega) (by omega)
  have hem := emod_of (a := V0 u) hm
  have hrl : (V1 r_a).natAbs < (V0 547).natAbs := by
    rw [rt1, Int.natAbs_tmod]
    exact Nat.mod_lt _ (by omega)
  have lr : lc (V1 r_a) ≤ 63 := Nat.le_trans (lc_mono (by omega)) hlm
  obtain ⟨Tr_a_1, tr_a_1, hTr_a_1, _, _⟩ := hc1 r_a (by omega)
  refine jj_aload_n (pc := 15) kS_keep_d15 rfl ?_
  refine jj_getf (pc := 16) kS_keep_d16 (kfS_desk hG) q1_re rfl ?_
  refine jj_getf (pc := 19) kS_keep_d19 (kfS_K_divider hG) q1_dk rfl ?_
  refine jj_getf (pc := 22) kS_keep_d22 (kfS_D_remainder hG) hD1 rfl ?_
  refine jj_getf (pc := 25) kS_keep_d25 (kfS_W_below hG) hTr_a_1 rfl ?_
  refine jj_if_eq (pc := 28) (tgt := 53) kS_keep_d28 (by decide) (fun c0 => ?_) (fun c0 => ?_)
  · skip
    have c1 := sg_eq0.mp c0
    obtain ⟨Tt_1, tt_1, hTt_1, _, _⟩ := hc1 t (by omega)
    refine jj_aload_n (pc := 53) kS_keep_d53 rfl ?_
    refine jj_aload_n (pc := 54) kS_keep_d54 rfl ?_
    refine jj_getf (pc := 55) kS_keep_d55 (kfS_desk hG) q1_re rfl ?_
    refine jj_getf (pc := 58) kS_keep_d58 (kfS_K_divider hG) q1_dk rfl ?_
    refine jj_getf (pc := 61) kS_keep_d61 (kfS_D_remainder hG) hD1 rfl ?_
    refine jj_callV (pc := 64) (b := (wa t)) (As := [.ref (wa r_a)]) kS_keep_d64 (kvS_W_copy hG) (kG_cl hG rfl) rfl hTt_1 rfl rfl rfl (Nat.le_of_ble_eq_true rfl) (Nat.le_of_ble_eq_true rfl) (jj_bare0 rfl) ?_
    refine w_copy hG hI hc1 ht (by omega) (lc_room (by omega)) (fun M2 hcx2 hw2  => ?_) 
    obtain ⟨V2, hV2⟩ : ∃ W, vup V1 t (V1 r_a) = W := ⟨_, rfl⟩
    have hc2 : CW M2 wa la cap N V2 := by rw [← hV2]; exact hcx2
    have at2 : V2 t = V1 r_a := by rw [← hV2, vup_at]
    have ot2 : ∀ p, p ≠ t → V2 p = V1 p := fun p hp => by rw [← hV2, vup_ne _ _ hp]
    have hU2 := hU1.wt hc1 hdi ht hw2
    have hf2 := hf1.trans (hw2.ef ht)
    have q2_re := (hw2.ef (eu := eu) (dv := dv) (hi := hi) (lo := lo) ht).obj hc1 hU1 q1_re (by decide) (by decide) (by decide)
    have q2_dk := (hw2.ef (eu := eu) (dv := dv) (hi := hi) (lo := lo) ht).obj hc1 hU1 q1_dk (by decide) (by decide) (by decide)
    have hn2 := hU2.1
    have b_r2 := hn2.2.1
    have b_x2 := hn2.2.2.1
    have b_f2 := hn2.2.2.2.1
    have hdv2 := hU2.2.1
    obtain ⟨ea2, eb2, ec2, ed2, hE2⟩ := hU2.2.2.2
    have hD2 := hdv2.1
    show jj G kS_keep (d + 4) Q rc rs 67 [some (.ref re), some (.ref (wa u)), some (.ref (wa t))] [] M2
    exact jj_vret (pc := 67) kS_keep_d67 rfl (k M2 V2 ⟨hc2, ⟨r_a, px_a, pf_a, py_a, po_a, ps_a, od_a, hU2⟩, q2_dk⟩ (by rw [at2, hem, if_neg (by rw [← rt1]; omega), rt1]) (fun p p1 p2 => by rw [ot2 p p2, ot1 p (by omega) (by omega)]) hf2)
  · skip
    have hneg : V1 r_a < 0 := by
      rcases (show V1 r_a < 0 ∨ 0 ≤ V1 r_a by omega) with e | e
      · exact e
      · exact absurd (sg_eq0.mpr e) c0
    obtain ⟨Tt_1, tt_1, hTt_1, _, _⟩ := hc1 t (by omega)
    refine jj_aload_n (pc := 31) kS_keep_d31 rfl ?_
    refine jj_aload_n (pc := 32) kS_keep_d32 rfl ?_
    refine jj_getf (pc := 33) kS_keep_d33 (kfS_desk hG) q1_re rfl ?_
    refine jj_getf (pc := 36) kS_keep_d36 (kfS_K_divider hG) q1_dk rfl ?_
    refine jj_getf (pc := 39) kS_keep_d39 (kfS_D_remainder hG) hD1 rfl ?_
    refine jj_aload_n (pc := 42) kS_keep_d42 rfl ?_
    refine jj_getf (pc := 43) kS_keep_d43 (kfS_modulus hG) q1_re rfl ?_
    refine jn_iconst (pc := 46) 0 kS_keep_d46 (by decide) ?_
    refine jn_top (.int (sg 0)) (congrArg Value.int (by decide)) ?_
    refine jj_callV (pc := 47) (b := (wa t)) (As := [.ref (wa r_a), .ref (wa 547), .int (sg 0)]) kS_keep_d47 (kvS_W_sum hG) (kG_cl hG rfl) rfl hTt_1 rfl rfl rfl (Nat.le_of_ble_eq_true rfl) (Nat.le_of_ble_eq_true rfl) (jj_bare0 rfl) ?_
    refine w_sum hG hI hc1 (u := r_a) (v := 547) (ls := 0) ht (by omega) (by omega) (by omega) (by rw [e5]; omega) (by rw [if_neg (by decide)]) (fun M2 hcx2 hw2  => ?_) 
    obtain ⟨V2, hV2⟩ : ∃ W, vup V1 t (V1 r_a + V1 547) = W := ⟨_, rfl⟩
    have hc2 : CW M2 wa la cap N V2 := by rw [← hV2]; exact hcx2
    have at2 : V2 t = V1 r_a + V1 547 := by rw [← hV2, vup_at]
    have ot2 : ∀ p, p ≠ t → V2 p = V1 p := fun p hp => by rw [← hV2, vup_ne _ _ hp]
    have hU2 := hU1.wt hc1 hdi ht hw2
    have hf2 := hf1.trans (hw2.ef ht)
    have q2_re := (hw2.ef (eu := eu) (dv := dv) (hi := hi) (lo := lo) ht).obj hc1 hU1 q1_re (by decide) (by decide) (by decide)
    have q2_dk := (hw2.ef (eu := eu) (dv := dv) (hi := hi) (lo := lo) ht).obj hc1 hU1 q1_dk (by decide) (by decide) (by decide)
    have hn2 := hU2.1
    have b_r2 := hn2.2.1
    have b_x2 := hn2.2.2.1
    have b_f2 := hn2.2.2.2.1
    have hdv2 := hU2.2.1
    obtain ⟨ea2, eb2, ec2, ed2, hE2⟩ := hU2.2.2.2
    have hD2 := hdv2.1
    show jj G kS_keep (d + 4) Q rc rs 50 [some (.ref re), some (.ref (wa u)), some (.ref (wa t))] [] M2
    refine jj_goto (pc := 50) (tgt := 67) kS_keep_d50 (by decide) ?_
    exact jj_vret (pc := 67) kS_keep_d67 rfl (k M2 V2 ⟨hc2, ⟨r_a, px_a, pf_a, py_a, po_a, ps_a, od_a, hU2⟩, q2_dk⟩ (by rw [at2, e5, hem, if_pos (by rw [← rt1]; exact hneg), rt1]) (fun p p1 p2 => by rw [ot2 p p2, ot1 p (by omega) (by omega)]) hf2)
theorem r_turnOver (hG : kG G) (hK : KJI wa la cap N hi lo) (hS : KS M wa la cap N eu dv hi lo dk V) (hJ : QJ wa la cap N eu dv hi lo dk re rca) (hR : RST M wa re rca dk ln pl ls ps s) (k : ∀ M', KS M' wa la cap N eu dv hi lo dk V → RST M' wa re rca dk pl ln ps ls s → EFX (fun x => x = re ∨ x = rca) M M' wa la N eu dv hi lo → Q (.returned none) M' rc rs) : jj G kS_turnOver d Q rc rs 0 (jj_ent [.ref re] 3) [] M := by
  have hre := hR.1
  show jj G kS_turnOver (d) Q rc rs 0 [some (.ref re), none, none] [] M
  refine jj_aload_n (pc := 0) kS_turnOver_d0 rfl ?_
  refine jj_getf (pc := 1) kS_turnOver_d1 (kfS_lineStep hG) hre rfl ?_
  refine jj_istore_n (pc := 4) kS_turnOver_d4 (Nat.le_of_ble_eq_true rfl) ?_
  show jj G kS_turnOver (d) Q rc rs 5 [some (.ref re), some (.int (nI (ls))), none] [] M
  refine jj_aload_n (pc := 5) kS_turnOver_d5 rfl ?_
  refine jj_aload_n (pc := 6) kS_turnOver_d6 rfl ?_
  refine jj_getf (pc := 7) kS_turnOver_d7 (kfS_placeStep hG) hre rfl ?_
  refine jj_putf (pc := 10) kS_turnOver_d10 (kpS_lineStep hG) hre (by rfl) rfl ?_
  refine jn_gen (fun M101 hM102 => ?_)
  have h103 : M101 re = some (.inl nS, [.int (nI (ln)), .int (nI (pl)), .int (nI (ps)), .int (nI (ps)), .ref rca, .ref (wa 547), .ref (wa 548), .ref (wa 549), .ref (wa 550), .ref (wa 551), .ref (wa 552), .ref dk]) := by rw [hM102]; exact jj_up_at _ _ _
  refine jj_aload_n (pc := 13) kS_turnOver_d13 rfl ?_
  refine jj_iload_n (pc := 14) kS_turnOver_d14 rfl ?_
  refine jj_putf (pc := 15) kS_turnOver_d15 (kpS_placeStep hG) h103 (by rfl) rfl ?_
  refine jn_gen (fun M104 hM105 => ?_)
  have h106 : M104 re = some (.inl nS, [.int (nI (ln)), .int (nI (pl)), .int (nI (ps)), .int (nI (ls)), .ref rca, .ref (wa 547), .ref (wa 548), .ref (wa 549), .ref (wa 550), .ref (wa 551), .ref (wa 552), .ref dk]) := by rw [hM105]; exact jj_up_at _ _ _
  refine jj_aload_n (pc := 18) kS_turnOver_d18 rfl ?_
  refine jj_getf (pc := 19) kS_turnOver_d19 (kfS_lines hG) h106 rfl ?_
  refine jj_istore_n (pc := 22) kS_turnOver_d22 (Nat.le_of_ble_eq_true rfl) ?_
  show jj G kS_turnOver (d) Q rc rs 23 [some (.ref re), some (.int (nI (ls))), some (.int (nI (ln)))] [] M104
  refine jj_aload_n (pc := 23) kS_turnOver_d23 rfl ?_
  refine jj_aload_n (pc := 24) kS_turnOver_d24 rfl ?_
  refine jj_getf (pc := 25) kS_turnOver_d25 (kfS_places hG) h106 rfl ?_
  refine jj_putf (pc := 28) kS_turnOver_d28 (kpS_lines hG) h106 (by rfl) rfl ?_
  refine jn_gen (fun M107 hM108 => ?_)
  have h109 : M107 re = some (.inl nS, [.int (nI (pl)), .int (nI (pl)), .int (nI (ps)), .int (nI (ls)), .ref rca, .ref (wa 547), .ref (wa 548), .ref (wa 549), .ref (wa 550), .ref (wa 551), .ref (wa 552), .ref dk]) := by rw [hM108]; exact jj_up_at _ _ _
  refine jj_aload_n (pc := 31) kS_turnOver_d31 rfl ?_
  refine jj_iload_n (pc := 32) kS_turnOver_d32 rfl ?_
  refine jj_putf (pc := 33) kS_turnOver_d33 (kpS_places hG) h109 (by rfl) rfl ?_
  refine jn_gen (fun M110 hM111 => ?_)
  have h112 : M110 re = some (.inl nS, [.int (nI (pl)), .int (nI (ln)), .int (nI (ps)), .int (nI (ls)), .ref rca, .ref (wa 547), .ref (wa 548), .ref (wa 549), .ref (wa 550), .ref (wa 551), .ref (wa 552), .ref dk]) := by rw [hM111]; exact jj_up_at _ _ _
  have hu : ∀ x, x ≠ re → M110 x = M x := fun x hx => by rw [hM111, jj_up_ne _ _ hx, hM108, jj_up_ne _ _ hx, hM105, jj_up_ne _ _ hx, hM102, jj_up_ne _ _ hx]
  exact jj_vret (pc := 36) kS_turnOver_d36 rfl (k M110 (hS.up hJ.2.2.2.2.1 hJ.2.2.2.2.2.2.1 hu) (hR.upo hu h112) (EFX.up hu (Or.inl rfl)))
theorem r_swapLines {i k : Nat} (hG : kG G) (hK : KJI wa la cap N hi lo) (hS : KS M wa la cap N eu dv hi lo dk V) (hJ : QJ wa la cap N eu dv hi lo dk re rca) (hR : RST M wa re rca dk ln pl ls ps s) (hs : STP ls ps) (hpl : pl ≤ 16) (hi16 : i < 16) (hk16 : k < 16) (kk : ∀ (M' : mheap) (s' : Nat → Nat), KS M' wa la cap N eu dv hi lo dk V → RST M' wa re rca dk ln pl ls ps s' → (∀ i' p, i' < 16 → p < 16 → rp s' ls ps i' p = if p < pl then rp s ls ps (swp i k i') p else rp s ls ps i' p) → EFX (fun x => x = re ∨ x = rca) M M' wa la N eu dv hi lo → Q (.returned none) M' rc rs) : jj G kS_swapLines (d + 1) Q rc rs 0 (jj_ent [.ref re, .int (nI i), .int (nI k)] 5) [] M := by
  obtain ⟨h809, c547, c548, c553, f1, f2, n1, n2⟩ := id hJ
  show jj G kS_swapLines (d + 1) Q rc rs 0 [some (.ref re), some (.int (nI (i))), some (.int (nI (k))), none, none] [] M
  refine jn_iconst (pc := 0) 0 kS_swapLines_d0 (by decide) ?_
  refine jj_istore_n (pc := 1) kS_swapLines_d1 (Nat.le_of_ble_eq_true rfl) ?_
  show jj G kS_swapLines (d + 1) Q rc rs 2 [some (.ref re), some (.int (nI (i))), some (.int (nI (k))), some (.int (nI (0))), none] [] M
  show jj G kS_swapLines (d + 1) Q rc rs 2 [some (.ref re), some (.int (nI (i))), some (.int (nI (k))), some (.int (nI (0))), none] [] M
  have loop : ∀ mu x, pl = x + mu → ∀ (ob : Option Value) (M9 : mheap) (s9 : Nat → Nat), KS M9 wa la cap N eu dv hi lo dk V → RST M9 wa re rca dk ln pl ls ps s9 → (∀ i' p, i' < 16 → p < 16 → rp s9 ls ps i' p = if p < x then rp s ls ps (swp i k i') p else rp s ls ps i' p) → EFX (fun x => x = re ∨ x = rca) M M9 wa la N eu dv hi lo → jj G kS_swapLines (d + 1) Q rc rs 2 [some (.ref re), some (.int (nI (i))), some (.int (nI (k))), some (.int (nI (x))), (ob)] [] M9 := by
    intro mu
    induction mu with
    | zero =>
      intro x hx ob M9 s9 hS9 hR9 e9 f9
      have ew : pl = x := by omega
      subst ew
      refine jj_iload_n (pc := 2) kS_swapLines_d2 rfl ?_
      refine jj_aload_n (pc := 3) kS_swapLines_d3 rfl ?_
      refine jj_getf (pc := 4) kS_swapLines_d4 (kfS_places hG) hR9.1 rfl ?_
      refine jn_icmp_ge (pc := 7) (tgt := 68) kS_swapLines_d7 (by decide) (by omega) (by omega) (fun _ => ?_) (fun c => by exfalso; omega)
      exact jj_vret (pc := 68) kS_swapLines_d68 rfl (kk M9 s9 hS9 hR9 e9 f9)
    | succ mu ih =>
      intro x hx ob M9 s9 hS9 hR9 e9 f9
      have hsp := hR9.2.2
      have b1 := hsp.b hs hi16 (show x < 16 by omega)
      have b2 := hsp.b hs hk16 (show x < 16 by omega)
      have hca := hR9.2.1
      have hre := hR9.1
      obtain ⟨T1, t1, hT1, _, _⟩ := hS9.1 (rp s9 ls ps i x) (by omega)
      obtain ⟨T2, t2, hT2, _, _⟩ := hS9.1 (rp s9 ls ps k x) (by omega)
      refine jj_iload_n (pc := 2) kS_swapLines_d2 rfl ?_
      refine jj_aload_n (pc := 3) kS_swapLines_d3 rfl ?_
      refine jj_getf (pc := 4) kS_swapLines_d4 (kfS_places hG) hR9.1 rfl ?_
      refine jn_icmp_ge (pc := 7) (tgt := 68) kS_swapLines_d7 (by decide) (by omega) (by omega) (fun c => by exfalso; omega) (fun _ => ?_)
      refine jj_aload_n (pc := 10) kS_swapLines_d10 rfl ?_
      refine jj_iload_n (pc := 11) kS_swapLines_d11 rfl ?_
      refine jj_iload_n (pc := 12) kS_swapLines_d12 rfl ?_
      refine jj_callV (pc := 13) (b := re) (As := [.int (nI (i)), .int (nI (x))]) kS_swapLines_d13 (kvS_S_at hG) (kG_cl hG rfl) rfl hR9.1 rfl rfl rfl (Nat.le_of_ble_eq_true rfl) (Nat.le_of_ble_eq_true rfl) (jj_bare0 rfl) ?_
      refine r_at hG hR9 hs hi16 (by omega) ?_
      show jj G kS_swapLines (d + 1) Q rc rs 16 [some (.ref re), some (.int (nI (i))), some (.int (nI (k))), some (.int (nI (x))), (ob)] [.ref (wa (rp s9 ls ps i x))] M9
      refine jj_astore (pc := 16) kS_swapLines_d16 (Nat.le_of_ble_eq_true rfl) ?_
      show jj G kS_swapLines (d + 1) Q rc rs 18 [some (.ref re), some (.int (nI (i))), some (.int (nI (k))), some (.int (nI (x))), some (.ref (wa (rp s9 ls ps i x)))] [] M9
      refine jj_aload_n (pc := 18) kS_swapLines_d18 rfl ?_
      refine jj_getf (pc := 19) kS_swapLines_d19 (kfS_cells hG) hR9.1 rfl ?_
      refine jj_iload_n (pc := 22) kS_swapLines_d22 rfl ?_
      refine jj_aload_n (pc := 23) kS_swapLines_d23 rfl ?_
      refine jj_getf (pc := 24) kS_swapLines_d24 (kfS_lineStep hG) hR9.1 rfl ?_
      refine jn_imul (pc := 27) (i * ls) kS_swapLines_d27 rfl ?_
      refine jj_iload_n (pc := 28) kS_swapLines_d28 rfl ?_
      refine jj_aload_n (pc := 29) kS_swapLines_d29 rfl ?_
      refine jj_getf (pc := 30) kS_swapLines_d30 (kfS_placeStep hG) hR9.1 rfl ?_
      refine jn_imul (pc := 33) (x * ps) kS_swapLines_d33 rfl ?_
      refine jn_iadd (pc := 34) (i * ls + x * ps) kS_swapLines_d34 (by omega) ?_
      refine jj_aload_n (pc := 35) kS_swapLines_d35 rfl ?_
      refine jj_iload_n (pc := 36) kS_swapLines_d36 rfl ?_
      refine jj_iload_n (pc := 37) kS_swapLines_d37 rfl ?_
      refine jj_callV (pc := 38) (b := re) (As := [.int (nI (k)), .int (nI (x))]) kS_swapLines_d38 (kvS_S_at hG) (kG_cl hG rfl) rfl hR9.1 rfl rfl rfl (Nat.le_of_ble_eq_true rfl) (Nat.le_of_ble_eq_true rfl) (jj_bare0 rfl) ?_
      refine r_at hG hR9 hs hk16 (by omega) ?_
      show jj G kS_swapLines (d + 1) Q rc rs 41 [some (.ref re), some (.int (nI (i))), some (.int (nI (k))), some (.int (nI (x))), some (.ref (wa (rp s9 ls ps i x)))] [.ref (wa (rp s9 ls ps k x)), .int (nI (i * ls + x * ps)), .ref rca] M9
      refine jj_aast (pc := 41) (i := i * ls + x * ps) kS_swapLines_d41 (kG_cl hG rfl) (kG_t hG rfl) hca hT2 rfl (by rw [List.length_map, List.length_range]; decide) (by rw [List.length_map, List.length_range]; exact hs.lt hi16 (by omega)) ?_
      refine jn_gen (fun M1 hM1 => ?_)
      have u1 : ∀ y, y ≠ rca → M1 y = M9 y := fun y hy => by rw [hM1, jj_up_ne _ _ hy]
      have nel : re ≠ rca := fun e => by rw [e, hca] at hre; cases hre
      have hre1 := (u1 _ nel).trans hre
      have hca1 : M1 rca = some (.inr 3, (List.range 256).map (fun n => Value.ref (wa (if n = i * ls + x * ps then rp s9 ls ps k x else s9 n)))) := by
        rw [hM1, jj_up_at]
        refine congrArg some (congrArg (Prod.mk _) (range_set ?_ (fun y _ hy => ?_)))
        · rw [if_pos rfl]
        · rw [if_neg hy]
      have hT1b : M1 (wa (rp s9 ls ps i x)) = _ := (u1 _ (Ne.symm (f2.1 _ (by omega)).1)).trans hT1
      show jj G kS_swapLines (d + 1) Q rc rs 42 [some (.ref re), some (.int (nI (i))), some (.int (nI (k))), some (.int (nI (x))), some (.ref (wa (rp s9 ls ps i x)))] [] M1
      refine jj_aload_n (pc := 42) kS_swapLines_d42 rfl ?_
      refine jj_getf (pc := 43) kS_swapLines_d43 (kfS_cells hG) hre1 rfl ?_
      refine jj_iload_n (pc := 46) kS_swapLines_d46 rfl ?_
      refine jj_aload_n (pc := 47) kS_swapLines_d47 rfl ?_
      refine jj_getf (pc := 48) kS_swapLines_d48 (kfS_lineStep hG) hre1 rfl ?_
      refine jn_imul (pc := 51) (k * ls) kS_swapLines_d51 rfl ?_
      refine jj_iload_n (pc := 52) kS_swapLines_d52 rfl ?_
      refine jj_aload_n (pc := 53) kS_swapLines_d53 rfl ?_
      refine jj_getf (pc := 54) kS_swapLines_d54 (kfS_placeStep hG) hre1 rfl ?_
      refine jn_imul (pc := 57) (x * ps) kS_swapLines_d57 rfl ?_
      refine jn_iadd (pc := 58) (k * ls + x * ps) kS_swapLines_d58 (by omega) ?_
      refine jj_aload (pc := 59) kS_swapLines_d59 rfl ?_
      refine jj_aast (pc := 61) (i := k * ls + x * ps) kS_swapLines_d61 (kG_cl hG rfl) (kG_t hG rfl) hca1 hT1b rfl (by rw [List.length_map, List.length_range]; decide) (by rw [List.length_map, List.length_range]; exact hs.lt hk16 (by omega)) ?_
      refine jn_gen (fun M2 hM2 => ?_)
      have u2 : ∀ y, y ≠ rca → M2 y = M9 y := fun y hy => by rw [hM2, jj_up_ne _ _ hy]; exact u1 y hy
      obtain ⟨s8, es8⟩ : ∃ s8 : Nat → Nat, s8 = fun n => if n = k * ls + x * ps then s9 (i * ls + x * ps) else if n = i * ls + x * ps then s9 (k * ls + x * ps) else s9 n := ⟨_, rfl⟩
      have hca2 : M2 rca = some (.inr 3, (List.range 256).map (fun n => Value.ref (wa (s8 n)))) := by
        rw [hM2, jj_up_at, es8]
        refine congrArg some (congrArg (Prod.mk _) (range_set ?_ (fun y hy1 hy => ?_)))
        · dsimp only; rw [if_pos rfl]; rfl
        · dsimp only; rw [if_neg hy]; rfl
      have hsp8 : RSP s8 := by rw [es8]; exact hsp.swap (hs.lt hi16 (by omega)) (hs.lt hk16 (by omega))
      have hR8 := hR9.upc u2 hca2 hsp8
      have hre2 := hR8.1
      have e8 : ∀ i' p, i' < 16 → p < 16 → rp s8 ls ps i' p = if p = x then rp s9 ls ps (swp i k i') p else rp s9 ls ps i' p := fun i' p h1 h2 => by
        unfold rp
        rw [es8]
        dsimp only
        by_cases c : p = x
        · rw [if_pos c, c]
          unfold swp
          by_cases ck : i' = k
          · rw [if_pos (by rw [ck])]
            by_cases ci : i' = i
            · rw [if_pos ci, ← ck, ← ci]
            · rw [if_neg ci, if_pos ck]
          · rw [if_neg (fun e => ck (hs.inj h1 (by omega) hk16 (by omega) e).1)]
            by_cases ci : i' = i
            · rw [if_pos (by rw [ci]), if_pos ci]
            · rw [if_neg (fun e => ci (hs.inj h1 (by omega) hi16 (by omega) e).1), if_neg ci, if_neg ck]
        · rw [if_neg c, if_neg (fun e => c (hs.inj h1 h2 hk16 (by omega) e).2), if_neg (fun e => c (hs.inj h1 h2 hi16 (by omega) e).2)]
      show jj G kS_swapLines (d + 1) Q rc rs 62 [some (.ref re), some (.int (nI (i))), some (.int (nI (k))), some (.int (nI (x))), some (.ref (wa (rp s9 ls ps i x)))] [] M2
      refine jn_iinc (pc := 62) (x + 1) kS_swapLines_d62 rfl (nI_1 _) ?_
      refine jj_goto (pc := 65) (tgt := 2) kS_swapLines_d65 (by decide) ?_
      show jj G kS_swapLines (d + 1) Q rc rs 2 [some (.ref re), some (.int (nI (i))), some (.int (nI (k))), some (.int (nI (x + 1))), some (.ref (wa (rp s9 ls ps i x)))] [] M2
      refine ih (x + 1) (by omega) _ M2 s8 (hS9.up f2 n2 u2) hR8 (fun i' p h1 h2 => ?_) (f9.trans (EFX.up u2 (Or.inr rfl)))
      rw [e8 i' p h1 h2]
      by_cases c : p = x
      · rw [if_pos c, if_pos (by omega), e9 _ p (swp_lt hi16 hk16 h1) h2, if_neg (by omega)]
      · rw [if_neg c, e9 i' p h1 h2]
        by_cases c2 : p < x
        · rw [if_pos c2, if_pos (by omega)]
        · rw [if_neg c2, if_neg (by omega)]
  exact loop pl 0 (by omega) _ M s hS hR (fun i' p _ _ => by rw [if_neg (by omega)]) (fun _ _ _ => rfl)
end S1
