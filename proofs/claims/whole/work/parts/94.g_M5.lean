/-! ===== Matrix: copy (printed by wip/gen/rM5.py) ===== -/
section M5
variable {G : jg} {d : Nat} {Q : jq} {rc rs : Nat} {M : mheap} {wa la cap : Nat → Nat} {N eu dv hi lo dk : Nat} {V : Nat → Int}
theorem m_copyC {mx ar b mx2 ar2 b2 r c : Nat} (hG : kG G) (hK : KJI wa la cap N hi lo) (hS : KS M wa la cap N eu dv hi lo dk V) (hM : MXT M wa mx ar b r c) (hb : b + 256 < N) (hb7 : 13 ≤ b) (hr : r ≤ 16) (hcc : c ≤ 16) (hM2 : MXT M wa mx2 ar2 b2 r c) (hb2 : b2 + 256 < N) (hb27 : 13 ≤ b2) (hdis : b + 256 < b2 ∨ b2 + 256 < b) (hroom : ∀ p, (p = 256 ∨ ∃ i j, i < r ∧ j < c ∧ p = 16 * i + j) → (V (b2 + p)).natAbs < BB ^ cap (b + p)) (k : ∀ (M' : mheap) (V' : Nat → Int), KS M' wa la cap N eu dv hi lo dk V' → MXT M' wa mx ar b r c → V' (b + 256) = V (b2 + 256) → (∀ i' j', i' < r → j' < c → V' (b + (16 * i' + j')) = V (b2 + (16 * i' + j'))) → (∀ p, 7 ≤ p → p ≠ b + 256 → (∀ i' j', i' < r → j' < c → p ≠ b + (16 * i' + j')) → V' p = V p) → EF M M' wa la N eu dv hi lo → Q (.returned none) M' rc rs) : jj G kM_copy (d + 3) Q rc rs 16 [some (.ref mx), some (.ref mx2), none, none] [] M := by
  have hm := hM.1
  have hm2 := hM2.1
  obtain ⟨hI, hN, hcap, hdi⟩ := id hK
  obtain ⟨hc0, ⟨r_a, px_a, pf_a, py_a, po_a, ps_a, od_a, hU0⟩, hdk0⟩ := id hS
  have hf0 : EF M M wa la N eu dv hi lo := fun _ _ _ _ _ _ => rfl
  obtain ⟨V0, hV0⟩ : ∃ V0, V = V0 := ⟨_, rfl⟩
  rw [hV0] at hc0
  have hn0 := hU0.1
  have b_r0 := hn0.2.1
  have b_x0 := hn0.2.2.1
  have b_f0 := hn0.2.2.2.1
  have hdv0 := hU0.2.1
  obtain ⟨ea0, eb0, ec0, ed0, hE0⟩ := hU0.2.2.2
  have hD0 := hdv0.1
  show jj G kM_copy (d + 3) Q rc rs 16 [some (.ref mx), some (.ref mx2), none, none] [] M
  obtain ⟨Tb256_0, tb256_0, hTb256_0, _, _⟩ := hc0 (b + 256) (by omega)
  refine jj_aload_n (pc := 16) kM_copy_d16 rfl ?_
  refine jj_getf (pc := 17) kM_copy_d17 (kfM_common hG) hm rfl ?_
  refine jj_aload_n (pc := 20) kM_copy_d20 rfl ?_
  refine jj_getf (pc := 21) kM_copy_d21 (kfM_common hG) hm2 rfl ?_
  have q1 := hroom 256 (Or.inl rfl)
  rw [hV0] at q1
  refine jj_callV (pc := 24) (b := (wa (b + 256))) (As := [.ref (wa (b2 + 256))]) kM_copy_d24 (kvM_W_copy hG) (kG_cl hG rfl) rfl hTb256_0 rfl rfl rfl (Nat.le_of_ble_eq_true rfl) (Nat.le_of_ble_eq_true rfl) (jj_bare0 rfl) ?_
  refine w_copy hG hI hc0 hb hb2 q1 (fun M1 hcx1 hw1 => ?_)
  obtain ⟨V1, hV1⟩ : ∃ W, vup V0 (b + 256) (V0 (b2 + 256)) = W := ⟨_, rfl⟩
  have hc1 : CW M1 wa la cap N V1 := by rw [← hV1]; exact hcx1
  have at1 : V1 (b + 256) = V0 (b2 + 256) := by rw [← hV1, vup_at]
  have ot1 : ∀ p, p ≠ (b + 256) → V1 p = V0 p := fun p hp => by rw [← hV1, vup_ne _ _ hp]
  have hU1 := hU0.wt hc0 hdi hb hw1
  have hf1 := hf0.trans (hw1.ef hb)
  have q1_mx := (hw1.ef (eu := eu) (dv := dv) (hi := hi) (lo := lo) hb).obj hc0 hU0 hm (by decide) (by decide) (by decide)
  have q1_mx2 := (hw1.ef (eu := eu) (dv := dv) (hi := hi) (lo := lo) hb).obj hc0 hU0 hm2 (by decide) (by decide) (by decide)
  have q1_dk := (hw1.ef (eu := eu) (dv := dv) (hi := hi) (lo := lo) hb).obj hc0 hU0 hdk0 (by decide) (by decide) (by decide)
  have hn1 := hU1.1
  have b_r1 := hn1.2.1
  have b_x1 := hn1.2.2.1
  have b_f1 := hn1.2.2.2.1
  have hdv1 := hU1.2.1
  obtain ⟨ea1, eb1, ec1, ed1, hE1⟩ := hU1.2.2.2
  have hD1 := hdv1.1
  show jj G kM_copy (d + 3) Q rc rs 27 [some (.ref mx), some (.ref mx2), none, none] [] M1
  have hM1 : MXT M1 wa mx ar b r c := hM.ef hS hf1
  have v1a : V1 (b + 256) = V (b2 + 256) := by rw [at1, hV0]
  have vo1 : ∀ p, 7 ≤ p → p ≠ b + 256 → V1 p = V p := fun p p1 p2 => by rw [ot1 p p2, hV0]
  have hS1 : KS M1 wa la cap N eu dv hi lo dk V1 := ⟨hc1, ⟨r_a, px_a, pf_a, py_a, po_a, ps_a, od_a, hU1⟩, q1_dk⟩
  refine jn_iconst (pc := 27) 0 kM_copy_d27 (by decide) ?_
  refine jj_istore_n (pc := 28) kM_copy_d28 (Nat.le_of_ble_eq_true rfl) ?_
  show jj G kM_copy (d + 3) Q rc rs 29 [some (.ref mx), some (.ref mx2), some (.int (nI (0))), none] [] M1
  show jj G kM_copy (d + 3) Q rc rs 29 [some (.ref mx), some (.ref mx2), some (.int (nI (0))), none] [] M1
  have outer : ∀ mu i, r = i + mu → ∀ (oj : Option Value) (M9 : mheap) (V9 : Nat → Int), KS M9 wa la cap N eu dv hi lo dk V9 → MXT M9 wa mx ar b r c → V9 (b + 256) = V (b2 + 256) → (∀ i' j', thru c i 0 i' j' → V9 (b + (16 * i' + j')) = V (b2 + (16 * i' + j'))) → (∀ p, 7 ≤ p → p ≠ b + 256 → (∀ i' j', thru c i 0 i' j' → p ≠ b + (16 * i' + j')) → V9 p = V p) → EF M M9 wa la N eu dv hi lo → jj G kM_copy (d + 3) Q rc rs 29 [some (.ref mx), some (.ref mx2), some (.int (nI (i))), (oj)] [] M9 := by
    intro mu
    induction mu with
    | zero =>
      intro i hk oj M9 V9 hS9 hM9 v1 v0 vo f9
      have e9 : r = i := by omega
      subst e9
      have h9m := hM9.1
      refine jj_iload_n (pc := 29) kM_copy_d29 rfl ?_
      refine jj_aload_n (pc := 30) kM_copy_d30 rfl ?_
      refine jj_getf (pc := 31) kM_copy_d31 (kfM_rows hG) h9m rfl ?_
      refine jn_icmp_ge (pc := 34) (tgt := 74) kM_copy_d34 (by decide) (by omega) (by omega) (fun _ => ?_) (fun c => by exfalso; omega)
      exact jj_vret (pc := 74) kM_copy_d74 rfl (k M9 V9 hS9 hM9 v1 (fun i j hi hj => v0 i j ⟨hj, Or.inl hi⟩) (fun p h1 h2 h3 => vo p h1 h2 (fun i' j' h => by obtain ⟨g1, g2⟩ := h; exact h3 i' j' (by omega) g1)) f9)
    | succ mu ih =>
      intro i hk oj M9 V9 hS9 hM9 v1 v0 vo f9
      have h9m := hM9.1
      refine jj_iload_n (pc := 29) kM_copy_d29 rfl ?_
      refine jj_aload_n (pc := 30) kM_copy_d30 rfl ?_
      refine jj_getf (pc := 31) kM_copy_d31 (kfM_rows hG) h9m rfl ?_
      refine jn_icmp_ge (pc := 34) (tgt := 74) kM_copy_d34 (by decide) (by omega) (by omega) (fun c => by exfalso; omega) (fun _ => ?_)
      refine jn_iconst (pc := 37) 0 kM_copy_d37 (by decide) ?_
      refine jj_istore_n (pc := 38) kM_copy_d38 (Nat.le_of_ble_eq_true rfl) ?_
      show jj G kM_copy (d + 3) Q rc rs 39 [some (.ref mx), some (.ref mx2), some (.int (nI (i))), some (.int (nI (0)))] [] M9
      show jj G kM_copy (d + 3) Q rc rs 39 [some (.ref mx), some (.ref mx2), some (.int (nI (i))), some (.int (nI (0)))] [] M9
      have inner : ∀ mu2 j, c = j + mu2 → ∀ (M9 : mheap) (V9 : Nat → Int), KS M9 wa la cap N eu dv hi lo dk V9 → MXT M9 wa mx ar b r c → V9 (b + 256) = V (b2 + 256) → (∀ i' j', thru c i j i' j' → V9 (b + (16 * i' + j')) = V (b2 + (16 * i' + j'))) → (∀ p, 7 ≤ p → p ≠ b + 256 → (∀ i' j', thru c i j i' j' → p ≠ b + (16 * i' + j')) → V9 p = V p) → EF M M9 wa la N eu dv hi lo → jj G kM_copy (d + 3) Q rc rs 39 [some (.ref mx), some (.ref mx2), some (.int (nI (i))), some (.int (nI (j)))] [] M9 := by
        intro mu2
        induction mu2 with
        | zero =>
          intro j hk2 M9 V9 hS9 hM9 v1 v0 vo f9
          have e9 : c = j := by omega
          subst e9
          have h9m := hM9.1
          refine jj_iload_n (pc := 39) kM_copy_d39 rfl ?_
          refine jj_aload_n (pc := 40) kM_copy_d40 rfl ?_
          refine jj_getf (pc := 41) kM_copy_d41 (kfM_columns hG) h9m rfl ?_
          refine jn_icmp_ge (pc := 44) (tgt := 68) kM_copy_d44 (by decide) (by omega) (by omega) (fun _ => ?_) (fun c => by exfalso; omega)
          refine jn_iinc (pc := 68) (i + 1) kM_copy_d68 rfl (nI_1 _) ?_
          refine jj_goto (pc := 71) (tgt := 29) kM_copy_d71 (by decide) ?_
          show jj G kM_copy (d + 3) Q rc rs 29 [some (.ref mx), some (.ref mx2), some (.int (nI (i + 1))), some (.int (nI (c)))] [] M9
          refine ih (i + 1) (by omega) _ M9 V9 hS9 hM9 v1 (fun i' j' h => v0 i' j' ?_) (fun p h1 h2 h3 => vo p h1 h2 (fun i' j' h => h3 i' j' ?_)) f9
          · obtain ⟨g1, g2⟩ := h
            exact ⟨g1, by omega⟩
          · obtain ⟨g1, g2⟩ := h
            exact ⟨g1, by omega⟩
        | succ mu2 ih2 =>
          intro j hk2 M9 V9 hS9 hM9 v1 v0 vo f9
          have h9m := hM9.1
          have hp : b + (16 * i + j) < N := by omega
          have hold9 : V9 (b + (16 * i + j)) = V (b + (16 * i + j)) := vo _ (by omega) (by omega) (fun i' j' h e => by obtain ⟨g1, g2⟩ := h; omega)
          refine jj_iload_n (pc := 39) kM_copy_d39 rfl ?_
          refine jj_aload_n (pc := 40) kM_copy_d40 rfl ?_
          refine jj_getf (pc := 41) kM_copy_d41 (kfM_columns hG) h9m rfl ?_
          refine jn_icmp_ge (pc := 44) (tgt := 68) kM_copy_d44 (by decide) (by omega) (by omega) (fun c => by exfalso; omega) (fun _ => ?_)
          have hM29 : MXT M9 wa mx2 ar2 b2 r c := hM2.ef hS f9
          have h9m2 := hM29.1
          obtain ⟨hc0, ⟨r_0, px_0, pf_0, py_0, po_0, ps_0, od_0, hU0⟩, hdk0⟩ := id hS9
          have hf0 : EF M9 M9 wa la N eu dv hi lo := fun _ _ _ _ _ _ => rfl
          obtain ⟨V0, hV0⟩ : ∃ V0, V9 = V0 := ⟨_, rfl⟩
          rw [hV0] at hc0
          have hn0 := hU0.1
          have b_r0 := hn0.2.1
          have b_x0 := hn0.2.2.1
          have b_f0 := hn0.2.2.2.1
          have hdv0 := hU0.2.1
          obtain ⟨ea0, eb0, ec0, ed0, hE0⟩ := hU0.2.2.2
          have hD0 := hdv0.1
          have hcl : 16 * i + j ≤ 255 := cell255 (by omega) (by omega)
          have hold2 : V0 (b2 + (16 * i + j)) = V (b2 + (16 * i + j)) := by
            rw [← hV0]
            refine vo _ (by omega) (far2 hdis (Nat.le_trans hcl (by decide)) (Nat.le_refl _)) (fun i' j' h => far2 hdis (Nat.le_trans hcl (by decide)) ?_)
            obtain ⟨g1, g2⟩ := h
            exact Nat.le_trans (cell255 (i := i') (j := j') (by omega) (by omega)) (by decide)
          have q1 := hroom (16 * i + j) (Or.inr ⟨i, j, by omega, by omega, rfl⟩)
          rw [← hold2] at q1
          refine jj_aload_n (pc := 47) kM_copy_d47 rfl ?_
          refine jj_iload_n (pc := 48) kM_copy_d48 rfl ?_
          refine jj_iload_n (pc := 49) kM_copy_d49 rfl ?_
          refine jj_callV (pc := 50) (b := mx) (As := [.int (nI (i)), .int (nI (j))]) kM_copy_d50 (kvM_M_at hG) (kG_cl hG rfl) rfl h9m rfl rfl rfl (Nat.le_of_ble_eq_true rfl) (Nat.le_of_ble_eq_true rfl) (jj_bare0 rfl) ?_
          refine m_at hG hM9 (by omega) (by omega) ?_
          show jj G kM_copy (d + 3) Q rc rs 53 [some (.ref mx), some (.ref mx2), some (.int (nI (i))), some (.int (nI (j)))] [.ref (wa (b + (16 * i + j)))] M9
          refine jj_aload_n (pc := 53) kM_copy_d53 rfl ?_
          refine jj_iload_n (pc := 54) kM_copy_d54 rfl ?_
          refine jj_iload_n (pc := 55) kM_copy_d55 rfl ?_
          refine jj_callV (pc := 56) (b := mx2) (As := [.int (nI (i)), .int (nI (j))]) kM_copy_d56 (kvM_M_at hG) (kG_cl hG rfl) rfl h9m2 rfl rfl rfl (Nat.le_of_ble_eq_true rfl) (Nat.le_of_ble_eq_true rfl) (jj_bare0 rfl) ?_
          refine m_at hG hM29 (by omega) (by omega) ?_
          show jj G kM_copy (d + 3) Q rc rs 59 [some (.ref mx), some (.ref mx2), some (.int (nI (i))), some (.int (nI (j)))] [.ref (wa (b2 + (16 * i + j))), .ref (wa (b + (16 * i + j)))] M9
          obtain ⟨Tb16ij_0, tb16ij_0, hTb16ij_0, _, _⟩ := hc0 (b + (16 * i + j)) (by omega)
          refine jj_callV (pc := 59) (b := (wa (b + (16 * i + j)))) (As := [.ref (wa (b2 + (16 * i + j)))]) kM_copy_d59 (kvM_W_copy hG) (kG_cl hG rfl) rfl hTb16ij_0 rfl rfl rfl (Nat.le_of_ble_eq_true rfl) (Nat.le_of_ble_eq_true rfl) (jj_bare0 rfl) ?_
          refine w_copy hG hI hc0 hp (by omega : b2 + (16 * i + j) < N) q1 (fun M1 hcx1 hw1 => ?_)
          obtain ⟨V1, hV1⟩ : ∃ W, vup V0 (b + (16 * i + j)) (V0 (b2 + (16 * i + j))) = W := ⟨_, rfl⟩
          have hc1 : CW M1 wa la cap N V1 := by rw [← hV1]; exact hcx1
          have at1 : V1 (b + (16 * i + j)) = V0 (b2 + (16 * i + j)) := by rw [← hV1, vup_at]
          have ot1 : ∀ p, p ≠ (b + (16 * i + j)) → V1 p = V0 p := fun p hp => by rw [← hV1, vup_ne _ _ hp]
          have hU1 := hU0.wt hc0 hdi hp hw1
          have hf1 := hf0.trans (hw1.ef hp)
          have q1_mx := (hw1.ef (eu := eu) (dv := dv) (hi := hi) (lo := lo) hp).obj hc0 hU0 h9m (by decide) (by decide) (by decide)
          have q1_mx2 := (hw1.ef (eu := eu) (dv := dv) (hi := hi) (lo := lo) hp).obj hc0 hU0 h9m2 (by decide) (by decide) (by decide)
          have q1_dk := (hw1.ef (eu := eu) (dv := dv) (hi := hi) (lo := lo) hp).obj hc0 hU0 hdk0 (by decide) (by decide) (by decide)
          have hn1 := hU1.1
          have b_r1 := hn1.2.1
          have b_x1 := hn1.2.2.1
          have b_f1 := hn1.2.2.2.1
          have hdv1 := hU1.2.1
          obtain ⟨ea1, eb1, ec1, ed1, hE1⟩ := hU1.2.2.2
          have hD1 := hdv1.1
          show jj G kM_copy (d + 3) Q rc rs 62 [some (.ref mx), some (.ref mx2), some (.int (nI (i))), some (.int (nI (j)))] [] M1
          have hat : V1 (b + (16 * i + j)) = V (b2 + (16 * i + j)) := by rw [at1, hold2]
          have hot : ∀ p, 7 ≤ p → p ≠ (b + (16 * i + j)) → V1 p = V9 p := fun p p1 p2 => by rw [ot1 p p2, hV0]
          refine jn_iinc (pc := 62) (j + 1) kM_copy_d62 rfl (nI_1 _) ?_
          refine jj_goto (pc := 65) (tgt := 39) kM_copy_d65 (by decide) ?_
          show jj G kM_copy (d + 3) Q rc rs 39 [some (.ref mx), some (.ref mx2), some (.int (nI (i))), some (.int (nI (j + 1)))] [] M1
          refine ih2 (j + 1) (by omega) M1 V1 ⟨hc1, ⟨r_0, px_0, pf_0, py_0, po_0, ps_0, od_0, hU1⟩, q1_dk⟩ (hM9.ef hS9 hf1) ((hot _ (by omega) (by omega)).trans v1) (fun i' j' h => ?_) (fun p h1 h2 h3 => ?_) (f9.trans hf1)
          · obtain ⟨g1, g2⟩ := h
            by_cases e : i' = i ∧ j' = j
            · obtain ⟨e1, e2⟩ := e
              subst e1 e2
              exact hat
            · rw [hot _ (by omega) (by omega)]
              exact v0 i' j' ⟨g1, by omega⟩
          · rw [hot p h1 (h3 i j ⟨by omega, Or.inr ⟨rfl, by omega⟩⟩)]
            exact vo p h1 h2 (fun i' j' h => h3 i' j' (by obtain ⟨g1, g2⟩ := h; exact ⟨g1, by omega⟩))
      exact inner c 0 (by omega) M9 V9 hS9 hM9 v1 v0 vo f9
  refine outer r 0 (by omega) none M1 V1 hS1 hM1 v1a (fun i' j' h => ?_) (fun p h1 h2 h3 => vo1 p h1 h2) hf1
  obtain ⟨_, g⟩ := h
  omega
theorem m_copy {mx ar b mx2 ar2 b2 r0 c0 r c : Nat} (hG : kG G) (hK : KJI wa la cap N hi lo) (hS : KS M wa la cap N eu dv hi lo dk V) (hM : MXT M wa mx ar b r0 c0) (hb : b + 256 < N) (hb7 : 13 ≤ b) (hr : r ≤ 16) (hcc : c ≤ 16) (hM2 : MXT M wa mx2 ar2 b2 r c) (hb2 : b2 + 256 < N) (hb27 : 13 ≤ b2) (hdis : b + 256 < b2 ∨ b2 + 256 < b) (hroom : ∀ p, (p = 256 ∨ ∃ i j, i < r ∧ j < c ∧ p = 16 * i + j) → (V (b2 + p)).natAbs < BB ^ cap (b + p)) (k : ∀ (M' : mheap) (V' : Nat → Int), KS M' wa la cap N eu dv hi lo dk V' → MXT M' wa mx ar b r c → V' (b + 256) = V (b2 + 256) → (∀ i' j', i' < r → j' < c → V' (b + (16 * i' + j')) = V (b2 + (16 * i' + j'))) → (∀ p, 7 ≤ p → p ≠ b + 256 → (∀ i' j', i' < r → j' < c → p ≠ b + (16 * i' + j')) → V' p = V p) → (∀ x, (∀ p, p < N → x ≠ wa p ∧ x ≠ la p) → x ≠ hi → x ≠ lo → x ≠ eu → x ≠ dv → x ≠ mx → M' x = M x) → Q (.returned none) M' rc rs) : jj G kM_copy (d + 3) Q rc rs 0 (jj_ent [.ref mx, .ref mx2] 4) [] M := by
  obtain ⟨hc, ⟨r', px, pf, py, po, ps, od, hU⟩, hdk⟩ := id hS
  obtain ⟨hm, har⟩ := id hM
  obtain ⟨hm2, har2⟩ := id hM2
  obtain ⟨_, ⟨d1, ⟨H, d2, lH⟩, L, d3, lL⟩, ho, ea, eb, ec, ed, e1⟩ := id hU
  have nw : ∀ p, p < N → wa p ≠ mx := fun p hp e => by obtain ⟨D9, c9, h91, _, _⟩ := hc p hp; rw [e, hm] at h91; cases h91
  have nl : ∀ p, p < N → la p ≠ mx := fun p hp e => by obtain ⟨D9, c9, _, h92, _⟩ := hc p hp; rw [e, hm] at h92; cases h92
  have n1 : dv ≠ mx := fun e => by rw [e, hm] at d1; cases d1
  have n2 : hi ≠ mx := fun e => by rw [e, hm] at d2; cases d2
  have n3 : lo ≠ mx := fun e => by rw [e, hm] at d3; cases d3
  have n4 : eu ≠ mx := fun e => by rw [e, hm] at e1; cases e1
  have n5 : dk ≠ mx := fun e => by rw [e, hm] at hdk; cases hdk
  have n6 : ar ≠ mx := fun e => by rw [e, hm] at har; cases har
  have n7 : ar2 ≠ mx := fun e => by rw [e, hm] at har2; cases har2
  have nmm : mx ≠ mx2 := fun e => by
    rw [e, hm2] at hm
    simp only [Option.some.injEq, Prod.mk.injEq, List.cons.injEq, Value.ref.injEq] at hm
    have := hK.1.1 (b2 + 256) (b + 256) hb2 hb hm.2.2.2.1
    omega
  show jj G kM_copy (d + 3) Q rc rs 0 [some (.ref mx), some (.ref mx2), none, none] [] M
  refine jj_aload_n (pc := 0) kM_copy_d0 rfl ?_
  refine jj_aload_n (pc := 1) kM_copy_d1 rfl ?_
  refine jj_getf (pc := 2) kM_copy_d2 (kfM_rows hG) hm2 rfl ?_
  refine jj_putf (pc := 5) kM_copy_d5 (kpM_rows hG) hm (by rfl) rfl ?_
  refine jn_gen (fun M101 hM102 => ?_)
  have h103 : M101 mx2 = some (.inl nM, [.int (nI (r)), .int (nI (c)), .ref (wa (b2 + 256)), .ref ar2]) := by rw [hM102, jj_up_ne _ _ (Ne.symm nmm)]; exact hm2
  have h104 : M101 mx = some (.inl nM, [.int (nI (r)), .int (nI (c0)), .ref (wa (b + 256)), .ref ar]) := by rw [hM102]; exact jj_up_at _ _ _
  refine jj_aload_n (pc := 8) kM_copy_d8 rfl ?_
  refine jj_aload_n (pc := 9) kM_copy_d9 rfl ?_
  refine jj_getf (pc := 10) kM_copy_d10 (kfM_columns hG) h103 rfl ?_
  refine jj_putf (pc := 13) kM_copy_d13 (kpM_columns hG) h104 (by rfl) rfl ?_
  refine jn_gen (fun M105 hM106 => ?_)
  have h107 : M105 mx2 = some (.inl nM, [.int (nI (r)), .int (nI (c)), .ref (wa (b2 + 256)), .ref ar2]) := by rw [hM106, jj_up_ne _ _ (Ne.symm nmm)]; exact h103
  have h108 : M105 mx = some (.inl nM, [.int (nI (r)), .int (nI (c)), .ref (wa (b + 256)), .ref ar]) := by rw [hM106]; exact jj_up_at _ _ _
  have hf1 : ∀ x, x ≠ mx → M105 x = M x := fun x hx => by rw [hM106, jj_up_ne _ _ hx, hM102, jj_up_ne _ _ hx]
  have hc1 : CW M105 wa la cap N V := hc.kept (fun p hp => ⟨hf1 _ (nw p hp), hf1 _ (nl p hp)⟩)
  have hS1 : KS M105 wa la cap N eu dv hi lo dk V := ⟨hc1, ⟨r', px, pf, py, po, ps, od, hU.1, ⟨(hf1 _ n1).trans d1, ⟨H, (hf1 _ n2).trans d2, lH⟩, L, (hf1 _ n3).trans d3, lL⟩, ho, ea, eb, ec, ed, (hf1 _ n4).trans e1⟩, (hf1 _ n5).trans hdk⟩
  exact m_copyC hG hK hS1 ⟨h108, (hf1 _ n6).trans har⟩ hb hb7 hr hcc ⟨h107, (hf1 _ n7).trans har2⟩ hb2 hb27 hdis hroom (fun M' V' a1 a2 a3 a4 a5 a6 => k M' V' a1 a2 a3 a4 a5 (fun x b1 b2 b3 b4 b5 b6 => (a6 x b1 b2 b3 b4 b5).trans (hf1 x b6)))
end M5
