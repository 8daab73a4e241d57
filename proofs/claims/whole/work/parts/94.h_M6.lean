/-! ===== Matrix: equalTo (printed by wip/gen/rM6.py) ===== -/
section M6
variable {G : jg} {d : Nat} {Q : jq} {rc rs : Nat} {M : mheap} {wa la cap : Nat → Nat} {N : Nat} {V : Nat → Int}
theorem m_equalTo {mx ar b mx2 ar2 b2 r c r2 c2 : Nat} (hG : kG G) (hI : CI wa la cap N) (hc : CW M wa la cap N V) (hM : MXT M wa mx ar b r c) (hM2 : MXT M wa mx2 ar2 b2 r2 c2) (hb : b + 256 < N) (hb2 : b2 + 256 < N) (hr : r ≤ 16) (hcc : c ≤ 16) (hr2 : r2 ≤ 16) (hc2 : c2 ≤ 16) (k1 : (r = r2 ∧ c = c2 ∧ V (b + 256) = V (b2 + 256) ∧ ∀ i j, i < r → j < c → V (b + (16 * i + j)) = V (b2 + (16 * i + j))) → Q (.returned (some (.int (nI 1)))) M rc rs) (k0 : ¬ (r = r2 ∧ c = c2 ∧ V (b + 256) = V (b2 + 256) ∧ ∀ i j, i < r → j < c → V (b + (16 * i + j)) = V (b2 + (16 * i + j))) → Q (.returned (some (.int (nI 0)))) M rc rs) : jj G kM_equalTo (d + 2) Q rc rs 0 (jj_ent [.ref mx, .ref mx2] 4) [] M := by
  have hm := hM.1
  have hm2 := hM2.1
  obtain ⟨T1, t1, hT1, _, _⟩ := hc (b + 256) hb
  show jj G kM_equalTo (d + 2) Q rc rs 0 [some (.ref mx), some (.ref mx2), none, none] [] M
  refine jj_aload_n (pc := 0) kM_equalTo_d0 rfl ?_
  refine jj_getf (pc := 1) kM_equalTo_d1 (kfM_rows hG) hm rfl ?_
  refine jj_aload_n (pc := 4) kM_equalTo_d4 rfl ?_
  refine jj_getf (pc := 5) kM_equalTo_d5 (kfM_rows hG) hm2 rfl ?_
  refine jn_icmp_ne (pc := 8) (tgt := 36) kM_equalTo_d8 (by decide) (by omega) (by omega) (fun c1 => ?_) (fun c1 => ?_)
  · skip
    refine jn_iconst (pc := 36) 0 kM_equalTo_d36 (by decide) ?_
    exact jj_iret (pc := 37) kM_equalTo_d37 rfl (by rfl) (k0 (fun e => c1 e.1))
  · skip
    subst c1
    refine jj_aload_n (pc := 11) kM_equalTo_d11 rfl ?_
    refine jj_getf (pc := 12) kM_equalTo_d12 (kfM_columns hG) hm rfl ?_
    refine jj_aload_n (pc := 15) kM_equalTo_d15 rfl ?_
    refine jj_getf (pc := 16) kM_equalTo_d16 (kfM_columns hG) hm2 rfl ?_
    refine jn_icmp_ne (pc := 19) (tgt := 36) kM_equalTo_d19 (by decide) (by omega) (by omega) (fun c2 => ?_) (fun c2 => ?_)
    · skip
      refine jn_iconst (pc := 36) 0 kM_equalTo_d36 (by decide) ?_
      exact jj_iret (pc := 37) kM_equalTo_d37 rfl (by rfl) (k0 (fun e => c2 e.2.1))
    · skip
      subst c2
      refine jj_aload_n (pc := 22) kM_equalTo_d22 rfl ?_
      refine jj_getf (pc := 23) kM_equalTo_d23 (kfM_common hG) hm rfl ?_
      refine jj_aload_n (pc := 26) kM_equalTo_d26 rfl ?_
      refine jj_getf (pc := 27) kM_equalTo_d27 (kfM_common hG) hm2 rfl ?_
      refine jj_callV (pc := 30) (b := (wa (b + 256))) (As := [.ref (wa (b2 + 256))]) kM_equalTo_d30 (kvM_W_equalTo hG) (kG_cl hG rfl) rfl hT1 rfl rfl rfl (Nat.le_of_ble_eq_true rfl) (Nat.le_of_ble_eq_true rfl) (jj_bare0 rfl) ?_
      refine w_equalTo hG hI hc hb hb2 (fun c3 => ?_) (fun c3 => ?_)
      · skip
        show jj G kM_equalTo (d + 2) Q rc rs 33 [some (.ref mx), some (.ref mx2), none, none] [.int (nI (1))] M
        refine jn_if_ne (pc := 33) (tgt := 38) kM_equalTo_d33 (by decide) (by omega) (fun _ => ?_) (fun c => by exfalso; omega)
        refine jn_iconst (pc := 38) 0 kM_equalTo_d38 (by decide) ?_
        refine jj_istore_n (pc := 39) kM_equalTo_d39 (Nat.le_of_ble_eq_true rfl) ?_
        show jj G kM_equalTo (d + 2) Q rc rs 40 [some (.ref mx), some (.ref mx2), some (.int (nI (0))), none] [] M
        show jj G kM_equalTo (d + 2) Q rc rs 40 [some (.ref mx), some (.ref mx2), some (.int (nI (0))), none] [] M
        have outer : ∀ mu i, r = i + mu → ∀ (oj : Option Value), (∀ i' j', thru c i 0 i' j' → V (b + (16 * i' + j')) = V (b2 + (16 * i' + j'))) → jj G kM_equalTo (d + 2) Q rc rs 40 [some (.ref mx), some (.ref mx2), some (.int (nI (i))), (oj)] [] M := by
          intro mu
          induction mu with
          | zero =>
            intro i hk oj v0
            have e9 : r = i := by omega
            subst e9
            refine jj_iload_n (pc := 40) kM_equalTo_d40 rfl ?_
            refine jj_aload_n (pc := 41) kM_equalTo_d41 rfl ?_
            refine jj_getf (pc := 42) kM_equalTo_d42 (kfM_rows hG) hm rfl ?_
            refine jn_icmp_ge (pc := 45) (tgt := 90) kM_equalTo_d45 (by decide) (by omega) (by omega) (fun _ => ?_) (fun c => by exfalso; omega)
            refine jn_iconst (pc := 90) 1 kM_equalTo_d90 (by decide) ?_
            exact jj_iret (pc := 91) kM_equalTo_d91 rfl (by rfl) (k1 ⟨rfl, rfl, c3, fun i j hi hj => v0 i j ⟨hj, Or.inl hi⟩⟩)
          | succ mu ih =>
            intro i hk oj v0
            refine jj_iload_n (pc := 40) kM_equalTo_d40 rfl ?_
            refine jj_aload_n (pc := 41) kM_equalTo_d41 rfl ?_
            refine jj_getf (pc := 42) kM_equalTo_d42 (kfM_rows hG) hm rfl ?_
            refine jn_icmp_ge (pc := 45) (tgt := 90) kM_equalTo_d45 (by decide) (by omega) (by omega) (fun c => by exfalso; omega) (fun _ => ?_)
            refine jn_iconst (pc := 48) 0 kM_equalTo_d48 (by decide) ?_
            refine jj_istore_n (pc := 49) kM_equalTo_d49 (Nat.le_of_ble_eq_true rfl) ?_
            show jj G kM_equalTo (d + 2) Q rc rs 50 [some (.ref mx), some (.ref mx2), some (.int (nI (i))), some (.int (nI (0)))] [] M
            show jj G kM_equalTo (d + 2) Q rc rs 50 [some (.ref mx), some (.ref mx2), some (.int (nI (i))), some (.int (nI (0)))] [] M
            have inner : ∀ mu2 j, c = j + mu2 → (∀ i' j', thru c i j i' j' → V (b + (16 * i' + j')) = V (b2 + (16 * i' + j'))) → jj G kM_equalTo (d + 2) Q rc rs 50 [some (.ref mx), some (.ref mx2), some (.int (nI (i))), some (.int (nI (j)))] [] M := by
              intro mu2
              induction mu2 with
              | zero =>
                intro j hk2 v0
                have e9 : c = j := by omega
                subst e9
                refine jj_iload_n (pc := 50) kM_equalTo_d50 rfl ?_
                refine jj_aload_n (pc := 51) kM_equalTo_d51 rfl ?_
                refine jj_getf (pc := 52) kM_equalTo_d52 (kfM_columns hG) hm rfl ?_
                refine jn_icmp_ge (pc := 55) (tgt := 84) kM_equalTo_d55 (by decide) (by omega) (by omega) (fun _ => ?_) (fun c => by exfalso; omega)
                refine jn_iinc (pc := 84) (i + 1) kM_equalTo_d84 rfl (nI_1 _) ?_
                refine jj_goto (pc := 87) (tgt := 40) kM_equalTo_d87 (by decide) ?_
                show jj G kM_equalTo (d + 2) Q rc rs 40 [some (.ref mx), some (.ref mx2), some (.int (nI (i + 1))), some (.int (nI (c)))] [] M
                refine ih (i + 1) (by omega) _ (fun i' j' h => v0 i' j' ?_)
                obtain ⟨g1, g2⟩ := h
                exact ⟨g1, by omega⟩
              | succ mu2 ih2 =>
                intro j hk2 v0
                obtain ⟨T9, t9, hT9, _, _⟩ := hc (b + (16 * i + j)) (by omega)
                refine jj_iload_n (pc := 50) kM_equalTo_d50 rfl ?_
                refine jj_aload_n (pc := 51) kM_equalTo_d51 rfl ?_
                refine jj_getf (pc := 52) kM_equalTo_d52 (kfM_columns hG) hm rfl ?_
                refine jn_icmp_ge (pc := 55) (tgt := 84) kM_equalTo_d55 (by decide) (by omega) (by omega) (fun c => by exfalso; omega) (fun _ => ?_)
                refine jj_aload_n (pc := 58) kM_equalTo_d58 rfl ?_
                refine jj_iload_n (pc := 59) kM_equalTo_d59 rfl ?_
                refine jj_iload_n (pc := 60) kM_equalTo_d60 rfl ?_
                refine jj_callV (pc := 61) (b := mx) (As := [.int (nI (i)), .int (nI (j))]) kM_equalTo_d61 (kvM_M_at hG) (kG_cl hG rfl) rfl hm rfl rfl rfl (Nat.le_of_ble_eq_true rfl) (Nat.le_of_ble_eq_true rfl) (jj_bare0 rfl) ?_
                refine m_at hG hM (by omega) (by omega) ?_
                show jj G kM_equalTo (d + 2) Q rc rs 64 [some (.ref mx), some (.ref mx2), some (.int (nI (i))), some (.int (nI (j)))] [.ref (wa (b + (16 * i + j)))] M
                refine jj_aload_n (pc := 64) kM_equalTo_d64 rfl ?_
                refine jj_iload_n (pc := 65) kM_equalTo_d65 rfl ?_
                refine jj_iload_n (pc := 66) kM_equalTo_d66 rfl ?_
                refine jj_callV (pc := 67) (b := mx2) (As := [.int (nI (i)), .int (nI (j))]) kM_equalTo_d67 (kvM_M_at hG) (kG_cl hG rfl) rfl hm2 rfl rfl rfl (Nat.le_of_ble_eq_true rfl) (Nat.le_of_ble_eq_true rfl) (jj_bare0 rfl) ?_
                refine m_at hG hM2 (by omega) (by omega) ?_
                show jj G kM_equalTo (d + 2) Q rc rs 70 [some (.ref mx), some (.ref mx2), some (.int (nI (i))), some (.int (nI (j)))] [.ref (wa (b2 + (16 * i + j))), .ref (wa (b + (16 * i + j)))] M
                refine jj_callV (pc := 70) (b := (wa (b + (16 * i + j)))) (As := [.ref (wa (b2 + (16 * i + j)))]) kM_equalTo_d70 (kvM_W_equalTo hG) (kG_cl hG rfl) rfl hT9 rfl rfl rfl (Nat.le_of_ble_eq_true rfl) (Nat.le_of_ble_eq_true rfl) (jj_bare0 rfl) ?_
                refine w_equalTo hG hI hc (by omega) (by omega) (fun c4 => ?_) (fun c4 => ?_)
                · skip
                  show jj G kM_equalTo (d + 2) Q rc rs 73 [some (.ref mx), some (.ref mx2), some (.int (nI (i))), some (.int (nI (j)))] [.int (nI (1))] M
                  refine jn_if_ne (pc := 73) (tgt := 78) kM_equalTo_d73 (by decide) (by omega) (fun _ => ?_) (fun c => by exfalso; omega)
                  refine jn_iinc (pc := 78) (j + 1) kM_equalTo_d78 rfl (nI_1 _) ?_
                  refine jj_goto (pc := 81) (tgt := 50) kM_equalTo_d81 (by decide) ?_
                  show jj G kM_equalTo (d + 2) Q rc rs 50 [some (.ref mx), some (.ref mx2), some (.int (nI (i))), some (.int (nI (j + 1)))] [] M
                  refine ih2 (j + 1) (by omega) (fun i' j' h => ?_)
                  obtain ⟨g1, g2⟩ := h
                  by_cases e : i' = i ∧ j' = j
                  · rw [e.1, e.2]; exact c4
                  · exact v0 i' j' ⟨g1, by omega⟩
                · skip
                  show jj G kM_equalTo (d + 2) Q rc rs 73 [some (.ref mx), some (.ref mx2), some (.int (nI (i))), some (.int (nI (j)))] [.int (nI (0))] M
                  refine jn_if_ne (pc := 73) (tgt := 78) kM_equalTo_d73 (by decide) (by omega) (fun c => by exfalso; omega) (fun _ => ?_)
                  refine jn_iconst (pc := 76) 0 kM_equalTo_d76 (by decide) ?_
                  exact jj_iret (pc := 77) kM_equalTo_d77 rfl (by rfl) (k0 (fun e => c4 (e.2.2.2 i j (by omega) (by omega))))
            exact inner c 0 (by omega) v0
        refine outer r 0 (by omega) none (fun i' j' h => ?_)
        obtain ⟨_, g9⟩ := h
        omega
      · skip
        show jj G kM_equalTo (d + 2) Q rc rs 33 [some (.ref mx), some (.ref mx2), none, none] [.int (nI (0))] M
        refine jn_if_ne (pc := 33) (tgt := 38) kM_equalTo_d33 (by decide) (by omega) (fun c => by exfalso; omega) (fun _ => ?_)
        refine jn_iconst (pc := 36) 0 kM_equalTo_d36 (by decide) ?_
        exact jj_iret (pc := 37) kM_equalTo_d37 rfl (by rfl) (k0 (fun e => c3 e.2.2.1))
end M6
