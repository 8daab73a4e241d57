/-! ===== Matrix: the constructor (printed by wip/gen/rI2.py) ===== -/
section I2
variable {G : jg} {d : Nat} {Q : jq} {rc rs : Nat} {M : mheap}
theorem m_init {mx c b ka : Nat} {ad : Nat → Nat} {D : Nat → Prop} (hG : kG G) (hc1 : 1 ≤ c) (hc2 : c < 2000) (hmx : M mx = some (.inl nM, [.int (nI 0), .int (nI 0), .null, .null])) (hL : LB M ad D) (hka : ka < 2 * b ∨ 2 * (b + 257) ≤ ka) (hrc : 515 ≤ rc) (hrs : 256 + 257 * (3 + c) ≤ rs) (k : ∀ (M' : mheap) (ad' : Nat → Nat) (rc' rs' : Nat), LB M' ad' (fun k => D k ∨ k = ka ∨ (2 * b ≤ k ∧ k < 2 * (b + 257))) → (∀ k, k ≠ ka → k < 2 * b ∨ 2 * (b + 257) ≤ k → ad' k = ad k) → MXT M' (fun p => ad' (2 * p)) mx (ad' ka) b 1 1 → (∀ i, i ≤ 256 → WH M' (ad' (2 * (b + i))) (ad' (2 * (b + i) + 1)) c (if i = 256 then 1 else 0)) → (∀ x, x ≠ mx → M x ≠ none → M' x = M x) → rc ≤ rc' + 515 → rs ≤ rs' + (256 + 257 * (3 + c)) → Q (.returned none) M' rc' rs') : jj G kM_init (d + 2) Q rc rs 0 (jj_ent [.ref mx, .int (nI c)] 3) [] M := by
  show jj G kM_init (d + 2) Q rc rs 0 [some (.ref mx), some (.int (nI (c))), none] [] M
  refine jj_aload_n (pc := 0) kM_init_d0 rfl ?_
  refine jj_objInit (pc := 1) kM_init_d1 (koM_obj hG) (ko_inst hG) (ko_code hG) rfl (Nat.le_of_ble_eq_true rfl) ?_
  show jj G kM_init (d + 2) Q rc rs 4 [some (.ref mx), some (.int (nI (c))), none] [] M
  refine jj_aload_n (pc := 4) kM_init_d4 rfl ?_
  refine jn_iconst (pc := 5) 1 kM_init_d5 (by decide) ?_
  refine jj_putf (pc := 6) kM_init_d6 (kpM_rows hG) hmx (by rfl) rfl ?_
  refine jn_gen (fun M101 hM102 => ?_)
  have h103 : M101 mx = some (.inl nM, [.int (nI (1)), .int (nI (0)), .null, .null]) := by rw [hM102]; exact jj_up_at _ _ _
  refine jj_aload_n (pc := 9) kM_init_d9 rfl ?_
  refine jn_iconst (pc := 10) 1 kM_init_d10 (by decide) ?_
  refine jj_putf (pc := 11) kM_init_d11 (kpM_columns hG) h103 (by rfl) rfl ?_
  refine jn_gen (fun M104 hM105 => ?_)
  have h106 : M104 mx = some (.inl nM, [.int (nI (1)), .int (nI (1)), .null, .null]) := by rw [hM105]; exact jj_up_at _ _ _
  refine jj_aload_n (pc := 14) kM_init_d14 rfl ?_
  refine jn_sipush (pc := 15) 256 kM_init_d15 (by decide) ?_
  refine jj_anew (pc := 18) (j := 3) (n := 256) kM_init_d18 (kG_t hG rfl) (knM_arrW hG).1 (knM_arrW hG).2 rfl (by decide) (by omega) (by omega) (fun ar har => ?_)
  have nar : ar ≠ mx := fun e => by rw [e, h106] at har; cases har
  refine jn_gen (fun Ma eMa => ?_)
  have hmxa : Ma mx = _ := (by rw [eMa, jj_up_ne _ _ (Ne.symm nar)]; exact h106)
  show jj G kM_init (d + 2) Q (rc - 1) (rs - 256) 21 [some (.ref mx), some (.int (nI (c))), none] [.ref ar, .ref mx] Ma
  refine jj_putF (pc := 21) kM_init_d21 (kpM_cells hG) rfl hmxa (by rfl) rfl ?_
  refine jn_gen (fun M107 hM108 => ?_)
  have h109 : M107 mx = some (.inl nM, [.int (nI (1)), .int (nI (1)), .null, .ref ar]) := by rw [hM108]; exact jj_up_at _ _ _
  refine jn_iconst (pc := 24) 0 kM_init_d24 (by decide) ?_
  refine jj_istore_n (pc := 25) kM_init_d25 (Nat.le_of_ble_eq_true rfl) ?_
  show jj G kM_init (d + 2) Q (rc - 1) (rs - 256) 26 [some (.ref mx), some (.int (nI (c))), some (.int (nI (0)))] [] M107
end I2
