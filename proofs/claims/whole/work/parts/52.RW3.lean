/-! ===== Arrays.copyOf, Wholes.room, Wholes() (printed by wip/gen/rw3.py) ===== -/
section RW3
variable {G : jg} {d : Nat} {Q : jq} {rc rs : Nat} {M : mheap} {w dd : Nat} {v1 v2 : Value} {D : List Int32}
theorem cp_grow {D : List Int32} {n : Nat} (h : D.length ≤ n) : jj_cp (D.map Value.int) (List.replicate n (.int 0)) 0 0 D.length = (D ++ List.replicate (n - D.length) 0).map Value.int := by
  simp only [jj_cp, List.take_zero, List.nil_append, List.drop_zero, Nat.zero_add, List.map_append, List.map_replicate, List.drop_replicate]
  rw [List.take_of_length_le (by simp)]
theorem ja_copyOf {n : Nat} (hG : kG G) (hd : M dd = some (.inr 0, D.map .int)) (hl : D.length < n) (hn : n < 16777216) (h1 : 1 ≤ rc) (h2 : n ≤ rs) (k : ∀ b, M b = none → Q (.returned (some (.ref b))) (jj_up M b (.inr 0, (D ++ List.replicate (n - D.length) 0).map .int)) (rc - 1) (rs - n)) : jj G kJA_copyOf_2 (d + 1) Q rc rs 0 (jj_ent [.ref dd, .int (nI n)] 3) [] M := by
  show jj G kJA_copyOf_2 (d + 1) Q rc rs 0 [some (.ref dd), some (.int (nI n)), none] [] M
  refine jj_iload_n (pc := 0) kJA_copyOf_2_d0 rfl ?_
  refine jj_aload_n (pc := 1) kJA_copyOf_2_d1 rfl ?_
  refine jj_alen (pc := 2) kJA_copyOf_2_d2 hd ?_
  rw [List.length_map]
  refine jj_icmp_ne (pc := 3) (tgt := 14) kJA_copyOf_2_d3 (by decide) (fun c => ?_) (fun c => absurd ((nI_eq (by omega) (by omega)).mp c) (by omega))
  refine jj_iload_n (pc := 14) kJA_copyOf_2_d14 rfl ?_
  refine jj_newa (pc := 15) (j := 0) (n := n) (ty := .int) kJA_copyOf_2_d15 rfl (kG_t hG rfl) (fun C h => by cases h) (ka_int hG) rfl hn h1 h2 (fun b hb => ?_)
  have hne : dd ≠ b := fun e => by subst e; rw [hd] at hb; cases hb
  have hd' : jj_up M b (.inr 0, List.replicate n (defaultValue .int)) dd = some (.inr 0, D.map .int) := by rw [jj_up_ne _ _ hne]; exact hd
  refine jj_astore_n (pc := 17) kJA_copyOf_2_d17 (Nat.le_of_ble_eq_true rfl) ?_
  show jj G kJA_copyOf_2 (d + 1) Q (rc - 1) (rs - n) 18 [some (.ref dd), some (.int (nI n)), some (.ref b)] [] _
  refine jj_aload_n (pc := 18) kJA_copyOf_2_d18 rfl ?_
  refine jj_iconst (pc := 19) (v := 0) kJA_copyOf_2_d19 (by decide) ?_
  refine jj_aload_n (pc := 20) kJA_copyOf_2_d20 rfl ?_
  refine jj_iconst (pc := 21) (v := 0) kJA_copyOf_2_d21 (by decide) ?_
  refine jj_aload_n (pc := 22) kJA_copyOf_2_d22 rfl ?_
  refine jj_alen (pc := 23) kJA_copyOf_2_d23 hd' ?_
  refine jj_iload_n (pc := 24) kJA_copyOf_2_d24 rfl ?_
  rw [List.length_map]
  refine jj_callS (pc := 25) (As := [.int (nI D.length), .int (nI n)]) kJA_copyOf_2_d25 (kvJA_JM_min_1 hG) rfl rfl rfl (Nat.le_of_ble_eq_true rfl) (Nat.le_of_ble_eq_true rfl) (jj_bare0 rfl) ?_
  refine jm_min_1 ?_
  rw [if_neg (nI_nlt (Nat.le_of_lt hl) (by omega))]
  show jj G kJA_copyOf_2 (d + 1) Q (rc - 1) (rs - n) 28 [some (.ref dd), some (.int (nI n)), some (.ref b)] [.int (nI D.length), .int 0, .ref b, .int 0, .ref dd] _
  refine jj_acopy (pc := 28) (sp := 0) (dp := 0) (n := D.length) kJA_copyOf_2_d28 (koJA_copy hG) (ka_nat hG) (ka_sta hG) (ka_ini hG) (kG_t hG rfl) hd' (jj_up_at _ _ _) rfl rfl rfl (by simp) (by simp; omega) (by simp; omega) (by simp; omega) (fun i hi => ⟨_, by rw [Nat.zero_add]; exact gd_int hi⟩) rfl (by decide +kernel) ?_
  rw [jj_up_up]
  rw [show List.replicate n (defaultValue .int) = List.replicate n (Value.int 0) from rfl, cp_grow (Nat.le_of_lt hl)]
  refine jj_aload_n (pc := 31) kJA_copyOf_2_d31 rfl ?_
  exact jj_aret (pc := 32) kJA_copyOf_2_d32 rfl (Or.inr ⟨_, rfl⟩) (k b hb)
/-- what the work area's array of length n may still make while it stays within c -/
def rpot (c n : Nat) : Nat := 2 * c - 2 * n
theorem rw_room {T n cm j X Z : Nat} {v2 : Value} (hG : kG G) (hw : M w = some (.inl nRW, [.ref dd, .int (nI T), v2])) (hd : M dd = some (.inr 0, D.map .int)) (h0 : 0 < D.length) (hc : cm = D.length * 2 ^ j) (hc2 : cm < 16777216) (hT : T + n ≤ cm) (h1 : j + Z ≤ rc) (h2 : rpot cm D.length + X ≤ rs)
    (k0 : T + n ≤ D.length → Q (.returned none) M rc rs)
    (k1 : ∀ b i, D.length < T + n → M b = none → i < j → T + n ≤ D.length * 2 ^ (i + 1) → rpot cm (D.length * 2 ^ (i + 1)) + X ≤ rs - D.length * 2 ^ (i + 1) → Q (.returned none) (jj_up (jj_up M b (.inr 0, (D ++ List.replicate (D.length * 2 ^ (i + 1) - D.length) 0).map .int)) w (.inl nRW, [.ref b, .int (nI T), v2])) (rc - 1) (rs - D.length * 2 ^ (i + 1))) : jj G kRW_room (d + 2) Q rc rs 0 (jj_ent [.ref w, .int (nI n)] 3) [] M := by
  show jj G kRW_room (d + 2) Q rc rs 0 [some (.ref w), some (.int (nI n)), none] [] M
  have hwd : w ≠ dd := fun e => by subst e; rw [hw] at hd; cases hd
  have hlc : D.length ≤ cm := by rw [hc]; exact Nat.le_mul_of_pos_right _ (Nat.pow_pos (by decide))
  refine jj_aload_n (pc := 0) kRW_room_d0 rfl ?_
  refine jj_getf (pc := 1) kRW_room_d1 (kfRW_d hG) hw rfl ?_
  refine jj_alen (pc := 4) kRW_room_d4 hd ?_
  refine jj_istore_n (pc := 5) kRW_room_d5 (Nat.le_of_ble_eq_true rfl) ?_
  rw [List.length_map]
  show jj G kRW_room (d + 2) Q rc rs 6 [some (.ref w), some (.int (nI n)), some (.int (nI D.length))] [] M
  have fin : ∀ i, i ≤ j → T + n ≤ D.length * 2 ^ i → (i = 0 ∨ D.length < T + n) → jj G kRW_room (d + 2) Q rc rs 23 [some (.ref w), some (.int (nI n)), some (.int (nI (D.length * 2 ^ i)))] [] M := by
    intro i hi hti hor
    have hib : D.length * 2 ^ i ≤ cm := by rw [hc]; exact Nat.mul_le_mul_left _ (Nat.pow_le_pow_right (by decide) hi)
    refine jj_iload_n (pc := 23) kRW_room_d23 rfl ?_
    refine jj_aload_n (pc := 24) kRW_room_d24 rfl ?_
    refine jj_getf (pc := 25) kRW_room_d25 (kfRW_d hG) hw rfl ?_
    refine jj_alen (pc := 28) kRW_room_d28 hd ?_
    rw [List.length_map]
    refine jj_icmp_le (pc := 29) (tgt := 44) kRW_room_d29 (by decide) (fun c => ?_) (fun c => ?_)
    · have h3 : D.length * 2 ^ i ≤ D.length := (nI_leI (by omega) (by omega)).mp c
      exact jj_vret (pc := 44) kRW_room_d44 rfl (k0 (by omega))
    · have h3 : D.length < D.length * 2 ^ i := Nat.not_le.mp fun q => c (nI_le q (by omega))
      cases i with
      | zero => simp at h3
      | succ i =>
        have h4 : D.length < T + n := by rcases hor with h | h; cases h; exact h
        have h5 : 2 * D.length ≤ D.length * 2 ^ (i + 1) := by
          rw [Nat.pow_succ, ← Nat.mul_assoc, Nat.mul_comm _ 2]
          exact Nat.mul_le_mul_left 2 (Nat.le_mul_of_pos_right _ (Nat.pow_pos (by decide)))
        have h6 : rpot cm (D.length * 2 ^ (i + 1)) + X ≤ rs - D.length * 2 ^ (i + 1) ∧ D.length * 2 ^ (i + 1) ≤ rs := by
          unfold rpot at h2 ⊢
          omega
        refine jj_aload_n (pc := 32) kRW_room_d32 rfl ?_
        refine jj_aload_n (pc := 33) kRW_room_d33 rfl ?_
        refine jj_getf (pc := 34) kRW_room_d34 (kfRW_d hG) hw rfl ?_
        refine jj_iload_n (pc := 37) kRW_room_d37 rfl ?_
        refine jj_callS (pc := 38) (As := [.ref dd, .int (nI (D.length * 2 ^ (i + 1)))]) kRW_room_d38 (kvRW_JA_copyOf_2 hG) rfl rfl rfl (Nat.le_of_ble_eq_true rfl) (Nat.le_of_ble_eq_true rfl) (jj_bare0 rfl) ?_
        refine ja_copyOf hG hd h3 (by omega) (by omega) h6.2 (fun b hb => ?_)
        show jj G kRW_room (d + 2) Q (rc - 1) (rs - D.length * 2 ^ (i + 1)) 41 [some (.ref w), some (.int (nI n)), some (.int (nI (D.length * 2 ^ (i + 1))))] [.ref b, .ref w] _
        have hwb : w ≠ b := fun e => by subst e; rw [hw] at hb; cases hb
        refine jj_putf (pc := 41) kRW_room_d41 (kpRW_d hG) (by rw [jj_up_ne _ _ hwb]; exact hw) rfl rfl ?_
        exact jj_vret (pc := 44) kRW_room_d44 rfl (k1 b i h4 hb (by omega) hti h6.1)

  have loop : ∀ m i, j ≤ i + m → i ≤ j → (i = 0 ∨ D.length < T + n) → jj G kRW_room (d + 2) Q rc rs 6 [some (.ref w), some (.int (nI n)), some (.int (nI (D.length * 2 ^ i)))] [] M := by
    intro m
    induction m with
    | zero =>
      intro i hji hi hor
      have e : i = j := by omega
      subst e
      refine jj_aload_n (pc := 6) kRW_room_d6 rfl ?_
      refine jj_getf (pc := 7) kRW_room_d7 (kfRW_top hG) hw rfl ?_
      refine jj_iload_n (pc := 10) kRW_room_d10 rfl ?_
      refine jj_iadd (pc := 11) kRW_room_d11 ?_
      refine jj_iload_n (pc := 12) kRW_room_d12 rfl ?_
      rw [nI_add]
      refine jj_icmp_le (pc := 13) (tgt := 23) kRW_room_d13 (by decide) (fun c => ?_) (fun c => absurd (nI_le (by omega) (by omega)) c)
      exact fin i hi (by omega) hor
    | succ m ih =>
      intro i hji hi hor
      have hib : D.length * 2 ^ i ≤ cm := by rw [hc]; exact Nat.mul_le_mul_left _ (Nat.pow_le_pow_right (by decide) hi)
      refine jj_aload_n (pc := 6) kRW_room_d6 rfl ?_
      refine jj_getf (pc := 7) kRW_room_d7 (kfRW_top hG) hw rfl ?_
      refine jj_iload_n (pc := 10) kRW_room_d10 rfl ?_
      refine jj_iadd (pc := 11) kRW_room_d11 ?_
      refine jj_iload_n (pc := 12) kRW_room_d12 rfl ?_
      rw [nI_add]
      refine jj_icmp_le (pc := 13) (tgt := 23) kRW_room_d13 (by decide) (fun c => ?_) (fun c => ?_)
      · exact fin i hi ((nI_leI (by omega) (by omega)).mp c) hor
      · have h3 : D.length * 2 ^ i < T + n := Nat.not_le.mp fun q => c (nI_le q (by omega))
        have hij : i < j := by
          rcases Nat.lt_or_ge i j with h | h
          · exact h
          · have e : i = j := by omega
            subst e
            omega
        refine jj_iconst (pc := 16) (v := 2) kRW_room_d16 (by decide) ?_
        refine jj_iload_n (pc := 17) kRW_room_d17 rfl ?_
        refine jj_imul (pc := 18) kRW_room_d18 ?_
        refine jj_istore_n (pc := 19) kRW_room_d19 (Nat.le_of_ble_eq_true rfl) ?_
        refine jj_goto (pc := 20) (tgt := 6) kRW_room_d20 (by decide) ?_
        show jj G kRW_room (d + 2) Q rc rs 6 [some (.ref w), some (.int (nI n)), some (.int (2 * nI (D.length * 2 ^ i)))] [] M
        rw [show (2 : Int32) = nI 2 from rfl, pk_mul, show 2 * (D.length * 2 ^ i) = D.length * 2 ^ (i + 1) by rw [Nat.pow_succ, Nat.mul_left_comm, Nat.mul_comm 2]]
        have hDl : D.length ≤ D.length * 2 ^ i := Nat.le_mul_of_pos_right _ (Nat.pow_pos (by decide))
        exact ih (i + 1) (by omega) hij (Or.inr (by omega))
  have := loop j 0 (by omega) (Nat.zero_le j) (Or.inl rfl)
  simpa using this
theorem rw_init {v0 : Value} (hG : kG G) (hw : M w = some (.inl nRW, [v0, v1, v2])) (h1 : 1 ≤ rc) (h2 : 4096 ≤ rs) (k : ∀ b, M b = none → Q (.returned none) (jj_up (jj_up M b (.inr 0, (List.replicate 4096 (0 : Int32)).map .int)) w (.inl nRW, [.ref b, .int 1, v2])) (rc - 1) (rs - 4096)) : jj G kRW_init (d + 1) Q rc rs 0 (jj_ent [.ref w] 1) [] M := by
  show jj G kRW_init (d + 1) Q rc rs 0 [some (.ref w)] [] M
  refine jj_aload_n (pc := 0) kRW_init_d0 rfl ?_
  refine jj_objInit (pc := 1) kRW_init_d1 (koRW_obj hG) (ko_inst hG) (ko_code hG) rfl (Nat.le_of_ble_eq_true rfl) ?_
  refine jj_aload_n (pc := 4) kRW_init_d4 rfl ?_
  refine jj_sipush (pc := 5) (v := 4096) kRW_init_d5 (by decide) ?_
  refine jj_newa (pc := 8) (j := 0) (n := 4096) (ty := .int) kRW_init_d8 rfl (kG_t hG rfl) (fun C h => by cases h) (ka_int hG) rfl (by decide) h1 h2 (fun b hb => ?_)
  have hne : w ≠ b := fun e => by subst e; rw [hw] at hb; cases hb
  refine jj_putf (pc := 10) kRW_init_d10 (kpRW_d hG) (by rw [jj_up_ne _ _ hne]; exact hw) rfl rfl ?_
  refine jj_aload_n (pc := 13) kRW_init_d13 rfl ?_
  refine jj_iconst (pc := 14) (v := 1) kRW_init_d14 (by decide) ?_
  refine jj_putf (pc := 15) kRW_init_d15 (kpRW_top hG) (jj_up_at _ _ _) rfl rfl ?_
  rw [jj_up_up]
  refine jj_vret (pc := 18) kRW_init_d18 rfl ?_
  have e : (List.replicate 4096 (0 : Int32)).map Value.int = List.replicate 4096 (defaultValue .int) := by rw [List.map_replicate]; rfl
  have := k b hb
  rw [e] at this
  exact this
end RW3
