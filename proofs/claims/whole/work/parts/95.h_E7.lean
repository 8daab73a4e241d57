/-! ===== Elimination: weigh, hasMoreBehind (printed by wip/gen/rE7.py) ===== -/
/-- the longest cell of the grid -/
def glong (Z : imat) (m w : Nat) : Nat := nmax (fun i => nmax (fun j => blen (Z i j)) w) m
section E7
variable {G : jg} {d : Nat} {Q : jq} {rc rs : Nat} {M : mheap} {wa la cap : Nat → Nat} {N eu dv hi lo dk el ra pa ia ga rk sw m w : Nat} {P B : List Int32} {g : Nat → Nat} {V : Nat → Int}
theorem e_weigh (hG : kG G) (hK : KJI wa la cap N hi lo) (hS : KS M wa la cap N eu dv hi lo dk V) (hJ : LJ wa la cap N eu dv hi lo dk el ra pa ia ga) (hL : ELT M wa el ra pa ia ga dk rk sw m w P B g) (h1m : 1 ≤ m) (hm : m ≤ 16) (h1w : 1 ≤ w) (hw : w ≤ 32) (hrc : 1 ≤ rc) (hrs : 6 ≤ rs) (k : ¬ hvy (min m w) (glong (gz V g) m w) → Q (.returned none) M rc rs) (kt : hvy (min m w) (glong (gz V g) m w) → ∀ x, M x = none → Q (.threw x) (jj_up M x (.inl 6, [])) (rc - 1) (rs - 6)) : jj G kE_weigh (d + 8) Q rc rs 0 (jj_ent [.ref el] 4) [] M := by
  have hI := hK.1
  have hc := hS.1
  have hGP := hL.2.2.2.2.2
  have h547 := hJ.1
  have hl0 := hL.1
  have hbc : ∀ n, n < 512 → blen (V (g n)) ≤ 64000 := fun n hn => by
    have := hGP.1 n hn
    exact Nat.le_of_lt (blen_cap hI hc (by omega))
  have hb1 : ∀ i j, i < m → j ≤ w → nmax (fun j' => blen (V (g (32 * i + j')))) j ≤ 64000 := fun i j hi hj => nmax_le (fun x hx => hbc _ (by omega))
  have hb2 : ∀ i, i ≤ m → nmax (fun i => nmax (fun j => blen (V (g (32 * i + j)))) w) i ≤ 64000 := fun i hi => nmax_le (fun x hx => hb1 x w (by omega) (Nat.le_refl _))
  show jj G kE_weigh (d + 8) Q rc rs 0 [some (.ref el), none, none, none] [] M
  have outer : ∀ mu i, m = i + mu → ∀ (oj : Option Value) (b : Nat), b = nmax (fun i => nmax (fun j => blen (V (g (32 * i + j)))) w) i → jj G kE_weigh (d + 8) Q rc rs 4 [some (.ref el), some (.int (nI (b))), some (.int (nI (i))), (oj)] [] M := by
    intro mu
    induction mu with
    | zero =>
      intro i hk oj b hb
      have ei : m = i := by omega
      subst ei
      have hbm := hb2 m (Nat.le_refl _)
      obtain ⟨kk, ekk⟩ : ∃ kk, min m w = kk := ⟨_, rfl⟩
      have hg : glong (gz V g) m w = b := hb.symm
      rw [ekk, hg] at k kt
      have hlg : lgc kk ≤ 10 := lgc_small (by omega) (by omega)
      refine jj_iload_n (pc := 4) kE_weigh_d4 rfl ?_
      refine jj_aload_n (pc := 5) kE_weigh_d5 rfl ?_
      refine jj_getf (pc := 6) kE_weigh_d6 (kfE_rows hG) hl0 rfl ?_
      refine jn_icmp_ge (pc := 9) (tgt := 48) kE_weigh_d9 (by decide) (by omega) (by omega) (fun _ => ?_) (fun c => by exfalso; omega)
      refine jj_aload_n (pc := 48) kE_weigh_d48 rfl ?_
      refine jj_getf (pc := 49) kE_weigh_d49 (kfE_rows hG) hl0 rfl ?_
      refine jj_aload_n (pc := 52) kE_weigh_d52 rfl ?_
      refine jj_getf (pc := 53) kE_weigh_d53 (kfE_width hG) hl0 rfl ?_
      refine jj_callS (pc := 56) (As := [.int (nI (m)), .int (nI (w))]) kE_weigh_d56 (kvE_JM_min_1 hG) rfl rfl rfl (Nat.le_of_ble_eq_true rfl) (Nat.le_of_ble_eq_true rfl) (jj_bare0 rfl) ?_
      refine jm_min_1 ?_
      show jj G kE_weigh (d + 8) Q rc rs 59 [some (.ref el), some (.int (nI (b))), some (.int (nI (m))), (oj)] [.int ((if nI (w) < nI (m) then nI (w) else nI (m)))] M
      refine jn_top (.int (nI (kk))) (by rw [nI_mn (by omega) (by omega), ekk]) ?_
      refine jj_istore_n (pc := 59) kE_weigh_d59 (Nat.le_of_ble_eq_true rfl) ?_
      show jj G kE_weigh (d + 8) Q rc rs 60 [some (.ref el), some (.int (nI (b))), some (.int (nI (kk))), (oj)] [] M
      refine jn_iconst (pc := 60) 0 kE_weigh_d60 (by decide) ?_
      refine jj_istore_n (pc := 61) kE_weigh_d61 (Nat.le_of_ble_eq_true rfl) ?_
      show jj G kE_weigh (d + 8) Q rc rs 62 [some (.ref el), some (.int (nI (b))), some (.int (nI (kk))), some (.int (nI (0)))] [] M
      show jj G kE_weigh (d + 8) Q rc rs 62 [some (.ref el), some (.int (nI (b))), some (.int (nI (kk))), some (.int (nI (0)))] [] M
      have count : ∀ mu e, lgc kk = e + mu → jj G kE_weigh (d + 8) Q rc rs 62 [some (.ref el), some (.int (nI (b))), some (.int (nI (kk))), some (.int (nI (e)))] [] M := by
        intro mu
        induction mu with
        | zero =>
          intro e he
          have ee : lgc kk = e := by omega
          have h2 := lgc_le (show 1 ≤ kk by omega)
          rw [ee] at h2
          have h4 : 2 ^ e ≤ 2 ^ 10 := Nat.pow_le_pow_right (by decide) (by omega)
          refine jj_iload_n (pc := 62) kE_weigh_d62 rfl ?_
          refine jn_bipush (pc := 63) 16 kE_weigh_d63 (by decide) ?_
          refine jn_icmp_ge (pc := 65) (tgt := 81) kE_weigh_d65 (by decide) (by omega) (by omega) (fun c => by exfalso; omega) (fun _ => ?_)
          refine jn_iconst (pc := 68) 1 kE_weigh_d68 (by decide) ?_
          refine jj_iload_n (pc := 69) kE_weigh_d69 rfl ?_
          refine jj_ishl (pc := 70) kE_weigh_d70 ?_
          refine jn_top (.int (nI (2 ^ e))) (congrArg Value.int (shl1 _ (by omega))) ?_
          refine jj_iload_n (pc := 71) kE_weigh_d71 rfl ?_
          refine jn_icmp_ge (pc := 72) (tgt := 81) kE_weigh_d72 (by decide) (by omega) (by omega) (fun _ => ?_) (fun c => by exfalso; omega)
          have hbd : kk * (b + e) ≤ 16 * (b + e) := Nat.mul_le_mul_right _ (by omega)
          refine jj_iload_n (pc := 81) kE_weigh_d81 rfl ?_
          refine jj_iload_n (pc := 82) kE_weigh_d82 rfl ?_
          refine jj_iload_n (pc := 83) kE_weigh_d83 rfl ?_
          refine jn_iadd (pc := 84) (b + e) kE_weigh_d84 (by omega) ?_
          refine jn_imul (pc := 85) (kk * (b + e)) kE_weigh_d85 rfl ?_
          refine jn_sipush (pc := 86) 2000 kE_weigh_d86 (by decide) ?_
          refine jn_icmp_le (pc := 89) (tgt := 102) kE_weigh_d89 (by decide) (by omega) (by omega) (fun cw => ?_) (fun cw => ?_)
          · skip
            exact jj_vret (pc := 102) kE_weigh_d102 rfl (k (fun h => by unfold hvy at h; rw [ee] at h; omega))
          · skip
            exact jj_throw (pc := 92) (ll := 2) kE_weigh_d92 kE_weigh_d95 (Or.inl ⟨kE_weigh_d96, rfl⟩) kE_weigh_d98 kE_weigh_d101 (ktE_WEIGHT_is_above_2000 hG) rfl (Nat.le_of_ble_eq_true rfl) (jj_bare0 rfl) hrc hrs (fun x hx => kt (by unfold hvy; rw [ee]; omega) x hx)
        | succ mu ih =>
          intro e he
          have h3 := lgc_lt (show 1 ≤ kk by omega) (show e < lgc kk by omega)
          refine jj_iload_n (pc := 62) kE_weigh_d62 rfl ?_
          refine jn_bipush (pc := 63) 16 kE_weigh_d63 (by decide) ?_
          refine jn_icmp_ge (pc := 65) (tgt := 81) kE_weigh_d65 (by decide) (by omega) (by omega) (fun c => by exfalso; omega) (fun _ => ?_)
          refine jn_iconst (pc := 68) 1 kE_weigh_d68 (by decide) ?_
          refine jj_iload_n (pc := 69) kE_weigh_d69 rfl ?_
          refine jj_ishl (pc := 70) kE_weigh_d70 ?_
          refine jn_top (.int (nI (2 ^ e))) (congrArg Value.int (shl1 _ (by omega))) ?_
          refine jj_iload_n (pc := 71) kE_weigh_d71 rfl ?_
          refine jn_icmp_ge (pc := 72) (tgt := 81) kE_weigh_d72 (by decide) (by omega) (by omega) (fun c => by exfalso; omega) (fun _ => ?_)
          refine jn_iinc (pc := 75) (e + 1) kE_weigh_d75 rfl (nI_1 _) ?_
          refine jj_goto (pc := 78) (tgt := 62) kE_weigh_d78 (by decide) ?_
          show jj G kE_weigh (d + 8) Q rc rs 62 [some (.ref el), some (.int (nI (b))), some (.int (nI (kk))), some (.int (nI (e + 1)))] [] M
          exact ih (e + 1) (by omega)
      exact count (lgc kk) 0 (by omega)
    | succ mu ih =>
      intro i hk oj b hb
      refine jj_iload_n (pc := 4) kE_weigh_d4 rfl ?_
      refine jj_aload_n (pc := 5) kE_weigh_d5 rfl ?_
      refine jj_getf (pc := 6) kE_weigh_d6 (kfE_rows hG) hl0 rfl ?_
      refine jn_icmp_ge (pc := 9) (tgt := 48) kE_weigh_d9 (by decide) (by omega) (by omega) (fun c => by exfalso; omega) (fun _ => ?_)
      refine jn_iconst (pc := 12) 0 kE_weigh_d12 (by decide) ?_
      refine jj_istore_n (pc := 13) kE_weigh_d13 (Nat.le_of_ble_eq_true rfl) ?_
      show jj G kE_weigh (d + 8) Q rc rs 14 [some (.ref el), some (.int (nI (b))), some (.int (nI (i))), some (.int (nI (0)))] [] M
      show jj G kE_weigh (d + 8) Q rc rs 14 [some (.ref el), some (.int (nI (b))), some (.int (nI (i))), some (.int (nI (0)))] [] M
      have inner : ∀ mu2 j, w = j + mu2 → ∀ b, b = max (nmax (fun i => nmax (fun j => blen (V (g (32 * i + j)))) w) i) (nmax (fun j' => blen (V (g (32 * i + j')))) j) → jj G kE_weigh (d + 8) Q rc rs 14 [some (.ref el), some (.int (nI (b))), some (.int (nI (i))), some (.int (nI (j)))] [] M := by
        intro mu2
        induction mu2 with
        | zero =>
          intro j hk2 b hb
          have ej : w = j := by omega
          subst ej
          refine jj_iload_n (pc := 14) kE_weigh_d14 rfl ?_
          refine jj_aload_n (pc := 15) kE_weigh_d15 rfl ?_
          refine jj_getf (pc := 16) kE_weigh_d16 (kfE_width hG) hl0 rfl ?_
          refine jn_icmp_ge (pc := 19) (tgt := 42) kE_weigh_d19 (by decide) (by omega) (by omega) (fun _ => ?_) (fun c => by exfalso; omega)
          refine jn_iinc (pc := 42) (i + 1) kE_weigh_d42 rfl (nI_1 _) ?_
          refine jj_goto (pc := 45) (tgt := 4) kE_weigh_d45 (by decide) ?_
          show jj G kE_weigh (d + 8) Q rc rs 4 [some (.ref el), some (.int (nI (b))), some (.int (nI (i + 1))), some (.int (nI (w)))] [] M
          exact ih (i + 1) (by omega) _ b hb
        | succ mu2 ih2 =>
          intro j hk2 b hb
          have b1 := hb1 i j (by omega) (by omega)
          have b2 := hb2 i (by omega)
          have b3 := hbc (32 * i + j) (by omega)
          have gp := hGP.1 (32 * i + j) (by omega)
          obtain ⟨T9, t9, hT9, _, _⟩ := hc (g (32 * i + j)) (by omega)
          refine jj_iload_n (pc := 14) kE_weigh_d14 rfl ?_
          refine jj_aload_n (pc := 15) kE_weigh_d15 rfl ?_
          refine jj_getf (pc := 16) kE_weigh_d16 (kfE_width hG) hl0 rfl ?_
          refine jn_icmp_ge (pc := 19) (tgt := 42) kE_weigh_d19 (by decide) (by omega) (by omega) (fun c => by exfalso; omega) (fun _ => ?_)
          refine jj_iload_n (pc := 22) kE_weigh_d22 rfl ?_
          refine jj_aload_n (pc := 23) kE_weigh_d23 rfl ?_
          refine jj_iload_n (pc := 24) kE_weigh_d24 rfl ?_
          refine jj_iload_n (pc := 25) kE_weigh_d25 rfl ?_
          refine jj_callV (pc := 26) (b := el) (As := [.int (nI (i)), .int (nI (j))]) kE_weigh_d26 (kvE_E_at hG) (kG_cl hG rfl) rfl hl0 rfl rfl rfl (Nat.le_of_ble_eq_true rfl) (Nat.le_of_ble_eq_true rfl) (jj_bare0 rfl) ?_
          refine e_at hG hL (by omega) (by omega) ?_
          show jj G kE_weigh (d + 8) Q rc rs 29 [some (.ref el), some (.int (nI (b))), some (.int (nI (i))), some (.int (nI (j)))] [.ref (wa (g (32 * i + j))), .int (nI (b))] M
          refine jj_callV (pc := 29) (b := (wa (g (32 * i + j)))) (As := []) kE_weigh_d29 (kvE_W_bits hG) (kG_cl hG rfl) rfl hT9 rfl rfl rfl (Nat.le_of_ble_eq_true rfl) (Nat.le_of_ble_eq_true rfl) (jj_bare0 rfl) ?_
          refine w_bits hG hI hc (by omega) ?_
          show jj G kE_weigh (d + 8) Q rc rs 32 [some (.ref el), some (.int (nI (b))), some (.int (nI (i))), some (.int (nI (j)))] [.int (nI (blen (V (g (32 * i + j))))), .int (nI (b))] M
          refine jj_callS (pc := 32) (As := [.int (nI (b)), .int (nI (blen (V (g (32 * i + j)))))]) kE_weigh_d32 (kvE_JM_max hG) rfl rfl rfl (Nat.le_of_ble_eq_true rfl) (Nat.le_of_ble_eq_true rfl) (jj_bare0 rfl) ?_
          refine jm_max ?_
          show jj G kE_weigh (d + 8) Q rc rs 35 [some (.ref el), some (.int (nI (b))), some (.int (nI (i))), some (.int (nI (j)))] [.int ((if nI (b) < nI (blen (V (g (32 * i + j)))) then nI (blen (V (g (32 * i + j)))) else nI (b)))] M
          refine jn_top (.int (nI (max b (blen (V (g (32 * i + j))))))) (by rw [nI_mx (by omega) (by omega)]) ?_
          refine jj_istore_n (pc := 35) kE_weigh_d35 (Nat.le_of_ble_eq_true rfl) ?_
          show jj G kE_weigh (d + 8) Q rc rs 36 [some (.ref el), some (.int (nI (max b (blen (V (g (32 * i + j))))))), some (.int (nI (i))), some (.int (nI (j)))] [] M
          refine jn_iinc (pc := 36) (j + 1) kE_weigh_d36 rfl (nI_1 _) ?_
          refine jj_goto (pc := 39) (tgt := 14) kE_weigh_d39 (by decide) ?_
          show jj G kE_weigh (d + 8) Q rc rs 14 [some (.ref el), some (.int (nI (max b (blen (V (g (32 * i + j))))))), some (.int (nI (i))), some (.int (nI (j + 1)))] [] M
          refine ih2 (j + 1) (by omega) _ ?_
          rw [hb]
          exact Nat.max_assoc _ _ _
      exact inner w 0 (by omega) b (by rw [hb]; show _ = max _ 0; omega)
  refine jn_iconst (pc := 0) 0 kE_weigh_d0 (by decide) ?_
  refine jj_istore_n (pc := 1) kE_weigh_d1 (Nat.le_of_ble_eq_true rfl) ?_
  show jj G kE_weigh (d + 8) Q rc rs 2 [some (.ref el), some (.int (nI (0))), none, none] [] M
  refine jn_iconst (pc := 2) 0 kE_weigh_d2 (by decide) ?_
  refine jj_istore_n (pc := 3) kE_weigh_d3 (Nat.le_of_ble_eq_true rfl) ?_
  show jj G kE_weigh (d + 8) Q rc rs 4 [some (.ref el), some (.int (nI (0))), some (.int (nI (0))), none] [] M
  show jj G kE_weigh (d + 8) Q rc rs 4 [some (.ref el), some (.int (nI (0))), some (.int (nI (0))), none] [] M
  exact outer m 0 (by omega) _ 0 rfl
theorem e_hasMore {c : Nat} (hG : kG G) (hK : KJI wa la cap N hi lo) (hS : KS M wa la cap N eu dv hi lo dk V) (hJ : LJ wa la cap N eu dv hi lo dk el ra pa ia ga) (hL : ELT M wa el ra pa ia ga dk rk sw m w P B g) (hm : m ≤ 16) (hw : w ≤ 32) (hcw : c ≤ w) (hrk : rk ≤ m) (k0 : (∀ i j, rk ≤ i → i < m → c ≤ j → j < w → V (g (32 * i + j)) = 0) → Q (.returned (some (.int (nI 0)))) M rc rs) (k1 : (∃ i j, rk ≤ i ∧ i < m ∧ c ≤ j ∧ j < w ∧ V (g (32 * i + j)) ≠ 0) → Q (.returned (some (.int (nI 1)))) M rc rs) : jj G kE_hasMoreBehind (d + 1) Q rc rs 0 (jj_ent [.ref el, .int (nI c)] 4) [] M := by
  have hI := hK.1
  have hc0 := hS.1
  have hGP := hL.2.2.2.2.2
  have h547 := hJ.1
  have hl0 := hL.1
  show jj G kE_hasMoreBehind (d + 1) Q rc rs 0 [some (.ref el), some (.int (nI (c))), none, none] [] M
  refine jj_aload_n (pc := 0) kE_hasMoreBehind_d0 rfl ?_
  refine jj_getf (pc := 1) kE_hasMoreBehind_d1 (kfE_rank hG) hl0 rfl ?_
  refine jj_istore_n (pc := 4) kE_hasMoreBehind_d4 (Nat.le_of_ble_eq_true rfl) ?_
  show jj G kE_hasMoreBehind (d + 1) Q rc rs 5 [some (.ref el), some (.int (nI (c))), some (.int (nI (rk))), none] [] M
  show jj G kE_hasMoreBehind (d + 1) Q rc rs 5 [some (.ref el), some (.int (nI (c))), some (.int (nI (rk))), none] [] M
  have outer : ∀ mu i, m = i + mu → rk ≤ i → ∀ (oj : Option Value), (∀ i' j', rk ≤ i' → i' < i → c ≤ j' → j' < w → V (g (32 * i' + j')) = 0) → jj G kE_hasMoreBehind (d + 1) Q rc rs 5 [some (.ref el), some (.int (nI (c))), some (.int (nI (i))), (oj)] [] M := by
    intro mu
    induction mu with
    | zero =>
      intro i hk hri oj hz
      have ei : m = i := by omega
      subst ei
      refine jj_iload_n (pc := 5) kE_hasMoreBehind_d5 rfl ?_
      refine jj_aload_n (pc := 6) kE_hasMoreBehind_d6 rfl ?_
      refine jj_getf (pc := 7) kE_hasMoreBehind_d7 (kfE_rows hG) hl0 rfl ?_
      refine jn_icmp_ge (pc := 10) (tgt := 49) kE_hasMoreBehind_d10 (by decide) (by omega) (by omega) (fun _ => ?_) (fun c => by exfalso; omega)
      refine jn_iconst (pc := 49) 0 kE_hasMoreBehind_d49 (by decide) ?_
      exact jj_iret (pc := 50) kE_hasMoreBehind_d50 rfl (by rfl) (k0 hz)
    | succ mu ih =>
      intro i hk hri oj hz
      refine jj_iload_n (pc := 5) kE_hasMoreBehind_d5 rfl ?_
      refine jj_aload_n (pc := 6) kE_hasMoreBehind_d6 rfl ?_
      refine jj_getf (pc := 7) kE_hasMoreBehind_d7 (kfE_rows hG) hl0 rfl ?_
      refine jn_icmp_ge (pc := 10) (tgt := 49) kE_hasMoreBehind_d10 (by decide) (by omega) (by omega) (fun c => by exfalso; omega) (fun _ => ?_)
      refine jj_iload_n (pc := 13) kE_hasMoreBehind_d13 rfl ?_
      refine jj_istore_n (pc := 14) kE_hasMoreBehind_d14 (Nat.le_of_ble_eq_true rfl) ?_
      show jj G kE_hasMoreBehind (d + 1) Q rc rs 15 [some (.ref el), some (.int (nI (c))), some (.int (nI (i))), some (.int (nI (c)))] [] M
      show jj G kE_hasMoreBehind (d + 1) Q rc rs 15 [some (.ref el), some (.int (nI (c))), some (.int (nI (i))), some (.int (nI (c)))] [] M
      have inner : ∀ mu2 j, w = j + mu2 → c ≤ j → (∀ j', c ≤ j' → j' < j → V (g (32 * i + j')) = 0) → jj G kE_hasMoreBehind (d + 1) Q rc rs 15 [some (.ref el), some (.int (nI (c))), some (.int (nI (i))), some (.int (nI (j)))] [] M := by
        intro mu2
        induction mu2 with
        | zero =>
          intro j hk2 hcj hr
          have ej : w = j := by omega
          subst ej
          refine jj_iload_n (pc := 15) kE_hasMoreBehind_d15 rfl ?_
          refine jj_aload_n (pc := 16) kE_hasMoreBehind_d16 rfl ?_
          refine jj_getf (pc := 17) kE_hasMoreBehind_d17 (kfE_width hG) hl0 rfl ?_
          refine jn_icmp_ge (pc := 20) (tgt := 43) kE_hasMoreBehind_d20 (by decide) (by omega) (by omega) (fun _ => ?_) (fun c => by exfalso; omega)
          refine jn_iinc (pc := 43) (i + 1) kE_hasMoreBehind_d43 rfl (nI_1 _) ?_
          refine jj_goto (pc := 46) (tgt := 5) kE_hasMoreBehind_d46 (by decide) ?_
          show jj G kE_hasMoreBehind (d + 1) Q rc rs 5 [some (.ref el), some (.int (nI (c))), some (.int (nI (i + 1))), some (.int (nI (w)))] [] M
          refine ih (i + 1) (by omega) (by omega) _ (fun i' j' a b x1 x2 => ?_)
          by_cases e : i' = i
          · rw [e]; exact hr j' x1 x2
          · exact hz i' j' a (by omega) x1 x2
        | succ mu2 ih2 =>
          intro j hk2 hcj hr
          have gp := hGP.1 (32 * i + j) (by omega)
          refine jj_iload_n (pc := 15) kE_hasMoreBehind_d15 rfl ?_
          refine jj_aload_n (pc := 16) kE_hasMoreBehind_d16 rfl ?_
          refine jj_getf (pc := 17) kE_hasMoreBehind_d17 (kfE_width hG) hl0 rfl ?_
          refine jn_icmp_ge (pc := 20) (tgt := 43) kE_hasMoreBehind_d20 (by decide) (by omega) (by omega) (fun c => by exfalso; omega) (fun _ => ?_)
          refine jj_aload_n (pc := 23) kE_hasMoreBehind_d23 rfl ?_
          refine jj_iload_n (pc := 24) kE_hasMoreBehind_d24 rfl ?_
          refine jj_iload_n (pc := 25) kE_hasMoreBehind_d25 rfl ?_
          refine jj_callV (pc := 26) (b := el) (As := [.int (nI (i)), .int (nI (j))]) kE_hasMoreBehind_d26 (kvE_E_at hG) (kG_cl hG rfl) rfl hl0 rfl rfl rfl (Nat.le_of_ble_eq_true rfl) (Nat.le_of_ble_eq_true rfl) (jj_bare0 rfl) ?_
          refine e_at hG hL (by omega) (by omega) ?_
          show jj G kE_hasMoreBehind (d + 1) Q rc rs 29 [some (.ref el), some (.int (nI (c))), some (.int (nI (i))), some (.int (nI (j)))] [.ref (wa (g (32 * i + j)))] M
          obtain ⟨Tn101, tn101, hTn101, _, _, hZn101⟩ := hc0 (g (32 * i + j)) (by omega)
          have eZn101 := hZn101.cnt
          subst eZn101
          have bZn101 := hc0.lc (p := (g (32 * i + j))) (by omega)
          have bYn101 := hI.2.2 (g (32 * i + j)) (by omega)
          refine jj_getf (pc := 29) kE_hasMoreBehind_d29 (kfE_W_count hG) hTn101 rfl ?_
          refine jn_if_le (pc := 32) (tgt := 37) kE_hasMoreBehind_d32 (by decide) (by omega) (fun c1 => ?_) (fun c1 => ?_)
          · skip
            refine jn_iinc (pc := 37) (j + 1) kE_hasMoreBehind_d37 rfl (nI_1 _) ?_
            refine jj_goto (pc := 40) (tgt := 15) kE_hasMoreBehind_d40 (by decide) ?_
            show jj G kE_hasMoreBehind (d + 1) Q rc rs 15 [some (.ref el), some (.int (nI (c))), some (.int (nI (i))), some (.int (nI (j + 1)))] [] M
            refine ih2 (j + 1) (by omega) (by omega) (fun j' a b => ?_)
            by_cases e : j' = j
            · rw [e]; exact lc_nil (by omega)
            · exact hr j' a (by omega)
          · skip
            refine jn_iconst (pc := 35) 1 kE_hasMoreBehind_d35 (by decide) ?_
            exact jj_iret (pc := 36) kE_hasMoreBehind_d36 rfl (by rfl) (k1 ⟨i, j, hri, by omega, hcj, by omega, lc_pos (by omega)⟩)
      exact inner (w - c) c (by omega) (Nat.le_refl _) (fun j' a b => by omega)
  exact outer (m - rk) rk (by omega) (Nat.le_refl _) _ (fun i' j' a b => by omega)
end E7
