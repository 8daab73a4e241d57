/-! ===== the reference: isHeavy (printed by wip/gen/rm7.py) ===== -/
/-- the least e with k no more than 2 to the e -/
def lgc (k : Nat) : Nat := Nat.log2 (2 * k - 1)
theorem lgc_le {k : Nat} (h : 1 ≤ k) : k ≤ 2 ^ lgc k := by
  have h1 : 2 * k - 1 < 2 ^ (lgc k + 1) := (Nat.log2_lt (by omega)).mp (Nat.lt_succ_self _)
  rw [Nat.pow_succ] at h1
  omega
theorem lgc_lt {k e : Nat} (h : 1 ≤ k) (he : e < lgc k) : 2 ^ e < k := by
  have h1 : 2 ^ lgc k ≤ 2 * k - 1 := Nat.log2_self_le (by omega)
  have h2 : 2 ^ (e + 1) ≤ 2 ^ lgc k := Nat.pow_le_pow_right (by decide) he
  rw [Nat.pow_succ] at h2
  omega
theorem lgc_small {k : Nat} (h : 1 ≤ k) (hk : k < 1024) : lgc k ≤ 10 := by
  rcases Nat.lt_or_ge 10 (lgc k) with g | g
  · have := lgc_lt h g
    omega
  · exact g
theorem shl1 : ∀ e, e < 31 → nI 1 <<< (nI e &&& 31) = nI (2 ^ e) := by decide
theorem nI_mn {m n : Nat} (hm : m < 2 ^ 31) (hn : n < 2 ^ 31) : (if nI n < nI m then nI n else nI m) = nI (min m n) := by
  by_cases h : n < m
  · rw [if_pos (nI_lt h hm), Nat.min_eq_right (by omega)]
  · rw [if_neg (nI_nlt (by omega) hn), Nat.min_eq_left (by omega)]
/-- k, and the greatest length b: the weight is above 2000 -/
def hvy (k b : Nat) : Prop := 2000 < k * (b + lgc k)
section RM7
variable {G : jg} {d : Nat} {Q : jq} {rc rs : Nat} {M : mheap} {r f w vv pv fo st : Nat} {v2 : Value} {D V P : List Int32} {t : Nat} {up low rk code : Int32}
theorem rm_isHeavy1 {a R c lo T s e cm X Z : Nat} {q : Nat → Rat} (hG : kG G) (hR : RMC M r f fo st code) (hC : FC M f w vv pv V t up low P rk) (hS : RS M w D T v2 cm X Z rc rs) (hV : V.length < 2 ^ 31) (htV : t ≤ V.length) (hT3 : 3 ≤ T) (h1 : RI D T 1 1) (ha : MX D T V t a R c lo q) (hR' : R < 64) (hc : c < 64) (hR1 : 1 ≤ R) (hc1 : 1 ≤ c) (hq : ∀ k, k < R * c → ZB s (q k).num ∧ ZB s ((q k).den : Int)) (hlc : ∀ row, row < R → ∀ k, k ≤ c → ZB e (lcmf 1 (fun j => (q (row * c + j)).den) k)) (hes : e + s ≤ 9000) (hT : T + 20000 + 30 * e + 30 * s + 1000 ≤ cm)
    (K1 : ∀ M' D' v2' rc' rs', hvy (min R (c)) (nmax (fun k => rowL q c k (rowD q c k 1)) R) → FC M' f w vv pv V t up low P rk → RS M' w D' T v2' cm X Z rc' rs' → (∀ i, i < T → D'.getD i 0 = D.getD i 0) → FF M M' f → Q (.returned (some (.int (nI 1)))) M' rc' rs')
    (K0 : ∀ M' D' v2' rc' rs', ¬ hvy (min R (c)) (nmax (fun k => rowL q c k (rowD q c k 1)) R) → FC M' f w vv pv V t up low P rk → RS M' w D' T v2' cm X Z rc' rs' → (∀ i, i < T → D'.getD i 0 = D.getD i 0) → FF M M' f → Q (.returned (some (.int (nI 0)))) M' rc' rs') : jj G kR_isHeavy (d + 10) Q rc rs 0 (jj_ent [.ref r, .int (nI a), .int (-1)] 7) [] M := by
  have hcapD := hS.2.1.cap
  obtain ⟨ha1, ha2, ha3, ha4⟩ := id ha
  refine rm_heavy1 (s := s) (e := e) hG hR hC hS hV htV hT3 h1 ha hR' hc hq hlc hes hT (fun M1 D1 v1 rc1 rs1 o6 hC1 hS1 ho1 hF1 hmx => ?_)
  generalize nmax (fun k => rowL q c k (rowD q c k 1)) R = mx at K1 K0 hmx ⊢
  have hcap1 := hS1.2.1.cap
  obtain ⟨kk, hkk⟩ : ∃ kk, min R (c) = kk := ⟨_, rfl⟩
  rw [hkk] at K1 K0
  have hk1 : 1 ≤ kk := by omega
  have hk2 : kk < 64 := by omega
  obtain ⟨lg, hlg⟩ : ∃ lg, lgc kk = lg := ⟨_, rfl⟩
  have hl1 := lgc_le hk1
  have hl2 : ∀ e, e < lg → 2 ^ e < kk := fun e he => lgc_lt hk1 (by omega)
  have hl3 := lgc_small hk1 (by omega)
  rw [hlg] at hl1 hl3
  unfold hvy at K1 K0
  rw [hlg] at K1 K0
  show jj G kR_isHeavy (d + 10) Q rc1 rs1 110 [some (.ref r), some (.int (nI (a))), some (.int (-1)), some (.int (nI (T))), some (.int (nI (mx))), some (.int (nI (R))), (o6)] [] M1
  refine jj_aload_n (pc := 110) kR_isHeavy_d110 rfl ?_
  refine jj_getf (pc := 111) kR_isHeavy_d111 (kfR_f hG) (hR.ff hF1).1 rfl ?_
  refine jj_iload_n (pc := 114) kR_isHeavy_d114 rfl ?_
  refine jj_callV (pc := 115) (b := f) (As := [.int (nI (a))]) kR_isHeavy_d115 (kvR_RF_rows hG) (kG_cl hG rfl) rfl hC1.1 rfl rfl rfl (Nat.le_of_ble_eq_true rfl) (Nat.le_of_ble_eq_true rfl) (jj_bare0 rfl) ?_
  refine rf_rows hG hC1 hV (by omega) ?_
  show jj G kR_isHeavy (d + 10) Q rc1 rs1 118 [some (.ref r), some (.int (nI (a))), some (.int (-1)), some (.int (nI (T))), some (.int (nI (mx))), some (.int (nI (R))), (o6)] [.int (V.getD a 0)] M1
  refine jn_top (.int (nI (R))) (by rw [ha2]) ?_
  refine jj_aload_n (pc := 118) kR_isHeavy_d118 rfl ?_
  refine jj_getf (pc := 119) kR_isHeavy_d119 (kfR_f hG) (hR.ff hF1).1 rfl ?_
  refine jj_iload_n (pc := 122) kR_isHeavy_d122 rfl ?_
  refine jj_callV (pc := 123) (b := f) (As := [.int (nI (a))]) kR_isHeavy_d123 (kvR_RF_columns hG) (kG_cl hG rfl) rfl hC1.1 rfl rfl rfl (Nat.le_of_ble_eq_true rfl) (Nat.le_of_ble_eq_true rfl) (jj_bare0 rfl) ?_
  refine rf_columns hG hC1 hV (by omega) ?_
  show jj G kR_isHeavy (d + 10) Q rc1 rs1 126 [some (.ref r), some (.int (nI (a))), some (.int (-1)), some (.int (nI (T))), some (.int (nI (mx))), some (.int (nI (R))), (o6)] [.int (V.getD (a + 1) 0), .int (nI (R))] M1
  refine jn_top (.int (nI (c))) (by rw [ha3]) ?_
  refine jj_iload_n (pc := 126) kR_isHeavy_d126 rfl ?_
  refine jj_iconst (pc := 127) (v := (-1)) kR_isHeavy_d127 (by decide) ?_
  refine jj_icmp_eq (pc := 128) (tgt := 142) kR_isHeavy_d128 (by decide) (fun _ => ?_) (fun c => absurd c (by decide))
  refine jn_iconst (pc := 142) 0 kR_isHeavy_d142 (by decide) ?_
  refine jn_iadd (pc := 143) (c) kR_isHeavy_d143 (by omega) ?_
  refine jj_callS (pc := 144) (As := [.int (nI (R)), .int (nI (c))]) kR_isHeavy_d144 (kvR_JM_min_1 hG) rfl rfl rfl (Nat.le_of_ble_eq_true rfl) (Nat.le_of_ble_eq_true rfl) (jj_bare0 rfl) ?_
  refine jm_min_1 ?_
  show jj G kR_isHeavy (d + 10) Q rc1 rs1 147 [some (.ref r), some (.int (nI (a))), some (.int (-1)), some (.int (nI (T))), some (.int (nI (mx))), some (.int (nI (R))), (o6)] [.int (if nI (c) < nI (R) then nI (c) else nI (R))] M1
  refine jn_top (.int (nI (kk))) (by rw [nI_mn (by omega) (by omega), hkk]) ?_
  refine jj_istore (pc := 147) kR_isHeavy_d147 (Nat.le_of_ble_eq_true rfl) ?_
  refine jn_iconst (pc := 149) 0 kR_isHeavy_d149 (by decide) ?_
  refine jj_istore (pc := 150) kR_isHeavy_d150 (Nat.le_of_ble_eq_true rfl) ?_
  show jj G kR_isHeavy (d + 10) Q rc1 rs1 152 [some (.ref r), some (.int (nI (a))), some (.int (-1)), some (.int (nI (T))), some (.int (nI (mx))), some (.int (nI (kk))), some (.int (nI (0)))] [] M1
  have loop : ∀ mu ee, lg = ee + mu → jj G kR_isHeavy (d + 10) Q rc1 rs1 152 [some (.ref r), some (.int (nI (a))), some (.int (-1)), some (.int (nI (T))), some (.int (nI (mx))), some (.int (nI (kk))), some (.int (nI (ee)))] [] M1 := by
    intro mu
    induction mu with
    | zero =>
      intro ee he
      have e9 : lg = ee := by omega
      subst e9
      obtain ⟨pe, hpe⟩ : ∃ pe, 2 ^ lg = pe := ⟨_, rfl⟩
      have hpl : pe ≤ 2 ^ 10 := by rw [← hpe]; exact Nat.pow_le_pow_right (by decide) hl3
      rw [hpe] at hl1
      refine jn_iconst (pc := 152) 1 kR_isHeavy_d152 (by decide) ?_
      refine jj_iload (pc := 153) kR_isHeavy_d153 rfl ?_
      refine jj_ishl (pc := 155) kR_isHeavy_d155 ?_
      refine jn_top (.int (nI (pe))) (by rw [shl1 _ (by omega), hpe]) ?_
      refine jj_iload (pc := 156) kR_isHeavy_d156 rfl ?_
      refine jn_icmp_ge (pc := 158) (tgt := 167) kR_isHeavy_d158 (by decide) (by omega) (by omega) (fun _ => ?_) (fun c => by exfalso; omega)
      refine jj_iload (pc := 167) kR_isHeavy_d167 rfl ?_
      obtain ⟨pr, hpr⟩ : ∃ pr, kk * (mx + lg) = pr := ⟨_, rfl⟩
      have hprl : pr ≤ 64 * (135000 + 10) := by rw [← hpr]; exact Nat.mul_le_mul (by omega) (by omega)
      rw [hpr] at K1 K0
      refine jj_i2l (pc := 169) kR_isHeavy_d169 ?_
      refine jn_top (.long (lN (kk))) (by rw [nI_l (by omega)]) ?_
      refine jj_iload (pc := 170) kR_isHeavy_d170 rfl ?_
      refine jj_iload (pc := 172) kR_isHeavy_d172 rfl ?_
      refine jn_iadd (pc := 174) (mx + lg) kR_isHeavy_d174 (by omega) ?_
      refine jj_i2l (pc := 175) kR_isHeavy_d175 ?_
      refine jn_top (.long (lN (mx + lg))) (by rw [nI_l (by omega)]) ?_
      refine jj_lmul (pc := 176) kR_isHeavy_d176 ?_
      refine jn_top (.long (lN (pr))) (by rw [lN_mul, hpr]) ?_
      refine jj_ldc2 (pc := 177) kR_isHeavy_d177 (kcR_2000 hG) ?_
      refine jn_top (.long (lN (2000))) (rfl) ?_
      refine jj_lcmp (pc := 180) kR_isHeavy_d180 ?_
      refine jj_if_le (pc := 181) (tgt := 188) kR_isHeavy_d181 (by decide) (fun cc => ?_) (fun cc => ?_)
      · skip
        have c5 := (lN_le (by omega) (by omega)).mp ((lg_cmp_le _ _).mp cc)
        refine jn_iconst (pc := 188) 0 kR_isHeavy_d188 (by decide) ?_
        exact jj_iret (pc := 189) kR_isHeavy_d189 rfl (by rfl) (K0 M1 D1 v1 rc1 rs1 (by omega) hC1 hS1 ho1 hF1)
      · skip
        have c5 : 2000 < pr := by
          rcases Nat.lt_or_ge 2000 pr with g | g
          · exact g
          · exact absurd ((lg_cmp_le _ _).mpr ((lN_le (by omega) (by omega)).mpr g)) cc
        refine jn_iconst (pc := 184) 1 kR_isHeavy_d184 (by decide) ?_
        refine jj_goto (pc := 185) (tgt := 189) kR_isHeavy_d185 (by decide) ?_
        exact jj_iret (pc := 189) kR_isHeavy_d189 rfl (by rfl) (K1 M1 D1 v1 rc1 rs1 c5 hC1 hS1 ho1 hF1)
    | succ mu ih =>
      intro ee he
      obtain ⟨pe, hpe⟩ : ∃ pe, 2 ^ ee = pe := ⟨_, rfl⟩
      have hpl := hl2 ee (by omega)
      rw [hpe] at hpl
      refine jn_iconst (pc := 152) 1 kR_isHeavy_d152 (by decide) ?_
      refine jj_iload (pc := 153) kR_isHeavy_d153 rfl ?_
      refine jj_ishl (pc := 155) kR_isHeavy_d155 ?_
      refine jn_top (.int (nI (pe))) (by rw [shl1 _ (by omega), hpe]) ?_
      refine jj_iload (pc := 156) kR_isHeavy_d156 rfl ?_
      refine jn_icmp_ge (pc := 158) (tgt := 167) kR_isHeavy_d158 (by decide) (by omega) (by omega) (fun c => by exfalso; omega) (fun _ => ?_)
      refine jn_iinc (pc := 161) (ee + 1) kR_isHeavy_d161 rfl (nI_1 _) ?_
      refine jj_goto (pc := 164) (tgt := 152) kR_isHeavy_d164 (by decide) ?_
      show jj G kR_isHeavy (d + 10) Q rc1 rs1 152 [some (.ref r), some (.int (nI (a))), some (.int (-1)), some (.int (nI (T))), some (.int (nI (mx))), some (.int (nI (kk))), some (.int (nI (ee + 1)))] [] M1
      exact ih (ee + 1) (by omega)
  exact loop lg 0 (by omega)
theorem rm_isHeavy2 {a b R c cb lo lob T s e cm X Z : Nat} {q qb : Nat → Rat} (hG : kG G) (hR : RMC M r f fo st code) (hC : FC M f w vv pv V t up low P rk) (hS : RS M w D T v2 cm X Z rc rs) (hV : V.length < 2 ^ 31) (htV : t ≤ V.length) (hT3 : 3 ≤ T) (h1 : RI D T 1 1) (ha : MX D T V t a R c lo q) (hR' : R < 64) (hc : c < 64) (hR1 : 1 ≤ R) (hc1 : 1 ≤ c) (hq : ∀ k, k < R * c → ZB s (q k).num ∧ ZB s ((q k).den : Int)) (hlc : ∀ row, row < R → ∀ k, k ≤ c → ZB e (lcmf 1 (fun j => (q (row * c + j)).den) k)) (hb : MX D T V t b R cb lob qb) (hcb : cb < 64) (hcb1 : 1 ≤ cb) (hqb : ∀ k, k < R * cb → ZB s (qb k).num ∧ ZB s ((qb k).den : Int)) (hlcb : ∀ row, row < R → ∀ k, k ≤ cb → ZB e (lcmf (rowD q c row 1) (fun j => (qb (row * cb + j)).den) k)) (hes : e + s ≤ 9000) (hT : T + 20000 + 30 * e + 30 * s + 1000 ≤ cm)
    (K1 : ∀ M' D' v2' rc' rs', hvy (min R (c + cb)) (nmax (fun k => max (rowL q c k (rowD qb cb k (rowD q c k 1))) (rowL qb cb k (rowD qb cb k (rowD q c k 1)))) R) → FC M' f w vv pv V t up low P rk → RS M' w D' T v2' cm X Z rc' rs' → (∀ i, i < T → D'.getD i 0 = D.getD i 0) → FF M M' f → Q (.returned (some (.int (nI 1)))) M' rc' rs')
    (K0 : ∀ M' D' v2' rc' rs', ¬ hvy (min R (c + cb)) (nmax (fun k => max (rowL q c k (rowD qb cb k (rowD q c k 1))) (rowL qb cb k (rowD qb cb k (rowD q c k 1)))) R) → FC M' f w vv pv V t up low P rk → RS M' w D' T v2' cm X Z rc' rs' → (∀ i, i < T → D'.getD i 0 = D.getD i 0) → FF M M' f → Q (.returned (some (.int (nI 0)))) M' rc' rs') : jj G kR_isHeavy (d + 10) Q rc rs 0 (jj_ent [.ref r, .int (nI a), .int (nI b)] 7) [] M := by
  have hcapD := hS.2.1.cap
  obtain ⟨ha1, ha2, ha3, ha4⟩ := id ha
  obtain ⟨hb1, hb2, hb3, hb4⟩ := id hb
  refine rm_heavy2 (s := s) (e := e) hG hR hC hS hV htV hT3 h1 ha hR' hc hq hlc hb hcb hqb hlcb hes hT (fun M1 D1 v1 rc1 rs1 o6 hC1 hS1 ho1 hF1 hmx => ?_)
  generalize nmax (fun k => max (rowL q c k (rowD qb cb k (rowD q c k 1))) (rowL qb cb k (rowD qb cb k (rowD q c k 1)))) R = mx at K1 K0 hmx ⊢
  have hcap1 := hS1.2.1.cap
  obtain ⟨kk, hkk⟩ : ∃ kk, min R (c + cb) = kk := ⟨_, rfl⟩
  rw [hkk] at K1 K0
  have hk1 : 1 ≤ kk := by omega
  have hk2 : kk < 64 := by omega
  obtain ⟨lg, hlg⟩ : ∃ lg, lgc kk = lg := ⟨_, rfl⟩
  have hl1 := lgc_le hk1
  have hl2 : ∀ e, e < lg → 2 ^ e < kk := fun e he => lgc_lt hk1 (by omega)
  have hl3 := lgc_small hk1 (by omega)
  rw [hlg] at hl1 hl3
  unfold hvy at K1 K0
  rw [hlg] at K1 K0
  show jj G kR_isHeavy (d + 10) Q rc1 rs1 110 [some (.ref r), some (.int (nI (a))), some (.int (nI (b))), some (.int (nI (T))), some (.int (nI (mx))), some (.int (nI (R))), (o6)] [] M1
  refine jj_aload_n (pc := 110) kR_isHeavy_d110 rfl ?_
  refine jj_getf (pc := 111) kR_isHeavy_d111 (kfR_f hG) (hR.ff hF1).1 rfl ?_
  refine jj_iload_n (pc := 114) kR_isHeavy_d114 rfl ?_
  refine jj_callV (pc := 115) (b := f) (As := [.int (nI (a))]) kR_isHeavy_d115 (kvR_RF_rows hG) (kG_cl hG rfl) rfl hC1.1 rfl rfl rfl (Nat.le_of_ble_eq_true rfl) (Nat.le_of_ble_eq_true rfl) (jj_bare0 rfl) ?_
  refine rf_rows hG hC1 hV (by omega) ?_
  show jj G kR_isHeavy (d + 10) Q rc1 rs1 118 [some (.ref r), some (.int (nI (a))), some (.int (nI (b))), some (.int (nI (T))), some (.int (nI (mx))), some (.int (nI (R))), (o6)] [.int (V.getD a 0)] M1
  refine jn_top (.int (nI (R))) (by rw [ha2]) ?_
  refine jj_aload_n (pc := 118) kR_isHeavy_d118 rfl ?_
  refine jj_getf (pc := 119) kR_isHeavy_d119 (kfR_f hG) (hR.ff hF1).1 rfl ?_
  refine jj_iload_n (pc := 122) kR_isHeavy_d122 rfl ?_
  refine jj_callV (pc := 123) (b := f) (As := [.int (nI (a))]) kR_isHeavy_d123 (kvR_RF_columns hG) (kG_cl hG rfl) rfl hC1.1 rfl rfl rfl (Nat.le_of_ble_eq_true rfl) (Nat.le_of_ble_eq_true rfl) (jj_bare0 rfl) ?_
  refine rf_columns hG hC1 hV (by omega) ?_
  show jj G kR_isHeavy (d + 10) Q rc1 rs1 126 [some (.ref r), some (.int (nI (a))), some (.int (nI (b))), some (.int (nI (T))), some (.int (nI (mx))), some (.int (nI (R))), (o6)] [.int (V.getD (a + 1) 0), .int (nI (R))] M1
  refine jn_top (.int (nI (c))) (by rw [ha3]) ?_
  refine jj_iload_n (pc := 126) kR_isHeavy_d126 rfl ?_
  refine jj_iconst (pc := 127) (v := (-1)) kR_isHeavy_d127 (by decide) ?_
  refine jj_icmp_eq (pc := 128) (tgt := 142) kR_isHeavy_d128 (by decide) (fun c => absurd c (nI_m1ne (by omega))) (fun _ => ?_)
  refine jj_aload_n (pc := 131) kR_isHeavy_d131 rfl ?_
  refine jj_getf (pc := 132) kR_isHeavy_d132 (kfR_f hG) (hR.ff hF1).1 rfl ?_
  refine jj_iload_n (pc := 135) kR_isHeavy_d135 rfl ?_
  refine jj_callV (pc := 136) (b := f) (As := [.int (nI (b))]) kR_isHeavy_d136 (kvR_RF_columns hG) (kG_cl hG rfl) rfl hC1.1 rfl rfl rfl (Nat.le_of_ble_eq_true rfl) (Nat.le_of_ble_eq_true rfl) (jj_bare0 rfl) ?_
  refine rf_columns hG hC1 hV (by omega) ?_
  show jj G kR_isHeavy (d + 10) Q rc1 rs1 139 [some (.ref r), some (.int (nI (a))), some (.int (nI (b))), some (.int (nI (T))), some (.int (nI (mx))), some (.int (nI (R))), (o6)] [.int (V.getD (b + 1) 0), .int (nI (c)), .int (nI (R))] M1
  refine jn_top (.int (nI (cb))) (by rw [hb3]) ?_
  refine jj_goto (pc := 139) (tgt := 143) kR_isHeavy_d139 (by decide) ?_
  refine jn_iadd (pc := 143) (c + cb) kR_isHeavy_d143 (by omega) ?_
  refine jj_callS (pc := 144) (As := [.int (nI (R)), .int (nI (c + cb))]) kR_isHeavy_d144 (kvR_JM_min_1 hG) rfl rfl rfl (Nat.le_of_ble_eq_true rfl) (Nat.le_of_ble_eq_true rfl) (jj_bare0 rfl) ?_
  refine jm_min_1 ?_
  show jj G kR_isHeavy (d + 10) Q rc1 rs1 147 [some (.ref r), some (.int (nI (a))), some (.int (nI (b))), some (.int (nI (T))), some (.int (nI (mx))), some (.int (nI (R))), (o6)] [.int (if nI (c + cb) < nI (R) then nI (c + cb) else nI (R))] M1
  refine jn_top (.int (nI (kk))) (by rw [nI_mn (by omega) (by omega), hkk]) ?_
  refine jj_istore (pc := 147) kR_isHeavy_d147 (Nat.le_of_ble_eq_true rfl) ?_
  refine jn_iconst (pc := 149) 0 kR_isHeavy_d149 (by decide) ?_
  refine jj_istore (pc := 150) kR_isHeavy_d150 (Nat.le_of_ble_eq_true rfl) ?_
  show jj G kR_isHeavy (d + 10) Q rc1 rs1 152 [some (.ref r), some (.int (nI (a))), some (.int (nI (b))), some (.int (nI (T))), some (.int (nI (mx))), some (.int (nI (kk))), some (.int (nI (0)))] [] M1
  have loop : ∀ mu ee, lg = ee + mu → jj G kR_isHeavy (d + 10) Q rc1 rs1 152 [some (.ref r), some (.int (nI (a))), some (.int (nI (b))), some (.int (nI (T))), some (.int (nI (mx))), some (.int (nI (kk))), some (.int (nI (ee)))] [] M1 := by
    intro mu
    induction mu with
    | zero =>
      intro ee he
      have e9 : lg = ee := by omega
      subst e9
      obtain ⟨pe, hpe⟩ : ∃ pe, 2 ^ lg = pe := ⟨_, rfl⟩
      have hpl : pe ≤ 2 ^ 10 := by rw [← hpe]; exact Nat.pow_le_pow_right (by decide) hl3
      rw [hpe] at hl1
      refine jn_iconst (pc := 152) 1 kR_isHeavy_d152 (by decide) ?_
      refine jj_iload (pc := 153) kR_isHeavy_d153 rfl ?_
      refine jj_ishl (pc := 155) kR_isHeavy_d155 ?_
      refine jn_top (.int (nI (pe))) (by rw [shl1 _ (by omega), hpe]) ?_
      refine jj_iload (pc := 156) kR_isHeavy_d156 rfl ?_
      refine jn_icmp_ge (pc := 158) (tgt := 167) kR_isHeavy_d158 (by decide) (by omega) (by omega) (fun _ => ?_) (fun c => by exfalso; omega)
      refine jj_iload (pc := 167) kR_isHeavy_d167 rfl ?_
      obtain ⟨pr, hpr⟩ : ∃ pr, kk * (mx + lg) = pr := ⟨_, rfl⟩
      have hprl : pr ≤ 64 * (135000 + 10) := by rw [← hpr]; exact Nat.mul_le_mul (by omega) (by omega)
      rw [hpr] at K1 K0
      refine jj_i2l (pc := 169) kR_isHeavy_d169 ?_
      refine jn_top (.long (lN (kk))) (by rw [nI_l (by omega)]) ?_
      refine jj_iload (pc := 170) kR_isHeavy_d170 rfl ?_
      refine jj_iload (pc := 172) kR_isHeavy_d172 rfl ?_
      refine jn_iadd (pc := 174) (mx + lg) kR_isHeavy_d174 (by omega) ?_
      refine jj_i2l (pc := 175) kR_isHeavy_d175 ?_
      refine jn_top (.long (lN (mx + lg))) (by rw [nI_l (by omega)]) ?_
      refine jj_lmul (pc := 176) kR_isHeavy_d176 ?_
      refine jn_top (.long (lN (pr))) (by rw [lN_mul, hpr]) ?_
      refine jj_ldc2 (pc := 177) kR_isHeavy_d177 (kcR_2000 hG) ?_
      refine jn_top (.long (lN (2000))) (rfl) ?_
      refine jj_lcmp (pc := 180) kR_isHeavy_d180 ?_
      refine jj_if_le (pc := 181) (tgt := 188) kR_isHeavy_d181 (by decide) (fun cc => ?_) (fun cc => ?_)
      · skip
        have c5 := (lN_le (by omega) (by omega)).mp ((lg_cmp_le _ _).mp cc)
        refine jn_iconst (pc := 188) 0 kR_isHeavy_d188 (by decide) ?_
        exact jj_iret (pc := 189) kR_isHeavy_d189 rfl (by rfl) (K0 M1 D1 v1 rc1 rs1 (by omega) hC1 hS1 ho1 hF1)
      · skip
        have c5 : 2000 < pr := by
          rcases Nat.lt_or_ge 2000 pr with g | g
          · exact g
          · exact absurd ((lg_cmp_le _ _).mpr ((lN_le (by omega) (by omega)).mpr g)) cc
        refine jn_iconst (pc := 184) 1 kR_isHeavy_d184 (by decide) ?_
        refine jj_goto (pc := 185) (tgt := 189) kR_isHeavy_d185 (by decide) ?_
        exact jj_iret (pc := 189) kR_isHeavy_d189 rfl (by rfl) (K1 M1 D1 v1 rc1 rs1 c5 hC1 hS1 ho1 hF1)
    | succ mu ih =>
      intro ee he
      obtain ⟨pe, hpe⟩ : ∃ pe, 2 ^ ee = pe := ⟨_, rfl⟩
      have hpl := hl2 ee (by omega)
      rw [hpe] at hpl
      refine jn_iconst (pc := 152) 1 kR_isHeavy_d152 (by decide) ?_
      refine jj_iload (pc := 153) kR_isHeavy_d153 rfl ?_
      refine jj_ishl (pc := 155) kR_isHeavy_d155 ?_
      refine jn_top (.int (nI (pe))) (by rw [shl1 _ (by omega), hpe]) ?_
      refine jj_iload (pc := 156) kR_isHeavy_d156 rfl ?_
      refine jn_icmp_ge (pc := 158) (tgt := 167) kR_isHeavy_d158 (by decide) (by omega) (by omega) (fun c => by exfalso; omega) (fun _ => ?_)
      refine jn_iinc (pc := 161) (ee + 1) kR_isHeavy_d161 rfl (nI_1 _) ?_
      refine jj_goto (pc := 164) (tgt := 152) kR_isHeavy_d164 (by decide) ?_
      show jj G kR_isHeavy (d + 10) Q rc1 rs1 152 [some (.ref r), some (.int (nI (a))), some (.int (nI (b))), some (.int (nI (T))), some (.int (nI (mx))), some (.int (nI (kk))), some (.int (nI (ee + 1)))] [] M1
      exact ih (ee + 1) (by omega)
  exact loop lg 0 (by omega)
end RM7
