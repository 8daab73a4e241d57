/-! ===== the reference: isHeavy, its rows (printed by wip/gen/rm6.py) ===== -/
/-- the longest cell of a row times z -/
def rowL (q : Nat → Rat) (c row : Nat) (z : Int) : Nat := nmax (fun j => blen (z / ((q (row * c + j)).den : Int) * (q (row * c + j)).num)) c
theorem rowL_le {q : Nat → Rat} {R c row e s : Nat} {z : Int} (hz : ZB e z) (hq : ∀ k, k < R * c → ZB s (q k).num ∧ ZB s ((q k).den : Int)) (hr : row < R) : rowL q c row z ≤ 15 * (e + s) := nmax_le (fun j hj => by
  have hd0 : 0 < ((q (row * c + j)).den : Int) := by have := (q (row * c + j)).den_pos; omega
  exact blen_lt ((hz.ediv hd0).mul (hq _ (cell_lt hr hj)).1))
/-- what makes a row whole -/
def rowD (q : Nat → Rat) (c row : Nat) (z : Int) : Int := lcmf z (fun j => (q (row * c + j)).den) c
section RM6
variable {G : jg} {d : Nat} {Q : jq} {rc rs : Nat} {M : mheap} {r f w vv pv fo st : Nat} {v2 : Value} {D V P : List Int32} {t : Nat} {up low rk code : Int32}
theorem rm_heavy1 {a R c lo T s e cm X Z : Nat} {q : Nat → Rat} (hG : kG G) (hR : RMC M r f fo st code) (hC : FC M f w vv pv V t up low P rk) (hS : RS M w D T v2 cm X Z rc rs) (hV : V.length < 2 ^ 31) (htV : t ≤ V.length) (hT3 : 3 ≤ T) (h1 : RI D T 1 1) (ha : MX D T V t a R c lo q) (hR' : R < 64) (hc : c < 64) (hq : ∀ k, k < R * c → ZB s (q k).num ∧ ZB s ((q k).den : Int)) (hlc : ∀ row, row < R → ∀ k, k ≤ c → ZB e (lcmf 1 (fun j => (q (row * c + j)).den) k)) (hes : e + s ≤ 9000) (hT : T + 20000 + 30 * e + 30 * s + 1000 ≤ cm)
    (K : ∀ M' D' v2' rc' rs' o6, FC M' f w vv pv V t up low P rk → RS M' w D' T v2' cm X Z rc' rs' → (∀ i, i < T → D'.getD i 0 = D.getD i 0) → FF M M' f → nmax (fun k => rowL q c k (rowD q c k 1)) R ≤ 15 * (e + s) → jj G kR_isHeavy (d + 10) Q rc' rs' 110 [some (.ref r), some (.int (nI (a))), some (.int (-1)), some (.int (nI (T))), some (.int (nI (nmax (fun k => rowL q c k (rowD q c k 1)) R))), some (.int (nI (R))), (o6)] [] M') : jj G kR_isHeavy (d + 10) Q rc rs 0 (jj_ent [.ref r, .int (nI a), .int (-1)] 7) [] M := by
  have hcapD := hS.2.1.cap
  obtain ⟨ha1, ha2, ha3, ha4⟩ := id ha
  generalize hF_ : (fun k => rowL q c k (rowD q c k 1)) = F at K
  have hFk : ∀ k, F k = rowL q c k (rowD q c k 1) := fun k => by rw [← hF_]
  have loop : ∀ mu k, R = k + mu → ∀ (o6 : Option Value) (M9 : mheap) (D9 : List Int32) (v9 : Value) (rc9 rs9 : Nat), FC M9 f w vv pv V t up low P rk → RS M9 w D9 T v9 cm X Z rc9 rs9 → (∀ i, i < T → D9.getD i 0 = D.getD i 0) → FF M M9 f → nmax F k ≤ 15 * (e + s) → jj G kR_isHeavy (d + 10) Q rc9 rs9 17 [some (.ref r), some (.int (nI (a))), some (.int (-1)), some (.int (nI (T))), some (.int (nI (nmax F k))), some (.int (nI (k))), (o6)] [] M9 := by
    intro mu
    induction mu with
    | zero =>
      intro k hk o6 M9 D9 v9 rc9 rs9 hC9 hS9 ho9 hF9 hmx
      have e9 : R = k := by omega
      subst e9
      refine jj_iload (pc := 17) kR_isHeavy_d17 rfl ?_
      refine jj_aload_n (pc := 19) kR_isHeavy_d19 rfl ?_
      refine jj_getf (pc := 20) kR_isHeavy_d20 (kfR_f hG) (hR.ff hF9).1 rfl ?_
      refine jj_iload_n (pc := 23) kR_isHeavy_d23 rfl ?_
      refine jj_callV (pc := 24) (b := f) (As := [.int (nI (a))]) kR_isHeavy_d24 (kvR_RF_rows hG) (kG_cl hG rfl) rfl hC9.1 rfl rfl rfl (Nat.le_of_ble_eq_true rfl) (Nat.le_of_ble_eq_true rfl) (jj_bare0 rfl) ?_
      refine rf_rows hG hC9 hV (by omega) ?_
      show jj G kR_isHeavy (d + 10) Q rc9 rs9 27 [some (.ref r), some (.int (nI (a))), some (.int (-1)), some (.int (nI (T))), some (.int (nI (nmax F R))), some (.int (nI (R))), (o6)] [.int (V.getD a 0), .int (nI (R))] M9
      refine jn_top (.int (nI (R))) (by rw [ha2]) ?_
      refine jn_icmp_ge (pc := 27) (tgt := 110) kR_isHeavy_d27 (by decide) (by omega) (by omega) (fun _ => ?_) (fun c => by exfalso; omega)
      show jj G kR_isHeavy (d + 10) Q rc9 rs9 110 [some (.ref r), some (.int (nI (a))), some (.int (-1)), some (.int (nI (T))), some (.int (nI (nmax F R))), some (.int (nI (R))), (o6)] [] M9
      exact K M9 D9 v9 rc9 rs9 _ hC9 hS9 ho9 hF9 hmx
    | succ mu ih =>
      intro k hk o6 M9 D9 v9 rc9 rs9 hC9 hS9 ho9 hF9 hmx
      have hma9 := ha.congr (lo' := lo) (Nat.le_refl _) ho9 (Nat.le_refl _) (fun _ _ => rfl) (Nat.le_refl _)
      have h19 := h1.congr (Nat.le_refl _) ho9
      obtain ⟨hW101, hB101, hTD101, hz101, hp101⟩ := id hS9
      obtain ⟨dd101, hw101, hd101⟩ := id hW101
      have hcap101 := hB101.cap
      refine jj_iload (pc := 17) kR_isHeavy_d17 rfl ?_
      refine jj_aload_n (pc := 19) kR_isHeavy_d19 rfl ?_
      refine jj_getf (pc := 20) kR_isHeavy_d20 (kfR_f hG) (hR.ff hF9).1 rfl ?_
      refine jj_iload_n (pc := 23) kR_isHeavy_d23 rfl ?_
      refine jj_callV (pc := 24) (b := f) (As := [.int (nI (a))]) kR_isHeavy_d24 (kvR_RF_rows hG) (kG_cl hG rfl) rfl hC9.1 rfl rfl rfl (Nat.le_of_ble_eq_true rfl) (Nat.le_of_ble_eq_true rfl) (jj_bare0 rfl) ?_
      refine rf_rows hG hC9 hV (by omega) ?_
      show jj G kR_isHeavy (d + 10) Q rc9 rs9 27 [some (.ref r), some (.int (nI (a))), some (.int (-1)), some (.int (nI (T))), some (.int (nI (nmax F k))), some (.int (nI (k))), (o6)] [.int (V.getD a 0), .int (nI (k))] M9
      refine jn_top (.int (nI (R))) (by rw [ha2]) ?_
      refine jn_icmp_ge (pc := 27) (tgt := 110) kR_isHeavy_d27 (by decide) (by omega) (by omega) (fun c => by exfalso; omega) (fun _ => ?_)
      refine jj_aload_n (pc := 30) kR_isHeavy_d30 rfl ?_
      refine jn_iconst (pc := 31) 1 kR_isHeavy_d31 (by decide) ?_
      refine jj_iload_n (pc := 32) kR_isHeavy_d32 rfl ?_
      refine jj_iload (pc := 33) kR_isHeavy_d33 rfl ?_
      refine jj_callV (pc := 35) (b := r) (As := [.int (nI (1)), .int (nI (a)), .int (nI (k))]) kR_isHeavy_d35 (kvR_R_multiple hG) (kG_cl hG rfl) rfl (hR.ff hF9).1 rfl rfl rfl (Nat.le_of_ble_eq_true rfl) (Nat.le_of_ble_eq_true rfl) (jj_bare0 rfl) ?_
      refine rm_multiple (x := 1) (mk := T) (s := s) (e := e) (q := q) (zx := 1) hG (hR.ff hF9) hC9 hS9 hV htV (Or.inl ⟨rfl, rfl⟩) (Nat.le_refl _) hT3 h19 hma9 (by omega) (by omega) (by omega) h19 (by decide) (fun k hk => (hq k hk).2) (hlc k (by omega)) hes (by omega) (by omega) (fun M1 D1 T1 p1 v1 rc1 rs1 hC1 hS1 t1 u1 ho1 hF1 hI1 hp1 => ?_)
      show jj G kR_isHeavy (d + 10) Q rc1 rs1 38 [some (.ref r), some (.int (nI (a))), some (.int (-1)), some (.int (nI (T))), some (.int (nI (nmax F k))), some (.int (nI (k))), (o6)] [.int (nI (p1))] M1
      have hF91 := hF9.trans hF1
      have ho19 : ∀ i, i < T → D1.getD i 0 = D.getD i 0 := fun i hi => by rw [ho1 i hi, ho9 i hi]
      have lp1 := hI1.lt
      have hcap1 := hS1.2.1.cap
      obtain ⟨hW102, hB102, hTD102, hz102, hp102⟩ := id hS1
      obtain ⟨dd102, hw102, hd102⟩ := id hW102
      have hcap102 := hB102.cap
      refine jj_istore (pc := 38) kR_isHeavy_d38 (Nat.le_of_ble_eq_true rfl) ?_
      refine jj_iload_n (pc := 40) kR_isHeavy_d40 rfl ?_
      refine jj_iconst (pc := 41) (v := (-1)) kR_isHeavy_d41 (by decide) ?_
      refine jj_icmp_eq (pc := 42) (tgt := 56) kR_isHeavy_d42 (by decide) (fun _ => ?_) (fun c => absurd c (by decide))
      refine jj_iload (pc := 56) kR_isHeavy_d56 rfl ?_
      refine jj_aload_n (pc := 58) kR_isHeavy_d58 rfl ?_
      refine jj_iload (pc := 59) kR_isHeavy_d59 rfl ?_
      refine jj_iload_n (pc := 61) kR_isHeavy_d61 rfl ?_
      refine jj_iload (pc := 62) kR_isHeavy_d62 rfl ?_
      have bL : ZB e (rowD q c k 1) := hlc k (by omega) c (Nat.le_refl _)
      have hmaI := ha.congr (D' := D1) (T' := T1) (t' := t) (V' := V) (lo' := lo) t1 ho19 (Nat.le_refl _) (fun _ _ => rfl) (Nat.le_refl _)
      have hla := rowL_le (c := c) bL hq (show k < R by omega)
      refine jj_callV (pc := 64) (b := r) (As := [.int (nI (p1)), .int (nI (a)), .int (nI (k))]) kR_isHeavy_d64 (kvR_R_longest hG) (kG_cl hG rfl) rfl (hR.ff hF91).1 rfl rfl rfl (Nat.le_of_ble_eq_true rfl) (Nat.le_of_ble_eq_true rfl) (jj_bare0 rfl) ?_
      refine rm_longest (s := s) (e := e) (q := q) (zl := rowD q c k 1) hG (hR.ff hF91) hC1 hS1 hV htV hmaI (by omega) (by omega) (by omega) hI1 bL hq hes (by omega) (fun M3 D3 v3 rc3 rs3 hC3 hS3 ho3 hF3 => ?_)
      show jj G kR_isHeavy (d + 10) Q rc3 rs3 67 [some (.ref r), some (.int (nI (a))), some (.int (-1)), some (.int (nI (T))), some (.int (nI (nmax F k))), some (.int (nI (k))), some (.int (nI (p1)))] [.int (nI (rowL q c k (rowD q c k 1))), .int (nI (nmax F k))] M3
      have hF93 := hF91.trans hF3
      obtain ⟨hW103, hB103, hTD103, hz103, hp103⟩ := id hS3
      obtain ⟨dd103, hw103, hd103⟩ := id hW103
      have hcap103 := hB103.cap
      refine jj_iload_n (pc := 67) kR_isHeavy_d67 rfl ?_
      refine jj_iconst (pc := 68) (v := (-1)) kR_isHeavy_d68 (by decide) ?_
      have ho39 : ∀ i, i < T → D3.getD i 0 = D.getD i 0 := fun i hi => by rw [ho3 i (by omega), ho19 i hi]
      refine jj_icmp_eq (pc := 69) (tgt := 84) kR_isHeavy_d69 (by decide) (fun _ => ?_) (fun c => absurd c (by decide))
      refine jn_iconst (pc := 84) 0 kR_isHeavy_d84 (by decide) ?_
      refine jj_callS (pc := 85) (As := [.int (nI (rowL q c k (rowD q c k 1))), .int (nI (0))]) kR_isHeavy_d85 (kvR_JM_max hG) rfl rfl rfl (Nat.le_of_ble_eq_true rfl) (Nat.le_of_ble_eq_true rfl) (jj_bare0 rfl) ?_
      refine jm_max ?_
      show jj G kR_isHeavy (d + 10) Q rc3 rs3 88 [some (.ref r), some (.int (nI (a))), some (.int (-1)), some (.int (nI (T))), some (.int (nI (nmax F k))), some (.int (nI (k))), some (.int (nI (p1)))] [.int (if nI (rowL q c k (rowD q c k 1)) < nI (0) then nI (0) else nI (rowL q c k (rowD q c k 1))), .int (nI (nmax F k))] M3
      refine jn_top (.int (nI (F k))) (by rw [nI_mx (by omega) (by omega), hFk, Nat.max_eq_left (Nat.zero_le _)]) ?_
      have hFb : F k ≤ 15 * (e + s) := by rw [hFk]; exact hla
      refine jj_callS (pc := 88) (As := [.int (nI (nmax F k)), .int (nI (F k))]) kR_isHeavy_d88 (kvR_JM_max hG) rfl rfl rfl (Nat.le_of_ble_eq_true rfl) (Nat.le_of_ble_eq_true rfl) (jj_bare0 rfl) ?_
      refine jm_max ?_
      show jj G kR_isHeavy (d + 10) Q rc3 rs3 91 [some (.ref r), some (.int (nI (a))), some (.int (-1)), some (.int (nI (T))), some (.int (nI (nmax F k))), some (.int (nI (k))), some (.int (nI (p1)))] [.int (if nI (nmax F k) < nI (F k) then nI (F k) else nI (nmax F k))] M3
      refine jn_top (.int (nI (nmax F (k + 1)))) (by rw [nI_mx (by omega) (by omega)]; rfl) ?_
      refine jj_istore (pc := 91) kR_isHeavy_d91 (Nat.le_of_ble_eq_true rfl) ?_
      refine jj_aload_n (pc := 93) kR_isHeavy_d93 rfl ?_
      refine jj_getf (pc := 94) kR_isHeavy_d94 (kfR_f hG) (hR.ff hF93).1 rfl ?_
      refine jj_getf (pc := 97) kR_isHeavy_d97 (kfR_RF_w hG) hC3.1 rfl ?_
      refine jj_iload_n (pc := 100) kR_isHeavy_d100 rfl ?_
      refine jj_putf (pc := 101) kR_isHeavy_d101 (kpR_RW_top hG) hw103 (by rfl) rfl ?_
      refine jn_gen (fun M104 hM105 => ?_)
      have hf106 : RF M3 M104 w := by rw [hM105]; exact RF.top hw103
      have hS106 : RS M104 w D3 (T) v3 cm X Z rc3 rs3 := ⟨⟨dd103, by rw [hM105]; exact jj_up_at _ _ _, by rw [hM105, jj_up_ne _ _ (fun e => by have q1 := hd103; rw [e, hw103] at q1; cases q1)]; exact hd103⟩, hB103, by omega, hz103, by omega⟩
      have hC106 := hC3.rf hf106
      have hF106 := hF93.trans (FF.ofRF hC3 hf106)
      obtain ⟨hW107, hB107, hTD107, hz107, hp107⟩ := id hS106
      obtain ⟨dd107, hw107, hd107⟩ := id hW107
      have hcap107 := hB107.cap
      refine jn_iinc (pc := 104) (k + 1) kR_isHeavy_d104 rfl (nI_1 _) ?_
      refine jj_goto (pc := 107) (tgt := 17) kR_isHeavy_d107 (by decide) ?_
      show jj G kR_isHeavy (d + 10) Q rc3 rs3 17 [some (.ref r), some (.int (nI (a))), some (.int (-1)), some (.int (nI (T))), some (.int (nI (nmax F (k + 1)))), some (.int (nI (k + 1))), some (.int (nI (p1)))] [] M104
      exact ih (k + 1) (by omega) _ M104 D3 _ rc3 rs3 hC106 hS106 ho39 hF106 (Nat.max_le.mpr ⟨hmx, hFb⟩)
  obtain ⟨hW108, hB108, hTD108, hz108, hp108⟩ := id hS
  obtain ⟨dd108, hw108, hd108⟩ := id hW108
  have hcap108 := hB108.cap
  show jj G kR_isHeavy (d + 10) Q rc rs 0 [some (.ref r), some (.int (nI (a))), some (.int (-1)), none, none, none, none] [] M
  refine jj_aload_n (pc := 0) kR_isHeavy_d0 rfl ?_
  refine jj_getf (pc := 1) kR_isHeavy_d1 (kfR_f hG) hR.1 rfl ?_
  refine jj_getf (pc := 4) kR_isHeavy_d4 (kfR_RF_w hG) hC.1 rfl ?_
  refine jj_getf (pc := 7) kR_isHeavy_d7 (kfR_RW_top hG) hw108 rfl ?_
  refine jj_istore_n (pc := 10) kR_isHeavy_d10 (Nat.le_of_ble_eq_true rfl) ?_
  refine jn_iconst (pc := 11) 0 kR_isHeavy_d11 (by decide) ?_
  refine jj_istore (pc := 12) kR_isHeavy_d12 (Nat.le_of_ble_eq_true rfl) ?_
  show jj G kR_isHeavy (d + 10) Q rc rs 14 [some (.ref r), some (.int (nI (a))), some (.int (-1)), some (.int (nI (T))), some (.int (nI (0))), none, none] [] M
  refine jn_iconst (pc := 14) 0 kR_isHeavy_d14 (by decide) ?_
  refine jj_istore (pc := 15) kR_isHeavy_d15 (Nat.le_of_ble_eq_true rfl) ?_
  show jj G kR_isHeavy (d + 10) Q rc rs 17 [some (.ref r), some (.int (nI (a))), some (.int (-1)), some (.int (nI (T))), some (.int (nI (0))), some (.int (nI (0))), none] [] M
  exact loop R 0 (by omega) none M D v2 rc rs hC hS (fun _ _ => rfl) (FF.refl M f) (Nat.zero_le _)
theorem rm_heavy2 {a b R c cb lo lob T s e cm X Z : Nat} {q qb : Nat → Rat} (hG : kG G) (hR : RMC M r f fo st code) (hC : FC M f w vv pv V t up low P rk) (hS : RS M w D T v2 cm X Z rc rs) (hV : V.length < 2 ^ 31) (htV : t ≤ V.length) (hT3 : 3 ≤ T) (h1 : RI D T 1 1) (ha : MX D T V t a R c lo q) (hR' : R < 64) (hc : c < 64) (hq : ∀ k, k < R * c → ZB s (q k).num ∧ ZB s ((q k).den : Int)) (hlc : ∀ row, row < R → ∀ k, k ≤ c → ZB e (lcmf 1 (fun j => (q (row * c + j)).den) k)) (hb : MX D T V t b R cb lob qb) (hcb : cb < 64) (hqb : ∀ k, k < R * cb → ZB s (qb k).num ∧ ZB s ((qb k).den : Int)) (hlcb : ∀ row, row < R → ∀ k, k ≤ cb → ZB e (lcmf (rowD q c row 1) (fun j => (qb (row * cb + j)).den) k)) (hes : e + s ≤ 9000) (hT : T + 20000 + 30 * e + 30 * s + 1000 ≤ cm)
    (K : ∀ M' D' v2' rc' rs' o6, FC M' f w vv pv V t up low P rk → RS M' w D' T v2' cm X Z rc' rs' → (∀ i, i < T → D'.getD i 0 = D.getD i 0) → FF M M' f → nmax (fun k => max (rowL q c k (rowD qb cb k (rowD q c k 1))) (rowL qb cb k (rowD qb cb k (rowD q c k 1)))) R ≤ 15 * (e + s) → jj G kR_isHeavy (d + 10) Q rc' rs' 110 [some (.ref r), some (.int (nI (a))), some (.int (nI (b))), some (.int (nI (T))), some (.int (nI (nmax (fun k => max (rowL q c k (rowD qb cb k (rowD q c k 1))) (rowL qb cb k (rowD qb cb k (rowD q c k 1)))) R))), some (.int (nI (R))), (o6)] [] M') : jj G kR_isHeavy (d + 10) Q rc rs 0 (jj_ent [.ref r, .int (nI a), .int (nI b)] 7) [] M := by
  have hcapD := hS.2.1.cap
  obtain ⟨ha1, ha2, ha3, ha4⟩ := id ha
  generalize hF_ : (fun k => max (rowL q c k (rowD qb cb k (rowD q c k 1))) (rowL qb cb k (rowD qb cb k (rowD q c k 1)))) = F at K
  have hFk : ∀ k, F k = max (rowL q c k (rowD qb cb k (rowD q c k 1))) (rowL qb cb k (rowD qb cb k (rowD q c k 1))) := fun k => by rw [← hF_]
  have hbb := hb.1
  have loop : ∀ mu k, R = k + mu → ∀ (o6 : Option Value) (M9 : mheap) (D9 : List Int32) (v9 : Value) (rc9 rs9 : Nat), FC M9 f w vv pv V t up low P rk → RS M9 w D9 T v9 cm X Z rc9 rs9 → (∀ i, i < T → D9.getD i 0 = D.getD i 0) → FF M M9 f → nmax F k ≤ 15 * (e + s) → jj G kR_isHeavy (d + 10) Q rc9 rs9 17 [some (.ref r), some (.int (nI (a))), some (.int (nI (b))), some (.int (nI (T))), some (.int (nI (nmax F k))), some (.int (nI (k))), (o6)] [] M9 := by
    intro mu
    induction mu with
    | zero =>
      intro k hk o6 M9 D9 v9 rc9 rs9 hC9 hS9 ho9 hF9 hmx
      have e9 : R = k := by omega
      subst e9
      refine jj_iload (pc := 17) kR_isHeavy_d17 rfl ?_
      refine jj_aload_n (pc := 19) kR_isHeavy_d19 rfl ?_
      refine jj_getf (pc := 20) kR_isHeavy_d20 (kfR_f hG) (hR.ff hF9).1 rfl ?_
      refine jj_iload_n (pc := 23) kR_isHeavy_d23 rfl ?_
      refine jj_callV (pc := 24) (b := f) (As := [.int (nI (a))]) kR_isHeavy_d24 (kvR_RF_rows hG) (kG_cl hG rfl) rfl hC9.1 rfl rfl rfl (Nat.le_of_ble_eq_true rfl) (Nat.le_of_ble_eq_true rfl) (jj_bare0 rfl) ?_
      refine rf_rows hG hC9 hV (by omega) ?_
      show jj G kR_isHeavy (d + 10) Q rc9 rs9 27 [some (.ref r), some (.int (nI (a))), some (.int (nI (b))), some (.int (nI (T))), some (.int (nI (nmax F R))), some (.int (nI (R))), (o6)] [.int (V.getD a 0), .int (nI (R))] M9
      refine jn_top (.int (nI (R))) (by rw [ha2]) ?_
      refine jn_icmp_ge (pc := 27) (tgt := 110) kR_isHeavy_d27 (by decide) (by omega) (by omega) (fun _ => ?_) (fun c => by exfalso; omega)
      show jj G kR_isHeavy (d + 10) Q rc9 rs9 110 [some (.ref r), some (.int (nI (a))), some (.int (nI (b))), some (.int (nI (T))), some (.int (nI (nmax F R))), some (.int (nI (R))), (o6)] [] M9
      exact K M9 D9 v9 rc9 rs9 _ hC9 hS9 ho9 hF9 hmx
    | succ mu ih =>
      intro k hk o6 M9 D9 v9 rc9 rs9 hC9 hS9 ho9 hF9 hmx
      have hma9 := ha.congr (lo' := lo) (Nat.le_refl _) ho9 (Nat.le_refl _) (fun _ _ => rfl) (Nat.le_refl _)
      have h19 := h1.congr (Nat.le_refl _) ho9
      obtain ⟨hW109, hB109, hTD109, hz109, hp109⟩ := id hS9
      obtain ⟨dd109, hw109, hd109⟩ := id hW109
      have hcap109 := hB109.cap
      refine jj_iload (pc := 17) kR_isHeavy_d17 rfl ?_
      refine jj_aload_n (pc := 19) kR_isHeavy_d19 rfl ?_
      refine jj_getf (pc := 20) kR_isHeavy_d20 (kfR_f hG) (hR.ff hF9).1 rfl ?_
      refine jj_iload_n (pc := 23) kR_isHeavy_d23 rfl ?_
      refine jj_callV (pc := 24) (b := f) (As := [.int (nI (a))]) kR_isHeavy_d24 (kvR_RF_rows hG) (kG_cl hG rfl) rfl hC9.1 rfl rfl rfl (Nat.le_of_ble_eq_true rfl) (Nat.le_of_ble_eq_true rfl) (jj_bare0 rfl) ?_
      refine rf_rows hG hC9 hV (by omega) ?_
      show jj G kR_isHeavy (d + 10) Q rc9 rs9 27 [some (.ref r), some (.int (nI (a))), some (.int (nI (b))), some (.int (nI (T))), some (.int (nI (nmax F k))), some (.int (nI (k))), (o6)] [.int (V.getD a 0), .int (nI (k))] M9
      refine jn_top (.int (nI (R))) (by rw [ha2]) ?_
      refine jn_icmp_ge (pc := 27) (tgt := 110) kR_isHeavy_d27 (by decide) (by omega) (by omega) (fun c => by exfalso; omega) (fun _ => ?_)
      refine jj_aload_n (pc := 30) kR_isHeavy_d30 rfl ?_
      refine jn_iconst (pc := 31) 1 kR_isHeavy_d31 (by decide) ?_
      refine jj_iload_n (pc := 32) kR_isHeavy_d32 rfl ?_
      refine jj_iload (pc := 33) kR_isHeavy_d33 rfl ?_
      refine jj_callV (pc := 35) (b := r) (As := [.int (nI (1)), .int (nI (a)), .int (nI (k))]) kR_isHeavy_d35 (kvR_R_multiple hG) (kG_cl hG rfl) rfl (hR.ff hF9).1 rfl rfl rfl (Nat.le_of_ble_eq_true rfl) (Nat.le_of_ble_eq_true rfl) (jj_bare0 rfl) ?_
      refine rm_multiple (x := 1) (mk := T) (s := s) (e := e) (q := q) (zx := 1) hG (hR.ff hF9) hC9 hS9 hV htV (Or.inl ⟨rfl, rfl⟩) (Nat.le_refl _) hT3 h19 hma9 (by omega) (by omega) (by omega) h19 (by decide) (fun k hk => (hq k hk).2) (hlc k (by omega)) hes (by omega) (by omega) (fun M1 D1 T1 p1 v1 rc1 rs1 hC1 hS1 t1 u1 ho1 hF1 hI1 hp1 => ?_)
      show jj G kR_isHeavy (d + 10) Q rc1 rs1 38 [some (.ref r), some (.int (nI (a))), some (.int (nI (b))), some (.int (nI (T))), some (.int (nI (nmax F k))), some (.int (nI (k))), (o6)] [.int (nI (p1))] M1
      have hF91 := hF9.trans hF1
      have ho19 : ∀ i, i < T → D1.getD i 0 = D.getD i 0 := fun i hi => by rw [ho1 i hi, ho9 i hi]
      have lp1 := hI1.lt
      have hcap1 := hS1.2.1.cap
      obtain ⟨hW110, hB110, hTD110, hz110, hp110⟩ := id hS1
      obtain ⟨dd110, hw110, hd110⟩ := id hW110
      have hcap110 := hB110.cap
      refine jj_istore (pc := 38) kR_isHeavy_d38 (Nat.le_of_ble_eq_true rfl) ?_
      refine jj_iload_n (pc := 40) kR_isHeavy_d40 rfl ?_
      refine jj_iconst (pc := 41) (v := (-1)) kR_isHeavy_d41 (by decide) ?_
      refine jj_icmp_eq (pc := 42) (tgt := 56) kR_isHeavy_d42 (by decide) (fun c => absurd c (nI_m1ne (by omega))) (fun _ => ?_)
      refine jj_aload_n (pc := 45) kR_isHeavy_d45 rfl ?_
      refine jj_iload (pc := 46) kR_isHeavy_d46 rfl ?_
      refine jj_iload_n (pc := 48) kR_isHeavy_d48 rfl ?_
      refine jj_iload (pc := 49) kR_isHeavy_d49 rfl ?_
      have hmb1 := hb.congr (D' := D1) (T' := T) (t' := t) (V' := V) (lo' := lob) (Nat.le_refl _) ho19 (Nat.le_refl _) (fun _ _ => rfl) (Nat.le_refl _)
      have hz1 : 0 < rowD q c k 1 := lcmf_pos (by decide) (fun i hi => (q (k * c + i)).den_pos)
      refine jj_callV (pc := 51) (b := r) (As := [.int (nI (p1)), .int (nI (b)), .int (nI (k))]) kR_isHeavy_d51 (kvR_R_multiple hG) (kG_cl hG rfl) rfl (hR.ff hF91).1 rfl rfl rfl (Nat.le_of_ble_eq_true rfl) (Nat.le_of_ble_eq_true rfl) (jj_bare0 rfl) ?_
      refine rm_multiple (x := p1) (mk := T) (s := s) (e := e) (q := qb) (zx := rowD q c k 1) hG (hR.ff hF91) hC1 hS1 hV htV (by omega) t1 hT3 (h1.congr (Nat.le_refl _) ho19) hmb1 (by omega) (by omega) (by omega) hI1 hz1 (fun k hk => (hqb k hk).2) (hlcb k (by omega)) hes u1 (by omega) (fun M2 D2 T2 p2 v2_ rc2 rs2 hC2 hS2 t2 u2 ho2 hF2 hI2 hp2 => ?_)
      show jj G kR_isHeavy (d + 10) Q rc2 rs2 54 [some (.ref r), some (.int (nI (a))), some (.int (nI (b))), some (.int (nI (T))), some (.int (nI (nmax F k))), some (.int (nI (k))), some (.int (nI (p1)))] [.int (nI (p2))] M2
      have hF92 := hF91.trans hF2
      have ho29 : ∀ i, i < T → D2.getD i 0 = D.getD i 0 := fun i hi => by rw [ho2 i hi, ho19 i hi]
      have lp2 := hI2.lt
      have hcap2 := hS2.2.1.cap
      obtain ⟨hW111, hB111, hTD111, hz111, hp111⟩ := id hS2
      obtain ⟨dd111, hw111, hd111⟩ := id hW111
      have hcap111 := hB111.cap
      refine jj_istore (pc := 54) kR_isHeavy_d54 (Nat.le_of_ble_eq_true rfl) ?_
      refine jj_iload (pc := 56) kR_isHeavy_d56 rfl ?_
      refine jj_aload_n (pc := 58) kR_isHeavy_d58 rfl ?_
      refine jj_iload (pc := 59) kR_isHeavy_d59 rfl ?_
      refine jj_iload_n (pc := 61) kR_isHeavy_d61 rfl ?_
      refine jj_iload (pc := 62) kR_isHeavy_d62 rfl ?_
      have bL : ZB e (rowD qb cb k (rowD q c k 1)) := hlcb k (by omega) cb (Nat.le_refl _)
      have hmaI := ha.congr (D' := D2) (T' := T2) (t' := t) (V' := V) (lo' := lo) t2 ho29 (Nat.le_refl _) (fun _ _ => rfl) (Nat.le_refl _)
      have hla := rowL_le (c := c) bL hq (show k < R by omega)
      refine jj_callV (pc := 64) (b := r) (As := [.int (nI (p2)), .int (nI (a)), .int (nI (k))]) kR_isHeavy_d64 (kvR_R_longest hG) (kG_cl hG rfl) rfl (hR.ff hF92).1 rfl rfl rfl (Nat.le_of_ble_eq_true rfl) (Nat.le_of_ble_eq_true rfl) (jj_bare0 rfl) ?_
      refine rm_longest (s := s) (e := e) (q := q) (zl := rowD qb cb k (rowD q c k 1)) hG (hR.ff hF92) hC2 hS2 hV htV hmaI (by omega) (by omega) (by omega) hI2 bL hq hes (by omega) (fun M3 D3 v3 rc3 rs3 hC3 hS3 ho3 hF3 => ?_)
      show jj G kR_isHeavy (d + 10) Q rc3 rs3 67 [some (.ref r), some (.int (nI (a))), some (.int (nI (b))), some (.int (nI (T))), some (.int (nI (nmax F k))), some (.int (nI (k))), some (.int (nI (p2)))] [.int (nI (rowL q c k (rowD qb cb k (rowD q c k 1)))), .int (nI (nmax F k))] M3
      have hF93 := hF92.trans hF3
      obtain ⟨hW112, hB112, hTD112, hz112, hp112⟩ := id hS3
      obtain ⟨dd112, hw112, hd112⟩ := id hW112
      have hcap112 := hB112.cap
      refine jj_iload_n (pc := 67) kR_isHeavy_d67 rfl ?_
      refine jj_iconst (pc := 68) (v := (-1)) kR_isHeavy_d68 (by decide) ?_
      refine jj_icmp_eq (pc := 69) (tgt := 84) kR_isHeavy_d69 (by decide) (fun c => absurd c (nI_m1ne (by omega))) (fun _ => ?_)
      refine jj_aload_n (pc := 72) kR_isHeavy_d72 rfl ?_
      refine jj_iload (pc := 73) kR_isHeavy_d73 rfl ?_
      refine jj_iload_n (pc := 75) kR_isHeavy_d75 rfl ?_
      refine jj_iload (pc := 76) kR_isHeavy_d76 rfl ?_
      have ho39 : ∀ i, i < T → D3.getD i 0 = D.getD i 0 := fun i hi => by rw [ho3 i (by omega), ho29 i hi]
      have hmbI := hb.congr (D' := D3) (T' := T2) (t' := t) (V' := V) (lo' := lob) t2 ho39 (Nat.le_refl _) (fun _ _ => rfl) (Nat.le_refl _)
      have hlb := rowL_le (c := cb) bL hqb (show k < R by omega)
      refine jj_callV (pc := 78) (b := r) (As := [.int (nI (p2)), .int (nI (b)), .int (nI (k))]) kR_isHeavy_d78 (kvR_R_longest hG) (kG_cl hG rfl) rfl (hR.ff hF93).1 rfl rfl rfl (Nat.le_of_ble_eq_true rfl) (Nat.le_of_ble_eq_true rfl) (jj_bare0 rfl) ?_
      refine rm_longest (s := s) (e := e) (q := qb) (zl := rowD qb cb k (rowD q c k 1)) hG (hR.ff hF93) hC3 hS3 hV htV hmbI (by omega) (by omega) (by omega) (hI2.congr (Nat.le_refl _) ho3) bL hqb hes (by omega) (fun M4 D4 v4 rc4 rs4 hC4 hS4 ho4 hF4 => ?_)
      show jj G kR_isHeavy (d + 10) Q rc4 rs4 81 [some (.ref r), some (.int (nI (a))), some (.int (nI (b))), some (.int (nI (T))), some (.int (nI (nmax F k))), some (.int (nI (k))), some (.int (nI (p2)))] [.int (nI (rowL qb cb k (rowD qb cb k (rowD q c k 1)))), .int (nI (rowL q c k (rowD qb cb k (rowD q c k 1)))), .int (nI (nmax F k))] M4
      have hF94 := hF93.trans hF4
      have ho49 : ∀ i, i < T → D4.getD i 0 = D.getD i 0 := fun i hi => by rw [ho4 i (by omega), ho39 i hi]
      obtain ⟨hW113, hB113, hTD113, hz113, hp113⟩ := id hS4
      obtain ⟨dd113, hw113, hd113⟩ := id hW113
      have hcap113 := hB113.cap
      refine jj_goto (pc := 81) (tgt := 85) kR_isHeavy_d81 (by decide) ?_
      refine jj_callS (pc := 85) (As := [.int (nI (rowL q c k (rowD qb cb k (rowD q c k 1)))), .int (nI (rowL qb cb k (rowD qb cb k (rowD q c k 1))))]) kR_isHeavy_d85 (kvR_JM_max hG) rfl rfl rfl (Nat.le_of_ble_eq_true rfl) (Nat.le_of_ble_eq_true rfl) (jj_bare0 rfl) ?_
      refine jm_max ?_
      show jj G kR_isHeavy (d + 10) Q rc4 rs4 88 [some (.ref r), some (.int (nI (a))), some (.int (nI (b))), some (.int (nI (T))), some (.int (nI (nmax F k))), some (.int (nI (k))), some (.int (nI (p2)))] [.int (if nI (rowL q c k (rowD qb cb k (rowD q c k 1))) < nI (rowL qb cb k (rowD qb cb k (rowD q c k 1))) then nI (rowL qb cb k (rowD qb cb k (rowD q c k 1))) else nI (rowL q c k (rowD qb cb k (rowD q c k 1)))), .int (nI (nmax F k))] M4
      refine jn_top (.int (nI (F k))) (by rw [nI_mx (by omega) (by omega), hFk]) ?_
      have hFb : F k ≤ 15 * (e + s) := by rw [hFk]; exact Nat.max_le.mpr ⟨hla, hlb⟩
      refine jj_callS (pc := 88) (As := [.int (nI (nmax F k)), .int (nI (F k))]) kR_isHeavy_d88 (kvR_JM_max hG) rfl rfl rfl (Nat.le_of_ble_eq_true rfl) (Nat.le_of_ble_eq_true rfl) (jj_bare0 rfl) ?_
      refine jm_max ?_
      show jj G kR_isHeavy (d + 10) Q rc4 rs4 91 [some (.ref r), some (.int (nI (a))), some (.int (nI (b))), some (.int (nI (T))), some (.int (nI (nmax F k))), some (.int (nI (k))), some (.int (nI (p2)))] [.int (if nI (nmax F k) < nI (F k) then nI (F k) else nI (nmax F k))] M4
      refine jn_top (.int (nI (nmax F (k + 1)))) (by rw [nI_mx (by omega) (by omega)]; rfl) ?_
      refine jj_istore (pc := 91) kR_isHeavy_d91 (Nat.le_of_ble_eq_true rfl) ?_
      refine jj_aload_n (pc := 93) kR_isHeavy_d93 rfl ?_
      refine jj_getf (pc := 94) kR_isHeavy_d94 (kfR_f hG) (hR.ff hF94).1 rfl ?_
      refine jj_getf (pc := 97) kR_isHeavy_d97 (kfR_RF_w hG) hC4.1 rfl ?_
      refine jj_iload_n (pc := 100) kR_isHeavy_d100 rfl ?_
      refine jj_putf (pc := 101) kR_isHeavy_d101 (kpR_RW_top hG) hw113 (by rfl) rfl ?_
      refine jn_gen (fun M114 hM115 => ?_)
      have hf116 : RF M4 M114 w := by rw [hM115]; exact RF.top hw113
      have hS116 : RS M114 w D4 (T) v4 cm X Z rc4 rs4 := ⟨⟨dd113, by rw [hM115]; exact jj_up_at _ _ _, by rw [hM115, jj_up_ne _ _ (fun e => by have q1 := hd113; rw [e, hw113] at q1; cases q1)]; exact hd113⟩, hB113, by omega, hz113, by omega⟩
      have hC116 := hC4.rf hf116
      have hF116 := hF94.trans (FF.ofRF hC4 hf116)
      obtain ⟨hW117, hB117, hTD117, hz117, hp117⟩ := id hS116
      obtain ⟨dd117, hw117, hd117⟩ := id hW117
      have hcap117 := hB117.cap
      refine jn_iinc (pc := 104) (k + 1) kR_isHeavy_d104 rfl (nI_1 _) ?_
      refine jj_goto (pc := 107) (tgt := 17) kR_isHeavy_d107 (by decide) ?_
      show jj G kR_isHeavy (d + 10) Q rc4 rs4 17 [some (.ref r), some (.int (nI (a))), some (.int (nI (b))), some (.int (nI (T))), some (.int (nI (nmax F (k + 1)))), some (.int (nI (k + 1))), some (.int (nI (p2)))] [] M114
      exact ih (k + 1) (by omega) _ M114 D4 _ rc4 rs4 hC116 hS116 ho49 hF116 (Nat.max_le.mpr ⟨hmx, hFb⟩)
  obtain ⟨hW118, hB118, hTD118, hz118, hp118⟩ := id hS
  obtain ⟨dd118, hw118, hd118⟩ := id hW118
  have hcap118 := hB118.cap
  show jj G kR_isHeavy (d + 10) Q rc rs 0 [some (.ref r), some (.int (nI (a))), some (.int (nI (b))), none, none, none, none] [] M
  refine jj_aload_n (pc := 0) kR_isHeavy_d0 rfl ?_
  refine jj_getf (pc := 1) kR_isHeavy_d1 (kfR_f hG) hR.1 rfl ?_
  refine jj_getf (pc := 4) kR_isHeavy_d4 (kfR_RF_w hG) hC.1 rfl ?_
  refine jj_getf (pc := 7) kR_isHeavy_d7 (kfR_RW_top hG) hw118 rfl ?_
  refine jj_istore_n (pc := 10) kR_isHeavy_d10 (Nat.le_of_ble_eq_true rfl) ?_
  refine jn_iconst (pc := 11) 0 kR_isHeavy_d11 (by decide) ?_
  refine jj_istore (pc := 12) kR_isHeavy_d12 (Nat.le_of_ble_eq_true rfl) ?_
  show jj G kR_isHeavy (d + 10) Q rc rs 14 [some (.ref r), some (.int (nI (a))), some (.int (nI (b))), some (.int (nI (T))), some (.int (nI (0))), none, none] [] M
  refine jn_iconst (pc := 14) 0 kR_isHeavy_d14 (by decide) ?_
  refine jj_istore (pc := 15) kR_isHeavy_d15 (Nat.le_of_ble_eq_true rfl) ?_
  show jj G kR_isHeavy (d + 10) Q rc rs 17 [some (.ref r), some (.int (nI (a))), some (.int (nI (b))), some (.int (nI (T))), some (.int (nI (0))), some (.int (nI (0))), none] [] M
  exact loop R 0 (by omega) none M D v2 rc rs hC hS (fun _ _ => rfl) (FF.refl M f) (Nat.zero_le _)
end RM6
