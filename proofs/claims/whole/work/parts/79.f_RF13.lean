/-! ===== Fractions.cleared (printed by wip/gen/rf13.py) ===== -/
theorem cl_r {q : Nat → Rat} {n r p c k : Nat} (h : k / n = r) : gj (fun i k => q (i * n + k)) r p c (k / n) (k % n) = q (p * n + k % n) / q (p * n + c) := by
  rw [h, gj_r]
theorem cl_o {q : Nat → Rat} {n r p c k : Nat} (h : k / n ≠ r) : gj (fun i k => q (i * n + k)) r p c (k / n) (k % n) = q (clo r p (k / n) * n + k % n) - q (clo r p (k / n) * n + c) / q (p * n + c) * q (p * n + k % n) := by
  rw [gj_o _ h, show clo r p (k / n) = (if k / n = p then r else k / n) from if_neg h]
theorem div_next {k n : Nat} (hn : 0 < n) (h : (k + 1) % n ≠ 0) : (k + 1) / n = k / n := by
  have h1 := Nat.div_add_mod k n
  have h2 := Nat.mod_lt k hn
  have h3 : k % n + 1 < n := by
    rcases Nat.lt_or_ge (k % n + 1) n with g | g
    · exact g
    · exfalso; apply h
      have e : k + 1 = n * (k / n + 1) := by rw [Nat.mul_add, Nat.mul_one]; omega
      rw [e, Nat.mul_mod_right]
  rw [show k + 1 = n * (k / n) + (k % n + 1) by omega, Nat.mul_add_div hn, Nat.div_eq_of_lt h3]; omega
theorem cell_lt {m n i k : Nat} (hi : i < m) (hk : k < n) : i * n + k < m * n := by
  have h : (i + 1) * n ≤ m * n := Nat.mul_le_mul_right _ hi
  rw [Nat.succ_mul] at h
  omega
/-- what the cells and the factors of the rows take: B k for the first k cells -/
def BQ (B : Nat → Nat) (s n N : Nat) : Prop := (∀ k, k < N → B k + (2 * s + 2) + (if k % n = 0 then 2 * s + 2 else 0) ≤ B (k + 1)) ∧ ∀ k, k ≤ N → B k ≤ B N
theorem BQ.all (s n N : Nat) : BQ (fun k => k * (4 * s + 4)) s n N := by
  refine ⟨fun k _ => ?_, fun k hk => Nat.mul_le_mul_right _ hk⟩
  dsimp only
  obtain ⟨S4, hS4⟩ : ∃ S4, 4 * s + 4 = S4 := ⟨_, rfl⟩
  rw [hS4, Nat.succ_mul k]
  split <;> omega
theorem BQ.rows (s n N : Nat) (hn : 0 < n) : BQ (fun k => k * (2 * s + 2) + (k + n - 1) / n * (2 * s + 2)) s n N := by
  refine ⟨fun k _ => ?_, fun k hk => Nat.add_le_add (Nat.mul_le_mul_right _ hk) (Nat.mul_le_mul_right _ (Nat.div_le_div_right (by omega)))⟩
  dsimp only
  obtain ⟨S2, hS2⟩ : ∃ S2, 2 * s + 2 = S2 := ⟨_, rfl⟩
  rw [hS2, Nat.succ_mul k, show k + 1 + n - 1 = k + n by omega, Nat.add_div_right _ hn]
  have h1 := Nat.div_add_mod k n
  have h2 := Nat.mod_lt k hn
  by_cases h : k % n = 0
  · rw [if_pos h]
    have e : (k + n - 1) / n = k / n := by
      rw [show k + n - 1 = n * (k / n) + (n - 1) by omega, Nat.mul_add_div hn, Nat.div_eq_of_lt (show n - 1 < n by omega), Nat.add_zero]
    rw [e, Nat.succ_mul (k / n)]
    omega
  · rw [if_neg h]
    have e : (k + n - 1) / n = k / n + 1 := by
      rw [show k + n - 1 = n * (k / n) + (n + (k % n - 1)) by omega, Nat.mul_add_div hn, Nat.add_div_left _ hn, Nat.div_eq_of_lt (show k % n - 1 < n by omega)]
    rw [e, Nat.succ_mul (k / n)]
    omega
theorem BQ.rows_end (s : Nat) {m n : Nat} (hn : 0 < n) : m * n * (2 * s + 2) + (m * n + n - 1) / n * (2 * s + 2) = (m * n + m) * (2 * s + 2) := by
  have e : (m * n + n - 1) / n = m := by
    rw [show m * n + n - 1 = n * m + (n - 1) by rw [Nat.mul_comm m n]; omega, Nat.mul_add_div hn, Nat.div_eq_of_lt (show n - 1 < n by omega), Nat.add_zero]
  rw [e, Nat.add_mul]
section RF13
variable {G : jg} {d : Nat} {Q : jq} {rc rs : Nat} {M : mheap} {f w vv pv : Nat} {v2 : Value} {D V P : List Int32} {t : Nat} {up low rk : Int32}
theorem rf_cleared_mid {b nu r p c m n lob T s Sz cm cv X Z X' Z' : Nat} {q : Nat → Rat} {B : Nat → Nat} (hG : kG G) (hC : FC M f w vv pv V t up low P rk) (hS : RS M w D T v2 cm X Z rc rs) (hX : FXB cv V X Z X' Z') (htV : t ≤ V.length) (h1 : RI D T 1 1) (hT3 : 3 ≤ T) (hb : MX D T V t b m n lob q) (hm : m < 1024) (hn : n < 1024) (hr : r < m) (hp : p < m) (hc : c < n) (hq0 : q (p * n + c) ≠ 0) (hqs : ∀ k, k < m * n → ZB s (q k).num ∧ ZB s ((q k).den : Int)) (hfz : ∀ i, i < m → i ≠ r → ZB s (q (clo r p i * n + c) / q (p * n + c)).num ∧ ZB s ((q (clo r p i * n + c) / q (p * n + c)).den : Int)) (hres : ∀ k, k < m * n → ZB s (gj (fun i k => q (i * n + k)) r p c (k / n) (k % n)).num ∧ ZB s ((gj (fun i k => q (i * n + k)) r p c (k / n) (k % n)).den : Int)) (hBs : BQ B s n (m * n)) (hSz : B (m * n) = Sz) (hs2 : 3 * s + 1 ≤ 9000) (ht : t + 2 + 2 * (m * n) ≤ cv) (hT : T + Sz + 20000 + 100 * s + 500 ≤ cm)
    (K : MKP (fun _ M' rc' rs' => ∀ (pu pl : Nat) (o13 o14 o15 : Option Value) , jj G kRF_cleared (d + 10) Q rc' rs' 360 [some (.ref f), some (.int (nI (b))), some (.int (nI (nu))), some (.int (nI (r))), some (.int (nI (p))), some (.int (nI (c))), some (.int (nI (T))), some (.int (nI (n))), some (.int (nI (t))), some (.int (nI (p * n + c))), some (.int (nI (pu))), some (.int (nI (pl))), some (.int (nI (m * n))), (o13), (o14), (o15)] [] M') M f w pv D V t P rk T cm cv X' Z' (m) (n) (T + B (m * n)) (fun k => gj (fun i k => q (i * n + k)) r p c (k / n) (k % n))) : jj G kRF_cleared (d + 10) Q rc rs 0 [some (.ref f), some (.int (nI (b))), some (.int (nI (nu))), some (.int (nI (r))), some (.int (nI (p))), some (.int (nI (c))), none, none, none, none, none, none, none, none, none, none] [] M := by
  have hcap := hX.cap
  have hcr : (m) * (n) = m * n := rfl
  unfold MKP at K
  rw [hcr] at K
  have hcapD := hS.2.1.cap
  obtain ⟨hb1, hb2, hb3, hb4⟩ := id hb
  have hpl : p * n + c < m * n := cell_lt hp hc
  have hmn : m * n < 1024 * 1024 := Nat.mul_lt_mul_of_lt_of_le hm (by omega) (by decide)
  obtain ⟨hW101, hB101, hTD101, hz101, hp101⟩ := id hS
  obtain ⟨dd101, hw101, hd101⟩ := id hW101
  have hcap101 := hB101.cap
  refine jj_aload_n (pc := 0) kRF_cleared_d0 rfl ?_
  refine jj_getf (pc := 1) kRF_cleared_d1 (kfRF_w hG) hC.1 rfl ?_
  refine jj_getf (pc := 4) kRF_cleared_d4 (kfRF_RW_top hG) hw101 rfl ?_
  refine jj_istore (pc := 7) kRF_cleared_d7 (Nat.le_of_ble_eq_true rfl) ?_
  refine jj_aload_n (pc := 9) kRF_cleared_d9 rfl ?_
  refine jj_iload_n (pc := 10) kRF_cleared_d10 rfl ?_
  refine jj_callV (pc := 11) (b := f) (As := [.int (nI (b))]) kRF_cleared_d11 (kvRF_RF_columns hG) (kG_cl hG rfl) rfl hC.1 rfl rfl rfl (Nat.le_of_ble_eq_true rfl) (Nat.le_of_ble_eq_true rfl) (jj_bare0 rfl) ?_
  refine rf_columns hG hC (by omega) (by omega) ?_
  show jj G kRF_cleared (d + 10) Q rc rs 14 [some (.ref f), some (.int (nI (b))), some (.int (nI (nu))), some (.int (nI (r))), some (.int (nI (p))), some (.int (nI (c))), some (.int (nI (T))), none, none, none, none, none, none, none, none, none] [.int (V.getD (b + 1) 0)] M
  refine jn_top (.int (nI (n))) (by rw [hb3]) ?_
  refine jj_istore (pc := 14) kRF_cleared_d14 (Nat.le_of_ble_eq_true rfl) ?_
  refine jj_aload_n (pc := 16) kRF_cleared_d16 rfl ?_
  refine jj_aload_n (pc := 17) kRF_cleared_d17 rfl ?_
  refine jj_iload_n (pc := 18) kRF_cleared_d18 rfl ?_
  refine jj_callV (pc := 19) (b := f) (As := [.int (nI (b))]) kRF_cleared_d19 (kvRF_RF_rows hG) (kG_cl hG rfl) rfl hC.1 rfl rfl rfl (Nat.le_of_ble_eq_true rfl) (Nat.le_of_ble_eq_true rfl) (jj_bare0 rfl) ?_
  refine rf_rows hG hC (by omega) (by omega) ?_
  show jj G kRF_cleared (d + 10) Q rc rs 22 [some (.ref f), some (.int (nI (b))), some (.int (nI (nu))), some (.int (nI (r))), some (.int (nI (p))), some (.int (nI (c))), some (.int (nI (T))), some (.int (nI (n))), none, none, none, none, none, none, none, none] [.int (V.getD b 0), .ref f] M
  refine jn_top (.int (nI (m))) (by rw [hb2]) ?_
  refine jj_iload (pc := 22) kRF_cleared_d22 rfl ?_
  refine jj_callV (pc := 24) (b := f) (As := [.int (nI (m)), .int (nI (n))]) kRF_cleared_d24 (kvRF_RF_make hG) (kG_cl hG rfl) rfl hC.1 rfl rfl rfl (Nat.le_of_ble_eq_true rfl) (Nat.le_of_ble_eq_true rfl) (jj_bare0 rfl) ?_
  refine rf_make hG hC hS hX htV (by omega) (by omega) (by rw [hcr]; exact ht) (fun M1 vv V1 X1 Z1 rc1 rs1 hC1 hS1 hX1 hl1 hr1 hc1 ho1 hF1 => ?_)
  show jj G kRF_cleared (d + 10) Q rc1 rs1 27 [some (.ref f), some (.int (nI (b))), some (.int (nI (nu))), some (.int (nI (r))), some (.int (nI (p))), some (.int (nI (c))), some (.int (nI (T))), some (.int (nI (n))), none, none, none, none, none, none, none, none] [.int (nI (t))] M1
  rw [hcr] at hC1 hl1
  have hcap1 := hX1.cap
  refine jj_istore (pc := 27) kRF_cleared_d27 (Nat.le_of_ble_eq_true rfl) ?_
  refine jj_iload (pc := 29) kRF_cleared_d29 rfl ?_
  refine jj_iload (pc := 31) kRF_cleared_d31 rfl ?_
  refine jn_imul (pc := 33) (p * n) kRF_cleared_d33 rfl ?_
  refine jj_iload (pc := 34) kRF_cleared_d34 rfl ?_
  refine jn_iadd (pc := 36) (p * n + c) kRF_cleared_d36 (by omega) ?_
  refine jj_istore (pc := 37) kRF_cleared_d37 (Nat.le_of_ble_eq_true rfl) ?_
  refine jn_iconst (pc := 39) 0 kRF_cleared_d39 (by decide) ?_
  refine jj_istore (pc := 40) kRF_cleared_d40 (Nat.le_of_ble_eq_true rfl) ?_
  refine jn_iconst (pc := 42) 1 kRF_cleared_d42 (by decide) ?_
  refine jj_istore (pc := 43) kRF_cleared_d43 (Nat.le_of_ble_eq_true rfl) ?_
  refine jn_iconst (pc := 45) 0 kRF_cleared_d45 (by decide) ?_
  refine jj_istore (pc := 46) kRF_cleared_d46 (Nat.le_of_ble_eq_true rfl) ?_
  show jj G kRF_cleared (d + 10) Q rc1 rs1 48 [some (.ref f), some (.int (nI (b))), some (.int (nI (nu))), some (.int (nI (r))), some (.int (nI (p))), some (.int (nI (c))), some (.int (nI (T))), some (.int (nI (n))), some (.int (nI (t))), some (.int (nI (p * n + c))), some (.int (nI (0))), some (.int (nI (1))), some (.int (nI (0))), none, none, none] [] M1
  have loop : ∀ mu k, m * n = k + mu → ∀ (pu pl : Nat) (o13 o14 o15 : Option Value) (M9 : mheap) (D9 : List Int32) (T9 : Nat) (V9 : List Int32) (up9 low9 : Int32) (v9 : Value) (rc9 rs9 : Nat), FC M9 f w vv pv V9 (t + 2 + 2 * (m * n)) up9 low9 P rk → RS M9 w D9 T9 v9 cm X1 Z1 rc9 rs9 → T ≤ T9 → T9 ≤ T + B (k) → (∀ i, i < T → D9.getD i 0 = D.getD i 0) → V9.length = V1.length → (∀ i, i < t → V9.getD i 0 = V.getD i 0) → V9.getD t 0 = nI (m) → V9.getD (t + 1) 0 = nI (n) → FF M M9 f → (∀ k', k' < k → MC D9 T9 V9 t T k' ((fun k => gj (fun i k => q (i * n + k)) r p c (k / n) (k % n)) k')) → (k % n ≠ 0 → k / n ≠ r → q (clo r p (k / n) * n + c) ≠ 0 → FQ D9 T9 pu pl (q (clo r p (k / n) * n + c) / q (p * n + c))) → jj G kRF_cleared (d + 10) Q rc9 rs9 48 [some (.ref f), some (.int (nI (b))), some (.int (nI (nu))), some (.int (nI (r))), some (.int (nI (p))), some (.int (nI (c))), some (.int (nI (T))), some (.int (nI (n))), some (.int (nI (t))), some (.int (nI (p * n + c))), some (.int (nI (pu))), some (.int (nI (pl))), some (.int (nI (k))), (o13), (o14), (o15)] [] M9 := by
    intro mu
    induction mu with
    | zero =>
      intro k hk pu pl o13 o14 o15 M9 D9 T9 V9 up9 low9 v9 rc9 rs9 hC9 hS9 t9 u9 ho9 hlen9 hV9 hr9 hc9 hF9 hm9 hex
      have e : m * n = k := by omega
      subst e
      refine jj_iload (pc := 48) kRF_cleared_d48 rfl ?_
      refine jj_aload_n (pc := 50) kRF_cleared_d50 rfl ?_
      refine jj_iload_n (pc := 51) kRF_cleared_d51 rfl ?_
      refine jj_callV (pc := 52) (b := f) (As := [.int (nI (b))]) kRF_cleared_d52 (kvRF_RF_cells hG) (kG_cl hG rfl) rfl hC9.1 rfl rfl rfl (Nat.le_of_ble_eq_true rfl) (Nat.le_of_ble_eq_true rfl) (jj_bare0 rfl) ?_
      refine rf_cells (r := m) (c := n) hG hC9 (by omega) (by omega) (by rw [hV9 b (by omega)]; exact hb2) (by rw [hV9 (b + 1) (by omega)]; exact hb3) ?_
      show jj G kRF_cleared (d + 10) Q rc9 rs9 55 [some (.ref f), some (.int (nI (b))), some (.int (nI (nu))), some (.int (nI (r))), some (.int (nI (p))), some (.int (nI (c))), some (.int (nI (T))), some (.int (nI (n))), some (.int (nI (t))), some (.int (nI (p * n + c))), some (.int (nI (pu))), some (.int (nI (pl))), some (.int (nI (m * n))), (o13), (o14), (o15)] [.int (nI (m * n)), .int (nI (m * n))] M9
      refine jn_icmp_ge (pc := 55) (tgt := 360) kRF_cleared_d55 (by decide) (by omega) (by omega) (fun _ => ?_) (fun c => by exfalso; omega)
      show jj G kRF_cleared (d + 10) Q rc9 rs9 360 [some (.ref f), some (.int (nI (b))), some (.int (nI (nu))), some (.int (nI (r))), some (.int (nI (p))), some (.int (nI (c))), some (.int (nI (T))), some (.int (nI (n))), some (.int (nI (t))), some (.int (nI (p * n + c))), some (.int (nI (pu))), some (.int (nI (pl))), some (.int (nI (m * n))), (o13), (o14), (o15)] [] M9
      exact K M9 vv D9 T9 V9 up9 low9 X1 Z1 v9 rc9 rs9 hC9 hS9 (hX1.same hlen9) t9 u9 ho9 hV9 (by omega) hF9 ⟨by rw [hcr]; exact Nat.le_refl _, hr9, hc9, fun k' hk' => hm9 k' (by rw [hcr] at hk'; exact hk')⟩ pu pl o13 o14 o15
    | succ mu ih =>
      intro k hk pu pl o13 o14 o15 M9 D9 T9 V9 up9 low9 v9 rc9 rs9 hC9 hS9 t9 u9 ho9 hlen9 hV9 hr9 hc9 hF9 hm9 hex
      skip
      have h19 := h1.congr t9 ho9
      refine jj_iload (pc := 48) kRF_cleared_d48 rfl ?_
      refine jj_aload_n (pc := 50) kRF_cleared_d50 rfl ?_
      refine jj_iload_n (pc := 51) kRF_cleared_d51 rfl ?_
      refine jj_callV (pc := 52) (b := f) (As := [.int (nI (b))]) kRF_cleared_d52 (kvRF_RF_cells hG) (kG_cl hG rfl) rfl hC9.1 rfl rfl rfl (Nat.le_of_ble_eq_true rfl) (Nat.le_of_ble_eq_true rfl) (jj_bare0 rfl) ?_
      refine rf_cells (r := m) (c := n) hG hC9 (by omega) (by omega) (by rw [hV9 b (by omega)]; exact hb2) (by rw [hV9 (b + 1) (by omega)]; exact hb3) ?_
      show jj G kRF_cleared (d + 10) Q rc9 rs9 55 [some (.ref f), some (.int (nI (b))), some (.int (nI (nu))), some (.int (nI (r))), some (.int (nI (p))), some (.int (nI (c))), some (.int (nI (T))), some (.int (nI (n))), some (.int (nI (t))), some (.int (nI (p * n + c))), some (.int (nI (pu))), some (.int (nI (pl))), some (.int (nI (k))), (o13), (o14), (o15)] [.int (nI (m * n)), .int (nI (k))] M9
      refine jn_icmp_ge (pc := 55) (tgt := 360) kRF_cleared_d55 (by decide) (by omega) (by omega) (fun c => by exfalso; omega) (fun _ => ?_)
      have hn0 : 0 < n := Nat.pos_of_ne_zero (fun e => by rw [e, Nat.mul_zero] at hk; omega)
      obtain ⟨row, hrow⟩ : ∃ row, k / n = row := ⟨_, rfl⟩
      obtain ⟨kk, hkk⟩ : ∃ kk, k % n = kk := ⟨_, rfl⟩
      obtain ⟨od, hod⟩ : ∃ od, clo r p row = od := ⟨_, rfl⟩
      have hrl : row < m := by rw [← hrow]; exact (Nat.div_lt_iff_lt_mul hn0).mpr (by omega)
      have hkl : kk < n := by rw [← hkk]; exact Nat.mod_lt k hn0
      have hol : od < m := by rw [← hod]; exact clo_lt hr hp hrl
      obtain ⟨odn, hodn⟩ : ∃ odn, od * n = odn := ⟨_, rfl⟩
      obtain ⟨pn, hpn⟩ : ∃ pn, p * n = pn := ⟨_, rfl⟩
      obtain ⟨xo, hxo⟩ : ∃ xo, odn + c = xo := ⟨_, rfl⟩
      obtain ⟨xk, hxk⟩ : ∃ xk, odn + kk = xk := ⟨_, rfl⟩
      obtain ⟨yk, hyk⟩ : ∃ yk, pn + kk = yk := ⟨_, rfl⟩
      obtain ⟨yp, hyp⟩ : ∃ yp, pn + c = yp := ⟨_, rfl⟩
      have hxo' : xo < m * n := by rw [← hxo, ← hodn]; exact cell_lt hol hc
      have hxk' : xk < m * n := by rw [← hxk, ← hodn]; exact cell_lt hol hkl
      have hyk' : yk < m * n := by rw [← hyk, ← hpn]; exact cell_lt hp hkl
      have hyp' : yp < m * n := by rw [← hyp, ← hpn]; exact cell_lt hp hc
      have hq0' : q yp ≠ 0 := by rw [← hyp, ← hpn]; exact hq0
      have hgr : row = r → gj (fun i k => q (i * n + k)) r p c (k / n) (k % n) = q yk / q yp := fun e => by rw [cl_r (by rw [hrow]; exact e), hkk, hpn, hyk, hyp]
      have hgo : row ≠ r → gj (fun i k => q (i * n + k)) r p c (k / n) (k % n) = q xk - q xo / q yp * q yk := fun e => by rw [cl_o (by rw [hrow]; exact e), hkk, hrow, hod, hpn, hodn, hxo, hxk, hyk, hyp]
      have hrs := hres k (by omega)
      obtain ⟨bxo, exo⟩ := hqs xo hxo'
      obtain ⟨bxk, exk⟩ := hqs xk hxk'
      obtain ⟨byk, eyk⟩ := hqs yk hyk'
      obtain ⟨byp, eyp⟩ := hqs yp hyp'
      have hfz' : row ≠ r → ZB s (q xo / q yp).num ∧ ZB s ((q xo / q yp).den : Int) := fun e => by have := hfz row hrl e; rw [hod, hodn, hxo, hpn, hyp] at this; exact this
      have hex' : kk ≠ 0 → row ≠ r → q xo ≠ 0 → FQ D9 T9 pu pl (q xo / q yp) := by rw [hrow, hod, hodn, hxo, hkk, hpn, hyp] at hex; exact hex
      have hnx : (k + 1) % n ≠ 0 → (k + 1) / n ≠ r → q (clo r p ((k + 1) / n) * n + c) ≠ 0 → (row ≠ r ∧ q xo ≠ 0 ∧ q (clo r p ((k + 1) / n) * n + c) / q (p * n + c) = q xo / q yp) := fun e1 e2 e3 => by
        have e4 := div_next hn0 e1
        rw [e4, hrow, hod, hodn, hxo] at e3
        rw [e4, hrow] at e2
        exact ⟨e2, e3, by rw [e4, hrow, hod, hodn, hxo, hpn, hyp]⟩
      have hcap9 := hS9.2.1.cap
      have hz90 := hS9.2.2.2.1
      have hTD9 := hS9.2.2.1
      clear hex hqs hres hfz
      obtain ⟨qz, hqz⟩ : ∃ qz, (if kk = 0 then 2 * s + 2 else 0) = qz := ⟨_, rfl⟩
      have hqz2 : qz ≤ 2 * s + 2 := by rw [← hqz]; split <;> omega
      have hk1 := hBs.1 k (by omega)
      have hk2 := hBs.2 (k + 1) (by omega)
      rw [hkk, hqz] at hk1
      have k181 : ∀ (pu pl : Nat) (up8 low8 : Int32) (M8 : mheap) (D8 : List Int32) (T8 : Nat) (v8 : Value) (rc8 rs8 : Nat), FC M8 f w vv pv V9 (t + 2 + 2 * (m * n)) (up8) (low8) P (rk) → RS M8 w D8 T8 v8 cm X1 Z1 rc8 rs8 → T9 ≤ T8 → T8 ≤ T9 + qz → (∀ i, i < T9 → D8.getD i 0 = D9.getD i 0) → FF M9 M8 f → (row ≠ r → q xo ≠ 0 → FQ D8 T8 pu pl (q xo / q yp)) → jj G kRF_cleared (d + 10) Q rc8 rs8 181 [some (.ref f), some (.int (nI (b))), some (.int (nI (nu))), some (.int (nI (r))), some (.int (nI (p))), some (.int (nI (c))), some (.int (nI (T))), some (.int (nI (n))), some (.int (nI (t))), some (.int (nI (p * n + c))), some (.int (nI (pu))), some (.int (nI (pl))), some (.int (nI (k))), some (.int (nI (row))), some (.int (nI (od))), some (.int (nI (kk)))] [] M8 := by
        clear hex'
        intro pu pl up8 low8 M8 D8 T8 v8 rc8 rs8 hC8 hS8 t8 u8 ho8 hF8 hfq
        have tt8 : T ≤ T8 := by omega
        have ho80 : ∀ i, i < T → D8.getD i 0 = D.getD i 0 := fun i hi => by rw [ho8 i (by omega), ho9 i hi]
        have h18 := h1.congr tt8 ho80
        have hcap8 := hS8.2.1.cap
        have hz80 := hS8.2.2.2.1
        have hTD8 := hS8.2.2.1
        obtain ⟨pxo, lxo, axo, bxo_, qxo, -⟩ := (hb4 xo hxo').congr (V' := V9) (lo' := lob) tt8 ho80 (fun i _ h6 => hV9 i (by omega)) (Nat.le_refl _)
        have lpxo := qxo.1.lt
        have llxo := qxo.2.1.lt
        obtain ⟨pxk, lxk, axk, bxk_, qxk, -⟩ := (hb4 xk hxk').congr (V' := V9) (lo' := lob) tt8 ho80 (fun i _ h6 => hV9 i (by omega)) (Nat.le_refl _)
        have lpxk := qxk.1.lt
        have llxk := qxk.2.1.lt
        obtain ⟨pyk, lyk, ayk, byk_, qyk, -⟩ := (hb4 yk hyk').congr (V' := V9) (lo' := lob) tt8 ho80 (fun i _ h6 => hV9 i (by omega)) (Nat.le_refl _)
        have lpyk := qyk.1.lt
        have llyk := qyk.2.1.lt
        obtain ⟨pyp, lyp, ayp, byp_, qyp, -⟩ := (hb4 yp hyp').congr (V' := V9) (lo' := lob) tt8 ho80 (fun i _ h6 => hV9 i (by omega)) (Nat.le_refl _)
        have lpyp := qyp.1.lt
        have llyp := qyp.2.1.lt
        refine jj_iload (pc := 181) kRF_cleared_d181 rfl ?_
        refine jj_iload_n (pc := 183) kRF_cleared_d183 rfl ?_
        refine jn_icmp_ne (pc := 184) (tgt := 234) kRF_cleared_d184 (by decide) (by omega) (by omega) (fun c1 => ?_) (fun c1 => ?_)
        · skip
          rw [hgo c1] at hrs
          obtain ⟨hs1, hs2⟩ := hrs
          obtain ⟨hf1, hf2⟩ := hfz' c1
          have hgo' := hgo c1
          refine jj_aload_n (pc := 234) kRF_cleared_d234 rfl ?_
          refine jj_iload_n (pc := 235) kRF_cleared_d235 rfl ?_
          refine jj_iload (pc := 236) kRF_cleared_d236 rfl ?_
          refine jj_iload (pc := 238) kRF_cleared_d238 rfl ?_
          refine jn_imul (pc := 240) (odn) kRF_cleared_d240 hodn ?_
          refine jj_iload (pc := 241) kRF_cleared_d241 rfl ?_
          refine jn_iadd (pc := 243) (xo) kRF_cleared_d243 hxo ?_
          refine jj_callV (pc := 244) (b := f) (As := [.int (nI (b)), .int (nI (xo))]) kRF_cleared_d244 (kvRF_RF_upper hG) (kG_cl hG rfl) rfl hC8.1 rfl rfl rfl (Nat.le_of_ble_eq_true rfl) (Nat.le_of_ble_eq_true rfl) (jj_bare0 rfl) ?_
          refine rf_upper hG hC8 (by omega) (by omega) ?_
          show jj G kRF_cleared (d + 10) Q rc8 rs8 247 [some (.ref f), some (.int (nI (b))), some (.int (nI (nu))), some (.int (nI (r))), some (.int (nI (p))), some (.int (nI (c))), some (.int (nI (T))), some (.int (nI (n))), some (.int (nI (t))), some (.int (nI (p * n + c))), some (.int (nI (pu))), some (.int (nI (pl))), some (.int (nI (k))), some (.int (nI (row))), some (.int (nI (od))), some (.int (nI (kk)))] [.int (V9.getD (b + 2 + 2 * xo) 0)] M8
          refine jn_top (.int (nI (pxo))) (by rw [axo]) ?_
          have k266 : (q xo = 0 ∨ q yk = 0) → jj G kRF_cleared (d + 10) Q rc8 rs8 266 [some (.ref f), some (.int (nI (b))), some (.int (nI (nu))), some (.int (nI (r))), some (.int (nI (p))), some (.int (nI (c))), some (.int (nI (T))), some (.int (nI (n))), some (.int (nI (t))), some (.int (nI (p * n + c))), some (.int (nI (pu))), some (.int (nI (pl))), some (.int (nI (k))), some (.int (nI (row))), some (.int (nI (od))), some (.int (nI (kk)))] [] M8 := by
            intro h0
            have hval : q xk - q xo / q yp * q yk = q xk := by
              rcases h0 with h | h
              · rw [h]; grind
              · rw [h]; grind
            rw [hval] at hgo' 
            refine jj_aload_n (pc := 266) kRF_cleared_d266 rfl ?_
            refine jj_iload (pc := 267) kRF_cleared_d267 rfl ?_
            refine jj_iload (pc := 269) kRF_cleared_d269 rfl ?_
            refine jj_iload_n (pc := 271) kRF_cleared_d271 rfl ?_
            refine jj_iload (pc := 272) kRF_cleared_d272 rfl ?_
            refine jj_iload (pc := 274) kRF_cleared_d274 rfl ?_
            refine jn_imul (pc := 276) (odn) kRF_cleared_d276 hodn ?_
            refine jj_iload (pc := 277) kRF_cleared_d277 rfl ?_
            refine jn_iadd (pc := 279) (xk) kRF_cleared_d279 hxk ?_
            refine jj_callV (pc := 280) (b := f) (As := [.int (nI (t)), .int (nI (k)), .int (nI (b)), .int (nI (xk))]) kRF_cleared_d280 (kvRF_RF_same hG) (kG_cl hG rfl) rfl hC8.1 rfl rfl rfl (Nat.le_of_ble_eq_true rfl) (Nat.le_of_ble_eq_true rfl) (jj_bare0 rfl) ?_
            refine rf_same (a := t) (i := k) (b := b) (j := xk) (c := s) hG hC8 hS8 h18 (by omega) (by omega) ⟨pxk, lxk, axk, bxk_, qxk, Or.inr (Nat.zero_le _), Or.inr (Nat.zero_le _)⟩ (by omega) (by omega) bxk exk (by omega) (fun M5 D5 T5 V5 up5 low5 rc5 rs5 hC5 hS5 t5 u5 ho5 hl5 hv5 hF5 hm5 => ?_)
            show jj G kRF_cleared (d + 10) Q rc5 rs5 283 [some (.ref f), some (.int (nI (b))), some (.int (nI (nu))), some (.int (nI (r))), some (.int (nI (p))), some (.int (nI (c))), some (.int (nI (T))), some (.int (nI (n))), some (.int (nI (t))), some (.int (nI (p * n + c))), some (.int (nI (pu))), some (.int (nI (pl))), some (.int (nI (k))), some (.int (nI (row))), some (.int (nI (od))), some (.int (nI (kk)))] [] M5
            have t5' : T9 ≤ T5 := by omega
            have ho5' : ∀ i, i < T9 → D5.getD i 0 = D9.getD i 0 := fun i hi => by rw [ho5 i (by omega), ho8 i hi]
            have hfn := fun e1 e2 => (hfq e1 e2).congr t5 ho5
            rw [← hgo'] at hm5
            have hm5 := hm5.congr (lo' := T9) (Nat.le_refl _) (fun _ _ => rfl) (fun _ _ _ => rfl) t8
            have hF5 := hF8.trans hF5
            clear ho5 t5
            have ho5 := ho5'
            have t5 := t5'
            refine jj_goto (pc := 283) (tgt := 354) kRF_cleared_d283 (by decide) ?_
            refine jn_iinc (pc := 354) (k + 1) kRF_cleared_d354 rfl (nI_1 _) ?_
            refine jj_goto (pc := 357) (tgt := 48) kRF_cleared_d357 (by decide) ?_
            show jj G kRF_cleared (d + 10) Q rc5 rs5 48 [some (.ref f), some (.int (nI (b))), some (.int (nI (nu))), some (.int (nI (r))), some (.int (nI (p))), some (.int (nI (c))), some (.int (nI (T))), some (.int (nI (n))), some (.int (nI (t))), some (.int (nI (p * n + c))), some (.int (nI (pu))), some (.int (nI (pl))), some (.int (nI (k + 1))), some (.int (nI (row))), some (.int (nI (od))), some (.int (nI (kk)))] [] M5
            refine ih (k + 1) (by omega) pu pl _ _ _ M5 D5 T5 V5 _ _ v8 rc5 rs5 hC5 hS5 (by omega) (by omega) (fun i hi => by rw [ho5 i (by omega), ho9 i hi]) (by omega) (fun i hi => by rw [hv5 i (by omega), hV9 i hi]) (by rw [hv5 _ (by omega)]; exact hr9) (by rw [hv5 _ (by omega)]; exact hc9) (hF9.trans hF5) (fun k' hk' => ?_) (fun e1 e2 e3 => by
                obtain ⟨a1, a2, a3⟩ := hnx e1 e2 e3
                rw [a3]
                exact hfn a1 a2)
            by_cases e : k' = k
            · subst e
              exact hm5.congr (lo' := T) (Nat.le_refl _) (fun _ _ => rfl) (fun _ _ _ => rfl) t9
            · exact (hm9 k' (by omega)).congr t5 ho5 (fun i h6 h7 => hv5 i (by omega)) (Nat.le_refl _)
          refine jn_if_eq (pc := 247) (tgt := 266) kRF_cleared_d247 (by decide) (by omega) (fun c2 => ?_) (fun c2 => ?_)
          · skip
            exact k266 (Or.inl (Rat.num_eq_zero.mp (by subst c2; exact qxo.1.z0 hz80 (by omega))))
          · skip
            refine jj_aload_n (pc := 250) kRF_cleared_d250 rfl ?_
            refine jj_iload_n (pc := 251) kRF_cleared_d251 rfl ?_
            refine jj_iload (pc := 252) kRF_cleared_d252 rfl ?_
            refine jj_iload (pc := 254) kRF_cleared_d254 rfl ?_
            refine jn_imul (pc := 256) (pn) kRF_cleared_d256 hpn ?_
            refine jj_iload (pc := 257) kRF_cleared_d257 rfl ?_
            refine jn_iadd (pc := 259) (yk) kRF_cleared_d259 hyk ?_
            refine jj_callV (pc := 260) (b := f) (As := [.int (nI (b)), .int (nI (yk))]) kRF_cleared_d260 (kvRF_RF_upper hG) (kG_cl hG rfl) rfl hC8.1 rfl rfl rfl (Nat.le_of_ble_eq_true rfl) (Nat.le_of_ble_eq_true rfl) (jj_bare0 rfl) ?_
            refine rf_upper hG hC8 (by omega) (by omega) ?_
            show jj G kRF_cleared (d + 10) Q rc8 rs8 263 [some (.ref f), some (.int (nI (b))), some (.int (nI (nu))), some (.int (nI (r))), some (.int (nI (p))), some (.int (nI (c))), some (.int (nI (T))), some (.int (nI (n))), some (.int (nI (t))), some (.int (nI (p * n + c))), some (.int (nI (pu))), some (.int (nI (pl))), some (.int (nI (k))), some (.int (nI (row))), some (.int (nI (od))), some (.int (nI (kk)))] [.int (V9.getD (b + 2 + 2 * yk) 0)] M8
            refine jn_top (.int (nI (pyk))) (by rw [ayk]) ?_
            refine jn_if_ne (pc := 263) (tgt := 286) kRF_cleared_d263 (by decide) (by omega) (fun c3 => ?_) (fun c3 => ?_)
            · skip
              clear k266
              have hx0 : q xo ≠ 0 := fun e => by have h9 := qxo.1; rw [e] at h9; have := RI.p0 h9; omega
              have hfa := hfq c1 hx0
              have la := hfa.1.lt
              have lb := hfa.2.1.lt
              refine jj_aload_n (pc := 286) kRF_cleared_d286 rfl ?_
              refine jj_iload (pc := 287) kRF_cleared_d287 rfl ?_
              refine jj_iload (pc := 289) kRF_cleared_d289 rfl ?_
              refine jj_aload_n (pc := 291) kRF_cleared_d291 rfl ?_
              refine jj_iload_n (pc := 292) kRF_cleared_d292 rfl ?_
              refine jj_iload (pc := 293) kRF_cleared_d293 rfl ?_
              refine jj_iload (pc := 295) kRF_cleared_d295 rfl ?_
              refine jn_imul (pc := 297) (pn) kRF_cleared_d297 hpn ?_
              refine jj_iload (pc := 298) kRF_cleared_d298 rfl ?_
              refine jn_iadd (pc := 300) (yk) kRF_cleared_d300 hyk ?_
              refine jj_callV (pc := 301) (b := f) (As := [.int (nI (b)), .int (nI (yk))]) kRF_cleared_d301 (kvRF_RF_upper hG) (kG_cl hG rfl) rfl hC8.1 rfl rfl rfl (Nat.le_of_ble_eq_true rfl) (Nat.le_of_ble_eq_true rfl) (jj_bare0 rfl) ?_
              refine rf_upper hG hC8 (by omega) (by omega) ?_
              show jj G kRF_cleared (d + 10) Q rc8 rs8 304 [some (.ref f), some (.int (nI (b))), some (.int (nI (nu))), some (.int (nI (r))), some (.int (nI (p))), some (.int (nI (c))), some (.int (nI (T))), some (.int (nI (n))), some (.int (nI (t))), some (.int (nI (p * n + c))), some (.int (nI (pu))), some (.int (nI (pl))), some (.int (nI (k))), some (.int (nI (row))), some (.int (nI (od))), some (.int (nI (kk)))] [.int (V9.getD (b + 2 + 2 * yk) 0), .int (nI (pl)), .int (nI (pu)), .ref f] M8
              refine jn_top (.int (nI (pyk))) (by rw [ayk]) ?_
              refine jj_aload_n (pc := 304) kRF_cleared_d304 rfl ?_
              refine jj_iload_n (pc := 305) kRF_cleared_d305 rfl ?_
              refine jj_iload (pc := 306) kRF_cleared_d306 rfl ?_
              refine jj_iload (pc := 308) kRF_cleared_d308 rfl ?_
              refine jn_imul (pc := 310) (pn) kRF_cleared_d310 hpn ?_
              refine jj_iload (pc := 311) kRF_cleared_d311 rfl ?_
              refine jn_iadd (pc := 313) (yk) kRF_cleared_d313 hyk ?_
              refine jj_callV (pc := 314) (b := f) (As := [.int (nI (b)), .int (nI (yk))]) kRF_cleared_d314 (kvRF_RF_lower hG) (kG_cl hG rfl) rfl hC8.1 rfl rfl rfl (Nat.le_of_ble_eq_true rfl) (Nat.le_of_ble_eq_true rfl) (jj_bare0 rfl) ?_
              refine rf_lower hG hC8 (by omega) (by omega) ?_
              show jj G kRF_cleared (d + 10) Q rc8 rs8 317 [some (.ref f), some (.int (nI (b))), some (.int (nI (nu))), some (.int (nI (r))), some (.int (nI (p))), some (.int (nI (c))), some (.int (nI (T))), some (.int (nI (n))), some (.int (nI (t))), some (.int (nI (p * n + c))), some (.int (nI (pu))), some (.int (nI (pl))), some (.int (nI (k))), some (.int (nI (row))), some (.int (nI (od))), some (.int (nI (kk)))] [.int (V9.getD (b + 3 + 2 * yk) 0), .int (nI (pyk)), .int (nI (pl)), .int (nI (pu)), .ref f] M8
              refine jn_top (.int (nI (lyk))) (by rw [byk_]) ?_
              refine jj_aload_n (pc := 317) kRF_cleared_d317 rfl ?_
              refine jj_iload_n (pc := 318) kRF_cleared_d318 rfl ?_
              refine jj_iload (pc := 319) kRF_cleared_d319 rfl ?_
              refine jj_iload (pc := 321) kRF_cleared_d321 rfl ?_
              refine jn_imul (pc := 323) (odn) kRF_cleared_d323 hodn ?_
              refine jj_iload (pc := 324) kRF_cleared_d324 rfl ?_
              refine jn_iadd (pc := 326) (xk) kRF_cleared_d326 hxk ?_
              refine jj_callV (pc := 327) (b := f) (As := [.int (nI (b)), .int (nI (xk))]) kRF_cleared_d327 (kvRF_RF_upper hG) (kG_cl hG rfl) rfl hC8.1 rfl rfl rfl (Nat.le_of_ble_eq_true rfl) (Nat.le_of_ble_eq_true rfl) (jj_bare0 rfl) ?_
              refine rf_upper hG hC8 (by omega) (by omega) ?_
              show jj G kRF_cleared (d + 10) Q rc8 rs8 330 [some (.ref f), some (.int (nI (b))), some (.int (nI (nu))), some (.int (nI (r))), some (.int (nI (p))), some (.int (nI (c))), some (.int (nI (T))), some (.int (nI (n))), some (.int (nI (t))), some (.int (nI (p * n + c))), some (.int (nI (pu))), some (.int (nI (pl))), some (.int (nI (k))), some (.int (nI (row))), some (.int (nI (od))), some (.int (nI (kk)))] [.int (V9.getD (b + 2 + 2 * xk) 0), .int (nI (lyk)), .int (nI (pyk)), .int (nI (pl)), .int (nI (pu)), .ref f] M8
              refine jn_top (.int (nI (pxk))) (by rw [axk]) ?_
              refine jj_aload_n (pc := 330) kRF_cleared_d330 rfl ?_
              refine jj_iload_n (pc := 331) kRF_cleared_d331 rfl ?_
              refine jj_iload (pc := 332) kRF_cleared_d332 rfl ?_
              refine jj_iload (pc := 334) kRF_cleared_d334 rfl ?_
              refine jn_imul (pc := 336) (odn) kRF_cleared_d336 hodn ?_
              refine jj_iload (pc := 337) kRF_cleared_d337 rfl ?_
              refine jn_iadd (pc := 339) (xk) kRF_cleared_d339 hxk ?_
              refine jj_callV (pc := 340) (b := f) (As := [.int (nI (b)), .int (nI (xk))]) kRF_cleared_d340 (kvRF_RF_lower hG) (kG_cl hG rfl) rfl hC8.1 rfl rfl rfl (Nat.le_of_ble_eq_true rfl) (Nat.le_of_ble_eq_true rfl) (jj_bare0 rfl) ?_
              refine rf_lower hG hC8 (by omega) (by omega) ?_
              show jj G kRF_cleared (d + 10) Q rc8 rs8 343 [some (.ref f), some (.int (nI (b))), some (.int (nI (nu))), some (.int (nI (r))), some (.int (nI (p))), some (.int (nI (c))), some (.int (nI (T))), some (.int (nI (n))), some (.int (nI (t))), some (.int (nI (p * n + c))), some (.int (nI (pu))), some (.int (nI (pl))), some (.int (nI (k))), some (.int (nI (row))), some (.int (nI (od))), some (.int (nI (kk)))] [.int (V9.getD (b + 3 + 2 * xk) 0), .int (nI (pxk)), .int (nI (lyk)), .int (nI (pyk)), .int (nI (pl)), .int (nI (pu)), .ref f] M8
              refine jn_top (.int (nI (lxk))) (by rw [bxk_]) ?_
              refine jj_callV (pc := 343) (b := f) (As := [.int (nI (pu)), .int (nI (pl)), .int (nI (pyk)), .int (nI (lyk)), .int (nI (pxk)), .int (nI (lxk))]) kRF_cleared_d343 (kvRF_RF_less hG) (kG_cl hG rfl) rfl hC8.1 rfl rfl rfl (Nat.le_of_ble_eq_true rfl) (Nat.le_of_ble_eq_true rfl) (jj_bare0 rfl) ?_
              refine rf_less (a := s) (c := s) hG hC8 hS8 h18 (by omega) hfa qyk qxk hf1 hf2 byk eyk bxk exk (by omega) hs1 hs2 (by omega) (fun M6 D5 T5 p6 l6 v6 rc5 rs5 hC6 hS6 t5 u6 ho5 hF6 hq6 g1 g2 => ?_)
              show jj G kRF_cleared (d + 10) Q rc5 rs5 346 [some (.ref f), some (.int (nI (b))), some (.int (nI (nu))), some (.int (nI (r))), some (.int (nI (p))), some (.int (nI (c))), some (.int (nI (T))), some (.int (nI (n))), some (.int (nI (t))), some (.int (nI (p * n + c))), some (.int (nI (pu))), some (.int (nI (pl))), some (.int (nI (k))), some (.int (nI (row))), some (.int (nI (od))), some (.int (nI (kk)))] [] M6
              refine jj_aload_n (pc := 346) kRF_cleared_d346 rfl ?_
              refine jj_iload (pc := 347) kRF_cleared_d347 rfl ?_
              refine jj_iload (pc := 349) kRF_cleared_d349 rfl ?_
              have t5' : T9 ≤ T5 := by omega
              refine jj_callV (pc := 351) (b := f) (As := [.int (nI (t)), .int (nI (k))]) kRF_cleared_d351 (kvRF_RF_put hG) (kG_cl hG rfl) rfl hC6.1 rfl rfl rfl (Nat.le_of_ble_eq_true rfl) (Nat.le_of_ble_eq_true rfl) (jj_bare0 rfl) ?_
              refine rf_put (a := t) (i := k) hG hC6 hS6 (by omega) (by omega) (fun M5 hC5 hS5 hF7 => ?_)
              show jj G kRF_cleared (d + 10) Q rc5 rs5 354 [some (.ref f), some (.int (nI (b))), some (.int (nI (nu))), some (.int (nI (r))), some (.int (nI (p))), some (.int (nI (c))), some (.int (nI (T))), some (.int (nI (n))), some (.int (nI (t))), some (.int (nI (p * n + c))), some (.int (nI (pu))), some (.int (nI (pl))), some (.int (nI (k))), some (.int (nI (row))), some (.int (nI (od))), some (.int (nI (kk)))] [] M5
              obtain ⟨V5, hV5⟩ : ∃ V5, (V9.set (t + 2 + 2 * k) (nI p6)).set (t + 3 + 2 * k) (nI l6) = V5 := ⟨_, rfl⟩
              rw [hV5] at hC5
              have hl5 : V5.length = V9.length := by rw [← hV5, List.length_set, List.length_set]
              have hv5 : ∀ i, i < t + 2 + 2 * k ∨ t + 4 + 2 * k ≤ i → V5.getD i 0 = V9.getD i 0 := fun i hi => by rw [← hV5, gd_set_ne (by omega), gd_set_ne (by omega)]
              have hF5 := hF6.trans hF7
              have hm5 : MC D5 T5 V5 t T8 k (q xk - q xo / q yp * q yk) := ⟨p6, l6, by rw [← hV5, gd_set_ne (by omega)]; exact gd_set_eq (by omega), by rw [← hV5]; exact gd_set_eq (by rw [List.length_set]; omega), hq6, g1, g2⟩
              have ho5' : ∀ i, i < T9 → D5.getD i 0 = D9.getD i 0 := fun i hi => by rw [ho5 i (by omega), ho8 i hi]
              have hfn := fun e1 e2 => (hfq e1 e2).congr t5 ho5
              rw [← hgo'] at hm5
              have hm5 := hm5.congr (lo' := T9) (Nat.le_refl _) (fun _ _ => rfl) (fun _ _ _ => rfl) t8
              have hF5 := hF8.trans hF5
              clear ho5 t5
              have ho5 := ho5'
              have t5 := t5'
              refine jn_iinc (pc := 354) (k + 1) kRF_cleared_d354 rfl (nI_1 _) ?_
              refine jj_goto (pc := 357) (tgt := 48) kRF_cleared_d357 (by decide) ?_
              show jj G kRF_cleared (d + 10) Q rc5 rs5 48 [some (.ref f), some (.int (nI (b))), some (.int (nI (nu))), some (.int (nI (r))), some (.int (nI (p))), some (.int (nI (c))), some (.int (nI (T))), some (.int (nI (n))), some (.int (nI (t))), some (.int (nI (p * n + c))), some (.int (nI (pu))), some (.int (nI (pl))), some (.int (nI (k + 1))), some (.int (nI (row))), some (.int (nI (od))), some (.int (nI (kk)))] [] M5
              refine ih (k + 1) (by omega) pu pl _ _ _ M5 D5 T5 V5 _ _ v6 rc5 rs5 hC5 hS5 (by omega) (by omega) (fun i hi => by rw [ho5 i (by omega), ho9 i hi]) (by omega) (fun i hi => by rw [hv5 i (by omega), hV9 i hi]) (by rw [hv5 _ (by omega)]; exact hr9) (by rw [hv5 _ (by omega)]; exact hc9) (hF9.trans hF5) (fun k' hk' => ?_) (fun e1 e2 e3 => by
                  obtain ⟨a1, a2, a3⟩ := hnx e1 e2 e3
                  rw [a3]
                  exact hfn a1 a2)
              by_cases e : k' = k
              · subst e
                exact hm5.congr (lo' := T) (Nat.le_refl _) (fun _ _ => rfl) (fun _ _ _ => rfl) t9
              · exact (hm9 k' (by omega)).congr t5 ho5 (fun i h6 h7 => hv5 i (by omega)) (Nat.le_refl _)
            · skip
              exact k266 (Or.inr (Rat.num_eq_zero.mp (by subst c3; exact qyk.1.z0 hz80 (by omega))))
        · skip
          rw [hgr c1] at hrs
          obtain ⟨hs1, hs2⟩ := hrs
          refine jj_aload_n (pc := 187) kRF_cleared_d187 rfl ?_
          refine jj_aload_n (pc := 188) kRF_cleared_d188 rfl ?_
          refine jj_iload_n (pc := 189) kRF_cleared_d189 rfl ?_
          refine jj_iload (pc := 190) kRF_cleared_d190 rfl ?_
          refine jj_iload (pc := 192) kRF_cleared_d192 rfl ?_
          refine jn_imul (pc := 194) (pn) kRF_cleared_d194 hpn ?_
          refine jj_iload (pc := 195) kRF_cleared_d195 rfl ?_
          refine jn_iadd (pc := 197) (yk) kRF_cleared_d197 hyk ?_
          refine jj_callV (pc := 198) (b := f) (As := [.int (nI (b)), .int (nI (yk))]) kRF_cleared_d198 (kvRF_RF_upper hG) (kG_cl hG rfl) rfl hC8.1 rfl rfl rfl (Nat.le_of_ble_eq_true rfl) (Nat.le_of_ble_eq_true rfl) (jj_bare0 rfl) ?_
          refine rf_upper hG hC8 (by omega) (by omega) ?_
          show jj G kRF_cleared (d + 10) Q rc8 rs8 201 [some (.ref f), some (.int (nI (b))), some (.int (nI (nu))), some (.int (nI (r))), some (.int (nI (p))), some (.int (nI (c))), some (.int (nI (T))), some (.int (nI (n))), some (.int (nI (t))), some (.int (nI (p * n + c))), some (.int (nI (pu))), some (.int (nI (pl))), some (.int (nI (k))), some (.int (nI (row))), some (.int (nI (od))), some (.int (nI (kk)))] [.int (V9.getD (b + 2 + 2 * yk) 0), .ref f] M8
          refine jn_top (.int (nI (pyk))) (by rw [ayk]) ?_
          refine jj_aload_n (pc := 201) kRF_cleared_d201 rfl ?_
          refine jj_iload_n (pc := 202) kRF_cleared_d202 rfl ?_
          refine jj_iload (pc := 203) kRF_cleared_d203 rfl ?_
          refine jj_iload (pc := 205) kRF_cleared_d205 rfl ?_
          refine jn_imul (pc := 207) (pn) kRF_cleared_d207 hpn ?_
          refine jj_iload (pc := 208) kRF_cleared_d208 rfl ?_
          refine jn_iadd (pc := 210) (yk) kRF_cleared_d210 hyk ?_
          refine jj_callV (pc := 211) (b := f) (As := [.int (nI (b)), .int (nI (yk))]) kRF_cleared_d211 (kvRF_RF_lower hG) (kG_cl hG rfl) rfl hC8.1 rfl rfl rfl (Nat.le_of_ble_eq_true rfl) (Nat.le_of_ble_eq_true rfl) (jj_bare0 rfl) ?_
          refine rf_lower hG hC8 (by omega) (by omega) ?_
          show jj G kRF_cleared (d + 10) Q rc8 rs8 214 [some (.ref f), some (.int (nI (b))), some (.int (nI (nu))), some (.int (nI (r))), some (.int (nI (p))), some (.int (nI (c))), some (.int (nI (T))), some (.int (nI (n))), some (.int (nI (t))), some (.int (nI (p * n + c))), some (.int (nI (pu))), some (.int (nI (pl))), some (.int (nI (k))), some (.int (nI (row))), some (.int (nI (od))), some (.int (nI (kk)))] [.int (V9.getD (b + 3 + 2 * yk) 0), .int (nI (pyk)), .ref f] M8
          refine jn_top (.int (nI (lyk))) (by rw [byk_]) ?_
          refine jj_aload_n (pc := 214) kRF_cleared_d214 rfl ?_
          refine jj_iload_n (pc := 215) kRF_cleared_d215 rfl ?_
          refine jj_iload (pc := 216) kRF_cleared_d216 rfl ?_
          refine jn_top (.int (nI (yp))) (by rw [hpn, hyp]) ?_
          refine jj_callV (pc := 218) (b := f) (As := [.int (nI (b)), .int (nI (yp))]) kRF_cleared_d218 (kvRF_RF_upper hG) (kG_cl hG rfl) rfl hC8.1 rfl rfl rfl (Nat.le_of_ble_eq_true rfl) (Nat.le_of_ble_eq_true rfl) (jj_bare0 rfl) ?_
          refine rf_upper hG hC8 (by omega) (by omega) ?_
          show jj G kRF_cleared (d + 10) Q rc8 rs8 221 [some (.ref f), some (.int (nI (b))), some (.int (nI (nu))), some (.int (nI (r))), some (.int (nI (p))), some (.int (nI (c))), some (.int (nI (T))), some (.int (nI (n))), some (.int (nI (t))), some (.int (nI (p * n + c))), some (.int (nI (pu))), some (.int (nI (pl))), some (.int (nI (k))), some (.int (nI (row))), some (.int (nI (od))), some (.int (nI (kk)))] [.int (V9.getD (b + 2 + 2 * yp) 0), .int (nI (lyk)), .int (nI (pyk)), .ref f] M8
          refine jn_top (.int (nI (pyp))) (by rw [ayp]) ?_
          refine jj_aload_n (pc := 221) kRF_cleared_d221 rfl ?_
          refine jj_iload_n (pc := 222) kRF_cleared_d222 rfl ?_
          refine jj_iload (pc := 223) kRF_cleared_d223 rfl ?_
          refine jn_top (.int (nI (yp))) (by rw [hpn, hyp]) ?_
          refine jj_callV (pc := 225) (b := f) (As := [.int (nI (b)), .int (nI (yp))]) kRF_cleared_d225 (kvRF_RF_lower hG) (kG_cl hG rfl) rfl hC8.1 rfl rfl rfl (Nat.le_of_ble_eq_true rfl) (Nat.le_of_ble_eq_true rfl) (jj_bare0 rfl) ?_
          refine rf_lower hG hC8 (by omega) (by omega) ?_
          show jj G kRF_cleared (d + 10) Q rc8 rs8 228 [some (.ref f), some (.int (nI (b))), some (.int (nI (nu))), some (.int (nI (r))), some (.int (nI (p))), some (.int (nI (c))), some (.int (nI (T))), some (.int (nI (n))), some (.int (nI (t))), some (.int (nI (p * n + c))), some (.int (nI (pu))), some (.int (nI (pl))), some (.int (nI (k))), some (.int (nI (row))), some (.int (nI (od))), some (.int (nI (kk)))] [.int (V9.getD (b + 3 + 2 * yp) 0), .int (nI (pyp)), .int (nI (lyk)), .int (nI (pyk)), .ref f] M8
          refine jn_top (.int (nI (lyp))) (by rw [byp_]) ?_
          refine jj_callV (pc := 228) (b := f) (As := [.int (nI (pyk)), .int (nI (lyk)), .int (nI (pyp)), .int (nI (lyp))]) kRF_cleared_d228 (kvRF_RF_divide hG) (kG_cl hG rfl) rfl hC8.1 rfl rfl rfl (Nat.le_of_ble_eq_true rfl) (Nat.le_of_ble_eq_true rfl) (jj_bare0 rfl) ?_
          refine rf_divide (a := s) (c := s) hG hC8 hS8 h18 (by omega) qyk qyp hq0' byk eyk byp eyp (by omega) hs1 hs2 (by omega) (fun M6 D5 T5 p6 l6 v6 rc5 rs5 hC6 hS6 t5 u6 ho5 hF6 hq6 g1 g2 => ?_)
          show jj G kRF_cleared (d + 10) Q rc5 rs5 231 [some (.ref f), some (.int (nI (b))), some (.int (nI (nu))), some (.int (nI (r))), some (.int (nI (p))), some (.int (nI (c))), some (.int (nI (T))), some (.int (nI (n))), some (.int (nI (t))), some (.int (nI (p * n + c))), some (.int (nI (pu))), some (.int (nI (pl))), some (.int (nI (k))), some (.int (nI (row))), some (.int (nI (od))), some (.int (nI (kk)))] [] M6
          refine jj_goto (pc := 231) (tgt := 346) kRF_cleared_d231 (by decide) ?_
          refine jj_aload_n (pc := 346) kRF_cleared_d346 rfl ?_
          refine jj_iload (pc := 347) kRF_cleared_d347 rfl ?_
          refine jj_iload (pc := 349) kRF_cleared_d349 rfl ?_
          have t5' : T9 ≤ T5 := by omega
          refine jj_callV (pc := 351) (b := f) (As := [.int (nI (t)), .int (nI (k))]) kRF_cleared_d351 (kvRF_RF_put hG) (kG_cl hG rfl) rfl hC6.1 rfl rfl rfl (Nat.le_of_ble_eq_true rfl) (Nat.le_of_ble_eq_true rfl) (jj_bare0 rfl) ?_
          refine rf_put (a := t) (i := k) hG hC6 hS6 (by omega) (by omega) (fun M5 hC5 hS5 hF7 => ?_)
          show jj G kRF_cleared (d + 10) Q rc5 rs5 354 [some (.ref f), some (.int (nI (b))), some (.int (nI (nu))), some (.int (nI (r))), some (.int (nI (p))), some (.int (nI (c))), some (.int (nI (T))), some (.int (nI (n))), some (.int (nI (t))), some (.int (nI (p * n + c))), some (.int (nI (pu))), some (.int (nI (pl))), some (.int (nI (k))), some (.int (nI (row))), some (.int (nI (od))), some (.int (nI (kk)))] [] M5
          obtain ⟨V5, hV5⟩ : ∃ V5, (V9.set (t + 2 + 2 * k) (nI p6)).set (t + 3 + 2 * k) (nI l6) = V5 := ⟨_, rfl⟩
          rw [hV5] at hC5
          have hl5 : V5.length = V9.length := by rw [← hV5, List.length_set, List.length_set]
          have hv5 : ∀ i, i < t + 2 + 2 * k ∨ t + 4 + 2 * k ≤ i → V5.getD i 0 = V9.getD i 0 := fun i hi => by rw [← hV5, gd_set_ne (by omega), gd_set_ne (by omega)]
          have hF5 := hF6.trans hF7
          have hm5 : MC D5 T5 V5 t T8 k (q yk / q yp) := ⟨p6, l6, by rw [← hV5, gd_set_ne (by omega)]; exact gd_set_eq (by omega), by rw [← hV5]; exact gd_set_eq (by rw [List.length_set]; omega), hq6, g1, g2⟩
          have ho5' : ∀ i, i < T9 → D5.getD i 0 = D9.getD i 0 := fun i hi => by rw [ho5 i (by omega), ho8 i hi]
          have hfn := fun e1 e2 => (hfq e1 e2).congr t5 ho5
          rw [← (hgr c1)] at hm5
          have hm5 := hm5.congr (lo' := T9) (Nat.le_refl _) (fun _ _ => rfl) (fun _ _ _ => rfl) t8
          have hF5 := hF8.trans hF5
          clear ho5 t5
          have ho5 := ho5'
          have t5 := t5'
          refine jn_iinc (pc := 354) (k + 1) kRF_cleared_d354 rfl (nI_1 _) ?_
          refine jj_goto (pc := 357) (tgt := 48) kRF_cleared_d357 (by decide) ?_
          show jj G kRF_cleared (d + 10) Q rc5 rs5 48 [some (.ref f), some (.int (nI (b))), some (.int (nI (nu))), some (.int (nI (r))), some (.int (nI (p))), some (.int (nI (c))), some (.int (nI (T))), some (.int (nI (n))), some (.int (nI (t))), some (.int (nI (p * n + c))), some (.int (nI (pu))), some (.int (nI (pl))), some (.int (nI (k + 1))), some (.int (nI (row))), some (.int (nI (od))), some (.int (nI (kk)))] [] M5
          refine ih (k + 1) (by omega) pu pl _ _ _ M5 D5 T5 V5 _ _ v6 rc5 rs5 hC5 hS5 (by omega) (by omega) (fun i hi => by rw [ho5 i (by omega), ho9 i hi]) (by omega) (fun i hi => by rw [hv5 i (by omega), hV9 i hi]) (by rw [hv5 _ (by omega)]; exact hr9) (by rw [hv5 _ (by omega)]; exact hc9) (hF9.trans hF5) (fun k' hk' => ?_) (fun e1 e2 e3 => by
              obtain ⟨a1, a2, a3⟩ := hnx e1 e2 e3
              rw [a3]
              exact hfn a1 a2)
          by_cases e : k' = k
          · subst e
            exact hm5.congr (lo' := T) (Nat.le_refl _) (fun _ _ => rfl) (fun _ _ _ => rfl) t9
          · exact (hm9 k' (by omega)).congr t5 ho5 (fun i h6 h7 => hv5 i (by omega)) (Nat.le_refl _)
      clear hnx hgr hgo
      have k89 : jj G kRF_cleared (d + 10) Q rc9 rs9 89 [some (.ref f), some (.int (nI (b))), some (.int (nI (nu))), some (.int (nI (r))), some (.int (nI (p))), some (.int (nI (c))), some (.int (nI (T))), some (.int (nI (n))), some (.int (nI (t))), some (.int (nI (p * n + c))), some (.int (nI (pu))), some (.int (nI (pl))), some (.int (nI (k))), some (.int (nI (row))), (o14), (o15)] [.int (nI (od))] M9 := by
        have tt9 : T ≤ T9 := t9
        have ho90 := ho9
        refine jj_istore (pc := 89) kRF_cleared_d89 (Nat.le_of_ble_eq_true rfl) ?_
        refine jj_iload (pc := 91) kRF_cleared_d91 rfl ?_
        refine jj_iload (pc := 93) kRF_cleared_d93 rfl ?_
        refine jn_irem (pc := 95) (kk) kRF_cleared_d95 (by omega) (by omega) (by omega) hkk ?_
        refine jj_istore (pc := 96) kRF_cleared_d96 (Nat.le_of_ble_eq_true rfl) ?_
        refine jj_iload (pc := 98) kRF_cleared_d98 rfl ?_
        refine jn_if_ne (pc := 100) (tgt := 181) kRF_cleared_d100 (by decide) (by omega) (fun c1 => ?_) (fun c1 => ?_)
        · skip
          exact k181 pu pl _ _ M9 D9 T9 v9 rc9 rs9 hC9 hS9 (Nat.le_refl _) (by omega) (fun _ _ => rfl) (FF.refl M9 f) (hex' (by omega))
        · skip
          refine jj_iload (pc := 103) kRF_cleared_d103 rfl ?_
          refine jj_iload_n (pc := 105) kRF_cleared_d105 rfl ?_
          refine jn_icmp_eq (pc := 106) (tgt := 181) kRF_cleared_d106 (by decide) (by omega) (by omega) (fun c2 => ?_) (fun c2 => ?_)
          · skip
            exact k181 pu pl _ _ M9 D9 T9 v9 rc9 rs9 hC9 hS9 (Nat.le_refl _) (by omega) (fun _ _ => rfl) (FF.refl M9 f) (fun e => absurd c2 e)
          · skip
            refine jj_aload_n (pc := 109) kRF_cleared_d109 rfl ?_
            refine jj_iload_n (pc := 110) kRF_cleared_d110 rfl ?_
            refine jj_iload (pc := 111) kRF_cleared_d111 rfl ?_
            refine jj_iload (pc := 113) kRF_cleared_d113 rfl ?_
            refine jn_imul (pc := 115) (odn) kRF_cleared_d115 hodn ?_
            refine jj_iload (pc := 116) kRF_cleared_d116 rfl ?_
            refine jn_iadd (pc := 118) (xo) kRF_cleared_d118 hxo ?_
            obtain ⟨pxo, lxo, axo, bxo_, qxo, -⟩ := (hb4 xo hxo').congr (V' := V9) (lo' := lob) tt9 ho90 (fun i _ h6 => hV9 i (by omega)) (Nat.le_refl _)
            have lpxo := qxo.1.lt
            have llxo := qxo.2.1.lt
            obtain ⟨pyp, lyp, ayp, byp_, qyp, -⟩ := (hb4 yp hyp').congr (V' := V9) (lo' := lob) tt9 ho90 (fun i _ h6 => hV9 i (by omega)) (Nat.le_refl _)
            have lpyp := qyp.1.lt
            have llyp := qyp.2.1.lt
            refine jj_callV (pc := 119) (b := f) (As := [.int (nI (b)), .int (nI (xo))]) kRF_cleared_d119 (kvRF_RF_upper hG) (kG_cl hG rfl) rfl hC9.1 rfl rfl rfl (Nat.le_of_ble_eq_true rfl) (Nat.le_of_ble_eq_true rfl) (jj_bare0 rfl) ?_
            refine rf_upper hG hC9 (by omega) (by omega) ?_
            show jj G kRF_cleared (d + 10) Q rc9 rs9 122 [some (.ref f), some (.int (nI (b))), some (.int (nI (nu))), some (.int (nI (r))), some (.int (nI (p))), some (.int (nI (c))), some (.int (nI (T))), some (.int (nI (n))), some (.int (nI (t))), some (.int (nI (p * n + c))), some (.int (nI (pu))), some (.int (nI (pl))), some (.int (nI (k))), some (.int (nI (row))), some (.int (nI (od))), some (.int (nI (kk)))] [.int (V9.getD (b + 2 + 2 * xo) 0)] M9
            refine jn_top (.int (nI (pxo))) (by rw [axo]) ?_
            refine jn_if_eq (pc := 122) (tgt := 181) kRF_cleared_d122 (by decide) (by omega) (fun c3 => ?_) (fun c3 => ?_)
            · skip
              exact k181 pu pl _ _ M9 D9 T9 v9 rc9 rs9 hC9 hS9 (Nat.le_refl _) (by omega) (fun _ _ => rfl) (FF.refl M9 f) (fun _ e => absurd (Rat.num_eq_zero.mp (by subst c3; exact qxo.1.z0 hz90 (by omega))) e)
            · skip
              obtain ⟨hf1, hf2⟩ := hfz' c2
              have hqz3 : qz = 2 * s + 2 := by rw [← hqz, if_pos (by omega)]
              refine jj_aload_n (pc := 125) kRF_cleared_d125 rfl ?_
              refine jj_aload_n (pc := 126) kRF_cleared_d126 rfl ?_
              refine jj_iload_n (pc := 127) kRF_cleared_d127 rfl ?_
              refine jj_iload (pc := 128) kRF_cleared_d128 rfl ?_
              refine jj_iload (pc := 130) kRF_cleared_d130 rfl ?_
              refine jn_imul (pc := 132) (odn) kRF_cleared_d132 hodn ?_
              refine jj_iload (pc := 133) kRF_cleared_d133 rfl ?_
              refine jn_iadd (pc := 135) (xo) kRF_cleared_d135 hxo ?_
              refine jj_callV (pc := 136) (b := f) (As := [.int (nI (b)), .int (nI (xo))]) kRF_cleared_d136 (kvRF_RF_upper hG) (kG_cl hG rfl) rfl hC9.1 rfl rfl rfl (Nat.le_of_ble_eq_true rfl) (Nat.le_of_ble_eq_true rfl) (jj_bare0 rfl) ?_
              refine rf_upper hG hC9 (by omega) (by omega) ?_
              show jj G kRF_cleared (d + 10) Q rc9 rs9 139 [some (.ref f), some (.int (nI (b))), some (.int (nI (nu))), some (.int (nI (r))), some (.int (nI (p))), some (.int (nI (c))), some (.int (nI (T))), some (.int (nI (n))), some (.int (nI (t))), some (.int (nI (p * n + c))), some (.int (nI (pu))), some (.int (nI (pl))), some (.int (nI (k))), some (.int (nI (row))), some (.int (nI (od))), some (.int (nI (kk)))] [.int (V9.getD (b + 2 + 2 * xo) 0), .ref f] M9
              refine jn_top (.int (nI (pxo))) (by rw [axo]) ?_
              refine jj_aload_n (pc := 139) kRF_cleared_d139 rfl ?_
              refine jj_iload_n (pc := 140) kRF_cleared_d140 rfl ?_
              refine jj_iload (pc := 141) kRF_cleared_d141 rfl ?_
              refine jj_iload (pc := 143) kRF_cleared_d143 rfl ?_
              refine jn_imul (pc := 145) (odn) kRF_cleared_d145 hodn ?_
              refine jj_iload (pc := 146) kRF_cleared_d146 rfl ?_
              refine jn_iadd (pc := 148) (xo) kRF_cleared_d148 hxo ?_
              refine jj_callV (pc := 149) (b := f) (As := [.int (nI (b)), .int (nI (xo))]) kRF_cleared_d149 (kvRF_RF_lower hG) (kG_cl hG rfl) rfl hC9.1 rfl rfl rfl (Nat.le_of_ble_eq_true rfl) (Nat.le_of_ble_eq_true rfl) (jj_bare0 rfl) ?_
              refine rf_lower hG hC9 (by omega) (by omega) ?_
              show jj G kRF_cleared (d + 10) Q rc9 rs9 152 [some (.ref f), some (.int (nI (b))), some (.int (nI (nu))), some (.int (nI (r))), some (.int (nI (p))), some (.int (nI (c))), some (.int (nI (T))), some (.int (nI (n))), some (.int (nI (t))), some (.int (nI (p * n + c))), some (.int (nI (pu))), some (.int (nI (pl))), some (.int (nI (k))), some (.int (nI (row))), some (.int (nI (od))), some (.int (nI (kk)))] [.int (V9.getD (b + 3 + 2 * xo) 0), .int (nI (pxo)), .ref f] M9
              refine jn_top (.int (nI (lxo))) (by rw [bxo_]) ?_
              refine jj_aload_n (pc := 152) kRF_cleared_d152 rfl ?_
              refine jj_iload_n (pc := 153) kRF_cleared_d153 rfl ?_
              refine jj_iload (pc := 154) kRF_cleared_d154 rfl ?_
              refine jn_top (.int (nI (yp))) (by rw [hpn, hyp]) ?_
              refine jj_callV (pc := 156) (b := f) (As := [.int (nI (b)), .int (nI (yp))]) kRF_cleared_d156 (kvRF_RF_upper hG) (kG_cl hG rfl) rfl hC9.1 rfl rfl rfl (Nat.le_of_ble_eq_true rfl) (Nat.le_of_ble_eq_true rfl) (jj_bare0 rfl) ?_
              refine rf_upper hG hC9 (by omega) (by omega) ?_
              show jj G kRF_cleared (d + 10) Q rc9 rs9 159 [some (.ref f), some (.int (nI (b))), some (.int (nI (nu))), some (.int (nI (r))), some (.int (nI (p))), some (.int (nI (c))), some (.int (nI (T))), some (.int (nI (n))), some (.int (nI (t))), some (.int (nI (p * n + c))), some (.int (nI (pu))), some (.int (nI (pl))), some (.int (nI (k))), some (.int (nI (row))), some (.int (nI (od))), some (.int (nI (kk)))] [.int (V9.getD (b + 2 + 2 * yp) 0), .int (nI (lxo)), .int (nI (pxo)), .ref f] M9
              refine jn_top (.int (nI (pyp))) (by rw [ayp]) ?_
              refine jj_aload_n (pc := 159) kRF_cleared_d159 rfl ?_
              refine jj_iload_n (pc := 160) kRF_cleared_d160 rfl ?_
              refine jj_iload (pc := 161) kRF_cleared_d161 rfl ?_
              refine jn_top (.int (nI (yp))) (by rw [hpn, hyp]) ?_
              refine jj_callV (pc := 163) (b := f) (As := [.int (nI (b)), .int (nI (yp))]) kRF_cleared_d163 (kvRF_RF_lower hG) (kG_cl hG rfl) rfl hC9.1 rfl rfl rfl (Nat.le_of_ble_eq_true rfl) (Nat.le_of_ble_eq_true rfl) (jj_bare0 rfl) ?_
              refine rf_lower hG hC9 (by omega) (by omega) ?_
              show jj G kRF_cleared (d + 10) Q rc9 rs9 166 [some (.ref f), some (.int (nI (b))), some (.int (nI (nu))), some (.int (nI (r))), some (.int (nI (p))), some (.int (nI (c))), some (.int (nI (T))), some (.int (nI (n))), some (.int (nI (t))), some (.int (nI (p * n + c))), some (.int (nI (pu))), some (.int (nI (pl))), some (.int (nI (k))), some (.int (nI (row))), some (.int (nI (od))), some (.int (nI (kk)))] [.int (V9.getD (b + 3 + 2 * yp) 0), .int (nI (pyp)), .int (nI (lxo)), .int (nI (pxo)), .ref f] M9
              refine jn_top (.int (nI (lyp))) (by rw [byp_]) ?_
              refine jj_callV (pc := 166) (b := f) (As := [.int (nI (pxo)), .int (nI (lxo)), .int (nI (pyp)), .int (nI (lyp))]) kRF_cleared_d166 (kvRF_RF_divide hG) (kG_cl hG rfl) rfl hC9.1 rfl rfl rfl (Nat.le_of_ble_eq_true rfl) (Nat.le_of_ble_eq_true rfl) (jj_bare0 rfl) ?_
              refine rf_divide (a := s) (c := s) hG hC9 hS9 h19 (by omega) qxo qyp hq0' bxo exo byp eyp (by omega) hf1 hf2 (by omega) (fun M6 D6 T6 p6 l6 v6 rc6 rs6 hC6 hS6 t6 u6 ho6 hF6 hq6 g1 g2 => ?_)
              show jj G kRF_cleared (d + 10) Q rc6 rs6 169 [some (.ref f), some (.int (nI (b))), some (.int (nI (nu))), some (.int (nI (r))), some (.int (nI (p))), some (.int (nI (c))), some (.int (nI (T))), some (.int (nI (n))), some (.int (nI (t))), some (.int (nI (p * n + c))), some (.int (nI (pu))), some (.int (nI (pl))), some (.int (nI (k))), some (.int (nI (row))), some (.int (nI (od))), some (.int (nI (kk)))] [] M6
              refine jj_aload_n (pc := 169) kRF_cleared_d169 rfl ?_
              refine jj_getf (pc := 170) kRF_cleared_d170 (kfRF_up hG) hC6.1 rfl ?_
              refine jj_istore (pc := 173) kRF_cleared_d173 (Nat.le_of_ble_eq_true rfl) ?_
              refine jj_aload_n (pc := 175) kRF_cleared_d175 rfl ?_
              refine jj_getf (pc := 176) kRF_cleared_d176 (kfRF_low hG) hC6.1 rfl ?_
              refine jj_istore (pc := 179) kRF_cleared_d179 (Nat.le_of_ble_eq_true rfl) ?_
              show jj G kRF_cleared (d + 10) Q rc6 rs6 181 [some (.ref f), some (.int (nI (b))), some (.int (nI (nu))), some (.int (nI (r))), some (.int (nI (p))), some (.int (nI (c))), some (.int (nI (T))), some (.int (nI (n))), some (.int (nI (t))), some (.int (nI (p * n + c))), some (.int (nI (p6))), some (.int (nI (l6))), some (.int (nI (k))), some (.int (nI (row))), some (.int (nI (od))), some (.int (nI (kk)))] [] M6
              exact k181 p6 l6 _ _ M6 D6 T6 v6 rc6 rs6 hC6 hS6 t6 (by omega) ho6 hF6 (fun _ _ => hq6)
      clear k181 hex' hfz'
      refine jj_iload (pc := 58) kRF_cleared_d58 rfl ?_
      refine jj_iload (pc := 60) kRF_cleared_d60 rfl ?_
      refine jn_idiv (pc := 62) (row) kRF_cleared_d62 (by omega) (by omega) (by omega) hrow ?_
      refine jj_istore (pc := 63) kRF_cleared_d63 (Nat.le_of_ble_eq_true rfl) ?_
      refine jj_iload (pc := 65) kRF_cleared_d65 rfl ?_
      refine jj_iload_n (pc := 67) kRF_cleared_d67 rfl ?_
      refine jn_icmp_ne (pc := 68) (tgt := 76) kRF_cleared_d68 (by decide) (by omega) (by omega) (fun c1 => ?_) (fun c1 => ?_)
      · skip
        refine jj_iload (pc := 76) kRF_cleared_d76 rfl ?_
        refine jj_iload (pc := 78) kRF_cleared_d78 rfl ?_
        refine jn_icmp_ne (pc := 80) (tgt := 87) kRF_cleared_d80 (by decide) (by omega) (by omega) (fun c2 => ?_) (fun c2 => ?_)
        · skip
          refine jj_iload (pc := 87) kRF_cleared_d87 rfl ?_
          have e9 : od = row := by rw [← hod]; exact (if_neg c1).trans (if_neg c2)
          refine jn_top (.int (nI (od))) (by rw [e9]) ?_
          exact k89
        · skip
          refine jj_iload_n (pc := 83) kRF_cleared_d83 rfl ?_
          refine jj_goto (pc := 84) (tgt := 89) kRF_cleared_d84 (by decide) ?_
          have e9 : od = r := by rw [← hod]; exact (if_neg c1).trans (if_pos c2)
          refine jn_top (.int (nI (od))) (by rw [e9]) ?_
          exact k89
      · skip
        refine jj_iload (pc := 71) kRF_cleared_d71 rfl ?_
        refine jj_goto (pc := 73) (tgt := 89) kRF_cleared_d73 (by decide) ?_
        have e9 : od = p := by rw [← hod]; exact if_pos c1
        refine jn_top (.int (nI (od))) (by rw [e9]) ?_
        exact k89
  exact loop (m * n) 0 (by omega) 0 1 none none none M1 D T V1 up low v2 rc1 rs1 hC1 hS1 (Nat.le_refl _) (by omega) (fun _ _ => rfl) rfl ho1 hr1 hc1 hF1 (fun k' hk' => by omega) (fun e => absurd (Nat.zero_mod n) e)
theorem rf_cleared {b nu r p c m n lob T s Sz cm cv X Z X' Z' : Nat} {q : Nat → Rat} {B : Nat → Nat} (hG : kG G) (hC : FC M f w vv pv V t up low P rk) (hS : RS M w D T v2 cm X Z rc rs) (hX : FXB cv V X Z X' Z') (htV : t ≤ V.length) (h1 : RI D T 1 1) (hT3 : 3 ≤ T) (hb : MX D T V t b m n lob q) (hm : m < 1024) (hn : n < 1024) (hr : r < m) (hp : p < m) (hc : c < n) (hq0 : q (p * n + c) ≠ 0) (hqs : ∀ k, k < m * n → ZB s (q k).num ∧ ZB s ((q k).den : Int)) (hfz : ∀ i, i < m → i ≠ r → ZB s (q (clo r p i * n + c) / q (p * n + c)).num ∧ ZB s ((q (clo r p i * n + c) / q (p * n + c)).den : Int)) (hres : ∀ k, k < m * n → ZB s (gj (fun i k => q (i * n + k)) r p c (k / n) (k % n)).num ∧ ZB s ((gj (fun i k => q (i * n + k)) r p c (k / n) (k % n)).den : Int)) (hBs : BQ B s n (m * n)) (hSz : B (m * n) = Sz) (hs2 : 3 * s + 1 ≤ 9000) (ht : t + 2 + 2 * (m * n) ≤ cv) (hT : T + Sz + 20000 + 100 * s + 500 ≤ cm) (h1n : RI D nu 1 1) (hnu : 3 ≤ nu) (hnT : nu ≤ T)
    (K : MKP Q M f w pv D V b P rk nu cm cv X' Z' m n (nu + Sz) (fun k => gj (fun i k => q (i * n + k)) r p c (k / n) (k % n))) : jj G kRF_cleared (d + 10) Q rc rs 0 (jj_ent [.ref f, .int (nI b), .int (nI nu), .int (nI r), .int (nI p), .int (nI c)] 16) [] M := by
  have hb1 := hb.1
  have hmn : m * n < 1024 * 1024 := Nat.mul_lt_mul_of_lt_of_le hm (by omega) (by decide)
  show jj G kRF_cleared (d + 10) Q rc rs 0 [some (.ref f), some (.int (nI (b))), some (.int (nI (nu))), some (.int (nI (r))), some (.int (nI (p))), some (.int (nI (c))), none, none, none, none, none, none, none, none, none, none] [] M
  refine rf_cleared_mid (lob := lob) (s := s) (Sz := Sz) (B := B) hG hC hS hX htV h1 hT3 hb hm hn hr hp hc hq0 hqs hfz hres hBs hSz hs2 ht hT (fun M2 vv D2 T2 V2 up2 low2 X2 Z2 v3 rc2 rs2 hC2 hS2 hX2 t2 u2 ho2 hv2 hl2 hF2 hm2 pu pl o13 o14 o15 => ?_)
  have hcap2 := hX2.cap
  rw [hSz] at u2
  show jj G kRF_cleared (d + 10) Q rc2 rs2 360 [some (.ref f), some (.int (nI (b))), some (.int (nI (nu))), some (.int (nI (r))), some (.int (nI (p))), some (.int (nI (c))), some (.int (nI (T))), some (.int (nI (n))), some (.int (nI (t))), some (.int (nI (p * n + c))), some (.int (nI (pu))), some (.int (nI (pl))), some (.int (nI (m * n))), (o13), (o14), (o15)] [] M2
  refine jj_aload_n (pc := 360) kRF_cleared_d360 rfl ?_
  refine jj_iload_n (pc := 361) kRF_cleared_d361 rfl ?_
  refine jj_iload_n (pc := 362) kRF_cleared_d362 rfl ?_
  refine jj_iload (pc := 363) kRF_cleared_d363 rfl ?_
  refine jj_iload (pc := 365) kRF_cleared_d365 rfl ?_
  have h12 : RI D2 nu 1 1 := h1n.congr (Nat.le_refl _) (fun i hi => by rw [ho2 i (by omega)])
  refine jj_callV (pc := 367) (b := f) (As := [.int (nI (nu)), .int (nI (b)), .int (nI (T)), .int (nI (t))]) kRF_cleared_d367 (kvRF_RF_slide hG) (kG_cl hG rfl) rfl hC2.1 rfl rfl rfl (Nat.le_of_ble_eq_true rfl) (Nat.le_of_ble_eq_true rfl) (jj_bare0 rfl) ?_
  refine rf_slide hG hC2 hS2 (by omega) (by omega) hm2 h12 hnu hnT t2 (by omega) (by omega) (by omega) (by omega) (fun M3 D3 T3 V3 hC3 hS3 t3 ho3 hl3 hv3 hF3 hm3 => ?_)
  show jj G kRF_cleared (d + 10) Q rc2 rs2 370 [some (.ref f), some (.int (nI (b))), some (.int (nI (nu))), some (.int (nI (r))), some (.int (nI (p))), some (.int (nI (c))), some (.int (nI (T))), some (.int (nI (n))), some (.int (nI (t))), some (.int (nI (p * n + c))), some (.int (nI (pu))), some (.int (nI (pl))), some (.int (nI (m * n))), (o13), (o14), (o15)] [.int (nI (b))] M3
  exact jj_iret (pc := 370) kRF_cleared_d370 rfl (by rfl) (K M3 vv D3 T3 V3 _ _ X2 Z2 _ rc2 rs2 hC3 hS3 (hX2.same hl3) (by omega) (by omega) (fun i hi => by rw [ho3 i hi, ho2 i (by omega)]) (fun i hi => by rw [hv3 i hi, hv2 i (by omega)]) (by omega) (hF2.trans hF3) hm3)
end RF13
