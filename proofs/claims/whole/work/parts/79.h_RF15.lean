/-! ===== Fractions.determinant: the elimination of a column (printed by wip/gen/rf15.py) ===== -/
theorem dt_same {q : Nat → Rat} {n p c k : Nat} (h : k / n ≤ c) : fw (fun i k => q (i * n + k)) c p c (k / n) (k % n) = q (clo c p (k / n) * n + k % n) := by
  show (if k / n ≤ c then rswap (fun i k => q (i * n + k)) c p (k / n) (k % n) else _) = _
  rw [if_pos h]
  rfl
theorem dt_less {q : Nat → Rat} {n p c k : Nat} (h : ¬ k / n ≤ c) : fw (fun i k => q (i * n + k)) c p c (k / n) (k % n) = q (clo c p (k / n) * n + k % n) - q (clo c p (k / n) * n + c) / q (p * n + c) * q (p * n + k % n) := by
  show (if k / n ≤ c then _ else rswap (fun i k => q (i * n + k)) c p (k / n) (k % n) - rswap (fun i k => q (i * n + k)) c p (k / n) c / q (p * n + c) * q (p * n + k % n)) = _
  rw [if_neg h]
  rfl
section RF15
variable {G : jg} {d : Nat} {Q : jq} {rc rs : Nat} {M : mheap} {f w vv pv : Nat} {v2 : Value} {D V P : List Int32} {t : Nat} {up low rk : Int32}
theorem rf_det_mid {b nu he a n u l bz c p pu pl loa T s S cm cv X Z X' Z' : Nat} {p13 p14 p15 p16 p17 p18 p19 p20 p21 p22 : Option Value} {q : Nat → Rat} (hG : kG G) (hC : FC M f w vv pv V t up low P rk) (hS : RS M w D T v2 cm X Z rc rs) (hX : FXB cv V X Z X' Z') (htV : t ≤ V.length) (h1 : RI D T 1 1) (hT3 : 3 ≤ T) (hb : MX D T V t a n n loa q) (hn : n < 1024) (hp : p < n) (hc : c < n) (hq0 : q (p * n + c) ≠ 0) (hqs : ∀ k, k < n * n → ZB s (q k).num ∧ ZB s ((q k).den : Int)) (hfz : ∀ i, i < n → ¬ i ≤ c → ZB s (q (clo c p i * n + c) / q (p * n + c)).num ∧ ZB s ((q (clo c p i * n + c) / q (p * n + c)).den : Int)) (hres : ∀ k, k < n * n → ZB s (fw (fun i k => q (i * n + k)) c p c (k / n) (k % n)).num ∧ ZB s ((fw (fun i k => q (i * n + k)) c p c (k / n) (k % n)).den : Int)) (hs : S = 4 * s + 4) (hs2 : 3 * s + 1 ≤ 9000) (ht : t + 2 + 2 * (n * n) ≤ cv) (hT : T + n * n * S + 20000 + 100 * s + 500 ≤ cm)
    (K : MKP (fun _ M' rc' rs' => ∀ (fu fl : Nat) (o18 o19 o20 o21 o22 : Option Value) , jj G kRF_determinant (d + 10) Q rc' rs' 469 [some (.ref f), some (.int (nI (b))), some (.int (nI (nu))), some (.int (nI (he))), some (.int (nI (a))), some (.int (nI (n))), some (.int (nI (u))), some (.int (nI (l))), some (.int (nI (bz))), some (.int (nI (c))), some (.int (nI (p))), some (.int (nI (pu))), some (.int (nI (pl))), some (.int (nI (T))), some (.int (nI (t))), some (.int (nI (fu))), some (.int (nI (fl))), some (.int (nI (n * n))), (o18), (o19), (o20), (o21), (o22)] [] M') M f w pv D V t P rk T cm cv X' Z' (n) (n) (T + n * n * S) (fun k => fw (fun i k => q (i * n + k)) c p c (k / n) (k % n))) : jj G kRF_determinant (d + 10) Q rc rs 189 [some (.ref f), some (.int (nI (b))), some (.int (nI (nu))), some (.int (nI (he))), some (.int (nI (a))), some (.int (nI (n))), some (.int (nI (u))), some (.int (nI (l))), some (.int (nI (bz))), some (.int (nI (c))), some (.int (nI (p))), some (.int (nI (pu))), some (.int (nI (pl))), (p13), (p14), (p15), (p16), (p17), (p18), (p19), (p20), (p21), (p22)] [] M := by
  have hcap := hX.cap
  have hcr : (n) * (n) = n * n := rfl
  unfold MKP at K
  rw [hcr] at K
  have hcapD := hS.2.1.cap
  obtain ⟨hb1, hb2, hb3, hb4⟩ := id hb
  have hmn : n * n < 1024 * 1024 := Nat.mul_lt_mul_of_lt_of_le hn (by omega) (by decide)
  obtain ⟨hW101, hB101, hTD101, hz101, hp101⟩ := id hS
  obtain ⟨dd101, hw101, hd101⟩ := id hW101
  have hcap101 := hB101.cap
  refine jj_aload_n (pc := 189) kRF_determinant_d189 rfl ?_
  refine jj_getf (pc := 190) kRF_determinant_d190 (kfRF_w hG) hC.1 rfl ?_
  refine jj_getf (pc := 193) kRF_determinant_d193 (kfRF_RW_top hG) hw101 rfl ?_
  refine jj_istore (pc := 196) kRF_determinant_d196 (Nat.le_of_ble_eq_true rfl) ?_
  refine jj_aload_n (pc := 198) kRF_determinant_d198 rfl ?_
  refine jj_iload (pc := 199) kRF_determinant_d199 rfl ?_
  refine jj_iload (pc := 201) kRF_determinant_d201 rfl ?_
  refine jj_callV (pc := 203) (b := f) (As := [.int (nI (n)), .int (nI (n))]) kRF_determinant_d203 (kvRF_RF_make hG) (kG_cl hG rfl) rfl hC.1 rfl rfl rfl (Nat.le_of_ble_eq_true rfl) (Nat.le_of_ble_eq_true rfl) (jj_bare0 rfl) ?_
  refine rf_make hG hC hS hX htV (by omega) (by omega) (by rw [hcr]; exact ht) (fun M1 vv V1 X1 Z1 rc1 rs1 hC1 hS1 hX1 hl1 hr1 hc1 ho1 hF1 => ?_)
  show jj G kRF_determinant (d + 10) Q rc1 rs1 206 [some (.ref f), some (.int (nI (b))), some (.int (nI (nu))), some (.int (nI (he))), some (.int (nI (a))), some (.int (nI (n))), some (.int (nI (u))), some (.int (nI (l))), some (.int (nI (bz))), some (.int (nI (c))), some (.int (nI (p))), some (.int (nI (pu))), some (.int (nI (pl))), some (.int (nI (T))), (p14), (p15), (p16), (p17), (p18), (p19), (p20), (p21), (p22)] [.int (nI (t))] M1
  rw [hcr] at hC1 hl1
  have hcap1 := hX1.cap
  refine jj_istore (pc := 206) kRF_determinant_d206 (Nat.le_of_ble_eq_true rfl) ?_
  refine jn_iconst (pc := 208) 0 kRF_determinant_d208 (by decide) ?_
  refine jj_istore (pc := 209) kRF_determinant_d209 (Nat.le_of_ble_eq_true rfl) ?_
  refine jn_iconst (pc := 211) 1 kRF_determinant_d211 (by decide) ?_
  refine jj_istore (pc := 212) kRF_determinant_d212 (Nat.le_of_ble_eq_true rfl) ?_
  refine jn_iconst (pc := 214) 0 kRF_determinant_d214 (by decide) ?_
  refine jj_istore (pc := 215) kRF_determinant_d215 (Nat.le_of_ble_eq_true rfl) ?_
  show jj G kRF_determinant (d + 10) Q rc1 rs1 217 [some (.ref f), some (.int (nI (b))), some (.int (nI (nu))), some (.int (nI (he))), some (.int (nI (a))), some (.int (nI (n))), some (.int (nI (u))), some (.int (nI (l))), some (.int (nI (bz))), some (.int (nI (c))), some (.int (nI (p))), some (.int (nI (pu))), some (.int (nI (pl))), some (.int (nI (T))), some (.int (nI (t))), some (.int (nI (0))), some (.int (nI (1))), some (.int (nI (0))), (p18), (p19), (p20), (p21), (p22)] [] M1
  have loop : ∀ mu k, n * n = k + mu → ∀ (fu fl : Nat) (o18 o19 o20 o21 o22 : Option Value) (M9 : mheap) (D9 : List Int32) (T9 : Nat) (V9 : List Int32) (up9 low9 : Int32) (v9 : Value) (rc9 rs9 : Nat), FC M9 f w vv pv V9 (t + 2 + 2 * (n * n)) up9 low9 P rk → RS M9 w D9 T9 v9 cm X1 Z1 rc9 rs9 → T ≤ T9 → T9 ≤ T + k * S → (∀ i, i < T → D9.getD i 0 = D.getD i 0) → V9.length = V1.length → (∀ i, i < t → V9.getD i 0 = V.getD i 0) → V9.getD t 0 = nI (n) → V9.getD (t + 1) 0 = nI (n) → FF M M9 f → (∀ k', k' < k → MC D9 T9 V9 t T k' ((fun k => fw (fun i k => q (i * n + k)) c p c (k / n) (k % n)) k')) → (k % n ≠ 0 → ¬ k / n ≤ c → q (clo c p (k / n) * n + c) ≠ 0 → FQ D9 T9 fu fl (q (clo c p (k / n) * n + c) / q (p * n + c))) → jj G kRF_determinant (d + 10) Q rc9 rs9 217 [some (.ref f), some (.int (nI (b))), some (.int (nI (nu))), some (.int (nI (he))), some (.int (nI (a))), some (.int (nI (n))), some (.int (nI (u))), some (.int (nI (l))), some (.int (nI (bz))), some (.int (nI (c))), some (.int (nI (p))), some (.int (nI (pu))), some (.int (nI (pl))), some (.int (nI (T))), some (.int (nI (t))), some (.int (nI (fu))), some (.int (nI (fl))), some (.int (nI (k))), (o18), (o19), (o20), (o21), (o22)] [] M9 := by
    intro mu
    induction mu with
    | zero =>
      intro k hk fu fl o18 o19 o20 o21 o22 M9 D9 T9 V9 up9 low9 v9 rc9 rs9 hC9 hS9 t9 u9 ho9 hlen9 hV9 hr9 hc9 hF9 hm9 hex
      have e : n * n = k := by omega
      subst e
      refine jj_iload (pc := 217) kRF_determinant_d217 rfl ?_
      refine jj_iload (pc := 219) kRF_determinant_d219 rfl ?_
      refine jj_iload (pc := 221) kRF_determinant_d221 rfl ?_
      refine jn_imul (pc := 223) (n * n) kRF_determinant_d223 rfl ?_
      refine jn_icmp_ge (pc := 224) (tgt := 469) kRF_determinant_d224 (by decide) (by omega) (by omega) (fun _ => ?_) (fun c => by exfalso; omega)
      show jj G kRF_determinant (d + 10) Q rc9 rs9 469 [some (.ref f), some (.int (nI (b))), some (.int (nI (nu))), some (.int (nI (he))), some (.int (nI (a))), some (.int (nI (n))), some (.int (nI (u))), some (.int (nI (l))), some (.int (nI (bz))), some (.int (nI (c))), some (.int (nI (p))), some (.int (nI (pu))), some (.int (nI (pl))), some (.int (nI (T))), some (.int (nI (t))), some (.int (nI (fu))), some (.int (nI (fl))), some (.int (nI (n * n))), (o18), (o19), (o20), (o21), (o22)] [] M9
      exact K M9 vv D9 T9 V9 up9 low9 X1 Z1 v9 rc9 rs9 hC9 hS9 (hX1.same hlen9) t9 u9 ho9 hV9 (by omega) hF9 ⟨by rw [hcr]; exact Nat.le_refl _, hr9, hc9, fun k' hk' => hm9 k' (by rw [hcr] at hk'; exact hk')⟩ fu fl o18 o19 o20 o21 o22
    | succ mu ih =>
      intro k hk fu fl o18 o19 o20 o21 o22 M9 D9 T9 V9 up9 low9 v9 rc9 rs9 hC9 hS9 t9 u9 ho9 hlen9 hV9 hr9 hc9 hF9 hm9 hex
      have hk1 : (k + 1) * S ≤ n * n * S := Nat.mul_le_mul_right _ (by omega)
      rw [Nat.succ_mul] at hk1
      have h19 := h1.congr t9 ho9
      refine jj_iload (pc := 217) kRF_determinant_d217 rfl ?_
      refine jj_iload (pc := 219) kRF_determinant_d219 rfl ?_
      refine jj_iload (pc := 221) kRF_determinant_d221 rfl ?_
      refine jn_imul (pc := 223) (n * n) kRF_determinant_d223 rfl ?_
      refine jn_icmp_ge (pc := 224) (tgt := 469) kRF_determinant_d224 (by decide) (by omega) (by omega) (fun c => by exfalso; omega) (fun _ => ?_)
      have hn0 : 0 < n := Nat.pos_of_ne_zero (fun e => by rw [e, Nat.mul_zero] at hk; omega)
      obtain ⟨row, hrow⟩ : ∃ row, k / n = row := ⟨_, rfl⟩
      obtain ⟨kk, hkk⟩ : ∃ kk, k % n = kk := ⟨_, rfl⟩
      obtain ⟨od, hod⟩ : ∃ od, clo c p row = od := ⟨_, rfl⟩
      have hrl : row < n := by rw [← hrow]; exact (Nat.div_lt_iff_lt_mul hn0).mpr (by omega)
      have hkl : kk < n := by rw [← hkk]; exact Nat.mod_lt k hn0
      have hol : od < n := by rw [← hod]; exact clo_lt hc hp hrl
      obtain ⟨odn, hodn⟩ : ∃ odn, od * n = odn := ⟨_, rfl⟩
      obtain ⟨pn, hpn⟩ : ∃ pn, p * n = pn := ⟨_, rfl⟩
      obtain ⟨xo, hxo⟩ : ∃ xo, odn + c = xo := ⟨_, rfl⟩
      obtain ⟨xk, hxk⟩ : ∃ xk, odn + kk = xk := ⟨_, rfl⟩
      obtain ⟨yk, hyk⟩ : ∃ yk, pn + kk = yk := ⟨_, rfl⟩
      obtain ⟨yp, hyp⟩ : ∃ yp, pn + c = yp := ⟨_, rfl⟩
      have hxo' : xo < n * n := by rw [← hxo, ← hodn]; exact cell_lt hol hc
      have hxk' : xk < n * n := by rw [← hxk, ← hodn]; exact cell_lt hol hkl
      have hyk' : yk < n * n := by rw [← hyk, ← hpn]; exact cell_lt hp hkl
      have hyp' : yp < n * n := by rw [← hyp, ← hpn]; exact cell_lt hp hc
      have hq0' : q yp ≠ 0 := by rw [← hyp, ← hpn]; exact hq0
      have hgr : row ≤ c → fw (fun i k => q (i * n + k)) c p c (k / n) (k % n) = q xk := fun e => by rw [dt_same (by rw [hrow]; exact e), hkk, hrow, hod, hodn, hxk]
      have hgo : ¬ row ≤ c → fw (fun i k => q (i * n + k)) c p c (k / n) (k % n) = q xk - q xo / q yp * q yk := fun e => by rw [dt_less (by rw [hrow]; exact e), hkk, hrow, hod, hpn, hodn, hxo, hxk, hyk, hyp]
      have hrs := hres k (by omega)
      obtain ⟨bxo, exo⟩ := hqs xo hxo'
      obtain ⟨bxk, exk⟩ := hqs xk hxk'
      obtain ⟨byk, eyk⟩ := hqs yk hyk'
      obtain ⟨byp, eyp⟩ := hqs yp hyp'
      have hfz' : ¬ row ≤ c → ZB s (q xo / q yp).num ∧ ZB s ((q xo / q yp).den : Int) := fun e => by have := hfz row hrl e; rw [hod, hodn, hxo, hpn, hyp] at this; exact this
      have hex' : kk ≠ 0 → ¬ row ≤ c → q xo ≠ 0 → FQ D9 T9 fu fl (q xo / q yp) := by rw [hrow, hod, hodn, hxo, hkk, hpn, hyp] at hex; exact hex
      have hnx : (k + 1) % n ≠ 0 → ¬ (k + 1) / n ≤ c → q (clo c p ((k + 1) / n) * n + c) ≠ 0 → (¬ row ≤ c ∧ q xo ≠ 0 ∧ q (clo c p ((k + 1) / n) * n + c) / q (p * n + c) = q xo / q yp) := fun e1 e2 e3 => by
        have e4 := div_next hn0 e1
        rw [e4, hrow, hod, hodn, hxo] at e3
        rw [e4, hrow] at e2
        exact ⟨e2, e3, by rw [e4, hrow, hod, hodn, hxo, hpn, hyp]⟩
      have hcap9 := hS9.2.1.cap
      have hz90 := hS9.2.2.2.1
      have hTD9 := hS9.2.2.1
      have tt9 : T ≤ T9 := t9
      have ho90 := ho9
      clear hex hqs hres hfz
      have k391 : ¬ row ≤ c → ∀ (fu fl : Nat) (up8 low8 : Int32) (M8 : mheap) (D8 : List Int32) (T8 : Nat) (v8 : Value) (rc8 rs8 : Nat), FC M8 f w vv pv V9 (t + 2 + 2 * (n * n)) (up8) (low8) P (rk) → RS M8 w D8 T8 v8 cm X1 Z1 rc8 rs8 → T9 ≤ T8 → T8 ≤ T9 + 2 * s + 2 → (∀ i, i < T9 → D8.getD i 0 = D9.getD i 0) → FF M9 M8 f → FQ D8 T8 fu fl (q xo / q yp) → jj G kRF_determinant (d + 10) Q rc8 rs8 391 [some (.ref f), some (.int (nI (b))), some (.int (nI (nu))), some (.int (nI (he))), some (.int (nI (a))), some (.int (nI (n))), some (.int (nI (u))), some (.int (nI (l))), some (.int (nI (bz))), some (.int (nI (c))), some (.int (nI (p))), some (.int (nI (pu))), some (.int (nI (pl))), some (.int (nI (T))), some (.int (nI (t))), some (.int (nI (fu))), some (.int (nI (fl))), some (.int (nI (k))), some (.int (nI (row))), some (.int (nI (od))), some (.int (nI (kk))), (o21), (o22)] [] M8 := by
        clear hex' tt9 ho90
        intro c1 fu fl up8 low8 M8 D8 T8 v8 rc8 rs8 hC8 hS8 t8 u8 ho8 hF8 hfa
        have tt8 : T ≤ T8 := by omega
        have ho80 : ∀ i, i < T → D8.getD i 0 = D.getD i 0 := fun i hi => by rw [ho8 i (by omega), ho9 i hi]
        have h18 := h1.congr tt8 ho80
        have hcap8 := hS8.2.1.cap
        have hTD8 := hS8.2.2.1
        have la := hfa.1.lt
        have lb := hfa.2.1.lt
        rw [hgo c1] at hrs
        obtain ⟨hs1, hs2⟩ := hrs
        obtain ⟨hf1, hf2⟩ := hfz' c1
        have hgo' := hgo c1
        obtain ⟨pxk, lxk, axk, bxk_, qxk, -⟩ := (hb4 xk hxk').congr (V' := V9) (lo' := loa) tt8 ho80 (fun i _ h6 => hV9 i (by omega)) (Nat.le_refl _)
        have lpxk := qxk.1.lt
        have llxk := qxk.2.1.lt
        obtain ⟨pyk, lyk, ayk, byk_, qyk, -⟩ := (hb4 yk hyk').congr (V' := V9) (lo' := loa) tt8 ho80 (fun i _ h6 => hV9 i (by omega)) (Nat.le_refl _)
        have lpyk := qyk.1.lt
        have llyk := qyk.2.1.lt
        refine jj_aload_n (pc := 391) kRF_determinant_d391 rfl ?_
        refine jj_iload (pc := 392) kRF_determinant_d392 rfl ?_
        refine jj_iload (pc := 394) kRF_determinant_d394 rfl ?_
        refine jj_aload_n (pc := 396) kRF_determinant_d396 rfl ?_
        refine jj_iload (pc := 397) kRF_determinant_d397 rfl ?_
        refine jj_iload (pc := 399) kRF_determinant_d399 rfl ?_
        refine jj_iload (pc := 401) kRF_determinant_d401 rfl ?_
        refine jn_imul (pc := 403) (pn) kRF_determinant_d403 hpn ?_
        refine jj_iload (pc := 404) kRF_determinant_d404 rfl ?_
        refine jn_iadd (pc := 406) (yk) kRF_determinant_d406 hyk ?_
        refine jj_callV (pc := 407) (b := f) (As := [.int (nI (a)), .int (nI (yk))]) kRF_determinant_d407 (kvRF_RF_upper hG) (kG_cl hG rfl) rfl hC8.1 rfl rfl rfl (Nat.le_of_ble_eq_true rfl) (Nat.le_of_ble_eq_true rfl) (jj_bare0 rfl) ?_
        refine rf_upper hG hC8 (by omega) (by omega) ?_
        show jj G kRF_determinant (d + 10) Q rc8 rs8 410 [some (.ref f), some (.int (nI (b))), some (.int (nI (nu))), some (.int (nI (he))), some (.int (nI (a))), some (.int (nI (n))), some (.int (nI (u))), some (.int (nI (l))), some (.int (nI (bz))), some (.int (nI (c))), some (.int (nI (p))), some (.int (nI (pu))), some (.int (nI (pl))), some (.int (nI (T))), some (.int (nI (t))), some (.int (nI (fu))), some (.int (nI (fl))), some (.int (nI (k))), some (.int (nI (row))), some (.int (nI (od))), some (.int (nI (kk))), (o21), (o22)] [.int (V9.getD (a + 2 + 2 * yk) 0), .int (nI (fl)), .int (nI (fu)), .ref f] M8
        refine jn_top (.int (nI (pyk))) (by rw [ayk]) ?_
        refine jj_aload_n (pc := 410) kRF_determinant_d410 rfl ?_
        refine jj_iload (pc := 411) kRF_determinant_d411 rfl ?_
        refine jj_iload (pc := 413) kRF_determinant_d413 rfl ?_
        refine jj_iload (pc := 415) kRF_determinant_d415 rfl ?_
        refine jn_imul (pc := 417) (pn) kRF_determinant_d417 hpn ?_
        refine jj_iload (pc := 418) kRF_determinant_d418 rfl ?_
        refine jn_iadd (pc := 420) (yk) kRF_determinant_d420 hyk ?_
        refine jj_callV (pc := 421) (b := f) (As := [.int (nI (a)), .int (nI (yk))]) kRF_determinant_d421 (kvRF_RF_lower hG) (kG_cl hG rfl) rfl hC8.1 rfl rfl rfl (Nat.le_of_ble_eq_true rfl) (Nat.le_of_ble_eq_true rfl) (jj_bare0 rfl) ?_
        refine rf_lower hG hC8 (by omega) (by omega) ?_
        show jj G kRF_determinant (d + 10) Q rc8 rs8 424 [some (.ref f), some (.int (nI (b))), some (.int (nI (nu))), some (.int (nI (he))), some (.int (nI (a))), some (.int (nI (n))), some (.int (nI (u))), some (.int (nI (l))), some (.int (nI (bz))), some (.int (nI (c))), some (.int (nI (p))), some (.int (nI (pu))), some (.int (nI (pl))), some (.int (nI (T))), some (.int (nI (t))), some (.int (nI (fu))), some (.int (nI (fl))), some (.int (nI (k))), some (.int (nI (row))), some (.int (nI (od))), some (.int (nI (kk))), (o21), (o22)] [.int (V9.getD (a + 3 + 2 * yk) 0), .int (nI (pyk)), .int (nI (fl)), .int (nI (fu)), .ref f] M8
        refine jn_top (.int (nI (lyk))) (by rw [byk_]) ?_
        refine jj_aload_n (pc := 424) kRF_determinant_d424 rfl ?_
        refine jj_iload (pc := 425) kRF_determinant_d425 rfl ?_
        refine jj_iload (pc := 427) kRF_determinant_d427 rfl ?_
        refine jj_iload (pc := 429) kRF_determinant_d429 rfl ?_
        refine jn_imul (pc := 431) (odn) kRF_determinant_d431 hodn ?_
        refine jj_iload (pc := 432) kRF_determinant_d432 rfl ?_
        refine jn_iadd (pc := 434) (xk) kRF_determinant_d434 hxk ?_
        refine jj_callV (pc := 435) (b := f) (As := [.int (nI (a)), .int (nI (xk))]) kRF_determinant_d435 (kvRF_RF_upper hG) (kG_cl hG rfl) rfl hC8.1 rfl rfl rfl (Nat.le_of_ble_eq_true rfl) (Nat.le_of_ble_eq_true rfl) (jj_bare0 rfl) ?_
        refine rf_upper hG hC8 (by omega) (by omega) ?_
        show jj G kRF_determinant (d + 10) Q rc8 rs8 438 [some (.ref f), some (.int (nI (b))), some (.int (nI (nu))), some (.int (nI (he))), some (.int (nI (a))), some (.int (nI (n))), some (.int (nI (u))), some (.int (nI (l))), some (.int (nI (bz))), some (.int (nI (c))), some (.int (nI (p))), some (.int (nI (pu))), some (.int (nI (pl))), some (.int (nI (T))), some (.int (nI (t))), some (.int (nI (fu))), some (.int (nI (fl))), some (.int (nI (k))), some (.int (nI (row))), some (.int (nI (od))), some (.int (nI (kk))), (o21), (o22)] [.int (V9.getD (a + 2 + 2 * xk) 0), .int (nI (lyk)), .int (nI (pyk)), .int (nI (fl)), .int (nI (fu)), .ref f] M8
        refine jn_top (.int (nI (pxk))) (by rw [axk]) ?_
        refine jj_aload_n (pc := 438) kRF_determinant_d438 rfl ?_
        refine jj_iload (pc := 439) kRF_determinant_d439 rfl ?_
        refine jj_iload (pc := 441) kRF_determinant_d441 rfl ?_
        refine jj_iload (pc := 443) kRF_determinant_d443 rfl ?_
        refine jn_imul (pc := 445) (odn) kRF_determinant_d445 hodn ?_
        refine jj_iload (pc := 446) kRF_determinant_d446 rfl ?_
        refine jn_iadd (pc := 448) (xk) kRF_determinant_d448 hxk ?_
        refine jj_callV (pc := 449) (b := f) (As := [.int (nI (a)), .int (nI (xk))]) kRF_determinant_d449 (kvRF_RF_lower hG) (kG_cl hG rfl) rfl hC8.1 rfl rfl rfl (Nat.le_of_ble_eq_true rfl) (Nat.le_of_ble_eq_true rfl) (jj_bare0 rfl) ?_
        refine rf_lower hG hC8 (by omega) (by omega) ?_
        show jj G kRF_determinant (d + 10) Q rc8 rs8 452 [some (.ref f), some (.int (nI (b))), some (.int (nI (nu))), some (.int (nI (he))), some (.int (nI (a))), some (.int (nI (n))), some (.int (nI (u))), some (.int (nI (l))), some (.int (nI (bz))), some (.int (nI (c))), some (.int (nI (p))), some (.int (nI (pu))), some (.int (nI (pl))), some (.int (nI (T))), some (.int (nI (t))), some (.int (nI (fu))), some (.int (nI (fl))), some (.int (nI (k))), some (.int (nI (row))), some (.int (nI (od))), some (.int (nI (kk))), (o21), (o22)] [.int (V9.getD (a + 3 + 2 * xk) 0), .int (nI (pxk)), .int (nI (lyk)), .int (nI (pyk)), .int (nI (fl)), .int (nI (fu)), .ref f] M8
        refine jn_top (.int (nI (lxk))) (by rw [bxk_]) ?_
        refine jj_callV (pc := 452) (b := f) (As := [.int (nI (fu)), .int (nI (fl)), .int (nI (pyk)), .int (nI (lyk)), .int (nI (pxk)), .int (nI (lxk))]) kRF_determinant_d452 (kvRF_RF_less hG) (kG_cl hG rfl) rfl hC8.1 rfl rfl rfl (Nat.le_of_ble_eq_true rfl) (Nat.le_of_ble_eq_true rfl) (jj_bare0 rfl) ?_
        refine rf_less (a := s) (c := s) hG hC8 hS8 h18 (by omega) hfa qyk qxk hf1 hf2 byk eyk bxk exk (by omega) hs1 hs2 (by omega) (fun M6 D5 T5 p6 l6 v6 rc5 rs5 hC6 hS6 t5 u6 ho5 hF6 hq6 g1 g2 => ?_)
        show jj G kRF_determinant (d + 10) Q rc5 rs5 455 [some (.ref f), some (.int (nI (b))), some (.int (nI (nu))), some (.int (nI (he))), some (.int (nI (a))), some (.int (nI (n))), some (.int (nI (u))), some (.int (nI (l))), some (.int (nI (bz))), some (.int (nI (c))), some (.int (nI (p))), some (.int (nI (pu))), some (.int (nI (pl))), some (.int (nI (T))), some (.int (nI (t))), some (.int (nI (fu))), some (.int (nI (fl))), some (.int (nI (k))), some (.int (nI (row))), some (.int (nI (od))), some (.int (nI (kk))), (o21), (o22)] [] M6
        refine jj_aload_n (pc := 455) kRF_determinant_d455 rfl ?_
        refine jj_iload (pc := 456) kRF_determinant_d456 rfl ?_
        refine jj_iload (pc := 458) kRF_determinant_d458 rfl ?_
        have t5' : T9 ≤ T5 := by omega
        refine jj_callV (pc := 460) (b := f) (As := [.int (nI (t)), .int (nI (k))]) kRF_determinant_d460 (kvRF_RF_put hG) (kG_cl hG rfl) rfl hC6.1 rfl rfl rfl (Nat.le_of_ble_eq_true rfl) (Nat.le_of_ble_eq_true rfl) (jj_bare0 rfl) ?_
        refine rf_put (a := t) (i := k) hG hC6 hS6 (by omega) (by omega) (fun M5 hC5 hS5 hF7 => ?_)
        show jj G kRF_determinant (d + 10) Q rc5 rs5 463 [some (.ref f), some (.int (nI (b))), some (.int (nI (nu))), some (.int (nI (he))), some (.int (nI (a))), some (.int (nI (n))), some (.int (nI (u))), some (.int (nI (l))), some (.int (nI (bz))), some (.int (nI (c))), some (.int (nI (p))), some (.int (nI (pu))), some (.int (nI (pl))), some (.int (nI (T))), some (.int (nI (t))), some (.int (nI (fu))), some (.int (nI (fl))), some (.int (nI (k))), some (.int (nI (row))), some (.int (nI (od))), some (.int (nI (kk))), (o21), (o22)] [] M5
        obtain ⟨V5, hV5⟩ : ∃ V5, (V9.set (t + 2 + 2 * k) (nI p6)).set (t + 3 + 2 * k) (nI l6) = V5 := ⟨_, rfl⟩
        rw [hV5] at hC5
        have hl5 : V5.length = V9.length := by rw [← hV5, List.length_set, List.length_set]
        have hv5 : ∀ i, i < t + 2 + 2 * k ∨ t + 4 + 2 * k ≤ i → V5.getD i 0 = V9.getD i 0 := fun i hi => by rw [← hV5, gd_set_ne (by omega), gd_set_ne (by omega)]
        have hF5 := hF6.trans hF7
        have hm5 : MC D5 T5 V5 t T8 k (q xk - q xo / q yp * q yk) := ⟨p6, l6, by rw [← hV5, gd_set_ne (by omega)]; exact gd_set_eq (by omega), by rw [← hV5]; exact gd_set_eq (by rw [List.length_set]; omega), hq6, g1, g2⟩
        have ho5' : ∀ i, i < T9 → D5.getD i 0 = D9.getD i 0 := fun i hi => by rw [ho5 i (by omega), ho8 i hi]
        have hfn := hfa.congr t5 ho5
        rw [← hgo'] at hm5
        have hm5 := hm5.congr (lo' := T9) (Nat.le_refl _) (fun _ _ => rfl) (fun _ _ _ => rfl) t8
        have hF5 := hF8.trans hF5
        clear ho5 t5
        have ho5 := ho5'
        have t5 := t5'
        refine jn_iinc (pc := 463) (k + 1) kRF_determinant_d463 rfl (nI_1 _) ?_
        refine jj_goto (pc := 466) (tgt := 217) kRF_determinant_d466 (by decide) ?_
        show jj G kRF_determinant (d + 10) Q rc5 rs5 217 [some (.ref f), some (.int (nI (b))), some (.int (nI (nu))), some (.int (nI (he))), some (.int (nI (a))), some (.int (nI (n))), some (.int (nI (u))), some (.int (nI (l))), some (.int (nI (bz))), some (.int (nI (c))), some (.int (nI (p))), some (.int (nI (pu))), some (.int (nI (pl))), some (.int (nI (T))), some (.int (nI (t))), some (.int (nI (fu))), some (.int (nI (fl))), some (.int (nI (k + 1))), some (.int (nI (row))), some (.int (nI (od))), some (.int (nI (kk))), (o21), (o22)] [] M5
        refine ih (k + 1) (by omega) fu fl _ _ _ _ _ M5 D5 T5 V5 _ _ v6 rc5 rs5 hC5 hS5 (by omega) (by rw [Nat.succ_mul]; omega) (fun i hi => by rw [ho5 i (by omega), ho9 i hi]) (by omega) (fun i hi => by rw [hv5 i (by omega), hV9 i hi]) (by rw [hv5 _ (by omega)]; exact hr9) (by rw [hv5 _ (by omega)]; exact hc9) (hF9.trans hF5) (fun k' hk' => ?_) (fun e1 e2 e3 => by
            obtain ⟨a1, a2, a3⟩ := hnx e1 e2 e3
            rw [a3]
            exact hfn)
        by_cases e : k' = k
        · subst e
          exact hm5.congr (lo' := T) (Nat.le_refl _) (fun _ _ => rfl) (fun _ _ _ => rfl) t9
        · exact (hm9 k' (by omega)).congr t5 ho5 (fun i h6 h7 => hv5 i (by omega)) (Nat.le_refl _)
      have k293 : (row ≤ c ∨ q xo = 0) → jj G kRF_determinant (d + 10) Q rc9 rs9 293 [some (.ref f), some (.int (nI (b))), some (.int (nI (nu))), some (.int (nI (he))), some (.int (nI (a))), some (.int (nI (n))), some (.int (nI (u))), some (.int (nI (l))), some (.int (nI (bz))), some (.int (nI (c))), some (.int (nI (p))), some (.int (nI (pu))), some (.int (nI (pl))), some (.int (nI (T))), some (.int (nI (t))), some (.int (nI (fu))), some (.int (nI (fl))), some (.int (nI (k))), some (.int (nI (row))), some (.int (nI (od))), some (.int (nI (kk))), (o21), (o22)] [] M9 := by
        intro h0
        have hval : fw (fun i k => q (i * n + k)) c p c (k / n) (k % n) = q xk := by
          by_cases e : row ≤ c
          · exact hgr e
          · rcases h0 with h | h
            · exact absurd h e
            · rw [hgo e, h]; grind
        obtain ⟨pxk, lxk, axk, bxk_, qxk, -⟩ := (hb4 xk hxk').congr (V' := V9) (lo' := loa) tt9 ho90 (fun i _ h6 => hV9 i (by omega)) (Nat.le_refl _)
        have lpxk := qxk.1.lt
        have llxk := qxk.2.1.lt
        refine jj_aload_n (pc := 293) kRF_determinant_d293 rfl ?_
        refine jj_iload (pc := 294) kRF_determinant_d294 rfl ?_
        refine jj_iload (pc := 296) kRF_determinant_d296 rfl ?_
        refine jj_iload (pc := 298) kRF_determinant_d298 rfl ?_
        refine jj_iload (pc := 300) kRF_determinant_d300 rfl ?_
        refine jj_iload (pc := 302) kRF_determinant_d302 rfl ?_
        refine jn_imul (pc := 304) (odn) kRF_determinant_d304 hodn ?_
        refine jj_iload (pc := 305) kRF_determinant_d305 rfl ?_
        refine jn_iadd (pc := 307) (xk) kRF_determinant_d307 hxk ?_
        refine jj_callV (pc := 308) (b := f) (As := [.int (nI (t)), .int (nI (k)), .int (nI (a)), .int (nI (xk))]) kRF_determinant_d308 (kvRF_RF_same hG) (kG_cl hG rfl) rfl hC9.1 rfl rfl rfl (Nat.le_of_ble_eq_true rfl) (Nat.le_of_ble_eq_true rfl) (jj_bare0 rfl) ?_
        refine rf_same (a := t) (i := k) (b := a) (j := xk) (c := s) hG hC9 hS9 h19 (by omega) (by omega) ⟨pxk, lxk, axk, bxk_, qxk, Or.inr (Nat.zero_le _), Or.inr (Nat.zero_le _)⟩ (by omega) (by omega) bxk exk (by omega) (fun M5 D5 T5 V5 up5 low5 rc5 rs5 hC5 hS5 t5 u5 ho5 hl5 hv5 hF5 hm5 => ?_)
        show jj G kRF_determinant (d + 10) Q rc5 rs5 311 [some (.ref f), some (.int (nI (b))), some (.int (nI (nu))), some (.int (nI (he))), some (.int (nI (a))), some (.int (nI (n))), some (.int (nI (u))), some (.int (nI (l))), some (.int (nI (bz))), some (.int (nI (c))), some (.int (nI (p))), some (.int (nI (pu))), some (.int (nI (pl))), some (.int (nI (T))), some (.int (nI (t))), some (.int (nI (fu))), some (.int (nI (fl))), some (.int (nI (k))), some (.int (nI (row))), some (.int (nI (od))), some (.int (nI (kk))), (o21), (o22)] [] M5
        rw [← hval] at hm5
        refine jj_goto (pc := 311) (tgt := 463) kRF_determinant_d311 (by decide) ?_
        refine jn_iinc (pc := 463) (k + 1) kRF_determinant_d463 rfl (nI_1 _) ?_
        refine jj_goto (pc := 466) (tgt := 217) kRF_determinant_d466 (by decide) ?_
        show jj G kRF_determinant (d + 10) Q rc5 rs5 217 [some (.ref f), some (.int (nI (b))), some (.int (nI (nu))), some (.int (nI (he))), some (.int (nI (a))), some (.int (nI (n))), some (.int (nI (u))), some (.int (nI (l))), some (.int (nI (bz))), some (.int (nI (c))), some (.int (nI (p))), some (.int (nI (pu))), some (.int (nI (pl))), some (.int (nI (T))), some (.int (nI (t))), some (.int (nI (fu))), some (.int (nI (fl))), some (.int (nI (k + 1))), some (.int (nI (row))), some (.int (nI (od))), some (.int (nI (kk))), (o21), (o22)] [] M5
        refine ih (k + 1) (by omega) fu fl _ _ _ _ _ M5 D5 T5 V5 _ _ v9 rc5 rs5 hC5 hS5 (by omega) (by rw [Nat.succ_mul]; omega) (fun i hi => by rw [ho5 i (by omega), ho9 i hi]) (by omega) (fun i hi => by rw [hv5 i (by omega), hV9 i hi]) (by rw [hv5 _ (by omega)]; exact hr9) (by rw [hv5 _ (by omega)]; exact hc9) (hF9.trans hF5) (fun k' hk' => ?_) (fun e1 e2 e3 => by
            obtain ⟨a1, a2, a3⟩ := hnx e1 e2 e3
            rcases h0 with h | h
            · exact absurd h a1
            · exact absurd h a2)
        by_cases e : k' = k
        · subst e
          exact hm5.congr (lo' := T) (Nat.le_refl _) (fun _ _ => rfl) (fun _ _ _ => rfl) t9
        · exact (hm9 k' (by omega)).congr t5 ho5 (fun i h6 h7 => hv5 i (by omega)) (Nat.le_refl _)
      clear hnx hgr hgo
      have k260 : jj G kRF_determinant (d + 10) Q rc9 rs9 260 [some (.ref f), some (.int (nI (b))), some (.int (nI (nu))), some (.int (nI (he))), some (.int (nI (a))), some (.int (nI (n))), some (.int (nI (u))), some (.int (nI (l))), some (.int (nI (bz))), some (.int (nI (c))), some (.int (nI (p))), some (.int (nI (pu))), some (.int (nI (pl))), some (.int (nI (T))), some (.int (nI (t))), some (.int (nI (fu))), some (.int (nI (fl))), some (.int (nI (k))), some (.int (nI (row))), (o19), (o20), (o21), (o22)] [.int (nI (od))] M9 := by
        refine jj_istore (pc := 260) kRF_determinant_d260 (Nat.le_of_ble_eq_true rfl) ?_
        refine jj_iload (pc := 262) kRF_determinant_d262 rfl ?_
        refine jj_iload (pc := 264) kRF_determinant_d264 rfl ?_
        refine jn_irem (pc := 266) (kk) kRF_determinant_d266 (by omega) (by omega) (by omega) hkk ?_
        refine jj_istore (pc := 267) kRF_determinant_d267 (Nat.le_of_ble_eq_true rfl) ?_
        refine jj_iload (pc := 269) kRF_determinant_d269 rfl ?_
        refine jj_iload (pc := 271) kRF_determinant_d271 rfl ?_
        refine jn_icmp_le (pc := 273) (tgt := 293) kRF_determinant_d273 (by decide) (by omega) (by omega) (fun c1 => ?_) (fun c1 => ?_)
        · skip
          exact k293 (Or.inl c1)
        · skip
          have c1' : ¬ row ≤ c := by omega
          obtain ⟨pxo, lxo, axo, bxo_, qxo, -⟩ := (hb4 xo hxo').congr (V' := V9) (lo' := loa) tt9 ho90 (fun i _ h6 => hV9 i (by omega)) (Nat.le_refl _)
          have lpxo := qxo.1.lt
          have llxo := qxo.2.1.lt
          obtain ⟨pyp, lyp, ayp, byp_, qyp, -⟩ := (hb4 yp hyp').congr (V' := V9) (lo' := loa) tt9 ho90 (fun i _ h6 => hV9 i (by omega)) (Nat.le_refl _)
          have lpyp := qyp.1.lt
          have llyp := qyp.2.1.lt
          refine jj_aload_n (pc := 276) kRF_determinant_d276 rfl ?_
          refine jj_iload (pc := 277) kRF_determinant_d277 rfl ?_
          refine jj_iload (pc := 279) kRF_determinant_d279 rfl ?_
          refine jj_iload (pc := 281) kRF_determinant_d281 rfl ?_
          refine jn_imul (pc := 283) (odn) kRF_determinant_d283 hodn ?_
          refine jj_iload (pc := 284) kRF_determinant_d284 rfl ?_
          refine jn_iadd (pc := 286) (xo) kRF_determinant_d286 hxo ?_
          refine jj_callV (pc := 287) (b := f) (As := [.int (nI (a)), .int (nI (xo))]) kRF_determinant_d287 (kvRF_RF_upper hG) (kG_cl hG rfl) rfl hC9.1 rfl rfl rfl (Nat.le_of_ble_eq_true rfl) (Nat.le_of_ble_eq_true rfl) (jj_bare0 rfl) ?_
          refine rf_upper hG hC9 (by omega) (by omega) ?_
          show jj G kRF_determinant (d + 10) Q rc9 rs9 290 [some (.ref f), some (.int (nI (b))), some (.int (nI (nu))), some (.int (nI (he))), some (.int (nI (a))), some (.int (nI (n))), some (.int (nI (u))), some (.int (nI (l))), some (.int (nI (bz))), some (.int (nI (c))), some (.int (nI (p))), some (.int (nI (pu))), some (.int (nI (pl))), some (.int (nI (T))), some (.int (nI (t))), some (.int (nI (fu))), some (.int (nI (fl))), some (.int (nI (k))), some (.int (nI (row))), some (.int (nI (od))), some (.int (nI (kk))), (o21), (o22)] [.int (V9.getD (a + 2 + 2 * xo) 0)] M9
          refine jn_top (.int (nI (pxo))) (by rw [axo]) ?_
          refine jn_if_ne (pc := 290) (tgt := 314) kRF_determinant_d290 (by decide) (by omega) (fun c2 => ?_) (fun c2 => ?_)
          · skip
            have hx0 : q xo ≠ 0 := fun e => by have h9 := qxo.1; rw [e] at h9; have := RI.p0 h9; omega
            refine jj_iload (pc := 314) kRF_determinant_d314 rfl ?_
            refine jn_if_ne (pc := 316) (tgt := 391) kRF_determinant_d316 (by decide) (by omega) (fun c3 => ?_) (fun c3 => ?_)
            · skip
              exact k391 c1' fu fl _ _ M9 D9 T9 v9 rc9 rs9 hC9 hS9 (Nat.le_refl _) (by omega) (fun _ _ => rfl) (FF.refl M9 f) (hex' (by omega) c1' hx0)
            · skip
              obtain ⟨hf1, hf2⟩ := hfz' c1'
              refine jj_aload_n (pc := 319) kRF_determinant_d319 rfl ?_
              refine jj_aload_n (pc := 320) kRF_determinant_d320 rfl ?_
              refine jj_iload (pc := 321) kRF_determinant_d321 rfl ?_
              refine jj_iload (pc := 323) kRF_determinant_d323 rfl ?_
              refine jj_iload (pc := 325) kRF_determinant_d325 rfl ?_
              refine jn_imul (pc := 327) (odn) kRF_determinant_d327 hodn ?_
              refine jj_iload (pc := 328) kRF_determinant_d328 rfl ?_
              refine jn_iadd (pc := 330) (xo) kRF_determinant_d330 hxo ?_
              refine jj_callV (pc := 331) (b := f) (As := [.int (nI (a)), .int (nI (xo))]) kRF_determinant_d331 (kvRF_RF_upper hG) (kG_cl hG rfl) rfl hC9.1 rfl rfl rfl (Nat.le_of_ble_eq_true rfl) (Nat.le_of_ble_eq_true rfl) (jj_bare0 rfl) ?_
              refine rf_upper hG hC9 (by omega) (by omega) ?_
              show jj G kRF_determinant (d + 10) Q rc9 rs9 334 [some (.ref f), some (.int (nI (b))), some (.int (nI (nu))), some (.int (nI (he))), some (.int (nI (a))), some (.int (nI (n))), some (.int (nI (u))), some (.int (nI (l))), some (.int (nI (bz))), some (.int (nI (c))), some (.int (nI (p))), some (.int (nI (pu))), some (.int (nI (pl))), some (.int (nI (T))), some (.int (nI (t))), some (.int (nI (fu))), some (.int (nI (fl))), some (.int (nI (k))), some (.int (nI (row))), some (.int (nI (od))), some (.int (nI (kk))), (o21), (o22)] [.int (V9.getD (a + 2 + 2 * xo) 0), .ref f] M9
              refine jn_top (.int (nI (pxo))) (by rw [axo]) ?_
              refine jj_aload_n (pc := 334) kRF_determinant_d334 rfl ?_
              refine jj_iload (pc := 335) kRF_determinant_d335 rfl ?_
              refine jj_iload (pc := 337) kRF_determinant_d337 rfl ?_
              refine jj_iload (pc := 339) kRF_determinant_d339 rfl ?_
              refine jn_imul (pc := 341) (odn) kRF_determinant_d341 hodn ?_
              refine jj_iload (pc := 342) kRF_determinant_d342 rfl ?_
              refine jn_iadd (pc := 344) (xo) kRF_determinant_d344 hxo ?_
              refine jj_callV (pc := 345) (b := f) (As := [.int (nI (a)), .int (nI (xo))]) kRF_determinant_d345 (kvRF_RF_lower hG) (kG_cl hG rfl) rfl hC9.1 rfl rfl rfl (Nat.le_of_ble_eq_true rfl) (Nat.le_of_ble_eq_true rfl) (jj_bare0 rfl) ?_
              refine rf_lower hG hC9 (by omega) (by omega) ?_
              show jj G kRF_determinant (d + 10) Q rc9 rs9 348 [some (.ref f), some (.int (nI (b))), some (.int (nI (nu))), some (.int (nI (he))), some (.int (nI (a))), some (.int (nI (n))), some (.int (nI (u))), some (.int (nI (l))), some (.int (nI (bz))), some (.int (nI (c))), some (.int (nI (p))), some (.int (nI (pu))), some (.int (nI (pl))), some (.int (nI (T))), some (.int (nI (t))), some (.int (nI (fu))), some (.int (nI (fl))), some (.int (nI (k))), some (.int (nI (row))), some (.int (nI (od))), some (.int (nI (kk))), (o21), (o22)] [.int (V9.getD (a + 3 + 2 * xo) 0), .int (nI (pxo)), .ref f] M9
              refine jn_top (.int (nI (lxo))) (by rw [bxo_]) ?_
              refine jj_aload_n (pc := 348) kRF_determinant_d348 rfl ?_
              refine jj_iload (pc := 349) kRF_determinant_d349 rfl ?_
              refine jj_iload (pc := 351) kRF_determinant_d351 rfl ?_
              refine jj_iload (pc := 353) kRF_determinant_d353 rfl ?_
              refine jn_imul (pc := 355) (pn) kRF_determinant_d355 hpn ?_
              refine jj_iload (pc := 356) kRF_determinant_d356 rfl ?_
              refine jn_iadd (pc := 358) (yp) kRF_determinant_d358 hyp ?_
              refine jj_callV (pc := 359) (b := f) (As := [.int (nI (a)), .int (nI (yp))]) kRF_determinant_d359 (kvRF_RF_upper hG) (kG_cl hG rfl) rfl hC9.1 rfl rfl rfl (Nat.le_of_ble_eq_true rfl) (Nat.le_of_ble_eq_true rfl) (jj_bare0 rfl) ?_
              refine rf_upper hG hC9 (by omega) (by omega) ?_
              show jj G kRF_determinant (d + 10) Q rc9 rs9 362 [some (.ref f), some (.int (nI (b))), some (.int (nI (nu))), some (.int (nI (he))), some (.int (nI (a))), some (.int (nI (n))), some (.int (nI (u))), some (.int (nI (l))), some (.int (nI (bz))), some (.int (nI (c))), some (.int (nI (p))), some (.int (nI (pu))), some (.int (nI (pl))), some (.int (nI (T))), some (.int (nI (t))), some (.int (nI (fu))), some (.int (nI (fl))), some (.int (nI (k))), some (.int (nI (row))), some (.int (nI (od))), some (.int (nI (kk))), (o21), (o22)] [.int (V9.getD (a + 2 + 2 * yp) 0), .int (nI (lxo)), .int (nI (pxo)), .ref f] M9
              refine jn_top (.int (nI (pyp))) (by rw [ayp]) ?_
              refine jj_aload_n (pc := 362) kRF_determinant_d362 rfl ?_
              refine jj_iload (pc := 363) kRF_determinant_d363 rfl ?_
              refine jj_iload (pc := 365) kRF_determinant_d365 rfl ?_
              refine jj_iload (pc := 367) kRF_determinant_d367 rfl ?_
              refine jn_imul (pc := 369) (pn) kRF_determinant_d369 hpn ?_
              refine jj_iload (pc := 370) kRF_determinant_d370 rfl ?_
              refine jn_iadd (pc := 372) (yp) kRF_determinant_d372 hyp ?_
              refine jj_callV (pc := 373) (b := f) (As := [.int (nI (a)), .int (nI (yp))]) kRF_determinant_d373 (kvRF_RF_lower hG) (kG_cl hG rfl) rfl hC9.1 rfl rfl rfl (Nat.le_of_ble_eq_true rfl) (Nat.le_of_ble_eq_true rfl) (jj_bare0 rfl) ?_
              refine rf_lower hG hC9 (by omega) (by omega) ?_
              show jj G kRF_determinant (d + 10) Q rc9 rs9 376 [some (.ref f), some (.int (nI (b))), some (.int (nI (nu))), some (.int (nI (he))), some (.int (nI (a))), some (.int (nI (n))), some (.int (nI (u))), some (.int (nI (l))), some (.int (nI (bz))), some (.int (nI (c))), some (.int (nI (p))), some (.int (nI (pu))), some (.int (nI (pl))), some (.int (nI (T))), some (.int (nI (t))), some (.int (nI (fu))), some (.int (nI (fl))), some (.int (nI (k))), some (.int (nI (row))), some (.int (nI (od))), some (.int (nI (kk))), (o21), (o22)] [.int (V9.getD (a + 3 + 2 * yp) 0), .int (nI (pyp)), .int (nI (lxo)), .int (nI (pxo)), .ref f] M9
              refine jn_top (.int (nI (lyp))) (by rw [byp_]) ?_
              refine jj_callV (pc := 376) (b := f) (As := [.int (nI (pxo)), .int (nI (lxo)), .int (nI (pyp)), .int (nI (lyp))]) kRF_determinant_d376 (kvRF_RF_divide hG) (kG_cl hG rfl) rfl hC9.1 rfl rfl rfl (Nat.le_of_ble_eq_true rfl) (Nat.le_of_ble_eq_true rfl) (jj_bare0 rfl) ?_
              refine rf_divide (a := s) (c := s) hG hC9 hS9 h19 (by omega) qxo qyp hq0' bxo exo byp eyp (by omega) hf1 hf2 (by omega) (fun M6 D6 T6 p6 l6 v6 rc6 rs6 hC6 hS6 t6 u6 ho6 hF6 hq6 g1 g2 => ?_)
              show jj G kRF_determinant (d + 10) Q rc6 rs6 379 [some (.ref f), some (.int (nI (b))), some (.int (nI (nu))), some (.int (nI (he))), some (.int (nI (a))), some (.int (nI (n))), some (.int (nI (u))), some (.int (nI (l))), some (.int (nI (bz))), some (.int (nI (c))), some (.int (nI (p))), some (.int (nI (pu))), some (.int (nI (pl))), some (.int (nI (T))), some (.int (nI (t))), some (.int (nI (fu))), some (.int (nI (fl))), some (.int (nI (k))), some (.int (nI (row))), some (.int (nI (od))), some (.int (nI (kk))), (o21), (o22)] [] M6
              refine jj_aload_n (pc := 379) kRF_determinant_d379 rfl ?_
              refine jj_getf (pc := 380) kRF_determinant_d380 (kfRF_up hG) hC6.1 rfl ?_
              refine jj_istore (pc := 383) kRF_determinant_d383 (Nat.le_of_ble_eq_true rfl) ?_
              refine jj_aload_n (pc := 385) kRF_determinant_d385 rfl ?_
              refine jj_getf (pc := 386) kRF_determinant_d386 (kfRF_low hG) hC6.1 rfl ?_
              refine jj_istore (pc := 389) kRF_determinant_d389 (Nat.le_of_ble_eq_true rfl) ?_
              show jj G kRF_determinant (d + 10) Q rc6 rs6 391 [some (.ref f), some (.int (nI (b))), some (.int (nI (nu))), some (.int (nI (he))), some (.int (nI (a))), some (.int (nI (n))), some (.int (nI (u))), some (.int (nI (l))), some (.int (nI (bz))), some (.int (nI (c))), some (.int (nI (p))), some (.int (nI (pu))), some (.int (nI (pl))), some (.int (nI (T))), some (.int (nI (t))), some (.int (nI (p6))), some (.int (nI (l6))), some (.int (nI (k))), some (.int (nI (row))), some (.int (nI (od))), some (.int (nI (kk))), (o21), (o22)] [] M6
              exact k391 c1' p6 l6 _ _ M6 D6 T6 v6 rc6 rs6 hC6 hS6 t6 u6 ho6 hF6 hq6
          · skip
            exact k293 (Or.inr (Rat.num_eq_zero.mp (by have h9 := qxo.1; rw [show pxo = 0 by omega] at h9; exact h9.z0 hz90 (by omega))))
      clear k391 k293 hex' hfz'
      refine jj_iload (pc := 227) kRF_determinant_d227 rfl ?_
      refine jj_iload (pc := 229) kRF_determinant_d229 rfl ?_
      refine jn_idiv (pc := 231) (row) kRF_determinant_d231 (by omega) (by omega) (by omega) hrow ?_
      refine jj_istore (pc := 232) kRF_determinant_d232 (Nat.le_of_ble_eq_true rfl) ?_
      refine jj_iload (pc := 234) kRF_determinant_d234 rfl ?_
      refine jj_iload (pc := 236) kRF_determinant_d236 rfl ?_
      refine jn_icmp_ne (pc := 238) (tgt := 246) kRF_determinant_d238 (by decide) (by omega) (by omega) (fun c1 => ?_) (fun c1 => ?_)
      · skip
        refine jj_iload (pc := 246) kRF_determinant_d246 rfl ?_
        refine jj_iload (pc := 248) kRF_determinant_d248 rfl ?_
        refine jn_icmp_ne (pc := 250) (tgt := 258) kRF_determinant_d250 (by decide) (by omega) (by omega) (fun c2 => ?_) (fun c2 => ?_)
        · skip
          refine jj_iload (pc := 258) kRF_determinant_d258 rfl ?_
          have e9 : od = row := by rw [← hod]; exact (if_neg c1).trans (if_neg c2)
          refine jn_top (.int (nI (od))) (by rw [e9]) ?_
          exact k260
        · skip
          refine jj_iload (pc := 253) kRF_determinant_d253 rfl ?_
          refine jj_goto (pc := 255) (tgt := 260) kRF_determinant_d255 (by decide) ?_
          have e9 : od = c := by rw [← hod]; exact (if_neg c1).trans (if_pos c2)
          refine jn_top (.int (nI (od))) (by rw [e9]) ?_
          exact k260
      · skip
        refine jj_iload (pc := 241) kRF_determinant_d241 rfl ?_
        refine jj_goto (pc := 243) (tgt := 260) kRF_determinant_d243 (by decide) ?_
        have e9 : od = p := by rw [← hod]; exact if_pos c1
        refine jn_top (.int (nI (od))) (by rw [e9]) ?_
        exact k260
  exact loop (n * n) 0 (by omega) 0 1 p18 p19 p20 p21 p22 M1 D T V1 up low v2 rc1 rs1 hC1 hS1 (Nat.le_refl _) (by omega) (fun _ _ => rfl) rfl ho1 hr1 hc1 hF1 (fun k' hk' => by omega) (fun e => absurd (Nat.zero_mod n) e)
end RF15
