/-! ===== Forms.hermite: pieces (printed by wip/gen/ro10.py) ===== -/
section RO10
variable {G : jg} {d : Nat} {Q : jq} {rc rs : Nat} {M : mheap} {o f w vv pv ca ra : Nat} {v2 : Value} {D V P CA RA : List Int32} {t : Nat} {up low rk fi se : Int32}
theorem ro_rowsAt {b he nu r rk0 T cm X Z : Nat} {p10 p11 p12 p13 p14 p15 p6 p7 p8 p9 : Option Value} {g : Nat → Nat} (hG : kG G) (hO : OC M o f w ca ra CA RA fi se) (hC : FC M f w vv pv V t up low P (nI rk0)) (hS : RS M w D T v2 cm X Z rc rs) (hP : P.length = 64) (hA : RA.length = 64) (hr : r ≤ 64) (hg : ∀ i, i < r → P.getD i 0 = nI (g i))
    (K : ∀ M' A', OC M' o f w ca ra CA A' fi se → FC M' f w vv pv V t up low P (nI rk0) → RS M' w D T v2 cm X Z rc rs → OF M M' o → A'.length = 64 → (∀ i, i < r → A'.getD i 0 = nI (g i)) → jj G kRO_hermite (d + 1) Q rc rs 71 [some (.ref o), some (.int (nI (b))), some (.int (nI (nu))), some (.int (nI (he))), some (.int (nI (r))), some (.int (nI (r))), (p6), (p7), (p8), (p9), (p10), (p11), (p12), (p13), (p14), (p15)] [] M') : jj G kRO_hermite (d + 1) Q rc rs 41 [some (.ref o), some (.int (nI (b))), some (.int (nI (nu))), some (.int (nI (he))), some (.int (nI (r))), some (.int (nI (0))), (p6), (p7), (p8), (p9), (p10), (p11), (p12), (p13), (p14), (p15)] [] M := by
  have loop : ∀ mu k, r = k + mu → ∀ M9 RA9, OC M9 o f w ca ra CA RA9 fi se → FC M9 f w vv pv V t up low P (nI rk0) → RS M9 w D T v2 cm X Z rc rs → OF M M9 o → RA9.length = 64 → (∀ i, i < k → RA9.getD i 0 = nI (g i)) → jj G kRO_hermite (d + 1) Q rc rs 41 [some (.ref o), some (.int (nI (b))), some (.int (nI (nu))), some (.int (nI (he))), some (.int (nI (r))), some (.int (nI (k))), (p6), (p7), (p8), (p9), (p10), (p11), (p12), (p13), (p14), (p15)] [] M9 := by
    intro mu
    induction mu with
    | zero =>
      intro k hk M9 RA9 hO9 hC9 hS9 hG9 hl9 hg9
      have e9 : r = k := by omega
      subst e9
      refine jj_iload (pc := 41) kRO_hermite_d41 rfl ?_
      refine jj_iload (pc := 43) kRO_hermite_d43 rfl ?_
      refine jn_icmp_ge (pc := 45) (tgt := 71) kRO_hermite_d45 (by decide) (by omega) (by omega) (fun _ => ?_) (fun c => by exfalso; omega)
      show jj G kRO_hermite (d + 1) Q rc rs 71 [some (.ref o), some (.int (nI (b))), some (.int (nI (nu))), some (.int (nI (he))), some (.int (nI (r))), some (.int (nI (r))), (p6), (p7), (p8), (p9), (p10), (p11), (p12), (p13), (p14), (p15)] [] M9
      exact K M9 RA9 hO9 hC9 hS9 hG9 hl9 hg9
    | succ mu ih =>
      intro k hk M9 RA9 hO9 hC9 hS9 hG9 hl9 hg9
      refine jj_iload (pc := 41) kRO_hermite_d41 rfl ?_
      refine jj_iload (pc := 43) kRO_hermite_d43 rfl ?_
      refine jn_icmp_ge (pc := 45) (tgt := 71) kRO_hermite_d45 (by decide) (by omega) (by omega) (fun c => by exfalso; omega) (fun _ => ?_)
      refine jj_aload_n (pc := 48) kRO_hermite_d48 rfl ?_
      refine jj_getf (pc := 49) kRO_hermite_d49 (kfRO_rowsAt hG) hO9.1 rfl ?_
      refine jj_iload (pc := 52) kRO_hermite_d52 rfl ?_
      refine jj_aload_n (pc := 54) kRO_hermite_d54 rfl ?_
      refine jj_getf (pc := 55) kRO_hermite_d55 (kfRO_f hG) hO9.1 rfl ?_
      refine jj_getf (pc := 58) kRO_hermite_d58 (kfRO_RF_pivots hG) hC9.1 rfl ?_
      refine jj_iload (pc := 61) kRO_hermite_d61 rfl ?_
      refine jn_iald (pc := 63) (v := (nI (g k))) kRO_hermite_d63 (kG_t hG rfl) hC9.2.2.1 (by omega) (by omega) (hg k (by omega)) ?_
      refine jn_iast (pc := 64) kRO_hermite_d64 (kG_t hG rfl) hO9.2.2.1 (by omega) (by omega) ?_
      refine jn_gen (fun M101 hM102 => ?_)
      have hO103 : OC M101 o f w ca ra CA ((RA9).set (k) ((nI (g k)))) (fi) (se) := by rw [hM102]; exact hO9.putr hC9
      have hC103 : FC M101 f w vv pv V (t) (up) (low) P (nI (rk0)) := by rw [hM102]; exact hC9.other hO9.2.2.2.2.2.2
      have hS103 : RS M101 w D (T) v2 cm X Z rc rs := by rw [hM102]; exact hS9.other (FO.notRO hC9 hO9.2.2.2.2.2.2)
      have hG103 : OF M M101 o := hG9.trans ((OF.ofFF hO9 (FF.refl _ f)).trans (by rw [hM102]; exact OF.put hO9 hC9 (Or.inr (Or.inr rfl)) (hO9.putr hC9)))
      refine jn_iinc (pc := 65) (k + 1) kRO_hermite_d65 rfl (nI_1 _) ?_
      refine jj_goto (pc := 68) (tgt := 41) kRO_hermite_d68 (by decide) ?_
      show jj G kRO_hermite (d + 1) Q rc rs 41 [some (.ref o), some (.int (nI (b))), some (.int (nI (nu))), some (.int (nI (he))), some (.int (nI (r))), some (.int (nI (k + 1))), (p6), (p7), (p8), (p9), (p10), (p11), (p12), (p13), (p14), (p15)] [] M101
      refine ih (k + 1) (by omega) M101 _ hO103 hC103 hS103 hG103 (by rw [List.length_set]; exact hl9) (fun i hi => ?_)
      by_cases e : i = k
      · rw [e]; exact gd_set_eq (by omega)
      · rw [gd_set_ne (by omega)]; exact hg9 i (by omega)
  exact loop r 0 (by omega) M RA hO hC hS (OF.refl M o) hA (fun i hi => by omega)
theorem ro_columnsAt {b e he nu r rk0 T cm X Z : Nat} {p10 p11 p12 p13 p14 p15 p7 p8 p9 : Option Value} {g : Nat → Nat} (hG : kG G) (hO : OC M o f w ca ra CA RA fi se) (hC : FC M f w vv pv V t up low P (nI rk0)) (hS : RS M w D T v2 cm X Z rc rs) (hP : P.length = 64) (hA : CA.length = 64) (hr : r ≤ 64) (hg : ∀ i, i < r → P.getD i 0 = nI (g i))
    (K : ∀ M' A', OC M' o f w ca ra A' RA fi se → FC M' f w vv pv V t up low P (nI rk0) → RS M' w D T v2 cm X Z rc rs → OF M M' o → A'.length = 64 → (∀ i, i < r → A'.getD i 0 = nI (g i)) → jj G kRO_hermite (d + 1) Q rc rs 141 [some (.ref o), some (.int (nI (b))), some (.int (nI (nu))), some (.int (nI (he))), some (.int (nI (r))), some (.int (nI (e))), some (.int (nI (r))), (p7), (p8), (p9), (p10), (p11), (p12), (p13), (p14), (p15)] [] M') : jj G kRO_hermite (d + 1) Q rc rs 111 [some (.ref o), some (.int (nI (b))), some (.int (nI (nu))), some (.int (nI (he))), some (.int (nI (r))), some (.int (nI (e))), some (.int (nI (0))), (p7), (p8), (p9), (p10), (p11), (p12), (p13), (p14), (p15)] [] M := by
  have loop : ∀ mu k, r = k + mu → ∀ M9 CA9, OC M9 o f w ca ra CA9 RA fi se → FC M9 f w vv pv V t up low P (nI rk0) → RS M9 w D T v2 cm X Z rc rs → OF M M9 o → CA9.length = 64 → (∀ i, i < k → CA9.getD i 0 = nI (g i)) → jj G kRO_hermite (d + 1) Q rc rs 111 [some (.ref o), some (.int (nI (b))), some (.int (nI (nu))), some (.int (nI (he))), some (.int (nI (r))), some (.int (nI (e))), some (.int (nI (k))), (p7), (p8), (p9), (p10), (p11), (p12), (p13), (p14), (p15)] [] M9 := by
    intro mu
    induction mu with
    | zero =>
      intro k hk M9 CA9 hO9 hC9 hS9 hG9 hl9 hg9
      have e9 : r = k := by omega
      subst e9
      refine jj_iload (pc := 111) kRO_hermite_d111 rfl ?_
      refine jj_iload (pc := 113) kRO_hermite_d113 rfl ?_
      refine jn_icmp_ge (pc := 115) (tgt := 141) kRO_hermite_d115 (by decide) (by omega) (by omega) (fun _ => ?_) (fun c => by exfalso; omega)
      show jj G kRO_hermite (d + 1) Q rc rs 141 [some (.ref o), some (.int (nI (b))), some (.int (nI (nu))), some (.int (nI (he))), some (.int (nI (r))), some (.int (nI (e))), some (.int (nI (r))), (p7), (p8), (p9), (p10), (p11), (p12), (p13), (p14), (p15)] [] M9
      exact K M9 CA9 hO9 hC9 hS9 hG9 hl9 hg9
    | succ mu ih =>
      intro k hk M9 CA9 hO9 hC9 hS9 hG9 hl9 hg9
      refine jj_iload (pc := 111) kRO_hermite_d111 rfl ?_
      refine jj_iload (pc := 113) kRO_hermite_d113 rfl ?_
      refine jn_icmp_ge (pc := 115) (tgt := 141) kRO_hermite_d115 (by decide) (by omega) (by omega) (fun c => by exfalso; omega) (fun _ => ?_)
      refine jj_aload_n (pc := 118) kRO_hermite_d118 rfl ?_
      refine jj_getf (pc := 119) kRO_hermite_d119 (kfRO_columnsAt hG) hO9.1 rfl ?_
      refine jj_iload (pc := 122) kRO_hermite_d122 rfl ?_
      refine jj_aload_n (pc := 124) kRO_hermite_d124 rfl ?_
      refine jj_getf (pc := 125) kRO_hermite_d125 (kfRO_f hG) hO9.1 rfl ?_
      refine jj_getf (pc := 128) kRO_hermite_d128 (kfRO_RF_pivots hG) hC9.1 rfl ?_
      refine jj_iload (pc := 131) kRO_hermite_d131 rfl ?_
      refine jn_iald (pc := 133) (v := (nI (g k))) kRO_hermite_d133 (kG_t hG rfl) hC9.2.2.1 (by omega) (by omega) (hg k (by omega)) ?_
      refine jn_iast (pc := 134) kRO_hermite_d134 (kG_t hG rfl) hO9.2.1 (by omega) (by omega) ?_
      refine jn_gen (fun M104 hM105 => ?_)
      have hO106 : OC M104 o f w ca ra ((CA9).set (k) ((nI (g k)))) RA (fi) (se) := by rw [hM105]; exact hO9.putc hC9
      have hC106 : FC M104 f w vv pv V (t) (up) (low) P (nI (rk0)) := by rw [hM105]; exact hC9.other hO9.2.2.2.2.2.1
      have hS106 : RS M104 w D (T) v2 cm X Z rc rs := by rw [hM105]; exact hS9.other (FO.notRO hC9 hO9.2.2.2.2.2.1)
      have hG106 : OF M M104 o := hG9.trans ((OF.ofFF hO9 (FF.refl _ f)).trans (by rw [hM105]; exact OF.put hO9 hC9 (Or.inr (Or.inl rfl)) (hO9.putc hC9)))
      refine jn_iinc (pc := 135) (k + 1) kRO_hermite_d135 rfl (nI_1 _) ?_
      refine jj_goto (pc := 138) (tgt := 111) kRO_hermite_d138 (by decide) ?_
      show jj G kRO_hermite (d + 1) Q rc rs 111 [some (.ref o), some (.int (nI (b))), some (.int (nI (nu))), some (.int (nI (he))), some (.int (nI (r))), some (.int (nI (e))), some (.int (nI (k + 1))), (p7), (p8), (p9), (p10), (p11), (p12), (p13), (p14), (p15)] [] M104
      refine ih (k + 1) (by omega) M104 _ hO106 hC106 hS106 hG106 (by rw [List.length_set]; exact hl9) (fun i hi => ?_)
      by_cases e : i = k
      · rw [e]; exact gd_set_eq (by omega)
      · rw [gd_set_ne (by omega)]; exact hg9 i (by omega)
  exact loop r 0 (by omega) M CA hO hC hS (OF.refl M o) hA (fun i hi => by omega)
theorem ro_herm_part {b nu he r e n m lob T s S cm cv X Z X' Z' : Nat} {p8 p9 p10 p11 p12 p13 p14 p15 : Option Value} {qb : Nat → Rat} {g1 g2 : Nat → Nat} (hG : kG G) (hO : OC M o f w ca ra CA RA fi se) (hC : FC M f w vv pv V t up low P rk) (hS : RS M w D T v2 cm X Z rc rs) (hX : FXB cv V X Z X' Z') (htV : t ≤ V.length) (h1 : RI D T 1 1) (hT3 : 3 ≤ T) (hb : MX D T V t b m n lob qb) (hqb : ∀ k, k < m * n → ZB s (qb k).num ∧ ZB s ((qb k).den : Int)) (hm : m < 64) (hn : n < 64) (hr : r < 64) (hRA : RA.length = 64) (hCA : CA.length = 64) (hgr : ∀ i, i < r → RA.getD i 0 = nI (g1 i) ∧ g1 i < m) (hgc : ∀ i, i < r → CA.getD i 0 = nI (g2 i) ∧ g2 i < n) (hs : S = 2 * s + 2) (ht : t + 2 + 2 * (r * r) ≤ cv) (hT : T + r * r * S ≤ cm)
    (K : MKP (fun _ M' rc' rs' => ∀ (o10 o11 o12 o13 o14 o15 : Option Value) , jj G kRO_hermite (d + 12) Q rc' rs' 229 [some (.ref o), some (.int (nI (b))), some (.int (nI (nu))), some (.int (nI (he))), some (.int (nI (r))), some (.int (nI (e))), some (.int (nI (n))), some (.int (nI (m))), some (.int (nI (t))), some (.int (nI (r * r))), (o10), (o11), (o12), (o13), (o14), (o15)] [] M') M f w pv D V t P rk T cm cv X' Z' (r) (r) (T + r * r * S) (fun k => qb (g1 (k / r) * n + g2 (k % r)))) : jj G kRO_hermite (d + 12) Q rc rs 161 [some (.ref o), some (.int (nI (b))), some (.int (nI (nu))), some (.int (nI (he))), some (.int (nI (r))), some (.int (nI (e))), some (.int (nI (n))), some (.int (nI (m))), (p8), (p9), (p10), (p11), (p12), (p13), (p14), (p15)] [] M := by
  have hcap := hX.cap
  have hcr : (r) * (r) = r * r := rfl
  unfold MKP at K
  rw [hcr] at K
  have hcapD := hS.2.1.cap
  obtain ⟨hb1, hb2, hb3, hb4⟩ := id hb
  have hrr : r * r < 64 * 1024 := Nat.mul_lt_mul_of_lt_of_le hr (by omega) (by decide)
  have hmn : m * n < 64 * 1024 := Nat.mul_lt_mul_of_lt_of_le hm (by omega) (by decide)
  obtain ⟨hW107, hB107, hTD107, hz107, hp107⟩ := id hS
  obtain ⟨dd107, hw107, hd107⟩ := id hW107
  have hcap107 := hB107.cap
  refine jj_aload_n (pc := 161) kRO_hermite_d161 rfl ?_
  refine jj_getf (pc := 162) kRO_hermite_d162 (kfRO_f hG) hO.1 rfl ?_
  refine jj_iload (pc := 165) kRO_hermite_d165 rfl ?_
  refine jj_iload (pc := 167) kRO_hermite_d167 rfl ?_
  refine jj_callV (pc := 169) (b := f) (As := [.int (nI (r)), .int (nI (r))]) kRO_hermite_d169 (kvRO_RF_make hG) (kG_cl hG rfl) rfl hC.1 rfl rfl rfl (Nat.le_of_ble_eq_true rfl) (Nat.le_of_ble_eq_true rfl) (jj_bare0 rfl) ?_
  refine rf_make hG hC hS hX htV (by omega) (by omega) (by rw [hcr]; exact ht) (fun M1 vv V1 X1 Z1 rc1 rs1 hC1 hS1 hX1 hl1 hr1 hc1 ho1 hF1 => ?_)
  show jj G kRO_hermite (d + 12) Q rc1 rs1 172 [some (.ref o), some (.int (nI (b))), some (.int (nI (nu))), some (.int (nI (he))), some (.int (nI (r))), some (.int (nI (e))), some (.int (nI (n))), some (.int (nI (m))), (p8), (p9), (p10), (p11), (p12), (p13), (p14), (p15)] [.int (nI (t))] M1
  rw [hcr] at hC1 hl1
  have hcap1 := hX1.cap
  refine jj_istore (pc := 172) kRO_hermite_d172 (Nat.le_of_ble_eq_true rfl) ?_
  refine jn_iconst (pc := 174) 0 kRO_hermite_d174 (by decide) ?_
  refine jj_istore (pc := 175) kRO_hermite_d175 (Nat.le_of_ble_eq_true rfl) ?_
  show jj G kRO_hermite (d + 12) Q rc1 rs1 177 [some (.ref o), some (.int (nI (b))), some (.int (nI (nu))), some (.int (nI (he))), some (.int (nI (r))), some (.int (nI (e))), some (.int (nI (n))), some (.int (nI (m))), some (.int (nI (t))), some (.int (nI (0))), (p10), (p11), (p12), (p13), (p14), (p15)] [] M1
  show jj G kRO_hermite (d + 12) Q rc1 rs1 177 [some (.ref o), some (.int (nI (b))), some (.int (nI (nu))), some (.int (nI (he))), some (.int (nI (r))), some (.int (nI (e))), some (.int (nI (n))), some (.int (nI (m))), some (.int (nI (t))), some (.int (nI (0))), (p10), (p11), (p12), (p13), (p14), (p15)] [] M1
  have loop : ∀ mu k, r * r = k + mu → ∀ (o10 o11 o12 o13 o14 o15 : Option Value) (M9 : mheap) (D9 : List Int32) (T9 : Nat) (V9 : List Int32) (up9 low9 : Int32) (v9 : Value) (rc9 rs9 : Nat), FC M9 f w vv pv V9 (t + 2 + 2 * (r * r)) up9 low9 P rk → RS M9 w D9 T9 v9 cm X1 Z1 rc9 rs9 → T ≤ T9 → T9 ≤ T + k * S → (∀ i, i < T → D9.getD i 0 = D.getD i 0) → V9.length = V1.length → (∀ i, i < t → V9.getD i 0 = V.getD i 0) → V9.getD t 0 = nI (r) → V9.getD (t + 1) 0 = nI (r) → FF M M9 f → (∀ k', k' < k → MC D9 T9 V9 t T k' ((fun k => qb (g1 (k / r) * n + g2 (k % r))) k')) → jj G kRO_hermite (d + 12) Q rc9 rs9 177 [some (.ref o), some (.int (nI (b))), some (.int (nI (nu))), some (.int (nI (he))), some (.int (nI (r))), some (.int (nI (e))), some (.int (nI (n))), some (.int (nI (m))), some (.int (nI (t))), some (.int (nI (k))), (o10), (o11), (o12), (o13), (o14), (o15)] [] M9 := by
    intro mu
    induction mu with
    | zero =>
      intro k hk  o10 o11 o12 o13 o14 o15 M9 D9 T9 V9 up9 low9 v9 rc9 rs9 hC9 hS9 t9 u9 ho9 hlen9 hV9 hr9 hc9 hF9 hm9 
      have e : r * r = k := by omega
      subst e
      refine jj_iload (pc := 177) kRO_hermite_d177 rfl ?_
      refine jj_iload (pc := 179) kRO_hermite_d179 rfl ?_
      refine jj_iload (pc := 181) kRO_hermite_d181 rfl ?_
      refine jn_imul (pc := 183) (r * r) kRO_hermite_d183 rfl ?_
      refine jn_icmp_ge (pc := 184) (tgt := 229) kRO_hermite_d184 (by decide) (by omega) (by omega) (fun _ => ?_) (fun c => by exfalso; omega)
      show jj G kRO_hermite (d + 12) Q rc9 rs9 229 [some (.ref o), some (.int (nI (b))), some (.int (nI (nu))), some (.int (nI (he))), some (.int (nI (r))), some (.int (nI (e))), some (.int (nI (n))), some (.int (nI (m))), some (.int (nI (t))), some (.int (nI (r * r))), (o10), (o11), (o12), (o13), (o14), (o15)] [] M9
      exact K M9 vv D9 T9 V9 up9 low9 X1 Z1 v9 rc9 rs9 hC9 hS9 (hX1.same hlen9) t9 u9 ho9 hV9 (by omega) hF9 ⟨by rw [hcr]; exact Nat.le_refl _, hr9, hc9, fun k' hk' => hm9 k' (by rw [hcr] at hk'; exact hk')⟩  o10 o11 o12 o13 o14 o15
    | succ mu ih =>
      intro k hk  o10 o11 o12 o13 o14 o15 M9 D9 T9 V9 up9 low9 v9 rc9 rs9 hC9 hS9 t9 u9 ho9 hlen9 hV9 hr9 hc9 hF9 hm9 
      have hk1 : (k + 1) * S ≤ r * r * S := Nat.mul_le_mul_right _ (by omega)
      rw [Nat.succ_mul] at hk1
      have h19 := h1.congr t9 ho9
      refine jj_iload (pc := 177) kRO_hermite_d177 rfl ?_
      refine jj_iload (pc := 179) kRO_hermite_d179 rfl ?_
      refine jj_iload (pc := 181) kRO_hermite_d181 rfl ?_
      refine jn_imul (pc := 183) (r * r) kRO_hermite_d183 rfl ?_
      refine jn_icmp_ge (pc := 184) (tgt := 229) kRO_hermite_d184 (by decide) (by omega) (by omega) (fun c => by exfalso; omega) (fun _ => ?_)
      have hr0 : 0 < r := Nat.pos_of_ne_zero (fun e => by rw [e, Nat.mul_zero] at hk; omega)
      obtain ⟨row, hrow⟩ : ∃ row, k / r = row := ⟨_, rfl⟩
      obtain ⟨kk, hkk⟩ : ∃ kk, k % r = kk := ⟨_, rfl⟩
      have hkl : kk < r := by rw [← hkk]; exact Nat.mod_lt k hr0
      have hrl : row < r := by rw [← hrow]; exact (Nat.div_lt_iff_lt_mul hr0).mpr (by omega)
      obtain ⟨gr1, gr2⟩ := hgr row hrl
      obtain ⟨gc1, gc2⟩ := hgc kk hkl
      obtain ⟨rn, hrn⟩ : ∃ rn, g1 row * n = rn := ⟨_, rfl⟩
      obtain ⟨ix, hix⟩ : ∃ ix, rn + g2 kk = ix := ⟨_, rfl⟩
      have hil : ix < m * n := by rw [← hix, ← hrn]; exact cell_lt gr2 gc2
      obtain ⟨hn1, hn2⟩ := hqb ix hil
      have hmc : MC D9 T9 V9 b lob ix (qb ix) := (hb4 ix hil).congr t9 ho9 (fun i _ h6 => hV9 i (by omega)) (Nat.le_refl _)
      have e9 : qb (g1 (k / r) * n + g2 (k % r)) = qb ix := by rw [hrow, hkk, hrn, hix]
      refine jj_aload_n (pc := 187) kRO_hermite_d187 rfl ?_
      refine jj_getf (pc := 188) kRO_hermite_d188 (kfRO_f hG) (hO.ff hF9).1 rfl ?_
      refine jj_iload (pc := 191) kRO_hermite_d191 rfl ?_
      refine jj_iload (pc := 193) kRO_hermite_d193 rfl ?_
      refine jj_iload_n (pc := 195) kRO_hermite_d195 rfl ?_
      refine jj_aload_n (pc := 196) kRO_hermite_d196 rfl ?_
      refine jj_getf (pc := 197) kRO_hermite_d197 (kfRO_rowsAt hG) (hO.ff hF9).1 rfl ?_
      refine jj_iload (pc := 200) kRO_hermite_d200 rfl ?_
      refine jj_iload (pc := 202) kRO_hermite_d202 rfl ?_
      refine jn_idiv (pc := 204) (row) kRO_hermite_d204 (by omega) (by omega) (by omega) hrow ?_
      refine jn_iald (pc := 205) (v := (nI (g1 row))) kRO_hermite_d205 (kG_t hG rfl) (hO.ff hF9).2.2.1 (by omega) (by omega) (gr1) ?_
      refine jj_iload (pc := 206) kRO_hermite_d206 rfl ?_
      refine jn_imul (pc := 208) (rn) kRO_hermite_d208 hrn ?_
      refine jj_aload_n (pc := 209) kRO_hermite_d209 rfl ?_
      refine jj_getf (pc := 210) kRO_hermite_d210 (kfRO_columnsAt hG) (hO.ff hF9).1 rfl ?_
      refine jj_iload (pc := 213) kRO_hermite_d213 rfl ?_
      refine jj_iload (pc := 215) kRO_hermite_d215 rfl ?_
      refine jn_irem (pc := 217) (kk) kRO_hermite_d217 (by omega) (by omega) (by omega) hkk ?_
      refine jn_iald (pc := 218) (v := (nI (g2 kk))) kRO_hermite_d218 (kG_t hG rfl) (hO.ff hF9).2.1 (by omega) (by omega) (gc1) ?_
      refine jn_iadd (pc := 219) (ix) kRO_hermite_d219 hix ?_
      refine jj_callV (pc := 220) (b := f) (As := [.int (nI (t)), .int (nI (k)), .int (nI (b)), .int (nI (ix))]) kRO_hermite_d220 (kvRO_RF_same hG) (kG_cl hG rfl) rfl hC9.1 rfl rfl rfl (Nat.le_of_ble_eq_true rfl) (Nat.le_of_ble_eq_true rfl) (jj_bare0 rfl) ?_
      refine rf_same (a := t) (i := k) (b := b) (j := ix) (c := s) hG hC9 hS9 h19 (by omega) (by omega) hmc (by omega) (by omega) hn1 hn2 (by omega) (fun M5 D5 T5 V5 up5 low5 rc5 rs5 hC5 hS5 t5 u5 ho5 hl5 hv5 hF5 hm5 => ?_)
      show jj G kRO_hermite (d + 12) Q rc5 rs5 223 [some (.ref o), some (.int (nI (b))), some (.int (nI (nu))), some (.int (nI (he))), some (.int (nI (r))), some (.int (nI (e))), some (.int (nI (n))), some (.int (nI (m))), some (.int (nI (t))), some (.int (nI (k))), (o10), (o11), (o12), (o13), (o14), (o15)] [] M5
      rw [← e9] at hm5
      refine jn_iinc (pc := 223) (k + 1) kRO_hermite_d223 rfl (nI_1 _) ?_
      refine jj_goto (pc := 226) (tgt := 177) kRO_hermite_d226 (by decide) ?_
      show jj G kRO_hermite (d + 12) Q rc5 rs5 177 [some (.ref o), some (.int (nI (b))), some (.int (nI (nu))), some (.int (nI (he))), some (.int (nI (r))), some (.int (nI (e))), some (.int (nI (n))), some (.int (nI (m))), some (.int (nI (t))), some (.int (nI (k + 1))), (o10), (o11), (o12), (o13), (o14), (o15)] [] M5
      refine ih (k + 1) (by omega)  _ _ _ _ _ _ M5 D5 T5 V5 _ _ v9 rc5 rs5 hC5 hS5 (by omega) (by rw [Nat.succ_mul]; omega) (fun i hi => by rw [ho5 i (by omega), ho9 i hi]) (by omega) (fun i hi => by rw [hv5 i (by omega), hV9 i hi]) (by rw [hv5 _ (by omega)]; exact hr9) (by rw [hv5 _ (by omega)]; exact hc9) (hF9.trans hF5) (fun k' hk' => ?_) 
      by_cases e : k' = k
      · subst e
        exact hm5.congr (lo' := T) (Nat.le_refl _) (fun _ _ => rfl) (fun _ _ _ => rfl) t9
      · exact (hm9 k' (by omega)).congr t5 ho5 (fun i h6 h7 => hv5 i (by omega)) (Nat.le_refl _)
  exact loop (r * r) 0 (by omega) p10 p11 p12 p13 p14 p15 M1 D T V1 up low v2 rc1 rs1 hC1 hS1 (Nat.le_refl _) (by omega) (fun _ _ => rfl) rfl ho1 hr1 hc1 hF1 (fun k' hk' => by omega) 
theorem ro_herm_mat {b nu he r e n m R pt dp lob T s S cm cv X Z X' Z' : Nat} {p10 p11 p12 p13 p14 p15 : Option Value} {qb : Nat → Rat} {g2 : Nat → Nat} {zd : Int} (hG : kG G) (hO : OC M o f w ca ra CA RA fi se) (hC : FC M f w vv pv V t up low P rk) (hS : RS M w D T v2 cm X Z rc rs) (hX : FXB cv V X Z X' Z') (htV : t ≤ V.length) (h1 : RI D T 1 1) (hT3 : 3 ≤ T) (hR : R = m + r) (hb : MX D T V t b m n lob qb) (hqb : ∀ k, k < m * n → ZB s (qb k).num ∧ ZB s ((qb k).den : Int)) (hm : m < 64) (hn : n < 64) (hr : r < 64) (hCA : CA.length = 64) (hgc : ∀ i, i < r → CA.getD i 0 = nI (g2 i) ∧ g2 i < n) (hdp : RI D T dp zd) (bzd : ZB s zd) (hs : S = 2 * s + 2) (ht : t + 2 + 2 * (R * r) ≤ cv) (hT : T + R * r * S ≤ cm)
    (K : MKP (fun _ M' rc' rs' => ∀ (o13 o14 o15 : Option Value) , jj G kRO_hermite (d + 12) Q rc' rs' 389 [some (.ref o), some (.int (nI (b))), some (.int (nI (nu))), some (.int (nI (he))), some (.int (nI (r))), some (.int (nI (e))), some (.int (nI (n))), some (.int (nI (m))), some (.int (nI (pt))), some (.int (nI (dp))), some (.int (nI (T))), some (.int (nI (t))), some (.int (nI (R * r))), (o13), (o14), (o15)] [] M') M f w pv D V t P rk T cm cv X' Z' (R) (r) (T + R * r * S) (fun k => if k / r < m then qb (k / r * n + g2 (k % r)) else if k / r - m = k % r then (zd : Rat) else 0)) : jj G kRO_hermite (d + 12) Q rc rs 261 [some (.ref o), some (.int (nI (b))), some (.int (nI (nu))), some (.int (nI (he))), some (.int (nI (r))), some (.int (nI (e))), some (.int (nI (n))), some (.int (nI (m))), some (.int (nI (pt))), some (.int (nI (dp))), (p10), (p11), (p12), (p13), (p14), (p15)] [] M := by
  have hcap := hX.cap
  have hcr : (R) * (r) = R * r := rfl
  unfold MKP at K
  rw [hcr] at K
  have hcapD := hS.2.1.cap
  obtain ⟨hb1, hb2, hb3, hb4⟩ := id hb
  have hrr : R * r < 128 * 1024 := Nat.mul_lt_mul_of_lt_of_le (show R < 128 by omega) (by omega) (by decide)
  have hmn : m * n < 64 * 1024 := Nat.mul_lt_mul_of_lt_of_le hm (by omega) (by decide)
  obtain ⟨hW108, hB108, hTD108, hz108, hp108⟩ := id hS
  obtain ⟨dd108, hw108, hd108⟩ := id hW108
  have hcap108 := hB108.cap
  refine jj_aload_n (pc := 261) kRO_hermite_d261 rfl ?_
  refine jj_getf (pc := 262) kRO_hermite_d262 (kfRO_w hG) hO.1 rfl ?_
  refine jj_getf (pc := 265) kRO_hermite_d265 (kfRO_RW_top hG) hw108 rfl ?_
  refine jj_istore (pc := 268) kRO_hermite_d268 (Nat.le_of_ble_eq_true rfl) ?_
  refine jj_aload_n (pc := 270) kRO_hermite_d270 rfl ?_
  refine jj_getf (pc := 271) kRO_hermite_d271 (kfRO_f hG) hO.1 rfl ?_
  refine jj_iload (pc := 274) kRO_hermite_d274 rfl ?_
  refine jj_iload (pc := 276) kRO_hermite_d276 rfl ?_
  refine jn_iadd (pc := 278) (R) kRO_hermite_d278 (by omega) ?_
  refine jj_iload (pc := 279) kRO_hermite_d279 rfl ?_
  refine jj_callV (pc := 281) (b := f) (As := [.int (nI (R)), .int (nI (r))]) kRO_hermite_d281 (kvRO_RF_make hG) (kG_cl hG rfl) rfl hC.1 rfl rfl rfl (Nat.le_of_ble_eq_true rfl) (Nat.le_of_ble_eq_true rfl) (jj_bare0 rfl) ?_
  refine rf_make hG hC hS hX htV (by omega) (by omega) (by rw [hcr]; exact ht) (fun M1 vv V1 X1 Z1 rc1 rs1 hC1 hS1 hX1 hl1 hr1 hc1 ho1 hF1 => ?_)
  show jj G kRO_hermite (d + 12) Q rc1 rs1 284 [some (.ref o), some (.int (nI (b))), some (.int (nI (nu))), some (.int (nI (he))), some (.int (nI (r))), some (.int (nI (e))), some (.int (nI (n))), some (.int (nI (m))), some (.int (nI (pt))), some (.int (nI (dp))), some (.int (nI (T))), (p11), (p12), (p13), (p14), (p15)] [.int (nI (t))] M1
  rw [hcr] at hC1 hl1
  have hcap1 := hX1.cap
  refine jj_istore (pc := 284) kRO_hermite_d284 (Nat.le_of_ble_eq_true rfl) ?_
  refine jn_iconst (pc := 286) 0 kRO_hermite_d286 (by decide) ?_
  refine jj_istore (pc := 287) kRO_hermite_d287 (Nat.le_of_ble_eq_true rfl) ?_
  show jj G kRO_hermite (d + 12) Q rc1 rs1 289 [some (.ref o), some (.int (nI (b))), some (.int (nI (nu))), some (.int (nI (he))), some (.int (nI (r))), some (.int (nI (e))), some (.int (nI (n))), some (.int (nI (m))), some (.int (nI (pt))), some (.int (nI (dp))), some (.int (nI (T))), some (.int (nI (t))), some (.int (nI (0))), (p13), (p14), (p15)] [] M1
  show jj G kRO_hermite (d + 12) Q rc1 rs1 289 [some (.ref o), some (.int (nI (b))), some (.int (nI (nu))), some (.int (nI (he))), some (.int (nI (r))), some (.int (nI (e))), some (.int (nI (n))), some (.int (nI (m))), some (.int (nI (pt))), some (.int (nI (dp))), some (.int (nI (T))), some (.int (nI (t))), some (.int (nI (0))), (p13), (p14), (p15)] [] M1
  have loop : ∀ mu k, R * r = k + mu → ∀ (o13 o14 o15 : Option Value) (M9 : mheap) (D9 : List Int32) (T9 : Nat) (V9 : List Int32) (up9 low9 : Int32) (v9 : Value) (rc9 rs9 : Nat), FC M9 f w vv pv V9 (t + 2 + 2 * (R * r)) up9 low9 P rk → RS M9 w D9 T9 v9 cm X1 Z1 rc9 rs9 → T ≤ T9 → T9 ≤ T + k * S → (∀ i, i < T → D9.getD i 0 = D.getD i 0) → V9.length = V1.length → (∀ i, i < t → V9.getD i 0 = V.getD i 0) → V9.getD t 0 = nI (R) → V9.getD (t + 1) 0 = nI (r) → FF M M9 f → (∀ k', k' < k → MC D9 T9 V9 t T k' ((fun k => if k / r < m then qb (k / r * n + g2 (k % r)) else if k / r - m = k % r then (zd : Rat) else 0) k')) → jj G kRO_hermite (d + 12) Q rc9 rs9 289 [some (.ref o), some (.int (nI (b))), some (.int (nI (nu))), some (.int (nI (he))), some (.int (nI (r))), some (.int (nI (e))), some (.int (nI (n))), some (.int (nI (m))), some (.int (nI (pt))), some (.int (nI (dp))), some (.int (nI (T))), some (.int (nI (t))), some (.int (nI (k))), (o13), (o14), (o15)] [] M9 := by
    intro mu
    induction mu with
    | zero =>
      intro k hk  o13 o14 o15 M9 D9 T9 V9 up9 low9 v9 rc9 rs9 hC9 hS9 t9 u9 ho9 hlen9 hV9 hr9 hc9 hF9 hm9 
      have e : R * r = k := by omega
      subst e
      refine jj_iload (pc := 289) kRO_hermite_d289 rfl ?_
      refine jj_aload_n (pc := 291) kRO_hermite_d291 rfl ?_
      refine jj_getf (pc := 292) kRO_hermite_d292 (kfRO_f hG) (hO.ff hF9).1 rfl ?_
      refine jj_iload (pc := 295) kRO_hermite_d295 rfl ?_
      refine jj_callV (pc := 297) (b := f) (As := [.int (nI (t))]) kRO_hermite_d297 (kvRO_RF_cells hG) (kG_cl hG rfl) rfl hC9.1 rfl rfl rfl (Nat.le_of_ble_eq_true rfl) (Nat.le_of_ble_eq_true rfl) (jj_bare0 rfl) ?_
      refine rf_cells (r := R) (c := r) hG hC9 (by omega) (by omega) hr9 hc9 ?_
      show jj G kRO_hermite (d + 12) Q rc9 rs9 300 [some (.ref o), some (.int (nI (b))), some (.int (nI (nu))), some (.int (nI (he))), some (.int (nI (r))), some (.int (nI (e))), some (.int (nI (n))), some (.int (nI (m))), some (.int (nI (pt))), some (.int (nI (dp))), some (.int (nI (T))), some (.int (nI (t))), some (.int (nI (R * r))), (o13), (o14), (o15)] [.int (nI (R * r)), .int (nI (R * r))] M9
      refine jn_icmp_ge (pc := 300) (tgt := 389) kRO_hermite_d300 (by decide) (by omega) (by omega) (fun _ => ?_) (fun c => by exfalso; omega)
      show jj G kRO_hermite (d + 12) Q rc9 rs9 389 [some (.ref o), some (.int (nI (b))), some (.int (nI (nu))), some (.int (nI (he))), some (.int (nI (r))), some (.int (nI (e))), some (.int (nI (n))), some (.int (nI (m))), some (.int (nI (pt))), some (.int (nI (dp))), some (.int (nI (T))), some (.int (nI (t))), some (.int (nI (R * r))), (o13), (o14), (o15)] [] M9
      exact K M9 vv D9 T9 V9 up9 low9 X1 Z1 v9 rc9 rs9 hC9 hS9 (hX1.same hlen9) t9 u9 ho9 hV9 (by omega) hF9 ⟨by rw [hcr]; exact Nat.le_refl _, hr9, hc9, fun k' hk' => hm9 k' (by rw [hcr] at hk'; exact hk')⟩  o13 o14 o15
    | succ mu ih =>
      intro k hk  o13 o14 o15 M9 D9 T9 V9 up9 low9 v9 rc9 rs9 hC9 hS9 t9 u9 ho9 hlen9 hV9 hr9 hc9 hF9 hm9 
      have hk1 : (k + 1) * S ≤ R * r * S := Nat.mul_le_mul_right _ (by omega)
      rw [Nat.succ_mul] at hk1
      have h19 := h1.congr t9 ho9
      refine jj_iload (pc := 289) kRO_hermite_d289 rfl ?_
      refine jj_aload_n (pc := 291) kRO_hermite_d291 rfl ?_
      refine jj_getf (pc := 292) kRO_hermite_d292 (kfRO_f hG) (hO.ff hF9).1 rfl ?_
      refine jj_iload (pc := 295) kRO_hermite_d295 rfl ?_
      refine jj_callV (pc := 297) (b := f) (As := [.int (nI (t))]) kRO_hermite_d297 (kvRO_RF_cells hG) (kG_cl hG rfl) rfl hC9.1 rfl rfl rfl (Nat.le_of_ble_eq_true rfl) (Nat.le_of_ble_eq_true rfl) (jj_bare0 rfl) ?_
      refine rf_cells (r := R) (c := r) hG hC9 (by omega) (by omega) hr9 hc9 ?_
      show jj G kRO_hermite (d + 12) Q rc9 rs9 300 [some (.ref o), some (.int (nI (b))), some (.int (nI (nu))), some (.int (nI (he))), some (.int (nI (r))), some (.int (nI (e))), some (.int (nI (n))), some (.int (nI (m))), some (.int (nI (pt))), some (.int (nI (dp))), some (.int (nI (T))), some (.int (nI (t))), some (.int (nI (k))), (o13), (o14), (o15)] [.int (nI (R * r)), .int (nI (k))] M9
      refine jn_icmp_ge (pc := 300) (tgt := 389) kRO_hermite_d300 (by decide) (by omega) (by omega) (fun c => by exfalso; omega) (fun _ => ?_)
      have hr0 : 0 < r := Nat.pos_of_ne_zero (fun e => by rw [e, Nat.mul_zero] at hk; omega)
      obtain ⟨row, hrow⟩ : ∃ row, k / r = row := ⟨_, rfl⟩
      obtain ⟨kk, hkk⟩ : ∃ kk, k % r = kk := ⟨_, rfl⟩
      have hkl : kk < r := by rw [← hkk]; exact Nat.mod_lt k hr0
      have hrl : row < R := by rw [← hrow]; exact (Nat.div_lt_iff_lt_mul hr0).mpr (by omega)
      obtain ⟨gc1, gc2⟩ := hgc kk hkl
      have hcap9 := hS9.2.1.cap
      have hz90 := hS9.2.2.2.1
      refine jj_iload (pc := 303) kRO_hermite_d303 rfl ?_
      refine jj_iload (pc := 305) kRO_hermite_d305 rfl ?_
      refine jn_idiv (pc := 307) (row) kRO_hermite_d307 (by omega) (by omega) (by omega) hrow ?_
      refine jj_istore (pc := 308) kRO_hermite_d308 (Nat.le_of_ble_eq_true rfl) ?_
      refine jj_iload (pc := 310) kRO_hermite_d310 rfl ?_
      refine jj_iload (pc := 312) kRO_hermite_d312 rfl ?_
      refine jn_irem (pc := 314) (kk) kRO_hermite_d314 (by omega) (by omega) (by omega) hkk ?_
      refine jj_istore (pc := 315) kRO_hermite_d315 (Nat.le_of_ble_eq_true rfl) ?_
      show jj G kRO_hermite (d + 12) Q rc9 rs9 317 [some (.ref o), some (.int (nI (b))), some (.int (nI (nu))), some (.int (nI (he))), some (.int (nI (r))), some (.int (nI (e))), some (.int (nI (n))), some (.int (nI (m))), some (.int (nI (pt))), some (.int (nI (dp))), some (.int (nI (T))), some (.int (nI (t))), some (.int (nI (k))), some (.int (nI (row))), some (.int (nI (kk))), (o15)] [] M9
      refine jj_iload (pc := 317) kRO_hermite_d317 rfl ?_
      refine jj_iload (pc := 319) kRO_hermite_d319 rfl ?_
      refine jn_icmp_ge (pc := 321) (tgt := 352) kRO_hermite_d321 (by decide) (by omega) (by omega) (fun c1 => ?_) (fun c1 => ?_)
      · skip
        obtain ⟨dr, hdr⟩ : ∃ dr, row = dr + m := ⟨row - m, by omega⟩
        refine jj_aload_n (pc := 352) kRO_hermite_d352 rfl ?_
        refine jj_iload (pc := 353) kRO_hermite_d353 rfl ?_
        refine jj_iload (pc := 355) kRO_hermite_d355 rfl ?_
        refine jj_iload (pc := 357) kRO_hermite_d357 rfl ?_
        refine jj_iload (pc := 359) kRO_hermite_d359 rfl ?_
        refine jn_isub (pc := 361) (dr) kRO_hermite_d361 (by omega) ?_
        refine jj_iload (pc := 362) kRO_hermite_d362 rfl ?_
        refine jn_icmp_ne (pc := 364) (tgt := 379) kRO_hermite_d364 (by decide) (by omega) (by omega) (fun c2 => ?_) (fun c2 => ?_)
        · skip
          have hval : (if k / r < m then qb (k / r * n + g2 (k % r)) else if k / r - m = k % r then (zd : Rat) else 0) = 0 := by rw [hrow, hkk, if_neg (by omega), if_neg (by omega)]
          refine jn_iconst (pc := 379) 0 kRO_hermite_d379 (by decide) ?_
          refine jj_callV (pc := 380) (b := o) (As := [.int (nI (t)), .int (nI (k)), .int (nI (0))]) kRO_hermite_d380 (kvRO_RO_whole hG) (kG_cl hG rfl) rfl (hO.ff hF9).1 rfl rfl rfl (Nat.le_of_ble_eq_true rfl) (Nat.le_of_ble_eq_true rfl) (jj_bare0 rfl) ?_
          refine ro_whole (a := t) (i := k) (x := 0) hG (hO.ff hF9) hC9 hS9 (by omega) (by omega) (fun M5 hC5 hS5 hF5 => ?_)
          show jj G kRO_hermite (d + 12) Q rc9 rs9 383 [some (.ref o), some (.int (nI (b))), some (.int (nI (nu))), some (.int (nI (he))), some (.int (nI (r))), some (.int (nI (e))), some (.int (nI (n))), some (.int (nI (m))), some (.int (nI (pt))), some (.int (nI (dp))), some (.int (nI (T))), some (.int (nI (t))), some (.int (nI (k))), some (.int (nI (row))), some (.int (nI (kk))), (o15)] [] M5
          obtain ⟨V5, hV5⟩ : ∃ V5, (V9.set (t + 2 + 2 * k) (nI 0)).set (t + 3 + 2 * k) (nI 1) = V5 := ⟨_, rfl⟩
          rw [hV5] at hC5
          have hl5 : V5.length = V9.length := by rw [← hV5, List.length_set, List.length_set]
          have hv5 : ∀ i, i < t + 2 + 2 * k ∨ t + 4 + 2 * k ≤ i → V5.getD i 0 = V9.getD i 0 := fun i hi => by rw [← hV5, gd_set_ne (by omega), gd_set_ne (by omega)]
          obtain ⟨D5, hD5⟩ : ∃ D5, D9 = D5 := ⟨_, rfl⟩
          obtain ⟨T5, hT5⟩ : ∃ T5, T9 = T5 := ⟨_, rfl⟩
          have t5 : T9 ≤ T5 := by omega
          have ho5 : ∀ i, i < T9 → D5.getD i 0 = D9.getD i 0 := fun i _ => by rw [hD5]
          have hm5 : MC D5 T5 V5 t T9 k (0 : Rat) := ⟨0, 1, by rw [← hV5, gd_set_ne (by omega)]; exact gd_set_eq (by omega), by rw [← hV5]; exact gd_set_eq (by rw [List.length_set]; omega), ⟨by rw [← hD5, ← hT5]; exact RI.zero hz90 (by omega), by rw [← hD5, ← hT5]; exact h19, fun _ => rfl⟩, Or.inl rfl, Or.inl rfl⟩
          rw [← hval] at hm5
          rw [hD5, hT5] at hS5
          obtain ⟨rc5, hrc5⟩ : ∃ rc5, rc9 = rc5 := ⟨_, rfl⟩
          obtain ⟨rs5, hrs5⟩ : ∃ rs5, rs9 = rs5 := ⟨_, rfl⟩
          rw [hrc5, hrs5] at hS5 ⊢
          refine jn_iinc (pc := 383) (k + 1) kRO_hermite_d383 rfl (nI_1 _) ?_
          refine jj_goto (pc := 386) (tgt := 289) kRO_hermite_d386 (by decide) ?_
          show jj G kRO_hermite (d + 12) Q rc5 rs5 289 [some (.ref o), some (.int (nI (b))), some (.int (nI (nu))), some (.int (nI (he))), some (.int (nI (r))), some (.int (nI (e))), some (.int (nI (n))), some (.int (nI (m))), some (.int (nI (pt))), some (.int (nI (dp))), some (.int (nI (T))), some (.int (nI (t))), some (.int (nI (k + 1))), some (.int (nI (row))), some (.int (nI (kk))), (o15)] [] M5
          refine ih (k + 1) (by omega)  _ _ _ M5 D5 T5 V5 _ _ v9 rc5 rs5 hC5 hS5 (by omega) (by rw [Nat.succ_mul]; omega) (fun i hi => by rw [ho5 i (by omega), ho9 i hi]) (by omega) (fun i hi => by rw [hv5 i (by omega), hV9 i hi]) (by rw [hv5 _ (by omega)]; exact hr9) (by rw [hv5 _ (by omega)]; exact hc9) (hF9.trans hF5) (fun k' hk' => ?_) 
          by_cases e : k' = k
          · subst e
            exact hm5.congr (lo' := T) (Nat.le_refl _) (fun _ _ => rfl) (fun _ _ _ => rfl) t9
          · exact (hm9 k' (by omega)).congr t5 ho5 (fun i h6 h7 => hv5 i (by omega)) (Nat.le_refl _)
        · skip
          have hval : (if k / r < m then qb (k / r * n + g2 (k % r)) else if k / r - m = k % r then (zd : Rat) else 0) = (zd : Rat) := by rw [hrow, hkk, if_neg (by omega), if_pos (by omega)]
          have hd9 := hdp.congr t9 ho9
          obtain ⟨hW109, hB109, hTD109, hz109, hp109⟩ := id hS9
          obtain ⟨dd109, hw109, hd109⟩ := id hW109
          have hcap109 := hB109.cap
          refine jj_aload_n (pc := 367) kRO_hermite_d367 rfl ?_
          refine jj_getf (pc := 368) kRO_hermite_d368 (kfRO_w hG) (hO.ff hF9).1 rfl ?_
          refine jj_iload (pc := 371) kRO_hermite_d371 rfl ?_
          refine jj_callV (pc := 373) (b := w) (As := [.int (nI (dp))]) kRO_hermite_d373 (kvRO_RW_copy hG) (kG_cl hG rfl) rfl hw109 rfl rfl rfl (Nat.le_of_ble_eq_true rfl) (Nat.le_of_ble_eq_true rfl) (jj_bare0 rfl) ?_
          refine ri_copy (a := s) hG hS9 hd9 bzd (by omega) (fun M110 D110 T110 p110 rc110 rs110 hS110 t110 u110 ho110 hf110 hI110 => ?_)
          show jj G kRO_hermite (d + 12) Q rc110 rs110 376 [some (.ref o), some (.int (nI (b))), some (.int (nI (nu))), some (.int (nI (he))), some (.int (nI (r))), some (.int (nI (e))), some (.int (nI (n))), some (.int (nI (m))), some (.int (nI (pt))), some (.int (nI (dp))), some (.int (nI (T))), some (.int (nI (t))), some (.int (nI (k))), some (.int (nI (row))), some (.int (nI (kk))), (o15)] [.int (nI (p110)), .int (nI (k)), .int (nI (t)), .ref o] M110
          have hC110 := hC9.rf hf110
          have hF110 := hF9.trans (FF.ofRF hC9 hf110)
          have hd9_110 := hd9.congr t110.1 ho110
          obtain ⟨hW111, hB111, hTD111, hz111, hp111⟩ := id hS110
          obtain ⟨dd111, hw111, hd111⟩ := id hW111
          have hcap111 := hB111.cap
          refine jj_goto (pc := 376) (tgt := 380) kRO_hermite_d376 (by decide) ?_
          refine jj_callV (pc := 380) (b := o) (As := [.int (nI (t)), .int (nI (k)), .int (nI (p110))]) kRO_hermite_d380 (kvRO_RO_whole hG) (kG_cl hG rfl) rfl (hO.ff hF110).1 rfl rfl rfl (Nat.le_of_ble_eq_true rfl) (Nat.le_of_ble_eq_true rfl) (jj_bare0 rfl) ?_
          refine ro_whole (a := t) (i := k) (x := p110) hG (hO.ff hF110) hC110 hS110 (by omega) (by omega) (fun M5 hC5 hS5 hF5' => ?_)
          show jj G kRO_hermite (d + 12) Q rc110 rs110 383 [some (.ref o), some (.int (nI (b))), some (.int (nI (nu))), some (.int (nI (he))), some (.int (nI (r))), some (.int (nI (e))), some (.int (nI (n))), some (.int (nI (m))), some (.int (nI (pt))), some (.int (nI (dp))), some (.int (nI (T))), some (.int (nI (t))), some (.int (nI (k))), some (.int (nI (row))), some (.int (nI (kk))), (o15)] [] M5
          obtain ⟨V5, hV5⟩ : ∃ V5, (V9.set (t + 2 + 2 * k) (nI p110)).set (t + 3 + 2 * k) (nI 1) = V5 := ⟨_, rfl⟩
          rw [hV5] at hC5
          have hl5 : V5.length = V9.length := by rw [← hV5, List.length_set, List.length_set]
          have hv5 : ∀ i, i < t + 2 + 2 * k ∨ t + 4 + 2 * k ≤ i → V5.getD i 0 = V9.getD i 0 := fun i hi => by rw [← hV5, gd_set_ne (by omega), gd_set_ne (by omega)]
          have t5 : T9 ≤ T110 := t110.1
          have hF5 := (FF.ofRF hC9 hf110).trans hF5'
          have hm5 : MC D110 T110 V5 t T9 k (zd : Rat) := ⟨p110, 1, by rw [← hV5, gd_set_ne (by omega)]; exact gd_set_eq (by omega), by rw [← hV5]; exact gd_set_eq (by rw [List.length_set]; omega), ⟨hI110, h19.congr t5 ho110, fun _ => rfl⟩, t110.2, Or.inl rfl⟩
          rw [← hval] at hm5
          obtain ⟨D5, hD5⟩ : ∃ D5, D110 = D5 := ⟨_, rfl⟩
          obtain ⟨T5, hT5⟩ : ∃ T5, T110 = T5 := ⟨_, rfl⟩
          have ho5 := ho110
          obtain ⟨rc5, hrc5⟩ : ∃ rc5, rc110 = rc5 := ⟨_, rfl⟩
          obtain ⟨rs5, hrs5⟩ : ∃ rs5, rs110 = rs5 := ⟨_, rfl⟩
          rw [hD5, hT5, hrc5, hrs5] at hS5
          rw [hD5, hT5] at hm5
          rw [hT5] at t5 u110
          rw [hD5] at ho5
          rw [hrc5, hrs5]
          refine jn_iinc (pc := 383) (k + 1) kRO_hermite_d383 rfl (nI_1 _) ?_
          refine jj_goto (pc := 386) (tgt := 289) kRO_hermite_d386 (by decide) ?_
          show jj G kRO_hermite (d + 12) Q rc5 rs5 289 [some (.ref o), some (.int (nI (b))), some (.int (nI (nu))), some (.int (nI (he))), some (.int (nI (r))), some (.int (nI (e))), some (.int (nI (n))), some (.int (nI (m))), some (.int (nI (pt))), some (.int (nI (dp))), some (.int (nI (T))), some (.int (nI (t))), some (.int (nI (k + 1))), some (.int (nI (row))), some (.int (nI (kk))), (o15)] [] M5
          refine ih (k + 1) (by omega)  _ _ _ M5 D5 T5 V5 _ _ v9 rc5 rs5 hC5 hS5 (by omega) (by rw [Nat.succ_mul]; omega) (fun i hi => by rw [ho5 i (by omega), ho9 i hi]) (by omega) (fun i hi => by rw [hv5 i (by omega), hV9 i hi]) (by rw [hv5 _ (by omega)]; exact hr9) (by rw [hv5 _ (by omega)]; exact hc9) (hF9.trans hF5) (fun k' hk' => ?_) 
          by_cases e : k' = k
          · subst e
            exact hm5.congr (lo' := T) (Nat.le_refl _) (fun _ _ => rfl) (fun _ _ _ => rfl) t9
          · exact (hm9 k' (by omega)).congr t5 ho5 (fun i h6 h7 => hv5 i (by omega)) (Nat.le_refl _)
      · skip
        obtain ⟨rn, hrn⟩ : ∃ rn, row * n = rn := ⟨_, rfl⟩
        obtain ⟨ix, hix⟩ : ∃ ix, rn + g2 kk = ix := ⟨_, rfl⟩
        have hil : ix < m * n := by rw [← hix, ← hrn]; exact cell_lt (by omega) gc2
        obtain ⟨hn1, hn2⟩ := hqb ix hil
        have hmc : MC D9 T9 V9 b lob ix (qb ix) := (hb4 ix hil).congr t9 ho9 (fun i _ h6 => hV9 i (by omega)) (Nat.le_refl _)
        have e9 : (if k / r < m then qb (k / r * n + g2 (k % r)) else if k / r - m = k % r then (zd : Rat) else 0) = qb ix := by rw [hrow, hkk, if_pos (by omega), hrn, hix]
        refine jj_aload_n (pc := 324) kRO_hermite_d324 rfl ?_
        refine jj_getf (pc := 325) kRO_hermite_d325 (kfRO_f hG) (hO.ff hF9).1 rfl ?_
        refine jj_iload (pc := 328) kRO_hermite_d328 rfl ?_
        refine jj_iload (pc := 330) kRO_hermite_d330 rfl ?_
        refine jj_iload_n (pc := 332) kRO_hermite_d332 rfl ?_
        refine jj_iload (pc := 333) kRO_hermite_d333 rfl ?_
        refine jj_iload (pc := 335) kRO_hermite_d335 rfl ?_
        refine jn_imul (pc := 337) (rn) kRO_hermite_d337 hrn ?_
        refine jj_aload_n (pc := 338) kRO_hermite_d338 rfl ?_
        refine jj_getf (pc := 339) kRO_hermite_d339 (kfRO_columnsAt hG) (hO.ff hF9).1 rfl ?_
        refine jj_iload (pc := 342) kRO_hermite_d342 rfl ?_
        refine jn_iald (pc := 344) (v := (nI (g2 kk))) kRO_hermite_d344 (kG_t hG rfl) (hO.ff hF9).2.1 (by omega) (by omega) (gc1) ?_
        refine jn_iadd (pc := 345) (ix) kRO_hermite_d345 hix ?_
        refine jj_callV (pc := 346) (b := f) (As := [.int (nI (t)), .int (nI (k)), .int (nI (b)), .int (nI (ix))]) kRO_hermite_d346 (kvRO_RF_same hG) (kG_cl hG rfl) rfl hC9.1 rfl rfl rfl (Nat.le_of_ble_eq_true rfl) (Nat.le_of_ble_eq_true rfl) (jj_bare0 rfl) ?_
        refine rf_same (a := t) (i := k) (b := b) (j := ix) (c := s) hG hC9 hS9 h19 (by omega) (by omega) hmc (by omega) (by omega) hn1 hn2 (by omega) (fun M5 D5 T5 V5 up5 low5 rc5 rs5 hC5 hS5 t5 u5 ho5 hl5 hv5 hF5 hm5 => ?_)
        show jj G kRO_hermite (d + 12) Q rc5 rs5 349 [some (.ref o), some (.int (nI (b))), some (.int (nI (nu))), some (.int (nI (he))), some (.int (nI (r))), some (.int (nI (e))), some (.int (nI (n))), some (.int (nI (m))), some (.int (nI (pt))), some (.int (nI (dp))), some (.int (nI (T))), some (.int (nI (t))), some (.int (nI (k))), some (.int (nI (row))), some (.int (nI (kk))), (o15)] [] M5
        rw [← e9] at hm5
        refine jj_goto (pc := 349) (tgt := 383) kRO_hermite_d349 (by decide) ?_
        refine jn_iinc (pc := 383) (k + 1) kRO_hermite_d383 rfl (nI_1 _) ?_
        refine jj_goto (pc := 386) (tgt := 289) kRO_hermite_d386 (by decide) ?_
        show jj G kRO_hermite (d + 12) Q rc5 rs5 289 [some (.ref o), some (.int (nI (b))), some (.int (nI (nu))), some (.int (nI (he))), some (.int (nI (r))), some (.int (nI (e))), some (.int (nI (n))), some (.int (nI (m))), some (.int (nI (pt))), some (.int (nI (dp))), some (.int (nI (T))), some (.int (nI (t))), some (.int (nI (k + 1))), some (.int (nI (row))), some (.int (nI (kk))), (o15)] [] M5
        refine ih (k + 1) (by omega)  _ _ _ M5 D5 T5 V5 _ _ v9 rc5 rs5 hC5 hS5 (by omega) (by rw [Nat.succ_mul]; omega) (fun i hi => by rw [ho5 i (by omega), ho9 i hi]) (by omega) (fun i hi => by rw [hv5 i (by omega), hV9 i hi]) (by rw [hv5 _ (by omega)]; exact hr9) (by rw [hv5 _ (by omega)]; exact hc9) (hF9.trans hF5) (fun k' hk' => ?_) 
        by_cases e : k' = k
        · subst e
          exact hm5.congr (lo' := T) (Nat.le_refl _) (fun _ _ => rfl) (fun _ _ _ => rfl) t9
        · exact (hm9 k' (by omega)).congr t5 ho5 (fun i h6 h7 => hv5 i (by omega)) (Nat.le_refl _)
  exact loop (R * r) 0 (by omega) p13 p14 p15 M1 D T V1 up low v2 rc1 rs1 hC1 hS1 (Nat.le_refl _) (by omega) (fun _ _ => rfl) rfl ho1 hr1 hc1 hF1 (fun k' hk' => by omega) 
end RO10
