/-! ===== Fractions.same of a whole cell; Forms.smith: the matrix of a step (printed by wip/gen/ro16.py) ===== -/
/-- the numbers x and y on the diagonal become their greatest common divisor and their least common multiple -/
def sml (x y : Int) : Int := if Int.gcd x y = 0 then 0 else (((x.natAbs : Int) / (Int.gcd x y : Int) * y).natAbs : Int)
def sstep (B : imat) (i j : Nat) : imat := fun a b => if a = i ∧ b = i then (Int.gcd (B i i) (B j j) : Int) else if a = j ∧ b = j then sml (B i i) (B j j) else B a b
section RO16a
variable {G : jg} {d : Nat} {Q : jq} {rc rs : Nat} {M : mheap} {f w vv pv : Nat} {v2 : Value} {D V P : List Int32} {t : Nat} {up low rk : Int32}
theorem rf_samew {a i b j pu T c cm X Z : Nat} {z : Int} (hG : kG G) (hC : FC M f w vv pv V t up low P rk) (hS : RS M w D T v2 cm X Z rc rs) (hV : V.length < 2 ^ 31) (g1 : V.getD (b + 2 + 2 * j) 0 = nI pu) (g2 : V.getD (b + 3 + 2 * j) 0 = nI 1) (hu : RI D T pu z) (hb : b + 3 + 2 * j < V.length) (ha : a + 3 + 2 * i < V.length) (hcn : ZB c z) (hT : T + c + 1 ≤ cm)
    (K : ∀ M' D' T' p rc' rs', FC M' f w vv pv ((V.set (a + 2 + 2 * i) (nI p)).set (a + 3 + 2 * i) (nI 1)) t (nI p) (nI 1) P rk → RS M' w D' T' v2 cm X Z rc' rs' → T ≤ T' ∧ (p = 0 ∨ T ≤ p) → T' ≤ T + c + 1 → (∀ i, i < T → D'.getD i 0 = D.getD i 0) → FF M M' f → RI D' T' p z → Q (.returned none) M' rc' rs') : jj G kRF_same (d + 4) Q rc rs 0 (jj_ent [.ref f, .int (nI a), .int (nI i), .int (nI b), .int (nI j)] 5) [] M := by
  have llu := hu.lt
  obtain ⟨hW101, hB101, hTD101, hz101, hp101⟩ := id hS
  obtain ⟨dd101, hw101, hd101⟩ := id hW101
  have hcap101 := hB101.cap
  show jj G kRF_same (d + 4) Q rc rs 0 [some (.ref f), some (.int (nI (a))), some (.int (nI (i))), some (.int (nI (b))), some (.int (nI (j)))] [] M
  refine jj_aload_n (pc := 0) kRF_same_d0 rfl ?_
  refine jj_aload_n (pc := 1) kRF_same_d1 rfl ?_
  refine jj_getf (pc := 2) kRF_same_d2 (kfRF_w hG) hC.1 rfl ?_
  refine jj_aload_n (pc := 5) kRF_same_d5 rfl ?_
  refine jj_iload_n (pc := 6) kRF_same_d6 rfl ?_
  refine jj_iload (pc := 7) kRF_same_d7 rfl ?_
  refine jj_callV (pc := 9) (b := f) (As := [.int (nI (b)), .int (nI (j))]) kRF_same_d9 (kvRF_RF_upper hG) (kG_cl hG rfl) rfl hC.1 rfl rfl rfl (Nat.le_of_ble_eq_true rfl) (Nat.le_of_ble_eq_true rfl) (jj_bare0 rfl) ?_
  refine rf_upper hG hC hV (by omega) ?_
  show jj G kRF_same (d + 4) Q rc rs 12 [some (.ref f), some (.int (nI (a))), some (.int (nI (i))), some (.int (nI (b))), some (.int (nI (j)))] [.int (V.getD (b + 2 + 2 * j) 0), .ref w, .ref f] M
  refine jn_top (.int (nI (pu))) (by rw [g1]) ?_
  refine jj_callV (pc := 12) (b := w) (As := [.int (nI (pu))]) kRF_same_d12 (kvRF_RW_copy hG) (kG_cl hG rfl) rfl hw101 rfl rfl rfl (Nat.le_of_ble_eq_true rfl) (Nat.le_of_ble_eq_true rfl) (jj_bare0 rfl) ?_
  refine ri_copy (a := c) hG hS hu hcn (by omega) (fun M102 D102 T102 p102 rc102 rs102 hS102 t102 u102 ho102 hf102 hI102 => ?_)
  show jj G kRF_same (d + 4) Q rc102 rs102 15 [some (.ref f), some (.int (nI (a))), some (.int (nI (i))), some (.int (nI (b))), some (.int (nI (j)))] [.int (nI (p102)), .ref f] M102
  have hC102 := hC.rf hf102
  have hF102 := (FF.refl M f).trans (FF.ofRF hC hf102)
  have hu_102 := hu.congr t102.1 ho102
  obtain ⟨hW103, hB103, hTD103, hz103, hp103⟩ := id hS102
  obtain ⟨dd103, hw103, hd103⟩ := id hW103
  have hcap103 := hB103.cap
  refine jj_putf (pc := 15) kRF_same_d15 (kpRF_up hG) hC102.1 (by rfl) rfl ?_
  refine jn_gen (fun M104 hM105 => ?_)
  have hC106 : FC M104 f w vv pv V (t) (nI (p102)) (low) P (rk) := by rw [hM105]; exact hC102.putf
  have hF106 : FF M M104 f := by rw [hM105]; exact hF102.trans (FF.putf hC102)
  have hS106 : RS M104 w D102 (T102) v2 cm X Z rc102 rs102 := by rw [hM105]; exact hS102.other hC102.2.2.2.2.1
  obtain ⟨hW107, hB107, hTD107, hz107, hp107⟩ := id hS106
  obtain ⟨dd107, hw107, hd107⟩ := id hW107
  have hcap107 := hB107.cap
  refine jj_aload_n (pc := 18) kRF_same_d18 rfl ?_
  refine jj_aload_n (pc := 19) kRF_same_d19 rfl ?_
  refine jj_iload_n (pc := 20) kRF_same_d20 rfl ?_
  refine jj_iload (pc := 21) kRF_same_d21 rfl ?_
  refine jj_callV (pc := 23) (b := f) (As := [.int (nI (b)), .int (nI (j))]) kRF_same_d23 (kvRF_RF_lower hG) (kG_cl hG rfl) rfl hC106.1 rfl rfl rfl (Nat.le_of_ble_eq_true rfl) (Nat.le_of_ble_eq_true rfl) (jj_bare0 rfl) ?_
  refine rf_lower hG hC106 hV (by omega) ?_
  show jj G kRF_same (d + 4) Q rc102 rs102 26 [some (.ref f), some (.int (nI (a))), some (.int (nI (i))), some (.int (nI (b))), some (.int (nI (j)))] [.int (V.getD (b + 3 + 2 * j) 0), .ref f] M104
  refine jn_top (.int (nI (1))) (by rw [g2]) ?_
  refine jn_iconst (pc := 26) 1 kRF_same_d26 (by decide) ?_
  refine jn_icmp_ne (pc := 27) (tgt := 34) kRF_same_d27 (by decide) (by omega) (by omega) (fun c => by exfalso; omega) (fun _ => ?_)
  refine jn_iconst (pc := 30) 1 kRF_same_d30 (by decide) ?_
  refine jj_goto (pc := 31) (tgt := 48) kRF_same_d31 (by decide) ?_
  refine jj_putf (pc := 48) kRF_same_d48 (kpRF_low hG) hC106.1 (by rfl) rfl ?_
  refine jn_gen (fun M108 hM109 => ?_)
  have hC110 : FC M108 f w vv pv V (t) (nI (p102)) (nI (1)) P (rk) := by rw [hM109]; exact hC106.putf
  have hF110 : FF M M108 f := by rw [hM109]; exact hF106.trans (FF.putf hC106)
  have hS110 : RS M108 w D102 (T102) v2 cm X Z rc102 rs102 := by rw [hM109]; exact hS106.other hC106.2.2.2.2.1
  obtain ⟨hW111, hB111, hTD111, hz111, hp111⟩ := id hS110
  obtain ⟨dd111, hw111, hd111⟩ := id hW111
  have hcap111 := hB111.cap
  refine jj_aload_n (pc := 51) kRF_same_d51 rfl ?_
  refine jj_iload_n (pc := 52) kRF_same_d52 rfl ?_
  refine jj_iload_n (pc := 53) kRF_same_d53 rfl ?_
  refine jj_callV (pc := 54) (b := f) (As := [.int (nI (a)), .int (nI (i))]) kRF_same_d54 (kvRF_RF_put hG) (kG_cl hG rfl) rfl hC110.1 rfl rfl rfl (Nat.le_of_ble_eq_true rfl) (Nat.le_of_ble_eq_true rfl) (jj_bare0 rfl) ?_
  refine rf_put hG hC110 hS110 hV (by omega) (fun M5 hC5 hS5 hF5 => ?_)
  show jj G kRF_same (d + 4) Q rc102 rs102 57 [some (.ref f), some (.int (nI (a))), some (.int (nI (i))), some (.int (nI (b))), some (.int (nI (j)))] [] M5
  exact jj_vret (pc := 57) kRF_same_d57 rfl (K _ D102 T102 p102 _ _ hC5 hS5 t102 u102 ho102 (hF110.trans hF5) hI102)
end RO16a
section RO16
variable {G : jg} {d : Nat} {Q : jq} {rc rs : Nat} {M : mheap} {o f w vv pv ca ra : Nat} {v2 : Value} {D V P CA RA : List Int32} {t : Nat} {up low rk fi se : Int32}
theorem ro_smith_mat {b nu he n m kk i j px py pg pl tb T s S cm cv X Z X' Z' : Nat} {p14 p15 p16 p17 : Option Value} {B : imat} (hG : kG G) (hO : OC M o f w ca ra CA RA fi se) (hC : FC M f w vv pv V t up low P rk) (hS : RS M w D T v2 cm X Z rc rs) (hX : FXB cv V X Z X' Z') (htV : t ≤ V.length) (h1 : RI D T 1 1) (hT3 : 3 ≤ T) (hz : MZ D T V t he m n B) (hsz : ∀ a b, a < m → b < n → ZB s (B a b)) (hm : m < 32) (hn : n < 32) (him : i < m) (hin : i < n) (hjm : j < m) (hjn : j < n) (hrg : RI D T pg (Int.gcd (B i i) (B j j) : Int)) (hrl : RI D T pl (sml (B i i) (B j j))) (hzg : ZB s (Int.gcd (B i i) (B j j) : Int)) (hzl : ZB s (sml (B i i) (B j j))) (hs : S = 2 * s + 2) (ht : t + 2 + 2 * (m * n) ≤ cv) (hT : T + m * n * S ≤ cm)
    (K : MKP (fun _ M' rc' rs' => ∀ (o17 : Option Value) , jj G kRO_smith (d + 12) Q rc' rs' 417 [some (.ref o), some (.int (nI (b))), some (.int (nI (nu))), some (.int (nI (he))), some (.int (nI (he))), some (.int (nI (tb))), some (.int (nI (n))), some (.int (nI (kk))), some (.int (nI (i))), some (.int (nI (j))), some (.int (nI (px))), some (.int (nI (py))), some (.int (nI (pg))), some (.int (nI (pl))), some (.int (nI (T))), some (.int (nI (t))), some (.int (nI (m * n))), (o17)] [] M') M f w pv D V t P rk T cm cv X' Z' (m) (n) (T + m * n * S) (fun k => ((sstep B i j (k / n) (k % n) : Int) : Rat))) : jj G kRO_smith (d + 12) Q rc rs 240 [some (.ref o), some (.int (nI (b))), some (.int (nI (nu))), some (.int (nI (he))), some (.int (nI (he))), some (.int (nI (tb))), some (.int (nI (n))), some (.int (nI (kk))), some (.int (nI (i))), some (.int (nI (j))), some (.int (nI (px))), some (.int (nI (py))), some (.int (nI (pg))), some (.int (nI (pl))), (p14), (p15), (p16), (p17)] [] M := by
  have hcap := hX.cap
  have hcr : (m) * (n) = m * n := rfl
  unfold MKP at K
  rw [hcr] at K
  have hcapD := hS.2.1.cap
  have hza := hz.1
  have hmn : m * n < 32 * 1024 := Nat.mul_lt_mul_of_lt_of_le hm (by omega) (by decide)
  obtain ⟨hW112, hB112, hTD112, hz112, hp112⟩ := id hS
  obtain ⟨dd112, hw112, hd112⟩ := id hW112
  have hcap112 := hB112.cap
  refine jj_aload_n (pc := 240) kRO_smith_d240 rfl ?_
  refine jj_getf (pc := 241) kRO_smith_d241 (kfRO_w hG) hO.1 rfl ?_
  refine jj_getf (pc := 244) kRO_smith_d244 (kfRO_RW_top hG) hw112 rfl ?_
  refine jj_istore (pc := 247) kRO_smith_d247 (Nat.le_of_ble_eq_true rfl) ?_
  refine jj_aload_n (pc := 249) kRO_smith_d249 rfl ?_
  refine jj_getf (pc := 250) kRO_smith_d250 (kfRO_f hG) hO.1 rfl ?_
  refine jj_aload_n (pc := 253) kRO_smith_d253 rfl ?_
  refine jj_getf (pc := 254) kRO_smith_d254 (kfRO_f hG) hO.1 rfl ?_
  refine jj_iload (pc := 257) kRO_smith_d257 rfl ?_
  refine jj_callV (pc := 259) (b := f) (As := [.int (nI (he))]) kRO_smith_d259 (kvRO_RF_rows hG) (kG_cl hG rfl) rfl hC.1 rfl rfl rfl (Nat.le_of_ble_eq_true rfl) (Nat.le_of_ble_eq_true rfl) (jj_bare0 rfl) ?_
  refine rf_rows hG hC (by omega) (by omega) ?_
  show jj G kRO_smith (d + 12) Q rc rs 262 [some (.ref o), some (.int (nI (b))), some (.int (nI (nu))), some (.int (nI (he))), some (.int (nI (he))), some (.int (nI (tb))), some (.int (nI (n))), some (.int (nI (kk))), some (.int (nI (i))), some (.int (nI (j))), some (.int (nI (px))), some (.int (nI (py))), some (.int (nI (pg))), some (.int (nI (pl))), some (.int (nI (T))), (p15), (p16), (p17)] [.int (V.getD he 0), .ref f] M
  refine jn_top (.int (nI (m))) (by rw [hz.2.1]) ?_
  refine jj_iload (pc := 262) kRO_smith_d262 rfl ?_
  refine jj_callV (pc := 264) (b := f) (As := [.int (nI (m)), .int (nI (n))]) kRO_smith_d264 (kvRO_RF_make hG) (kG_cl hG rfl) rfl hC.1 rfl rfl rfl (Nat.le_of_ble_eq_true rfl) (Nat.le_of_ble_eq_true rfl) (jj_bare0 rfl) ?_
  refine rf_make hG hC hS hX htV (by omega) (by omega) (by rw [hcr]; exact ht) (fun M1 vv V1 X1 Z1 rc1 rs1 hC1 hS1 hX1 hl1 hr1 hc1 ho1 hF1 => ?_)
  show jj G kRO_smith (d + 12) Q rc1 rs1 267 [some (.ref o), some (.int (nI (b))), some (.int (nI (nu))), some (.int (nI (he))), some (.int (nI (he))), some (.int (nI (tb))), some (.int (nI (n))), some (.int (nI (kk))), some (.int (nI (i))), some (.int (nI (j))), some (.int (nI (px))), some (.int (nI (py))), some (.int (nI (pg))), some (.int (nI (pl))), some (.int (nI (T))), (p15), (p16), (p17)] [.int (nI (t))] M1
  rw [hcr] at hC1 hl1
  have hcap1 := hX1.cap
  refine jj_istore (pc := 267) kRO_smith_d267 (Nat.le_of_ble_eq_true rfl) ?_
  refine jn_iconst (pc := 269) 0 kRO_smith_d269 (by decide) ?_
  refine jj_istore (pc := 270) kRO_smith_d270 (Nat.le_of_ble_eq_true rfl) ?_
  show jj G kRO_smith (d + 12) Q rc1 rs1 272 [some (.ref o), some (.int (nI (b))), some (.int (nI (nu))), some (.int (nI (he))), some (.int (nI (he))), some (.int (nI (tb))), some (.int (nI (n))), some (.int (nI (kk))), some (.int (nI (i))), some (.int (nI (j))), some (.int (nI (px))), some (.int (nI (py))), some (.int (nI (pg))), some (.int (nI (pl))), some (.int (nI (T))), some (.int (nI (t))), some (.int (nI (0))), (p17)] [] M1
  show jj G kRO_smith (d + 12) Q rc1 rs1 272 [some (.ref o), some (.int (nI (b))), some (.int (nI (nu))), some (.int (nI (he))), some (.int (nI (he))), some (.int (nI (tb))), some (.int (nI (n))), some (.int (nI (kk))), some (.int (nI (i))), some (.int (nI (j))), some (.int (nI (px))), some (.int (nI (py))), some (.int (nI (pg))), some (.int (nI (pl))), some (.int (nI (T))), some (.int (nI (t))), some (.int (nI (0))), (p17)] [] M1
  have loop : ∀ mu k, m * n = k + mu → ∀ (o17 : Option Value) (M9 : mheap) (D9 : List Int32) (T9 : Nat) (V9 : List Int32) (up9 low9 : Int32) (v9 : Value) (rc9 rs9 : Nat), FC M9 f w vv pv V9 (t + 2 + 2 * (m * n)) up9 low9 P rk → RS M9 w D9 T9 v9 cm X1 Z1 rc9 rs9 → T ≤ T9 → T9 ≤ T + k * S → (∀ i, i < T → D9.getD i 0 = D.getD i 0) → V9.length = V1.length → (∀ i, i < t → V9.getD i 0 = V.getD i 0) → V9.getD t 0 = nI (m) → V9.getD (t + 1) 0 = nI (n) → FF M M9 f → (∀ k', k' < k → MC D9 T9 V9 t T k' ((fun k => ((sstep B i j (k / n) (k % n) : Int) : Rat)) k')) → jj G kRO_smith (d + 12) Q rc9 rs9 272 [some (.ref o), some (.int (nI (b))), some (.int (nI (nu))), some (.int (nI (he))), some (.int (nI (he))), some (.int (nI (tb))), some (.int (nI (n))), some (.int (nI (kk))), some (.int (nI (i))), some (.int (nI (j))), some (.int (nI (px))), some (.int (nI (py))), some (.int (nI (pg))), some (.int (nI (pl))), some (.int (nI (T))), some (.int (nI (t))), some (.int (nI (k))), (o17)] [] M9 := by
    intro mu
    induction mu with
    | zero =>
      intro k hk  o17 M9 D9 T9 V9 up9 low9 v9 rc9 rs9 hC9 hS9 t9 u9 ho9 hlen9 hV9 hr9 hc9 hF9 hm9 
      have e : m * n = k := by omega
      subst e
      refine jj_iload (pc := 272) kRO_smith_d272 rfl ?_
      refine jj_aload_n (pc := 274) kRO_smith_d274 rfl ?_
      refine jj_getf (pc := 275) kRO_smith_d275 (kfRO_f hG) (hO.ff hF9).1 rfl ?_
      refine jj_iload (pc := 278) kRO_smith_d278 rfl ?_
      refine jj_callV (pc := 280) (b := f) (As := [.int (nI (he))]) kRO_smith_d280 (kvRO_RF_cells hG) (kG_cl hG rfl) rfl hC9.1 rfl rfl rfl (Nat.le_of_ble_eq_true rfl) (Nat.le_of_ble_eq_true rfl) (jj_bare0 rfl) ?_
      refine rf_cells (r := m) (c := n) hG hC9 (by omega) (by omega) (by rw [hV9 he (by omega)]; exact hz.2.1) (by rw [hV9 (he + 1) (by omega)]; exact hz.2.2.1) ?_
      show jj G kRO_smith (d + 12) Q rc9 rs9 283 [some (.ref o), some (.int (nI (b))), some (.int (nI (nu))), some (.int (nI (he))), some (.int (nI (he))), some (.int (nI (tb))), some (.int (nI (n))), some (.int (nI (kk))), some (.int (nI (i))), some (.int (nI (j))), some (.int (nI (px))), some (.int (nI (py))), some (.int (nI (pg))), some (.int (nI (pl))), some (.int (nI (T))), some (.int (nI (t))), some (.int (nI (m * n))), (o17)] [.int (nI (m * n)), .int (nI (m * n))] M9
      refine jn_icmp_ge (pc := 283) (tgt := 417) kRO_smith_d283 (by decide) (by omega) (by omega) (fun _ => ?_) (fun c => by exfalso; omega)
      show jj G kRO_smith (d + 12) Q rc9 rs9 417 [some (.ref o), some (.int (nI (b))), some (.int (nI (nu))), some (.int (nI (he))), some (.int (nI (he))), some (.int (nI (tb))), some (.int (nI (n))), some (.int (nI (kk))), some (.int (nI (i))), some (.int (nI (j))), some (.int (nI (px))), some (.int (nI (py))), some (.int (nI (pg))), some (.int (nI (pl))), some (.int (nI (T))), some (.int (nI (t))), some (.int (nI (m * n))), (o17)] [] M9
      exact K M9 vv D9 T9 V9 up9 low9 X1 Z1 v9 rc9 rs9 hC9 hS9 (hX1.same hlen9) t9 u9 ho9 hV9 (by omega) hF9 ⟨by rw [hcr]; exact Nat.le_refl _, hr9, hc9, fun k' hk' => hm9 k' (by rw [hcr] at hk'; exact hk')⟩  o17
    | succ mu ih =>
      intro k hk  o17 M9 D9 T9 V9 up9 low9 v9 rc9 rs9 hC9 hS9 t9 u9 ho9 hlen9 hV9 hr9 hc9 hF9 hm9 
      have hk1 : (k + 1) * S ≤ m * n * S := Nat.mul_le_mul_right _ (by omega)
      rw [Nat.succ_mul] at hk1
      have h19 := h1.congr t9 ho9
      refine jj_iload (pc := 272) kRO_smith_d272 rfl ?_
      refine jj_aload_n (pc := 274) kRO_smith_d274 rfl ?_
      refine jj_getf (pc := 275) kRO_smith_d275 (kfRO_f hG) (hO.ff hF9).1 rfl ?_
      refine jj_iload (pc := 278) kRO_smith_d278 rfl ?_
      refine jj_callV (pc := 280) (b := f) (As := [.int (nI (he))]) kRO_smith_d280 (kvRO_RF_cells hG) (kG_cl hG rfl) rfl hC9.1 rfl rfl rfl (Nat.le_of_ble_eq_true rfl) (Nat.le_of_ble_eq_true rfl) (jj_bare0 rfl) ?_
      refine rf_cells (r := m) (c := n) hG hC9 (by omega) (by omega) (by rw [hV9 he (by omega)]; exact hz.2.1) (by rw [hV9 (he + 1) (by omega)]; exact hz.2.2.1) ?_
      show jj G kRO_smith (d + 12) Q rc9 rs9 283 [some (.ref o), some (.int (nI (b))), some (.int (nI (nu))), some (.int (nI (he))), some (.int (nI (he))), some (.int (nI (tb))), some (.int (nI (n))), some (.int (nI (kk))), some (.int (nI (i))), some (.int (nI (j))), some (.int (nI (px))), some (.int (nI (py))), some (.int (nI (pg))), some (.int (nI (pl))), some (.int (nI (T))), some (.int (nI (t))), some (.int (nI (k))), (o17)] [.int (nI (m * n)), .int (nI (k))] M9
      refine jn_icmp_ge (pc := 283) (tgt := 417) kRO_smith_d283 (by decide) (by omega) (by omega) (fun c => by exfalso; omega) (fun _ => ?_)
      have hn0 : 0 < n := Nat.pos_of_ne_zero (fun e => by rw [e, Nat.mul_zero] at hk; omega)
      obtain ⟨k1, k2, k3⟩ := at_back (show k < m * n by omega)
      obtain ⟨pp, a1, a2, a3⟩ := hz.2.2.2 _ _ k1 k2
      rw [k3] at a1 a2
      have hcap9 := hS9.2.1.cap
      obtain ⟨iN, hiN⟩ : ∃ iN, i * n = iN := ⟨_, rfl⟩
      obtain ⟨jN, hjN⟩ : ∃ jN, j * n = jN := ⟨_, rfl⟩
      obtain ⟨ii, hii⟩ : ∃ ii, iN + i = ii := ⟨_, rfl⟩
      obtain ⟨jj_, hjj⟩ : ∃ jj_, jN + j = jj_ := ⟨_, rfl⟩
      have hki : k = ii ↔ (k / n = i ∧ k % n = i) := by
        constructor
        · intro e; rw [e, ← hii, ← hiN]; exact at_div hin
        · intro e; rw [← k3, e.1, e.2, hiN, hii]
      have hkj : k = jj_ ↔ (k / n = j ∧ k % n = j) := by
        constructor
        · intro e; rw [e, ← hjj, ← hjN]; exact at_div hjn
        · intro e; rw [← k3, e.1, e.2, hjN, hjj]
      have sz := hsz _ _ k1 k2
      have hil : ii < m * n := by rw [← hii, ← hiN]; exact cell_lt him hin
      have hjl : jj_ < m * n := by rw [← hjj, ← hjN]; exact cell_lt hjm hjn
      refine jj_aload_n (pc := 286) kRO_smith_d286 rfl ?_
      refine jj_getf (pc := 287) kRO_smith_d287 (kfRO_f hG) (hO.ff hF9).1 rfl ?_
      refine jj_iload (pc := 290) kRO_smith_d290 rfl ?_
      refine jj_iload (pc := 292) kRO_smith_d292 rfl ?_
      refine jj_iload (pc := 294) kRO_smith_d294 rfl ?_
      refine jj_iload (pc := 296) kRO_smith_d296 rfl ?_
      refine jj_callV (pc := 298) (b := f) (As := [.int (nI (t)), .int (nI (k)), .int (nI (he)), .int (nI (k))]) kRO_smith_d298 (kvRO_RF_same hG) (kG_cl hG rfl) rfl hC9.1 rfl rfl rfl (Nat.le_of_ble_eq_true rfl) (Nat.le_of_ble_eq_true rfl) (jj_bare0 rfl) ?_
      refine rf_samew (a := t) (i := k) (b := he) (j := k) (pu := pp) (c := s) hG hC9 hS9 (by omega) (by rw [hV9 _ (by omega)]; exact a1) (by rw [hV9 _ (by omega)]; exact a2) (a3.congr t9 ho9) (by omega) (by omega) sz (by omega) (fun M6 D6 T6 p6 rc6 rs6 hC6 hS6 t6 u6 ho6 hF6 hI6 => ?_)
      show jj G kRO_smith (d + 12) Q rc6 rs6 301 [some (.ref o), some (.int (nI (b))), some (.int (nI (nu))), some (.int (nI (he))), some (.int (nI (he))), some (.int (nI (tb))), some (.int (nI (n))), some (.int (nI (kk))), some (.int (nI (i))), some (.int (nI (j))), some (.int (nI (px))), some (.int (nI (py))), some (.int (nI (pg))), some (.int (nI (pl))), some (.int (nI (T))), some (.int (nI (t))), some (.int (nI (k))), (o17)] [] M6
      have hF96 := hF9.trans hF6
      obtain ⟨V6, hV6⟩ : ∃ V6, (V9.set (t + 2 + 2 * k) (nI p6)).set (t + 3 + 2 * k) (nI 1) = V6 := ⟨_, rfl⟩
      rw [hV6] at hC6
      obtain ⟨tz, htz⟩ : ∃ tz, t + 2 + 2 * (m * n) = tz := ⟨_, rfl⟩
      rw [htz] at hC6
      have hl6 : V6.length = V9.length := by rw [← hV6, List.length_set, List.length_set]
      have hv6 : ∀ i, i < t + 2 + 2 * k ∨ t + 4 + 2 * k ≤ i → V6.getD i 0 = V9.getD i 0 := fun i hi => by rw [← hV6, gd_set_ne (by omega), gd_set_ne (by omega)]
      have lp6 := hI6.lt
      have hcap6 := hS6.2.1.cap
      obtain ⟨hW113, hB113, hTD113, hz113, hp113⟩ := id hS6
      obtain ⟨dd113, hw113, hd113⟩ := id hW113
      have hcap113 := hB113.cap
      have k342 : ∀ (b1 pw : Nat) (zw : Int), b1 ≤ 1 → pw = (if b1 = 1 then pg else pl) → RI D T pw zw → ZB s zw → (sstep B i j (k / n) (k % n)) = zw → jj G kRO_smith (d + 12) Q rc6 rs6 342 [some (.ref o), some (.int (nI (b))), some (.int (nI (nu))), some (.int (nI (he))), some (.int (nI (he))), some (.int (nI (tb))), some (.int (nI (n))), some (.int (nI (kk))), some (.int (nI (i))), some (.int (nI (j))), some (.int (nI (px))), some (.int (nI (py))), some (.int (nI (pg))), some (.int (nI (pl))), some (.int (nI (T))), some (.int (nI (t))), some (.int (nI (k))), some (.int (nI (b1)))] [] M6 := by
        intro b1 pw zw hb1 hpw hrw hzw hval
        refine jj_aload_n (pc := 342) kRO_smith_d342 rfl ?_
        refine jj_getf (pc := 343) kRO_smith_d343 (kfRO_f hG) (hO.ff hF96).1 rfl ?_
        refine jj_getf (pc := 346) kRO_smith_d346 (kfRO_RF_up hG) hC6.1 rfl ?_
        refine jn_if_le (pc := 349) (tgt := 366) kRO_smith_d349 (by decide) (by omega) (fun c3 => ?_) (fun c3 => ?_)
        · skip
          have hp60 : p6 = 0 := by omega
          refine jj_aload_n (pc := 366) kRO_smith_d366 rfl ?_
          refine jj_getf (pc := 367) kRO_smith_d367 (kfRO_f hG) (hO.ff hF96).1 rfl ?_
          refine jj_aload_n (pc := 370) kRO_smith_d370 rfl ?_
          refine jj_getf (pc := 371) kRO_smith_d371 (kfRO_w hG) (hO.ff hF96).1 rfl ?_
          refine jj_iload (pc := 374) kRO_smith_d374 rfl ?_
          refine jn_if_eq (pc := 376) (tgt := 384) kRO_smith_d376 (by decide) (by omega) (fun c4 => ?_) (fun c4 => ?_)
          · skip
            have hpe : pw = pl := by rw [hpw]; exact if_neg (by omega)
            rw [hpe] at hrw
            refine jj_iload (pc := 384) kRO_smith_d384 rfl ?_
            have hrw9 : RI D6 (T6) pl zw := hrw.congr (by omega) (fun i hi => by rw [ho6 i (by omega), ho9 i hi])
            refine jj_callV (pc := 386) (b := w) (As := [.int (nI (pl))]) kRO_smith_d386 (kvRO_RW_copy hG) (kG_cl hG rfl) rfl hw113 rfl rfl rfl (Nat.le_of_ble_eq_true rfl) (Nat.le_of_ble_eq_true rfl) (jj_bare0 rfl) ?_
            refine ri_copy (a := s) hG hS6 hrw9 hzw (by omega) (fun M114 D114 T114 p114 rc114 rs114 hS114 t114 u114 ho114 hf114 hI114 => ?_)
            show jj G kRO_smith (d + 12) Q rc114 rs114 389 [some (.ref o), some (.int (nI (b))), some (.int (nI (nu))), some (.int (nI (he))), some (.int (nI (he))), some (.int (nI (tb))), some (.int (nI (n))), some (.int (nI (kk))), some (.int (nI (i))), some (.int (nI (j))), some (.int (nI (px))), some (.int (nI (py))), some (.int (nI (pg))), some (.int (nI (pl))), some (.int (nI (T))), some (.int (nI (t))), some (.int (nI (k))), some (.int (nI (b1)))] [.int (nI (p114)), .ref f] M114
            have hC114 := hC6.rf hf114
            have hF114 := hF96.trans (FF.ofRF hC6 hf114)
            have hrw9_114 := hrw9.congr t114.1 ho114
            obtain ⟨hW115, hB115, hTD115, hz115, hp115⟩ := id hS114
            obtain ⟨dd115, hw115, hd115⟩ := id hW115
            have hcap115 := hB115.cap
            refine jj_putf (pc := 389) kRO_smith_d389 (kpRO_RF_up hG) hC114.1 (by rfl) rfl ?_
            refine jn_gen (fun M116 hM117 => ?_)
            have hC118 : FC M116 f w vv pv V6 (tz) (nI (p114)) (nI (1)) P (rk) := by rw [hM117]; exact hC114.putf
            have hF118 : FF M M116 f := by rw [hM117]; exact hF114.trans (FF.putf hC114)
            have hS118 : RS M116 w D114 (T114) v9 cm X1 Z1 rc114 rs114 := by rw [hM117]; exact hS114.other hC114.2.2.2.2.1
            obtain ⟨hW119, hB119, hTD119, hz119, hp119⟩ := id hS118
            obtain ⟨dd119, hw119, hd119⟩ := id hW119
            have hcap119 := hB119.cap
            refine jj_aload_n (pc := 392) kRO_smith_d392 rfl ?_
            refine jj_getf (pc := 393) kRO_smith_d393 (kfRO_f hG) (hO.ff hF118).1 rfl ?_
            refine jn_iconst (pc := 396) 1 kRO_smith_d396 (by decide) ?_
            refine jj_putf (pc := 397) kRO_smith_d397 (kpRO_RF_low hG) hC118.1 (by rfl) rfl ?_
            refine jn_gen (fun M120 hM121 => ?_)
            have hC122 : FC M120 f w vv pv V6 (tz) (nI (p114)) (nI (1)) P (rk) := by rw [hM121]; exact hC118.putf
            have hF122 : FF M M120 f := by rw [hM121]; exact hF118.trans (FF.putf hC118)
            have hS122 : RS M120 w D114 (T114) v9 cm X1 Z1 rc114 rs114 := by rw [hM121]; exact hS118.other hC118.2.2.2.2.1
            obtain ⟨hW123, hB123, hTD123, hz123, hp123⟩ := id hS122
            obtain ⟨dd123, hw123, hd123⟩ := id hW123
            have hcap123 := hB123.cap
            refine jj_aload_n (pc := 400) kRO_smith_d400 rfl ?_
            refine jj_getf (pc := 401) kRO_smith_d401 (kfRO_f hG) (hO.ff hF122).1 rfl ?_
            refine jj_iload (pc := 404) kRO_smith_d404 rfl ?_
            refine jj_iload (pc := 406) kRO_smith_d406 rfl ?_
            refine jj_callV (pc := 408) (b := f) (As := [.int (nI (t)), .int (nI (k))]) kRO_smith_d408 (kvRO_RF_put hG) (kG_cl hG rfl) rfl hC122.1 rfl rfl rfl (Nat.le_of_ble_eq_true rfl) (Nat.le_of_ble_eq_true rfl) (jj_bare0 rfl) ?_
            refine rf_put (a := t) (i := k) hG hC122 hS122 (by omega) (by omega) (fun M5 hC5 hS5 hF7 => ?_)
            show jj G kRO_smith (d + 12) Q rc114 rs114 411 [some (.ref o), some (.int (nI (b))), some (.int (nI (nu))), some (.int (nI (he))), some (.int (nI (he))), some (.int (nI (tb))), some (.int (nI (n))), some (.int (nI (kk))), some (.int (nI (i))), some (.int (nI (j))), some (.int (nI (px))), some (.int (nI (py))), some (.int (nI (pg))), some (.int (nI (pl))), some (.int (nI (T))), some (.int (nI (t))), some (.int (nI (k))), some (.int (nI (b1)))] [] M5
            obtain ⟨V5, hV5⟩ : ∃ V5, (V6.set (t + 2 + 2 * k) (nI p114)).set (t + 3 + 2 * k) (nI 1) = V5 := ⟨_, rfl⟩
            rw [hV5] at hC5
            have hl5 : V5.length = V9.length := by rw [← hV5, List.length_set, List.length_set, hl6]
            have hv5 : ∀ i, i < t + 2 + 2 * k ∨ t + 4 + 2 * k ≤ i → V5.getD i 0 = V9.getD i 0 := fun i hi => by rw [← hV5, gd_set_ne (by omega), gd_set_ne (by omega), hv6 i hi]
            have t5' : T9 ≤ T114 := by have := t114.1; omega
            have ho5 : ∀ i, i < T9 → D114.getD i 0 = D9.getD i 0 := fun i hi => by rw [ho114 i (by omega), ho6 i hi]
            have hF5x := hF122.trans hF7
            have hm5 : MC D114 T114 V5 t T9 k (zw : Rat) := ⟨p114, 1, by rw [← hV5, gd_set_ne (by omega)]; exact gd_set_eq (by omega), by rw [← hV5]; exact gd_set_eq (by rw [List.length_set]; omega), ⟨hI114, h19.congr t5' ho5, fun _ => rfl⟩, by omega, Or.inl rfl⟩
            rw [← hval] at hm5
            rw [← htz] at hC5
            have t5 := t5'
            refine jn_iinc (pc := 411) (k + 1) kRO_smith_d411 rfl (nI_1 _) ?_
            refine jj_goto (pc := 414) (tgt := 272) kRO_smith_d414 (by decide) ?_
            show jj G kRO_smith (d + 12) Q rc114 rs114 272 [some (.ref o), some (.int (nI (b))), some (.int (nI (nu))), some (.int (nI (he))), some (.int (nI (he))), some (.int (nI (tb))), some (.int (nI (n))), some (.int (nI (kk))), some (.int (nI (i))), some (.int (nI (j))), some (.int (nI (px))), some (.int (nI (py))), some (.int (nI (pg))), some (.int (nI (pl))), some (.int (nI (T))), some (.int (nI (t))), some (.int (nI (k + 1))), some (.int (nI (b1)))] [] M5
            refine ih (k + 1) (by omega) _ M5 D114 T114 V5 _ _ _ rc114 rs114 hC5 hS5 (by omega) (by rw [Nat.succ_mul]; omega) (fun i hi => by rw [ho5 i (by omega), ho9 i hi]) (by omega) (fun i hi => by rw [hv5 i (by omega), hV9 i hi]) (by rw [hv5 _ (by omega)]; exact hr9) (by rw [hv5 _ (by omega)]; exact hc9) hF5x (fun k' hk' => ?_)
            by_cases e : k' = k
            · subst e
              exact hm5.congr (lo' := T) (Nat.le_refl _) (fun _ _ => rfl) (fun _ _ _ => rfl) t9
            · exact (hm9 k' (by omega)).congr t5 ho5 (fun i h6 h7 => hv5 i (by omega)) (Nat.le_refl _)
          · skip
            have hpe : pw = pg := by rw [hpw]; exact if_pos (by omega)
            rw [hpe] at hrw
            refine jj_iload (pc := 379) kRO_smith_d379 rfl ?_
            refine jj_goto (pc := 381) (tgt := 386) kRO_smith_d381 (by decide) ?_
            have hrw9 : RI D6 (T6) pg zw := hrw.congr (by omega) (fun i hi => by rw [ho6 i (by omega), ho9 i hi])
            refine jj_callV (pc := 386) (b := w) (As := [.int (nI (pg))]) kRO_smith_d386 (kvRO_RW_copy hG) (kG_cl hG rfl) rfl hw113 rfl rfl rfl (Nat.le_of_ble_eq_true rfl) (Nat.le_of_ble_eq_true rfl) (jj_bare0 rfl) ?_
            refine ri_copy (a := s) hG hS6 hrw9 hzw (by omega) (fun M124 D124 T124 p124 rc124 rs124 hS124 t124 u124 ho124 hf124 hI124 => ?_)
            show jj G kRO_smith (d + 12) Q rc124 rs124 389 [some (.ref o), some (.int (nI (b))), some (.int (nI (nu))), some (.int (nI (he))), some (.int (nI (he))), some (.int (nI (tb))), some (.int (nI (n))), some (.int (nI (kk))), some (.int (nI (i))), some (.int (nI (j))), some (.int (nI (px))), some (.int (nI (py))), some (.int (nI (pg))), some (.int (nI (pl))), some (.int (nI (T))), some (.int (nI (t))), some (.int (nI (k))), some (.int (nI (b1)))] [.int (nI (p124)), .ref f] M124
            have hC124 := hC6.rf hf124
            have hF124 := hF96.trans (FF.ofRF hC6 hf124)
            have hrw9_124 := hrw9.congr t124.1 ho124
            obtain ⟨hW125, hB125, hTD125, hz125, hp125⟩ := id hS124
            obtain ⟨dd125, hw125, hd125⟩ := id hW125
            have hcap125 := hB125.cap
            refine jj_putf (pc := 389) kRO_smith_d389 (kpRO_RF_up hG) hC124.1 (by rfl) rfl ?_
            refine jn_gen (fun M126 hM127 => ?_)
            have hC128 : FC M126 f w vv pv V6 (tz) (nI (p124)) (nI (1)) P (rk) := by rw [hM127]; exact hC124.putf
            have hF128 : FF M M126 f := by rw [hM127]; exact hF124.trans (FF.putf hC124)
            have hS128 : RS M126 w D124 (T124) v9 cm X1 Z1 rc124 rs124 := by rw [hM127]; exact hS124.other hC124.2.2.2.2.1
            obtain ⟨hW129, hB129, hTD129, hz129, hp129⟩ := id hS128
            obtain ⟨dd129, hw129, hd129⟩ := id hW129
            have hcap129 := hB129.cap
            refine jj_aload_n (pc := 392) kRO_smith_d392 rfl ?_
            refine jj_getf (pc := 393) kRO_smith_d393 (kfRO_f hG) (hO.ff hF128).1 rfl ?_
            refine jn_iconst (pc := 396) 1 kRO_smith_d396 (by decide) ?_
            refine jj_putf (pc := 397) kRO_smith_d397 (kpRO_RF_low hG) hC128.1 (by rfl) rfl ?_
            refine jn_gen (fun M130 hM131 => ?_)
            have hC132 : FC M130 f w vv pv V6 (tz) (nI (p124)) (nI (1)) P (rk) := by rw [hM131]; exact hC128.putf
            have hF132 : FF M M130 f := by rw [hM131]; exact hF128.trans (FF.putf hC128)
            have hS132 : RS M130 w D124 (T124) v9 cm X1 Z1 rc124 rs124 := by rw [hM131]; exact hS128.other hC128.2.2.2.2.1
            obtain ⟨hW133, hB133, hTD133, hz133, hp133⟩ := id hS132
            obtain ⟨dd133, hw133, hd133⟩ := id hW133
            have hcap133 := hB133.cap
            refine jj_aload_n (pc := 400) kRO_smith_d400 rfl ?_
            refine jj_getf (pc := 401) kRO_smith_d401 (kfRO_f hG) (hO.ff hF132).1 rfl ?_
            refine jj_iload (pc := 404) kRO_smith_d404 rfl ?_
            refine jj_iload (pc := 406) kRO_smith_d406 rfl ?_
            refine jj_callV (pc := 408) (b := f) (As := [.int (nI (t)), .int (nI (k))]) kRO_smith_d408 (kvRO_RF_put hG) (kG_cl hG rfl) rfl hC132.1 rfl rfl rfl (Nat.le_of_ble_eq_true rfl) (Nat.le_of_ble_eq_true rfl) (jj_bare0 rfl) ?_
            refine rf_put (a := t) (i := k) hG hC132 hS132 (by omega) (by omega) (fun M5 hC5 hS5 hF7 => ?_)
            show jj G kRO_smith (d + 12) Q rc124 rs124 411 [some (.ref o), some (.int (nI (b))), some (.int (nI (nu))), some (.int (nI (he))), some (.int (nI (he))), some (.int (nI (tb))), some (.int (nI (n))), some (.int (nI (kk))), some (.int (nI (i))), some (.int (nI (j))), some (.int (nI (px))), some (.int (nI (py))), some (.int (nI (pg))), some (.int (nI (pl))), some (.int (nI (T))), some (.int (nI (t))), some (.int (nI (k))), some (.int (nI (b1)))] [] M5
            obtain ⟨V5, hV5⟩ : ∃ V5, (V6.set (t + 2 + 2 * k) (nI p124)).set (t + 3 + 2 * k) (nI 1) = V5 := ⟨_, rfl⟩
            rw [hV5] at hC5
            have hl5 : V5.length = V9.length := by rw [← hV5, List.length_set, List.length_set, hl6]
            have hv5 : ∀ i, i < t + 2 + 2 * k ∨ t + 4 + 2 * k ≤ i → V5.getD i 0 = V9.getD i 0 := fun i hi => by rw [← hV5, gd_set_ne (by omega), gd_set_ne (by omega), hv6 i hi]
            have t5' : T9 ≤ T124 := by have := t124.1; omega
            have ho5 : ∀ i, i < T9 → D124.getD i 0 = D9.getD i 0 := fun i hi => by rw [ho124 i (by omega), ho6 i hi]
            have hF5x := hF132.trans hF7
            have hm5 : MC D124 T124 V5 t T9 k (zw : Rat) := ⟨p124, 1, by rw [← hV5, gd_set_ne (by omega)]; exact gd_set_eq (by omega), by rw [← hV5]; exact gd_set_eq (by rw [List.length_set]; omega), ⟨hI124, h19.congr t5' ho5, fun _ => rfl⟩, by omega, Or.inl rfl⟩
            rw [← hval] at hm5
            rw [← htz] at hC5
            have t5 := t5'
            refine jn_iinc (pc := 411) (k + 1) kRO_smith_d411 rfl (nI_1 _) ?_
            refine jj_goto (pc := 414) (tgt := 272) kRO_smith_d414 (by decide) ?_
            show jj G kRO_smith (d + 12) Q rc124 rs124 272 [some (.ref o), some (.int (nI (b))), some (.int (nI (nu))), some (.int (nI (he))), some (.int (nI (he))), some (.int (nI (tb))), some (.int (nI (n))), some (.int (nI (kk))), some (.int (nI (i))), some (.int (nI (j))), some (.int (nI (px))), some (.int (nI (py))), some (.int (nI (pg))), some (.int (nI (pl))), some (.int (nI (T))), some (.int (nI (t))), some (.int (nI (k + 1))), some (.int (nI (b1)))] [] M5
            refine ih (k + 1) (by omega) _ M5 D124 T124 V5 _ _ _ rc124 rs124 hC5 hS5 (by omega) (by rw [Nat.succ_mul]; omega) (fun i hi => by rw [ho5 i (by omega), ho9 i hi]) (by omega) (fun i hi => by rw [hv5 i (by omega), hV9 i hi]) (by rw [hv5 _ (by omega)]; exact hr9) (by rw [hv5 _ (by omega)]; exact hc9) hF5x (fun k' hk' => ?_)
            by_cases e : k' = k
            · subst e
              exact hm5.congr (lo' := T) (Nat.le_refl _) (fun _ _ => rfl) (fun _ _ _ => rfl) t9
            · exact (hm9 k' (by omega)).congr t5 ho5 (fun i h6 h7 => hv5 i (by omega)) (Nat.le_refl _)
        · skip
          have hp6T : T9 ≤ p6 := by omega
          refine jj_aload_n (pc := 352) kRO_smith_d352 rfl ?_
          refine jj_getf (pc := 353) kRO_smith_d353 (kfRO_w hG) (hO.ff hF96).1 rfl ?_
          refine jj_aload_n (pc := 356) kRO_smith_d356 rfl ?_
          refine jj_getf (pc := 357) kRO_smith_d357 (kfRO_f hG) (hO.ff hF96).1 rfl ?_
          refine jj_getf (pc := 360) kRO_smith_d360 (kfRO_RF_up hG) hC6.1 rfl ?_
          refine jj_putf (pc := 363) kRO_smith_d363 (kpRO_RW_top hG) hw113 (by rfl) rfl ?_
          refine jn_gen (fun M134 hM135 => ?_)
          have hf136 : RF M6 M134 w := by rw [hM135]; exact RF.top hw113
          have hS136 : RS M134 w D6 (p6) v9 cm X1 Z1 rc6 rs6 := ⟨⟨dd113, by rw [hM135]; exact jj_up_at _ _ _, by rw [hM135, jj_up_ne _ _ (fun e => by have q1 := hd113; rw [e, hw113] at q1; cases q1)]; exact hd113⟩, hB113, by omega, hz113, by omega⟩
          have hC136 := hC6.rf hf136
          have hF136 := hF96.trans (FF.ofRF hC6 hf136)
          obtain ⟨hW137, hB137, hTD137, hz137, hp137⟩ := id hS136
          obtain ⟨dd137, hw137, hd137⟩ := id hW137
          have hcap137 := hB137.cap
          refine jj_aload_n (pc := 366) kRO_smith_d366 rfl ?_
          refine jj_getf (pc := 367) kRO_smith_d367 (kfRO_f hG) (hO.ff hF136).1 rfl ?_
          refine jj_aload_n (pc := 370) kRO_smith_d370 rfl ?_
          refine jj_getf (pc := 371) kRO_smith_d371 (kfRO_w hG) (hO.ff hF136).1 rfl ?_
          refine jj_iload (pc := 374) kRO_smith_d374 rfl ?_
          refine jn_if_eq (pc := 376) (tgt := 384) kRO_smith_d376 (by decide) (by omega) (fun c4 => ?_) (fun c4 => ?_)
          · skip
            have hpe : pw = pl := by rw [hpw]; exact if_neg (by omega)
            rw [hpe] at hrw
            refine jj_iload (pc := 384) kRO_smith_d384 rfl ?_
            have hrw9 : RI D6 (p6) pl zw := hrw.congr (by omega) (fun i hi => by rw [ho6 i (by omega), ho9 i hi])
            refine jj_callV (pc := 386) (b := w) (As := [.int (nI (pl))]) kRO_smith_d386 (kvRO_RW_copy hG) (kG_cl hG rfl) rfl hw137 rfl rfl rfl (Nat.le_of_ble_eq_true rfl) (Nat.le_of_ble_eq_true rfl) (jj_bare0 rfl) ?_
            refine ri_copy (a := s) hG hS136 hrw9 hzw (by omega) (fun M138 D138 T138 p138 rc138 rs138 hS138 t138 u138 ho138 hf138 hI138 => ?_)
            show jj G kRO_smith (d + 12) Q rc138 rs138 389 [some (.ref o), some (.int (nI (b))), some (.int (nI (nu))), some (.int (nI (he))), some (.int (nI (he))), some (.int (nI (tb))), some (.int (nI (n))), some (.int (nI (kk))), some (.int (nI (i))), some (.int (nI (j))), some (.int (nI (px))), some (.int (nI (py))), some (.int (nI (pg))), some (.int (nI (pl))), some (.int (nI (T))), some (.int (nI (t))), some (.int (nI (k))), some (.int (nI (b1)))] [.int (nI (p138)), .ref f] M138
            have hC138 := hC136.rf hf138
            have hF138 := hF136.trans (FF.ofRF hC136 hf138)
            have hrw9_138 := hrw9.congr t138.1 ho138
            obtain ⟨hW139, hB139, hTD139, hz139, hp139⟩ := id hS138
            obtain ⟨dd139, hw139, hd139⟩ := id hW139
            have hcap139 := hB139.cap
            refine jj_putf (pc := 389) kRO_smith_d389 (kpRO_RF_up hG) hC138.1 (by rfl) rfl ?_
            refine jn_gen (fun M140 hM141 => ?_)
            have hC142 : FC M140 f w vv pv V6 (tz) (nI (p138)) (nI (1)) P (rk) := by rw [hM141]; exact hC138.putf
            have hF142 : FF M M140 f := by rw [hM141]; exact hF138.trans (FF.putf hC138)
            have hS142 : RS M140 w D138 (T138) v9 cm X1 Z1 rc138 rs138 := by rw [hM141]; exact hS138.other hC138.2.2.2.2.1
            obtain ⟨hW143, hB143, hTD143, hz143, hp143⟩ := id hS142
            obtain ⟨dd143, hw143, hd143⟩ := id hW143
            have hcap143 := hB143.cap
            refine jj_aload_n (pc := 392) kRO_smith_d392 rfl ?_
            refine jj_getf (pc := 393) kRO_smith_d393 (kfRO_f hG) (hO.ff hF142).1 rfl ?_
            refine jn_iconst (pc := 396) 1 kRO_smith_d396 (by decide) ?_
            refine jj_putf (pc := 397) kRO_smith_d397 (kpRO_RF_low hG) hC142.1 (by rfl) rfl ?_
            refine jn_gen (fun M144 hM145 => ?_)
            have hC146 : FC M144 f w vv pv V6 (tz) (nI (p138)) (nI (1)) P (rk) := by rw [hM145]; exact hC142.putf
            have hF146 : FF M M144 f := by rw [hM145]; exact hF142.trans (FF.putf hC142)
            have hS146 : RS M144 w D138 (T138) v9 cm X1 Z1 rc138 rs138 := by rw [hM145]; exact hS142.other hC142.2.2.2.2.1
            obtain ⟨hW147, hB147, hTD147, hz147, hp147⟩ := id hS146
            obtain ⟨dd147, hw147, hd147⟩ := id hW147
            have hcap147 := hB147.cap
            refine jj_aload_n (pc := 400) kRO_smith_d400 rfl ?_
            refine jj_getf (pc := 401) kRO_smith_d401 (kfRO_f hG) (hO.ff hF146).1 rfl ?_
            refine jj_iload (pc := 404) kRO_smith_d404 rfl ?_
            refine jj_iload (pc := 406) kRO_smith_d406 rfl ?_
            refine jj_callV (pc := 408) (b := f) (As := [.int (nI (t)), .int (nI (k))]) kRO_smith_d408 (kvRO_RF_put hG) (kG_cl hG rfl) rfl hC146.1 rfl rfl rfl (Nat.le_of_ble_eq_true rfl) (Nat.le_of_ble_eq_true rfl) (jj_bare0 rfl) ?_
            refine rf_put (a := t) (i := k) hG hC146 hS146 (by omega) (by omega) (fun M5 hC5 hS5 hF7 => ?_)
            show jj G kRO_smith (d + 12) Q rc138 rs138 411 [some (.ref o), some (.int (nI (b))), some (.int (nI (nu))), some (.int (nI (he))), some (.int (nI (he))), some (.int (nI (tb))), some (.int (nI (n))), some (.int (nI (kk))), some (.int (nI (i))), some (.int (nI (j))), some (.int (nI (px))), some (.int (nI (py))), some (.int (nI (pg))), some (.int (nI (pl))), some (.int (nI (T))), some (.int (nI (t))), some (.int (nI (k))), some (.int (nI (b1)))] [] M5
            obtain ⟨V5, hV5⟩ : ∃ V5, (V6.set (t + 2 + 2 * k) (nI p138)).set (t + 3 + 2 * k) (nI 1) = V5 := ⟨_, rfl⟩
            rw [hV5] at hC5
            have hl5 : V5.length = V9.length := by rw [← hV5, List.length_set, List.length_set, hl6]
            have hv5 : ∀ i, i < t + 2 + 2 * k ∨ t + 4 + 2 * k ≤ i → V5.getD i 0 = V9.getD i 0 := fun i hi => by rw [← hV5, gd_set_ne (by omega), gd_set_ne (by omega), hv6 i hi]
            have t5' : T9 ≤ T138 := by have := t138.1; omega
            have ho5 : ∀ i, i < T9 → D138.getD i 0 = D9.getD i 0 := fun i hi => by rw [ho138 i (by omega), ho6 i hi]
            have hF5x := hF146.trans hF7
            have hm5 : MC D138 T138 V5 t T9 k (zw : Rat) := ⟨p138, 1, by rw [← hV5, gd_set_ne (by omega)]; exact gd_set_eq (by omega), by rw [← hV5]; exact gd_set_eq (by rw [List.length_set]; omega), ⟨hI138, h19.congr t5' ho5, fun _ => rfl⟩, by omega, Or.inl rfl⟩
            rw [← hval] at hm5
            rw [← htz] at hC5
            have t5 := t5'
            refine jn_iinc (pc := 411) (k + 1) kRO_smith_d411 rfl (nI_1 _) ?_
            refine jj_goto (pc := 414) (tgt := 272) kRO_smith_d414 (by decide) ?_
            show jj G kRO_smith (d + 12) Q rc138 rs138 272 [some (.ref o), some (.int (nI (b))), some (.int (nI (nu))), some (.int (nI (he))), some (.int (nI (he))), some (.int (nI (tb))), some (.int (nI (n))), some (.int (nI (kk))), some (.int (nI (i))), some (.int (nI (j))), some (.int (nI (px))), some (.int (nI (py))), some (.int (nI (pg))), some (.int (nI (pl))), some (.int (nI (T))), some (.int (nI (t))), some (.int (nI (k + 1))), some (.int (nI (b1)))] [] M5
            refine ih (k + 1) (by omega) _ M5 D138 T138 V5 _ _ _ rc138 rs138 hC5 hS5 (by omega) (by rw [Nat.succ_mul]; omega) (fun i hi => by rw [ho5 i (by omega), ho9 i hi]) (by omega) (fun i hi => by rw [hv5 i (by omega), hV9 i hi]) (by rw [hv5 _ (by omega)]; exact hr9) (by rw [hv5 _ (by omega)]; exact hc9) hF5x (fun k' hk' => ?_)
            by_cases e : k' = k
            · subst e
              exact hm5.congr (lo' := T) (Nat.le_refl _) (fun _ _ => rfl) (fun _ _ _ => rfl) t9
            · exact (hm9 k' (by omega)).congr t5 ho5 (fun i h6 h7 => hv5 i (by omega)) (Nat.le_refl _)
          · skip
            have hpe : pw = pg := by rw [hpw]; exact if_pos (by omega)
            rw [hpe] at hrw
            refine jj_iload (pc := 379) kRO_smith_d379 rfl ?_
            refine jj_goto (pc := 381) (tgt := 386) kRO_smith_d381 (by decide) ?_
            have hrw9 : RI D6 (p6) pg zw := hrw.congr (by omega) (fun i hi => by rw [ho6 i (by omega), ho9 i hi])
            refine jj_callV (pc := 386) (b := w) (As := [.int (nI (pg))]) kRO_smith_d386 (kvRO_RW_copy hG) (kG_cl hG rfl) rfl hw137 rfl rfl rfl (Nat.le_of_ble_eq_true rfl) (Nat.le_of_ble_eq_true rfl) (jj_bare0 rfl) ?_
            refine ri_copy (a := s) hG hS136 hrw9 hzw (by omega) (fun M148 D148 T148 p148 rc148 rs148 hS148 t148 u148 ho148 hf148 hI148 => ?_)
            show jj G kRO_smith (d + 12) Q rc148 rs148 389 [some (.ref o), some (.int (nI (b))), some (.int (nI (nu))), some (.int (nI (he))), some (.int (nI (he))), some (.int (nI (tb))), some (.int (nI (n))), some (.int (nI (kk))), some (.int (nI (i))), some (.int (nI (j))), some (.int (nI (px))), some (.int (nI (py))), some (.int (nI (pg))), some (.int (nI (pl))), some (.int (nI (T))), some (.int (nI (t))), some (.int (nI (k))), some (.int (nI (b1)))] [.int (nI (p148)), .ref f] M148
            have hC148 := hC136.rf hf148
            have hF148 := hF136.trans (FF.ofRF hC136 hf148)
            have hrw9_148 := hrw9.congr t148.1 ho148
            obtain ⟨hW149, hB149, hTD149, hz149, hp149⟩ := id hS148
            obtain ⟨dd149, hw149, hd149⟩ := id hW149
            have hcap149 := hB149.cap
            refine jj_putf (pc := 389) kRO_smith_d389 (kpRO_RF_up hG) hC148.1 (by rfl) rfl ?_
            refine jn_gen (fun M150 hM151 => ?_)
            have hC152 : FC M150 f w vv pv V6 (tz) (nI (p148)) (nI (1)) P (rk) := by rw [hM151]; exact hC148.putf
            have hF152 : FF M M150 f := by rw [hM151]; exact hF148.trans (FF.putf hC148)
            have hS152 : RS M150 w D148 (T148) v9 cm X1 Z1 rc148 rs148 := by rw [hM151]; exact hS148.other hC148.2.2.2.2.1
            obtain ⟨hW153, hB153, hTD153, hz153, hp153⟩ := id hS152
            obtain ⟨dd153, hw153, hd153⟩ := id hW153
            have hcap153 := hB153.cap
            refine jj_aload_n (pc := 392) kRO_smith_d392 rfl ?_
            refine jj_getf (pc := 393) kRO_smith_d393 (kfRO_f hG) (hO.ff hF152).1 rfl ?_
            refine jn_iconst (pc := 396) 1 kRO_smith_d396 (by decide) ?_
            refine jj_putf (pc := 397) kRO_smith_d397 (kpRO_RF_low hG) hC152.1 (by rfl) rfl ?_
            refine jn_gen (fun M154 hM155 => ?_)
            have hC156 : FC M154 f w vv pv V6 (tz) (nI (p148)) (nI (1)) P (rk) := by rw [hM155]; exact hC152.putf
            have hF156 : FF M M154 f := by rw [hM155]; exact hF152.trans (FF.putf hC152)
            have hS156 : RS M154 w D148 (T148) v9 cm X1 Z1 rc148 rs148 := by rw [hM155]; exact hS152.other hC152.2.2.2.2.1
            obtain ⟨hW157, hB157, hTD157, hz157, hp157⟩ := id hS156
            obtain ⟨dd157, hw157, hd157⟩ := id hW157
            have hcap157 := hB157.cap
            refine jj_aload_n (pc := 400) kRO_smith_d400 rfl ?_
            refine jj_getf (pc := 401) kRO_smith_d401 (kfRO_f hG) (hO.ff hF156).1 rfl ?_
            refine jj_iload (pc := 404) kRO_smith_d404 rfl ?_
            refine jj_iload (pc := 406) kRO_smith_d406 rfl ?_
            refine jj_callV (pc := 408) (b := f) (As := [.int (nI (t)), .int (nI (k))]) kRO_smith_d408 (kvRO_RF_put hG) (kG_cl hG rfl) rfl hC156.1 rfl rfl rfl (Nat.le_of_ble_eq_true rfl) (Nat.le_of_ble_eq_true rfl) (jj_bare0 rfl) ?_
            refine rf_put (a := t) (i := k) hG hC156 hS156 (by omega) (by omega) (fun M5 hC5 hS5 hF7 => ?_)
            show jj G kRO_smith (d + 12) Q rc148 rs148 411 [some (.ref o), some (.int (nI (b))), some (.int (nI (nu))), some (.int (nI (he))), some (.int (nI (he))), some (.int (nI (tb))), some (.int (nI (n))), some (.int (nI (kk))), some (.int (nI (i))), some (.int (nI (j))), some (.int (nI (px))), some (.int (nI (py))), some (.int (nI (pg))), some (.int (nI (pl))), some (.int (nI (T))), some (.int (nI (t))), some (.int (nI (k))), some (.int (nI (b1)))] [] M5
            obtain ⟨V5, hV5⟩ : ∃ V5, (V6.set (t + 2 + 2 * k) (nI p148)).set (t + 3 + 2 * k) (nI 1) = V5 := ⟨_, rfl⟩
            rw [hV5] at hC5
            have hl5 : V5.length = V9.length := by rw [← hV5, List.length_set, List.length_set, hl6]
            have hv5 : ∀ i, i < t + 2 + 2 * k ∨ t + 4 + 2 * k ≤ i → V5.getD i 0 = V9.getD i 0 := fun i hi => by rw [← hV5, gd_set_ne (by omega), gd_set_ne (by omega), hv6 i hi]
            have t5' : T9 ≤ T148 := by have := t148.1; omega
            have ho5 : ∀ i, i < T9 → D148.getD i 0 = D9.getD i 0 := fun i hi => by rw [ho148 i (by omega), ho6 i hi]
            have hF5x := hF156.trans hF7
            have hm5 : MC D148 T148 V5 t T9 k (zw : Rat) := ⟨p148, 1, by rw [← hV5, gd_set_ne (by omega)]; exact gd_set_eq (by omega), by rw [← hV5]; exact gd_set_eq (by rw [List.length_set]; omega), ⟨hI148, h19.congr t5' ho5, fun _ => rfl⟩, by omega, Or.inl rfl⟩
            rw [← hval] at hm5
            rw [← htz] at hC5
            have t5 := t5'
            refine jn_iinc (pc := 411) (k + 1) kRO_smith_d411 rfl (nI_1 _) ?_
            refine jj_goto (pc := 414) (tgt := 272) kRO_smith_d414 (by decide) ?_
            show jj G kRO_smith (d + 12) Q rc148 rs148 272 [some (.ref o), some (.int (nI (b))), some (.int (nI (nu))), some (.int (nI (he))), some (.int (nI (he))), some (.int (nI (tb))), some (.int (nI (n))), some (.int (nI (kk))), some (.int (nI (i))), some (.int (nI (j))), some (.int (nI (px))), some (.int (nI (py))), some (.int (nI (pg))), some (.int (nI (pl))), some (.int (nI (T))), some (.int (nI (t))), some (.int (nI (k + 1))), some (.int (nI (b1)))] [] M5
            refine ih (k + 1) (by omega) _ M5 D148 T148 V5 _ _ _ rc148 rs148 hC5 hS5 (by omega) (by rw [Nat.succ_mul]; omega) (fun i hi => by rw [ho5 i (by omega), ho9 i hi]) (by omega) (fun i hi => by rw [hv5 i (by omega), hV9 i hi]) (by rw [hv5 _ (by omega)]; exact hr9) (by rw [hv5 _ (by omega)]; exact hc9) hF5x (fun k' hk' => ?_)
            by_cases e : k' = k
            · subst e
              exact hm5.congr (lo' := T) (Nat.le_refl _) (fun _ _ => rfl) (fun _ _ _ => rfl) t9
            · exact (hm9 k' (by omega)).congr t5 ho5 (fun i h6 h7 => hv5 i (by omega)) (Nat.le_refl _)
      have k411 : (sstep B i j (k / n) (k % n)) = B (k / n) (k % n) → jj G kRO_smith (d + 12) Q rc6 rs6 411 [some (.ref o), some (.int (nI (b))), some (.int (nI (nu))), some (.int (nI (he))), some (.int (nI (he))), some (.int (nI (tb))), some (.int (nI (n))), some (.int (nI (kk))), some (.int (nI (i))), some (.int (nI (j))), some (.int (nI (px))), some (.int (nI (py))), some (.int (nI (pg))), some (.int (nI (pl))), some (.int (nI (T))), some (.int (nI (t))), some (.int (nI (k))), some (.int (nI (0)))] [] M6 := by
        intro hval
        have hm5 : MC D6 T6 V6 t T9 k ((B (k / n) (k % n) : Int) : Rat) := ⟨p6, 1, by rw [← hV6, gd_set_ne (by omega)]; exact gd_set_eq (by omega), by rw [← hV6]; exact gd_set_eq (by rw [List.length_set]; omega), ⟨hI6, h19.congr t6.1 ho6, fun _ => rfl⟩, t6.2, Or.inl rfl⟩
        rw [← hval] at hm5
        have t6' := t6.1
        have hC6' := hC6
        rw [← htz] at hC6'
        refine jn_iinc (pc := 411) (k + 1) kRO_smith_d411 rfl (nI_1 _) ?_
        refine jj_goto (pc := 414) (tgt := 272) kRO_smith_d414 (by decide) ?_
        show jj G kRO_smith (d + 12) Q rc6 rs6 272 [some (.ref o), some (.int (nI (b))), some (.int (nI (nu))), some (.int (nI (he))), some (.int (nI (he))), some (.int (nI (tb))), some (.int (nI (n))), some (.int (nI (kk))), some (.int (nI (i))), some (.int (nI (j))), some (.int (nI (px))), some (.int (nI (py))), some (.int (nI (pg))), some (.int (nI (pl))), some (.int (nI (T))), some (.int (nI (t))), some (.int (nI (k + 1))), some (.int (nI (0)))] [] M6
        refine ih (k + 1) (by omega) _ M6 D6 T6 V6 _ _ _ rc6 rs6 hC6' hS6 (by omega) (by rw [Nat.succ_mul]; omega) (fun i hi => by rw [ho6 i (by omega), ho9 i hi]) (by omega) (fun i hi => by rw [hv6 i (by omega), hV9 i hi]) (by rw [hv6 _ (by omega)]; exact hr9) (by rw [hv6 _ (by omega)]; exact hc9) hF96 (fun k' hk' => ?_)
        by_cases e : k' = k
        · subst e
          exact hm5.congr (lo' := T) (Nat.le_refl _) (fun _ _ => rfl) (fun _ _ _ => rfl) t9
        · exact (hm9 k' (by omega)).congr t6' ho6 (fun i h6 h7 => hv6 i (by omega)) (Nat.le_refl _)
      clear ih
      refine jj_iload (pc := 301) kRO_smith_d301 rfl ?_
      refine jj_iload (pc := 303) kRO_smith_d303 rfl ?_
      refine jj_iload (pc := 305) kRO_smith_d305 rfl ?_
      refine jn_imul (pc := 307) (iN) kRO_smith_d307 hiN ?_
      refine jj_iload (pc := 308) kRO_smith_d308 rfl ?_
      refine jn_iadd (pc := 310) (ii) kRO_smith_d310 hii ?_
      refine jn_icmp_ne (pc := 311) (tgt := 318) kRO_smith_d311 (by decide) (by omega) (by omega) (fun c1 => ?_) (fun c1 => ?_)
      · skip
        refine jn_iconst (pc := 318) 0 kRO_smith_d318 (by decide) ?_
        refine jj_istore (pc := 319) kRO_smith_d319 (Nat.le_of_ble_eq_true rfl) ?_
        refine jj_iload (pc := 321) kRO_smith_d321 rfl ?_
        refine jn_if_ne (pc := 323) (tgt := 342) kRO_smith_d323 (by decide) (by omega) (fun c => by exfalso; omega) (fun _ => ?_)
        refine jj_iload (pc := 326) kRO_smith_d326 rfl ?_
        refine jj_iload (pc := 328) kRO_smith_d328 rfl ?_
        refine jj_iload (pc := 330) kRO_smith_d330 rfl ?_
        refine jn_imul (pc := 332) (jN) kRO_smith_d332 hjN ?_
        refine jj_iload (pc := 333) kRO_smith_d333 rfl ?_
        refine jn_iadd (pc := 335) (jj_) kRO_smith_d335 hjj ?_
        refine jn_icmp_eq (pc := 336) (tgt := 342) kRO_smith_d336 (by decide) (by omega) (by omega) (fun c2 => ?_) (fun c2 => ?_)
        · skip
          show jj G kRO_smith (d + 12) Q rc6 rs6 342 [some (.ref o), some (.int (nI (b))), some (.int (nI (nu))), some (.int (nI (he))), some (.int (nI (he))), some (.int (nI (tb))), some (.int (nI (n))), some (.int (nI (kk))), some (.int (nI (i))), some (.int (nI (j))), some (.int (nI (px))), some (.int (nI (py))), some (.int (nI (pg))), some (.int (nI (pl))), some (.int (nI (T))), some (.int (nI (t))), some (.int (nI (k))), some (.int (nI (0)))] [] M6
          have hv9 : sstep B i j (k / n) (k % n) = sml (B i i) (B j j) := by
            unfold sstep
            rw [if_neg (fun e => c1 (hki.mpr e)), if_pos (hkj.mp c2)]
          exact k342 0 pl _ (by omega) (if_neg (by omega)).symm hrl hzl hv9
        · skip
          refine jj_goto (pc := 339) (tgt := 411) kRO_smith_d339 (by decide) ?_
          show jj G kRO_smith (d + 12) Q rc6 rs6 411 [some (.ref o), some (.int (nI (b))), some (.int (nI (nu))), some (.int (nI (he))), some (.int (nI (he))), some (.int (nI (tb))), some (.int (nI (n))), some (.int (nI (kk))), some (.int (nI (i))), some (.int (nI (j))), some (.int (nI (px))), some (.int (nI (py))), some (.int (nI (pg))), some (.int (nI (pl))), some (.int (nI (T))), some (.int (nI (t))), some (.int (nI (k))), some (.int (nI (0)))] [] M6
          exact k411 (by unfold sstep; rw [if_neg (fun e => c1 (hki.mpr e)), if_neg (fun e => c2 (hkj.mpr e))])
      · skip
        refine jn_iconst (pc := 314) 1 kRO_smith_d314 (by decide) ?_
        refine jj_goto (pc := 315) (tgt := 319) kRO_smith_d315 (by decide) ?_
        refine jj_istore (pc := 319) kRO_smith_d319 (Nat.le_of_ble_eq_true rfl) ?_
        refine jj_iload (pc := 321) kRO_smith_d321 rfl ?_
        refine jn_if_ne (pc := 323) (tgt := 342) kRO_smith_d323 (by decide) (by omega) (fun _ => ?_) (fun c => by exfalso; omega)
        show jj G kRO_smith (d + 12) Q rc6 rs6 342 [some (.ref o), some (.int (nI (b))), some (.int (nI (nu))), some (.int (nI (he))), some (.int (nI (he))), some (.int (nI (tb))), some (.int (nI (n))), some (.int (nI (kk))), some (.int (nI (i))), some (.int (nI (j))), some (.int (nI (px))), some (.int (nI (py))), some (.int (nI (pg))), some (.int (nI (pl))), some (.int (nI (T))), some (.int (nI (t))), some (.int (nI (k))), some (.int (nI (1)))] [] M6
        exact k342 1 pg _ (by omega) (if_pos rfl).symm hrg hzg (by unfold sstep; rw [if_pos (hki.mp c1)])
  exact loop (m * n) 0 (by omega) p17 M1 D T V1 up low v2 rc1 rs1 hC1 hS1 (Nat.le_refl _) (by omega) (fun _ _ => rfl) rfl ho1 hr1 hc1 hF1 (fun k' hk' => by omega) 
end RO16
