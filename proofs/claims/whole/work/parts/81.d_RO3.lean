/-! ===== Forms.solve (printed by wip/gen/ro3.py) ===== -/
/-- the solution out of the echelon form of both side by side -/
def solF (E : qmat) (r : Nat) (p : Nat → Nat) (n : Nat) : qmat := fun i j => qsum (fun k => if p k = i then E k (n + j) else 0) r
theorem solF_pivot {E : qmat} {n r k j : Nat} {p : Nat → Nat} (hp : ∀ i k, i < k → k < r → p i < p k) (hk : k < r) : solF E r p n (p k) j = E k (n + j) := by
  unfold solF
  rw [qsum_one hk (fun l hl hne => if_neg (fun e => hne (by
    rcases Nat.lt_trichotomy l k with g | g | g
    · have := hp l k g hk; omega
    · exact g
    · have := hp k l g hl; omega))), if_pos rfl]
theorem solF_none {E : qmat} {n r i j : Nat} {p : Nat → Nat} (h : ∀ k, k < r → p k ≠ i) : solF E r p n i j = 0 := by
  unfold solF
  exact qsum_zero (fun k hk => if_neg (h k hk))
section RO3
variable {G : jg} {d : Nat} {Q : jq} {rc rs : Nat} {M : mheap} {o f w vv pv ca ra : Nat} {v2 : Value} {D V P CA RA : List Int32} {t : Nat} {up low rk fi se : Int32}
theorem ro_solve_mid {a b nu he n nb e gd m rkn lob T s S cm cv X Z X' Z' : Nat} {p9 p10 p11 p12 : Option Value} {q2 : Nat → Rat} {A2 : qmat} {g : Nat → Nat} (hG : kG G) (hO : OC M o f w ca ra CA RA fi se) (hC : FC M f w vv pv V t up low P rk) (hS : RS M w D T v2 cm X Z rc rs) (hX : FXB cv V X Z X' Z') (htV : t ≤ V.length) (h1 : RI D T 1 1) (hT3 : 3 ≤ T) (hrk : rk = nI rkn) (hP : P.length = 64) (hrm : rkn ≤ m) (hg : ∀ i, i < rkn → P.getD i 0 = nI (g i) ∧ g i < 2 ^ 31) (hgr : ∀ i k, i < k → k < rkn → g i < g k) (hb : MX D T V t e m (n + nb) lob q2) (hA2 : ∀ i, i < m → ∀ j, j < n + nb → A2 i j = q2 (i * (n + nb) + j)) (hq2 : ∀ k, k < m * (n + nb) → ZB s (q2 k).num ∧ ZB s ((q2 k).den : Int)) (hm : m < 64) (hn : n < 64) (hnb : nb < 64) (hs : S = 2 * s + 8) (ht : t + 2 + 2 * (n * nb) ≤ cv) (hT : T + n * nb * S ≤ cm)
    (K : MKP (fun _ M' rc' rs' => ∀ (o12 : Option Value) , jj G kRO_solve (d + 12) Q rc' rs' 276 [some (.ref o), some (.int (nI (a))), some (.int (nI (b))), some (.int (nI (nu))), some (.int (nI (he))), some (.int (nI (n))), some (.int (nI (nb))), some (.int (nI (e))), some (.int (nI (gd))), some (.int (nI (T))), some (.int (nI (t))), some (.int (nI (n * nb))), (o12)] [] M') M f w pv D V t P rk T cm cv X' Z' (n) (nb) (T + n * nb * S) (fun k => solF A2 rkn g n (k / nb) (k % nb))) : jj G kRO_solve (d + 12) Q rc rs 167 [some (.ref o), some (.int (nI (a))), some (.int (nI (b))), some (.int (nI (nu))), some (.int (nI (he))), some (.int (nI (n))), some (.int (nI (nb))), some (.int (nI (e))), some (.int (nI (gd))), (p9), (p10), (p11), (p12)] [] M := by
  have hcap := hX.cap
  have hcr : (n) * (nb) = n * nb := rfl
  unfold MKP at K
  rw [hcr] at K
  have hcapD := hS.2.1.cap
  obtain ⟨hb1, hb2, hb3, hb4⟩ := id hb
  have hnn : n * nb < 64 * 1024 := Nat.mul_lt_mul_of_lt_of_le hn (by omega) (by decide)
  obtain ⟨hW101, hB101, hTD101, hz101, hp101⟩ := id hS
  obtain ⟨dd101, hw101, hd101⟩ := id hW101
  have hcap101 := hB101.cap
  refine jj_aload_n (pc := 167) kRO_solve_d167 rfl ?_
  refine jj_getf (pc := 168) kRO_solve_d168 (kfRO_w hG) hO.1 rfl ?_
  refine jj_getf (pc := 171) kRO_solve_d171 (kfRO_RW_top hG) hw101 rfl ?_
  refine jj_istore (pc := 174) kRO_solve_d174 (Nat.le_of_ble_eq_true rfl) ?_
  refine jj_aload_n (pc := 176) kRO_solve_d176 rfl ?_
  refine jj_getf (pc := 177) kRO_solve_d177 (kfRO_f hG) hO.1 rfl ?_
  refine jj_iload (pc := 180) kRO_solve_d180 rfl ?_
  refine jj_iload (pc := 182) kRO_solve_d182 rfl ?_
  refine jj_callV (pc := 184) (b := f) (As := [.int (nI (n)), .int (nI (nb))]) kRO_solve_d184 (kvRO_RF_make hG) (kG_cl hG rfl) rfl hC.1 rfl rfl rfl (Nat.le_of_ble_eq_true rfl) (Nat.le_of_ble_eq_true rfl) (jj_bare0 rfl) ?_
  refine rf_make hG hC hS hX htV (by omega) (by omega) (by rw [hcr]; exact ht) (fun M1 vv V1 X1 Z1 rc1 rs1 hC1 hS1 hX1 hl1 hr1 hc1 ho1 hF1 => ?_)
  show jj G kRO_solve (d + 12) Q rc1 rs1 187 [some (.ref o), some (.int (nI (a))), some (.int (nI (b))), some (.int (nI (nu))), some (.int (nI (he))), some (.int (nI (n))), some (.int (nI (nb))), some (.int (nI (e))), some (.int (nI (gd))), some (.int (nI (T))), (p10), (p11), (p12)] [.int (nI (t))] M1
  rw [hcr] at hC1 hl1
  have hcap1 := hX1.cap
  refine jj_istore (pc := 187) kRO_solve_d187 (Nat.le_of_ble_eq_true rfl) ?_
  refine jn_iconst (pc := 189) 0 kRO_solve_d189 (by decide) ?_
  refine jj_istore (pc := 190) kRO_solve_d190 (Nat.le_of_ble_eq_true rfl) ?_
  show jj G kRO_solve (d + 12) Q rc1 rs1 192 [some (.ref o), some (.int (nI (a))), some (.int (nI (b))), some (.int (nI (nu))), some (.int (nI (he))), some (.int (nI (n))), some (.int (nI (nb))), some (.int (nI (e))), some (.int (nI (gd))), some (.int (nI (T))), some (.int (nI (t))), some (.int (nI (0))), (p12)] [] M1
  have loop : ∀ mu k, n * nb = k + mu → ∀ (o12 : Option Value) (M9 : mheap) (D9 : List Int32) (T9 : Nat) (V9 : List Int32) (up9 low9 : Int32) (v9 : Value) (rc9 rs9 : Nat), FC M9 f w vv pv V9 (t + 2 + 2 * (n * nb)) up9 low9 P rk → RS M9 w D9 T9 v9 cm X1 Z1 rc9 rs9 → T ≤ T9 → T9 ≤ T + k * S → (∀ i, i < T → D9.getD i 0 = D.getD i 0) → V9.length = V1.length → (∀ i, i < t → V9.getD i 0 = V.getD i 0) → V9.getD t 0 = nI (n) → V9.getD (t + 1) 0 = nI (nb) → FF M M9 f → (∀ k', k' < k → MC D9 T9 V9 t T k' ((fun k => solF A2 rkn g n (k / nb) (k % nb)) k')) → jj G kRO_solve (d + 12) Q rc9 rs9 192 [some (.ref o), some (.int (nI (a))), some (.int (nI (b))), some (.int (nI (nu))), some (.int (nI (he))), some (.int (nI (n))), some (.int (nI (nb))), some (.int (nI (e))), some (.int (nI (gd))), some (.int (nI (T))), some (.int (nI (t))), some (.int (nI (k))), (o12)] [] M9 := by
    intro mu
    induction mu with
    | zero =>
      intro k hk  o12 M9 D9 T9 V9 up9 low9 v9 rc9 rs9 hC9 hS9 t9 u9 ho9 hlen9 hV9 hr9 hc9 hF9 hm9 
      have e : n * nb = k := by omega
      subst e
      refine jj_iload (pc := 192) kRO_solve_d192 rfl ?_
      refine jj_iload (pc := 194) kRO_solve_d194 rfl ?_
      refine jj_iload (pc := 196) kRO_solve_d196 rfl ?_
      refine jn_imul (pc := 198) (n * nb) kRO_solve_d198 rfl ?_
      refine jn_icmp_ge (pc := 199) (tgt := 276) kRO_solve_d199 (by decide) (by omega) (by omega) (fun _ => ?_) (fun c => by exfalso; omega)
      show jj G kRO_solve (d + 12) Q rc9 rs9 276 [some (.ref o), some (.int (nI (a))), some (.int (nI (b))), some (.int (nI (nu))), some (.int (nI (he))), some (.int (nI (n))), some (.int (nI (nb))), some (.int (nI (e))), some (.int (nI (gd))), some (.int (nI (T))), some (.int (nI (t))), some (.int (nI (n * nb))), (o12)] [] M9
      exact K M9 vv D9 T9 V9 up9 low9 X1 Z1 v9 rc9 rs9 hC9 hS9 (hX1.same hlen9) t9 u9 ho9 hV9 (by omega) hF9 ⟨by rw [hcr]; exact Nat.le_refl _, hr9, hc9, fun k' hk' => hm9 k' (by rw [hcr] at hk'; exact hk')⟩  o12
    | succ mu ih =>
      intro k hk  o12 M9 D9 T9 V9 up9 low9 v9 rc9 rs9 hC9 hS9 t9 u9 ho9 hlen9 hV9 hr9 hc9 hF9 hm9 
      have hk1 : (k + 1) * S ≤ n * nb * S := Nat.mul_le_mul_right _ (by omega)
      rw [Nat.succ_mul] at hk1
      have h19 := h1.congr t9 ho9
      refine jj_iload (pc := 192) kRO_solve_d192 rfl ?_
      refine jj_iload (pc := 194) kRO_solve_d194 rfl ?_
      refine jj_iload (pc := 196) kRO_solve_d196 rfl ?_
      refine jn_imul (pc := 198) (n * nb) kRO_solve_d198 rfl ?_
      refine jn_icmp_ge (pc := 199) (tgt := 276) kRO_solve_d199 (by decide) (by omega) (by omega) (fun c => by exfalso; omega) (fun _ => ?_)
      have hnb0 : 0 < nb := Nat.pos_of_ne_zero (fun e => by rw [e, Nat.mul_zero] at hk; omega)
      obtain ⟨row, hrow⟩ : ∃ row, k / nb = row := ⟨_, rfl⟩
      obtain ⟨kk, hkk⟩ : ∃ kk, k % nb = kk := ⟨_, rfl⟩
      have hkl : kk < nb := by rw [← hkk]; exact Nat.mod_lt k hnb0
      have hrl : row < n := by rw [← hrow]; exact (Nat.div_lt_iff_lt_mul hnb0).mpr (by omega)
      have hC9r := hC9
      rw [hrk] at hC9r
      refine jj_aload_n (pc := 202) kRO_solve_d202 rfl ?_
      refine jj_iload (pc := 203) kRO_solve_d203 rfl ?_
      refine jj_iload (pc := 205) kRO_solve_d205 rfl ?_
      refine jn_idiv (pc := 207) (row) kRO_solve_d207 (by omega) (by omega) (by omega) hrow ?_
      refine jj_callV (pc := 208) (b := o) (As := [.int (nI (row))]) kRO_solve_d208 (kvRO_RO_pivotOf hG) (kG_cl hG rfl) rfl (hO.ff hF9).1 rfl rfl rfl (Nat.le_of_ble_eq_true rfl) (Nat.le_of_ble_eq_true rfl) (jj_bare0 rfl) ?_
      refine ro_pivotOf (g := g) hG (hO.ff hF9) hC9r hP (by omega) (by omega) hg (fun pr hpr epr => ?_) (fun hnp => ?_)
      · skip
        show jj G kRO_solve (d + 12) Q rc9 rs9 211 [some (.ref o), some (.int (nI (a))), some (.int (nI (b))), some (.int (nI (nu))), some (.int (nI (he))), some (.int (nI (n))), some (.int (nI (nb))), some (.int (nI (e))), some (.int (nI (gd))), some (.int (nI (T))), some (.int (nI (t))), some (.int (nI (k))), (o12)] [.int (nI (pr))] M9
        obtain ⟨N, hN⟩ : ∃ N, n + nb = N := ⟨_, rfl⟩
        obtain ⟨pn, hpn⟩ : ∃ pn, pr * N = pn := ⟨_, rfl⟩
        obtain ⟨ix, hix⟩ : ∃ ix, pn + n + kk = ix := ⟨_, rfl⟩
        have hil : ix < m * N := by rw [← hix, ← hpn, Nat.add_assoc]; exact cell_lt (by omega) (by omega)
        rw [hN] at hb1 hb4 hA2 hq2
        obtain ⟨hn1, hn2⟩ := hq2 ix hil
        have hmc : MC D9 T9 V9 e lob ix (q2 ix) := (hb4 ix hil).congr t9 ho9 (fun i _ h6 => hV9 i (by omega)) (Nat.le_refl _)
        have e9 : solF A2 rkn g n (k / nb) (k % nb) = q2 ix := by rw [hrow, hkk, ← epr, solF_pivot hgr hpr, hA2 pr (by omega) (n + kk) (by omega), ← hix, ← hpn, Nat.add_assoc]
        refine jj_istore (pc := 211) kRO_solve_d211 (Nat.le_of_ble_eq_true rfl) ?_
        refine jj_iload (pc := 213) kRO_solve_d213 rfl ?_
        refine jz_if_lt (pc := 215) (tgt := 251) (a := ((pr : Nat) : Int)) kRO_solve_d215 (by decide) (zI_nat _).symm (by omega) (by omega) (fun c => by exfalso; omega) (fun _ => ?_)
        refine jj_aload_n (pc := 218) kRO_solve_d218 rfl ?_
        refine jj_getf (pc := 219) kRO_solve_d219 (kfRO_f hG) (hO.ff hF9).1 rfl ?_
        refine jj_iload (pc := 222) kRO_solve_d222 rfl ?_
        refine jj_iload (pc := 224) kRO_solve_d224 rfl ?_
        refine jj_iload (pc := 226) kRO_solve_d226 rfl ?_
        refine jj_iload (pc := 228) kRO_solve_d228 rfl ?_
        refine jj_iload (pc := 230) kRO_solve_d230 rfl ?_
        refine jj_iload (pc := 232) kRO_solve_d232 rfl ?_
        refine jn_iadd (pc := 234) (N) kRO_solve_d234 hN ?_
        refine jn_imul (pc := 235) (pn) kRO_solve_d235 hpn ?_
        refine jj_iload (pc := 236) kRO_solve_d236 rfl ?_
        refine jn_iadd (pc := 238) (pn + n) kRO_solve_d238 (by omega) ?_
        refine jj_iload (pc := 239) kRO_solve_d239 rfl ?_
        refine jj_iload (pc := 241) kRO_solve_d241 rfl ?_
        refine jn_irem (pc := 243) (kk) kRO_solve_d243 (by omega) (by omega) (by omega) hkk ?_
        refine jn_iadd (pc := 244) (ix) kRO_solve_d244 hix ?_
        refine jj_callV (pc := 245) (b := f) (As := [.int (nI (t)), .int (nI (k)), .int (nI (e)), .int (nI (ix))]) kRO_solve_d245 (kvRO_RF_same hG) (kG_cl hG rfl) rfl hC9.1 rfl rfl rfl (Nat.le_of_ble_eq_true rfl) (Nat.le_of_ble_eq_true rfl) (jj_bare0 rfl) ?_
        refine rf_same (a := t) (i := k) (b := e) (j := ix) (c := s) hG hC9 hS9 h19 (by omega) (by omega) hmc (by omega) (by omega) hn1 hn2 (by omega) (fun M5 D5 T5 V5 up5 low5 rc5 rs5 hC5 hS5 t5 u5 ho5 hl5 hv5 hF5 hm5 => ?_)
        show jj G kRO_solve (d + 12) Q rc5 rs5 248 [some (.ref o), some (.int (nI (a))), some (.int (nI (b))), some (.int (nI (nu))), some (.int (nI (he))), some (.int (nI (n))), some (.int (nI (nb))), some (.int (nI (e))), some (.int (nI (gd))), some (.int (nI (T))), some (.int (nI (t))), some (.int (nI (k))), some (.int (nI (pr)))] [] M5
        rw [← e9] at hm5
        refine jj_goto (pc := 248) (tgt := 270) kRO_solve_d248 (by decide) ?_
        refine jn_iinc (pc := 270) (k + 1) kRO_solve_d270 rfl (nI_1 _) ?_
        refine jj_goto (pc := 273) (tgt := 192) kRO_solve_d273 (by decide) ?_
        show jj G kRO_solve (d + 12) Q rc5 rs5 192 [some (.ref o), some (.int (nI (a))), some (.int (nI (b))), some (.int (nI (nu))), some (.int (nI (he))), some (.int (nI (n))), some (.int (nI (nb))), some (.int (nI (e))), some (.int (nI (gd))), some (.int (nI (T))), some (.int (nI (t))), some (.int (nI (k + 1))), some (.int (nI (pr)))] [] M5
        refine ih (k + 1) (by omega)  _ M5 D5 T5 V5 _ _ v9 rc5 rs5 hC5 hS5 (by omega) (by rw [Nat.succ_mul]; omega) (fun i hi => by rw [ho5 i (by omega), ho9 i hi]) (by omega) (fun i hi => by rw [hv5 i (by omega), hV9 i hi]) (by rw [hv5 _ (by omega)]; exact hr9) (by rw [hv5 _ (by omega)]; exact hc9) (hF9.trans hF5) (fun k' hk' => ?_) 
        by_cases e : k' = k
        · subst e
          exact hm5.congr (lo' := T) (Nat.le_refl _) (fun _ _ => rfl) (fun _ _ _ => rfl) t9
        · exact (hm9 k' (by omega)).congr t5 ho5 (fun i h6 h7 => hv5 i (by omega)) (Nat.le_refl _)
      · skip
        show jj G kRO_solve (d + 12) Q rc9 rs9 211 [some (.ref o), some (.int (nI (a))), some (.int (nI (b))), some (.int (nI (nu))), some (.int (nI (he))), some (.int (nI (n))), some (.int (nI (nb))), some (.int (nI (e))), some (.int (nI (gd))), some (.int (nI (T))), some (.int (nI (t))), some (.int (nI (k))), (o12)] [.int (-1)] M9
        have hval : solF A2 rkn g n (k / nb) (k % nb) = 0 := by rw [hrow]; exact solF_none hnp
        refine jj_istore (pc := 211) kRO_solve_d211 (Nat.le_of_ble_eq_true rfl) ?_
        refine jj_iload (pc := 213) kRO_solve_d213 rfl ?_
        refine jj_if_lt (pc := 215) (tgt := 251) kRO_solve_d215 (by decide) (fun _ => ?_) (fun c => absurd c (by decide))
        refine jj_aload_n (pc := 251) kRO_solve_d251 rfl ?_
        refine jj_getf (pc := 252) kRO_solve_d252 (kfRO_f hG) (hO.ff hF9).1 rfl ?_
        refine jj_lconst (pc := 255) (v := lN 0) kRO_solve_d255 (by decide) ?_
        refine jj_callV (pc := 256) (b := f) (As := [.long (lN (0))]) kRO_solve_d256 (kvRO_RF_whole hG) (kG_cl hG rfl) rfl hC9.1 rfl rfl rfl (Nat.le_of_ble_eq_true rfl) (Nat.le_of_ble_eq_true rfl) (jj_bare0 rfl) ?_
        refine rf_whole hG hC9 hS9 h19 (by omega) (by omega) (fun M6 D5 T5 p6 l6 v6 rc5 rs5 hC6 hS6 t5 u6 ho5 hF6 hq6 g1 g2 => ?_)
        show jj G kRO_solve (d + 12) Q rc5 rs5 259 [some (.ref o), some (.int (nI (a))), some (.int (nI (b))), some (.int (nI (nu))), some (.int (nI (he))), some (.int (nI (n))), some (.int (nI (nb))), some (.int (nI (e))), some (.int (nI (gd))), some (.int (nI (T))), some (.int (nI (t))), some (.int (nI (k))), some (.int (-1))] [] M6
        refine jj_aload_n (pc := 259) kRO_solve_d259 rfl ?_
        refine jj_getf (pc := 260) kRO_solve_d260 (kfRO_f hG) (hO.ff (hF9.trans hF6)).1 rfl ?_
        refine jj_iload (pc := 263) kRO_solve_d263 rfl ?_
        refine jj_iload (pc := 265) kRO_solve_d265 rfl ?_
        rw [show (((lN 0).toInt : Int) : Rat) = solF A2 rkn g n (k / nb) (k % nb) by rw [hval]; rfl] at hq6
        refine jj_callV (pc := 267) (b := f) (As := [.int (nI (t)), .int (nI (k))]) kRO_solve_d267 (kvRO_RF_put hG) (kG_cl hG rfl) rfl hC6.1 rfl rfl rfl (Nat.le_of_ble_eq_true rfl) (Nat.le_of_ble_eq_true rfl) (jj_bare0 rfl) ?_
        refine rf_put (a := t) (i := k) hG hC6 hS6 (by omega) (by omega) (fun M5 hC5 hS5 hF7 => ?_)
        show jj G kRO_solve (d + 12) Q rc5 rs5 270 [some (.ref o), some (.int (nI (a))), some (.int (nI (b))), some (.int (nI (nu))), some (.int (nI (he))), some (.int (nI (n))), some (.int (nI (nb))), some (.int (nI (e))), some (.int (nI (gd))), some (.int (nI (T))), some (.int (nI (t))), some (.int (nI (k))), some (.int (-1))] [] M5
        obtain ⟨V5, hV5⟩ : ∃ V5, (V9.set (t + 2 + 2 * k) (nI p6)).set (t + 3 + 2 * k) (nI l6) = V5 := ⟨_, rfl⟩
        rw [hV5] at hC5
        have hl5 : V5.length = V9.length := by rw [← hV5, List.length_set, List.length_set]
        have hv5 : ∀ i, i < t + 2 + 2 * k ∨ t + 4 + 2 * k ≤ i → V5.getD i 0 = V9.getD i 0 := fun i hi => by rw [← hV5, gd_set_ne (by omega), gd_set_ne (by omega)]
        have hF5 := hF6.trans hF7
        have hm5 : MC D5 T5 V5 t T9 k (solF A2 rkn g n (k / nb) (k % nb)) := ⟨p6, l6, by rw [← hV5, gd_set_ne (by omega)]; exact gd_set_eq (by omega), by rw [← hV5]; exact gd_set_eq (by rw [List.length_set]; omega), hq6, g1, g2⟩
        refine jn_iinc (pc := 270) (k + 1) kRO_solve_d270 rfl (nI_1 _) ?_
        refine jj_goto (pc := 273) (tgt := 192) kRO_solve_d273 (by decide) ?_
        show jj G kRO_solve (d + 12) Q rc5 rs5 192 [some (.ref o), some (.int (nI (a))), some (.int (nI (b))), some (.int (nI (nu))), some (.int (nI (he))), some (.int (nI (n))), some (.int (nI (nb))), some (.int (nI (e))), some (.int (nI (gd))), some (.int (nI (T))), some (.int (nI (t))), some (.int (nI (k + 1))), some (.int (-1))] [] M5
        refine ih (k + 1) (by omega)  _ M5 D5 T5 V5 _ _ v6 rc5 rs5 hC5 hS5 (by omega) (by rw [Nat.succ_mul]; omega) (fun i hi => by rw [ho5 i (by omega), ho9 i hi]) (by omega) (fun i hi => by rw [hv5 i (by omega), hV9 i hi]) (by rw [hv5 _ (by omega)]; exact hr9) (by rw [hv5 _ (by omega)]; exact hc9) (hF9.trans hF5) (fun k' hk' => ?_) 
        by_cases e : k' = k
        · subst e
          exact hm5.congr (lo' := T) (Nat.le_refl _) (fun _ _ => rfl) (fun _ _ _ => rfl) t9
        · exact (hm9 k' (by omega)).congr t5 ho5 (fun i h6 h7 => hv5 i (by omega)) (Nat.le_refl _)
  exact loop (n * nb) 0 (by omega) p12 M1 D T V1 up low v2 rc1 rs1 hC1 hS1 (Nat.le_refl _) (by omega) (fun _ _ => rfl) rfl ho1 hr1 hc1 hF1 (fun k' hk' => by omega) 
/-- what is known of the echelon form of both side by side -/
def SEC (AB E : qmat) (m n N r : Nat) (p : Nat → Nat) : Prop := gjinv E m n r p ∧ rowsIn E m AB m N ∧ rowsIn AB m E m N
theorem ro_solve {a b m n nb N loa lob T s Sz E cm cv X Z X' Z' : Nat} {qa qb : Nat → Rat} {AB : qmat} {J : qmat → Nat → (Nat → Nat) → Prop} (hG : kG G) (hO : OC M o f w ca ra CA RA fi se) (hC : FC M f w vv pv V t up low P rk) (hS : RS M w D T v2 cm X Z rc rs) (hX : FXB cv V X Z X' Z') (htV : t ≤ V.length) (h1 : RI D T 1 1) (hT3 : 3 ≤ T) (hma : MX D T V t a m n loa qa) (hmb : MX D T V t b m nb lob qb) (hN : n + nb = N) (hA : ∀ i, i < m → ∀ j, j < N → AB i j = if j < n then qa (i * n + j) else qb (i * nb + (j - n))) (hqa : ∀ k, k < m * n → ZB s (qa k).num ∧ ZB s ((qa k).den : Int)) (hqb : ∀ k, k < m * nb → ZB s (qb k).num ∧ ZB s ((qb k).den : Int)) (hm : m < 64) (hn : n < 64) (hnb : nb < 64) (hP : P.length = 64) (hsz : EJ J m N s) (hJ0 : J AB 0 (fun i => i)) (hN0 : 0 < N) (hSz : Sz = (m * N + m) * (2 * s + 2)) (hs2 : 3 * s + 1 ≤ 9000) (hs3 : 2 ≤ s) (hE : E = T + Sz) (ht : t + 4 + 4 * (m * N) + 2 * (n * nb) ≤ cv) (hT : E + Sz + n * nb * (2 * s + 8) + 20000 + 100 * s + 500 ≤ cm)
    (K0 : ∀ M' vv' D' V' P' up' low' rk' X1 Z1 v2' rc' rs' Ef p, FC M' f w vv' pv V' t up' low' P' (nI rk') → RS M' w D' T v2' cm X1 Z1 rc' rs' → FXB cv V' X1 Z1 X' Z' → (∀ i, i < T → D'.getD i 0 = D.getD i 0) → (∀ i, i < t → V'.getD i 0 = V.getD i 0) → t ≤ V'.length → FF M M' f → P'.length = P.length → SEC AB Ef m n N rk' p → (¬ ∀ r' k', rk' ≤ r' → r' < m → n ≤ k' → k' < N → Ef r' k' = 0) → Q (.returned (some (.int (-1)))) M' rc' rs')
    (K : ∀ P' rk' Ef p, P'.length = P.length → SEC AB Ef m n N rk' p → (∀ r' k', rk' ≤ r' → r' < m → n ≤ k' → k' < N → Ef r' k' = 0) → (∀ a b, a < m → b < N → ZB s (Ef a b).num ∧ ZB s ((Ef a b).den : Int)) → MKP Q M f w pv D V t P' (nI rk') T cm cv X' Z' n nb (T + n * nb * (2 * s + 8)) (fun k => solF Ef rk' p n (k / nb) (k % nb))) : jj G kRO_solve (d + 12) Q rc rs 0 (jj_ent [.ref o, .int (nI a), .int (nI b)] 13) [] M := by
  have hcap := hX.cap
  have hcapD := hS.2.1.cap
  obtain ⟨ha1, ha2, ha3, ha4⟩ := id hma
  obtain ⟨hb1, hb2, hb3, hb4⟩ := id hmb
  have hmN : m * N < 64 * 1024 := Nat.mul_lt_mul_of_lt_of_le hm (by omega) (by decide)
  have hnn : n * nb < 64 * 1024 := Nat.mul_lt_mul_of_lt_of_le hn (by omega) (by decide)
  have hmS : m * N * (2 * s + 2) ≤ Sz := by rw [hSz]; exact Nat.mul_le_mul_right _ (by omega)
  obtain ⟨hW102, hB102, hTD102, hz102, hp102⟩ := id hS
  obtain ⟨dd102, hw102, hd102⟩ := id hW102
  have hcap102 := hB102.cap
  show jj G kRO_solve (d + 12) Q rc rs 0 [some (.ref o), some (.int (nI (a))), some (.int (nI (b))), none, none, none, none, none, none, none, none, none, none] [] M
  refine jj_aload_n (pc := 0) kRO_solve_d0 rfl ?_
  refine jj_getf (pc := 1) kRO_solve_d1 (kfRO_w hG) hO.1 rfl ?_
  refine jj_getf (pc := 4) kRO_solve_d4 (kfRO_RW_top hG) hw102 rfl ?_
  refine jj_istore_n (pc := 7) kRO_solve_d7 (Nat.le_of_ble_eq_true rfl) ?_
  refine jj_aload_n (pc := 8) kRO_solve_d8 rfl ?_
  refine jj_getf (pc := 9) kRO_solve_d9 (kfRO_f hG) hO.1 rfl ?_
  refine jj_getf (pc := 12) kRO_solve_d12 (kfRO_RF_top hG) hC.1 rfl ?_
  refine jj_istore (pc := 15) kRO_solve_d15 (Nat.le_of_ble_eq_true rfl) ?_
  refine jj_aload_n (pc := 17) kRO_solve_d17 rfl ?_
  refine jj_getf (pc := 18) kRO_solve_d18 (kfRO_f hG) hO.1 rfl ?_
  refine jj_iload_n (pc := 21) kRO_solve_d21 rfl ?_
  refine jj_callV (pc := 22) (b := f) (As := [.int (nI (a))]) kRO_solve_d22 (kvRO_RF_columns hG) (kG_cl hG rfl) rfl hC.1 rfl rfl rfl (Nat.le_of_ble_eq_true rfl) (Nat.le_of_ble_eq_true rfl) (jj_bare0 rfl) ?_
  refine rf_columns hG hC (by omega) (by omega) ?_
  show jj G kRO_solve (d + 12) Q rc rs 25 [some (.ref o), some (.int (nI (a))), some (.int (nI (b))), some (.int (nI (T))), some (.int (nI (t))), none, none, none, none, none, none, none, none] [.int (V.getD (a + 1) 0)] M
  refine jn_top (.int (nI (n))) (by rw [ha3]) ?_
  refine jj_istore (pc := 25) kRO_solve_d25 (Nat.le_of_ble_eq_true rfl) ?_
  refine jj_aload_n (pc := 27) kRO_solve_d27 rfl ?_
  refine jj_getf (pc := 28) kRO_solve_d28 (kfRO_f hG) hO.1 rfl ?_
  refine jj_iload_n (pc := 31) kRO_solve_d31 rfl ?_
  refine jj_callV (pc := 32) (b := f) (As := [.int (nI (b))]) kRO_solve_d32 (kvRO_RF_columns hG) (kG_cl hG rfl) rfl hC.1 rfl rfl rfl (Nat.le_of_ble_eq_true rfl) (Nat.le_of_ble_eq_true rfl) (jj_bare0 rfl) ?_
  refine rf_columns hG hC (by omega) (by omega) ?_
  show jj G kRO_solve (d + 12) Q rc rs 35 [some (.ref o), some (.int (nI (a))), some (.int (nI (b))), some (.int (nI (T))), some (.int (nI (t))), some (.int (nI (n))), none, none, none, none, none, none, none] [.int (V.getD (b + 1) 0)] M
  refine jn_top (.int (nI (nb))) (by rw [hb3]) ?_
  refine jj_istore (pc := 35) kRO_solve_d35 (Nat.le_of_ble_eq_true rfl) ?_
  refine jj_aload_n (pc := 37) kRO_solve_d37 rfl ?_
  refine jj_getf (pc := 38) kRO_solve_d38 (kfRO_f hG) hO.1 rfl ?_
  refine jj_aload_n (pc := 41) kRO_solve_d41 rfl ?_
  refine jj_getf (pc := 42) kRO_solve_d42 (kfRO_f hG) hO.1 rfl ?_
  refine jj_iload_n (pc := 45) kRO_solve_d45 rfl ?_
  refine jj_iload_n (pc := 46) kRO_solve_d46 rfl ?_
  refine jj_callV (pc := 47) (b := f) (As := [.int (nI (a)), .int (nI (b))]) kRO_solve_d47 (kvRO_RF_beside hG) (kG_cl hG rfl) rfl hC.1 rfl rfl rfl (Nat.le_of_ble_eq_true rfl) (Nat.le_of_ble_eq_true rfl) (jj_bare0 rfl) ?_
  refine rf_beside (lob := loa) (loc := lob) (s := s) (S := 2 * s + 2) hG hC hS hX htV h1 hT3 hma (by omega) (by omega) hqa hmb (by omega) (by omega) hqb rfl (by rw [hN]; omega) (by rw [hN]; omega) (fun M1 vv D1 T1 V1 up1 low1 X1 Z1 v1 rc1 rs1 hC1 hS1 hX1 t1 u1 ho1 hv1 hl1 hF1 hm1 => ?_)
  show jj G kRO_solve (d + 12) Q rc1 rs1 50 [some (.ref o), some (.int (nI (a))), some (.int (nI (b))), some (.int (nI (T))), some (.int (nI (t))), some (.int (nI (n))), some (.int (nI (nb))), none, none, none, none, none, none] [.int (nI (t)), .ref f] M1
  have hcap1 := hX1.cap
  rw [hN] at hC1 hl1 hm1 u1
  obtain ⟨te, hte⟩ : ∃ te, t + 2 + 2 * (m * N) = te := ⟨_, rfl⟩
  rw [hte] at hC1 hl1 hm1
  obtain ⟨hW103, hB103, hTD103, hz103, hp103⟩ := id hS1
  obtain ⟨dd103, hw103, hd103⟩ := id hW103
  have hcap103 := hB103.cap
  refine jj_iload_n (pc := 50) kRO_solve_d50 rfl ?_
  refine jj_iload (pc := 51) kRO_solve_d51 rfl ?_
  refine jj_callV (pc := 53) (b := f) (As := [.int (nI (t)), .int (nI (T)), .int (nI (n))]) kRO_solve_d53 (kvRO_RF_echelon hG) (kG_cl hG rfl) rfl hC1.1 rfl rfl rfl (Nat.le_of_ble_eq_true rfl) (Nat.le_of_ble_eq_true rfl) (jj_bare0 rfl) ?_
  refine rf_echelon2 (b := t) (nu := T) (m := m) (n := N) (fi := n) (s := s) (Sz := Sz) (B := fun k => k * (2 * s + 2) + (k + N - 1) / N * (2 * s + 2)) (E := E) (A := AB) (J := J) hG hC1 hS1 hX1 hl1 (h1.congr (Nat.le_refl _) ho1) hT3 t1 (hm1.congr (Nat.le_refl _) (fun _ _ => rfl) (Nat.le_refl _) (fun _ _ => rfl) (Nat.zero_le _)) (fun i hi j hj => by
      rw [hA i hi j hj]
      obtain ⟨e1, e2⟩ := at_div (i := i) hj
      try dsimp only
      rw [e1, e2]
      by_cases c : j < n
      · rw [if_pos c, if_pos c]
      · rw [if_neg c, if_neg c, Nat.add_sub_assoc (by omega)]) hm (by omega) (by omega) hP hte.symm hsz hJ0 (BQ.rows s N (m * N) hN0) (by rw [hSz]; exact BQ.rows_end s hN0) hs2 hE (by omega) (by omega) (by omega) (fun M2 vv D2 T2 V2 P2 up2 low2 rk2 g2 A2 q2 X2 Z2 v2_ rc2 rs2 hC2 hS2 hX2 t2 u2 ho2 hv2 hl2 hF2 hm2 hA2 hg2 hI2 hr2 hs2_ hP2 hp2 => ?_)
  show jj G kRO_solve (d + 12) Q rc2 rs2 56 [some (.ref o), some (.int (nI (a))), some (.int (nI (b))), some (.int (nI (T))), some (.int (nI (t))), some (.int (nI (n))), some (.int (nI (nb))), none, none, none, none, none, none] [.int (nI (t))] M2
  have hcap2 := hX2.cap
  have hF3 := hF1.trans hF2
  have hrm := hg2.1
  rw [hte] at hC2 hl2 hm2
  obtain ⟨hm21, hm22, hm23, hm24⟩ := id hm2
  have hsec : SEC AB A2 m n N rk2 g2 := ⟨hg2, hr2, hs2_⟩
  have ho20 : ∀ i, i < T → D2.getD i 0 = D.getD i 0 := fun i hi => by rw [ho2 i hi, ho1 i hi]
  have hv20 : ∀ i, i < t → V2.getD i 0 = V.getD i 0 := fun i hi => by rw [hv2 i hi, hv1 i hi]
  have hg64 : ∀ i, i < rk2 → P2.getD i 0 = nI (g2 i) ∧ g2 i < 2 ^ 31 := fun i hi => ⟨hp2 i hi, by have := hg2.2.1 i hi; omega⟩
  have hcap2D := hS2.2.1.cap
  have hTD2 := hS2.2.2.1
  have hz20 := hS2.2.2.2.1
  obtain ⟨zA, -⟩ := hsz.2 _ _ _ _ hI2 hg2 (by omega)
  refine jj_istore (pc := 56) kRO_solve_d56 (Nat.le_of_ble_eq_true rfl) ?_
  refine jn_iconst (pc := 58) 1 kRO_solve_d58 (by decide) ?_
  refine jj_istore (pc := 59) kRO_solve_d59 (Nat.le_of_ble_eq_true rfl) ?_
  refine jj_aload_n (pc := 61) kRO_solve_d61 rfl ?_
  refine jj_getf (pc := 62) kRO_solve_d62 (kfRO_f hG) (hO.ff hF3).1 rfl ?_
  refine jj_getf (pc := 65) kRO_solve_d65 (kfRO_RF_rank hG) hC2.1 rfl ?_
  refine jj_istore (pc := 68) kRO_solve_d68 (Nat.le_of_ble_eq_true rfl) ?_
  show jj G kRO_solve (d + 12) Q rc2 rs2 70 [some (.ref o), some (.int (nI (a))), some (.int (nI (b))), some (.int (nI (T))), some (.int (nI (t))), some (.int (nI (n))), some (.int (nI (nb))), some (.int (nI (t))), some (.int (nI (1))), some (.int (nI (rk2))), none, none, none] [] M2
  have k143 : ∀ (gd : Nat) (o10 : Option Value), gd ≤ 1 → (gd = 1 ↔ ∀ r' k', rk2 ≤ r' → r' < m → n ≤ k' → k' < N → A2 r' k' = 0) → jj G kRO_solve (d + 12) Q rc2 rs2 143 [some (.ref o), some (.int (nI (a))), some (.int (nI (b))), some (.int (nI (T))), some (.int (nI (t))), some (.int (nI (n))), some (.int (nI (nb))), some (.int (nI (t))), some (.int (nI (gd))), some (.int (nI (m))), (o10), none, none] [] M2 := by
    intro gd o10 hgd hiff
    obtain ⟨hW104, hB104, hTD104, hz104, hp104⟩ := id hS2
    obtain ⟨dd104, hw104, hd104⟩ := id hW104
    have hcap104 := hB104.cap
    refine jj_iload (pc := 143) kRO_solve_d143 rfl ?_
    refine jn_if_ne (pc := 145) (tgt := 167) kRO_solve_d145 (by decide) (by omega) (fun c0 => ?_) (fun c0 => ?_)
    · skip
      show jj G kRO_solve (d + 12) Q rc2 rs2 167 [some (.ref o), some (.int (nI (a))), some (.int (nI (b))), some (.int (nI (T))), some (.int (nI (t))), some (.int (nI (n))), some (.int (nI (nb))), some (.int (nI (t))), some (.int (nI (gd))), some (.int (nI (m))), (o10), none, none] [] M2
      have hal := hiff.mp (by omega)
      refine ro_solve_mid (m := m) (lob := 0) (s := s) (S := 2 * s + 8) (A2 := A2) (g := g2) (q2 := q2) hG (hO.ff hF3) hC2 hS2 hX2 hl2 (h1.congr t2 ho20) (by omega) rfl (by omega) hrm hg64 hg2.2.2.1 (by rw [hN]; exact hm2) (by rw [hN]; exact hA2) (fun k hk => by
          rw [hN] at hk
          obtain ⟨k1, k2, k3⟩ := at_back hk
          have := zA _ _ k1 k2
          rw [hA2 _ k1 _ k2, k3] at this
          exact this) hm hn hnb rfl (by omega) (by omega) (fun M5 vv D5 T5 V5 up5 low5 X5 Z5 v5 rc5 rs5 hC5 hS5 hX5 t5 u5 ho5 hv5 hl5 hF5 hm5 o12 => ?_)
      have hcap5 := hX5.cap
      show jj G kRO_solve (d + 12) Q rc5 rs5 276 [some (.ref o), some (.int (nI (a))), some (.int (nI (b))), some (.int (nI (T))), some (.int (nI (t))), some (.int (nI (n))), some (.int (nI (nb))), some (.int (nI (t))), some (.int (nI (gd))), some (.int (nI (T2))), some (.int (nI (te))), some (.int (nI (n * nb))), (o12)] [] M5
      have hF6 := hF3.trans hF5
      refine jj_aload_n (pc := 276) kRO_solve_d276 rfl ?_
      refine jj_getf (pc := 277) kRO_solve_d277 (kfRO_f hG) (hO.ff hF6).1 rfl ?_
      refine jj_iload_n (pc := 280) kRO_solve_d280 rfl ?_
      refine jj_iload (pc := 281) kRO_solve_d281 rfl ?_
      refine jj_iload (pc := 283) kRO_solve_d283 rfl ?_
      refine jj_iload (pc := 285) kRO_solve_d285 rfl ?_
      refine jj_callV (pc := 287) (b := f) (As := [.int (nI (T)), .int (nI (t)), .int (nI (T2)), .int (nI (te))]) kRO_solve_d287 (kvRO_RF_slide hG) (kG_cl hG rfl) rfl hC5.1 rfl rfl rfl (Nat.le_of_ble_eq_true rfl) (Nat.le_of_ble_eq_true rfl) (jj_bare0 rfl) ?_
      refine rf_slide hG hC5 hS5 (by omega) (by omega) hm5 (h1.congr (Nat.le_refl _) (fun i hi => by rw [ho5 i (by omega), ho20 i hi])) hT3 (by omega) t5 (by omega) (by omega) (by omega) (by omega) (fun M6 D6 T6 V6 hC6 hS6 t6 ho6 hl6 hv6 hF6' hm6 => ?_)
      show jj G kRO_solve (d + 12) Q rc5 rs5 290 [some (.ref o), some (.int (nI (a))), some (.int (nI (b))), some (.int (nI (T))), some (.int (nI (t))), some (.int (nI (n))), some (.int (nI (nb))), some (.int (nI (t))), some (.int (nI (gd))), some (.int (nI (T2))), some (.int (nI (te))), some (.int (nI (n * nb))), (o12)] [.int (nI (t))] M6
      exact jj_iret (pc := 290) kRO_solve_d290 rfl (by rfl) (K P2 rk2 A2 g2 hP2 hsec hal zA M6 vv D6 T6 V6 _ _ X5 Z5 _ rc5 rs5 hC6 hS6 (hX5.same hl6) (by omega) (by omega) (fun i hi => by rw [ho6 i hi, ho5 i (by omega), ho20 i hi]) (fun i hi => by rw [hv6 i hi, hv5 i (by omega), hv20 i hi]) (by omega) (hF6.trans hF6') hm6)
    · skip
      have hnal : ¬ ∀ r' k', rk2 ≤ r' → r' < m → n ≤ k' → k' < N → A2 r' k' = 0 := fun h => by have := hiff.mpr h; omega
      refine jj_aload_n (pc := 148) kRO_solve_d148 rfl ?_
      refine jj_getf (pc := 149) kRO_solve_d149 (kfRO_w hG) (hO.ff hF3).1 rfl ?_
      refine jj_iload_n (pc := 152) kRO_solve_d152 rfl ?_
      refine jj_putf (pc := 153) kRO_solve_d153 (kpRO_RW_top hG) hw104 (by rfl) rfl ?_
      refine jn_gen (fun M105 hM106 => ?_)
      have hf107 : RF M2 M105 w := by rw [hM106]; exact RF.top hw104
      have hS107 : RS M105 w D2 (T) v2_ cm X2 Z2 rc2 rs2 := ⟨⟨dd104, by rw [hM106]; exact jj_up_at _ _ _, by rw [hM106, jj_up_ne _ _ (fun e => by have q1 := hd104; rw [e, hw104] at q1; cases q1)]; exact hd104⟩, hB104, by omega, hz104, by omega⟩
      have hC107 := hC2.rf hf107
      have hF107 := hF3.trans (FF.ofRF hC2 hf107)
      obtain ⟨hW108, hB108, hTD108, hz108, hp108⟩ := id hS107
      obtain ⟨dd108, hw108, hd108⟩ := id hW108
      have hcap108 := hB108.cap
      refine jj_aload_n (pc := 156) kRO_solve_d156 rfl ?_
      refine jj_getf (pc := 157) kRO_solve_d157 (kfRO_f hG) (hO.ff hF107).1 rfl ?_
      refine jj_iload (pc := 160) kRO_solve_d160 rfl ?_
      refine jj_putf (pc := 162) kRO_solve_d162 (kpRO_RF_top hG) hC107.1 (by rfl) rfl ?_
      refine jn_gen (fun M109 hM110 => ?_)
      have hC111 : FC M109 f w vv pv V2 (t) (up2) (low2) P2 (nI (rk2)) := by rw [hM110]; exact hC107.putf
      have hF111 : FF M M109 f := by rw [hM110]; exact hF107.trans (FF.putf hC107)
      have hS111 : RS M109 w D2 (T) v2_ cm X2 Z2 rc2 rs2 := by rw [hM110]; exact hS107.other hC107.2.2.2.2.1
      obtain ⟨hW112, hB112, hTD112, hz112, hp112⟩ := id hS111
      obtain ⟨dd112, hw112, hd112⟩ := id hW112
      have hcap112 := hB112.cap
      refine jj_iconst (pc := 165) (v := (-1)) kRO_solve_d165 (by decide) ?_
      exact jj_iret (pc := 166) kRO_solve_d166 rfl (by rfl) (K0 M109 vv D2 V2 P2 up2 low2 rk2 X2 Z2 _ rc2 rs2 A2 g2 hC111 hS111 hX2 ho20 hv20 (by omega) hF111 hP2 hsec hnal)
  have loop : ∀ mu r, m = r + mu → rk2 ≤ r → ∀ (gd : Nat) (o10 : Option Value), gd ≤ 1 → (gd = 1 ↔ ∀ r' k', rk2 ≤ r' → r' < r → n ≤ k' → k' < N → A2 r' k' = 0) → jj G kRO_solve (d + 12) Q rc2 rs2 70 [some (.ref o), some (.int (nI (a))), some (.int (nI (b))), some (.int (nI (T))), some (.int (nI (t))), some (.int (nI (n))), some (.int (nI (nb))), some (.int (nI (t))), some (.int (nI (gd))), some (.int (nI (r))), (o10), none, none] [] M2 := by
    intro mu
    induction mu with
    | zero =>
      intro r hk hr gd o10 hgd hiff
      have e9 : m = r := by omega
      subst e9
      refine jj_iload (pc := 70) kRO_solve_d70 rfl ?_
      refine jj_aload_n (pc := 72) kRO_solve_d72 rfl ?_
      refine jj_getf (pc := 73) kRO_solve_d73 (kfRO_f hG) (hO.ff hF3).1 rfl ?_
      refine jj_iload (pc := 76) kRO_solve_d76 rfl ?_
      refine jj_callV (pc := 78) (b := f) (As := [.int (nI (t))]) kRO_solve_d78 (kvRO_RF_rows hG) (kG_cl hG rfl) rfl hC2.1 rfl rfl rfl (Nat.le_of_ble_eq_true rfl) (Nat.le_of_ble_eq_true rfl) (jj_bare0 rfl) ?_
      refine rf_rows hG hC2 (by omega) (by omega) ?_
      show jj G kRO_solve (d + 12) Q rc2 rs2 81 [some (.ref o), some (.int (nI (a))), some (.int (nI (b))), some (.int (nI (T))), some (.int (nI (t))), some (.int (nI (n))), some (.int (nI (nb))), some (.int (nI (t))), some (.int (nI (gd))), some (.int (nI (m))), (o10), none, none] [.int (V2.getD t 0), .int (nI (m))] M2
      refine jn_top (.int (nI (m))) (by rw [hm22]) ?_
      refine jn_icmp_ge (pc := 81) (tgt := 143) kRO_solve_d81 (by decide) (by omega) (by omega) (fun _ => ?_) (fun c => by exfalso; omega)
      exact k143 gd o10 hgd hiff
    | succ mu ih =>
      intro r hk hr gd o10 hgd hiff
      refine jj_iload (pc := 70) kRO_solve_d70 rfl ?_
      refine jj_aload_n (pc := 72) kRO_solve_d72 rfl ?_
      refine jj_getf (pc := 73) kRO_solve_d73 (kfRO_f hG) (hO.ff hF3).1 rfl ?_
      refine jj_iload (pc := 76) kRO_solve_d76 rfl ?_
      refine jj_callV (pc := 78) (b := f) (As := [.int (nI (t))]) kRO_solve_d78 (kvRO_RF_rows hG) (kG_cl hG rfl) rfl hC2.1 rfl rfl rfl (Nat.le_of_ble_eq_true rfl) (Nat.le_of_ble_eq_true rfl) (jj_bare0 rfl) ?_
      refine rf_rows hG hC2 (by omega) (by omega) ?_
      show jj G kRO_solve (d + 12) Q rc2 rs2 81 [some (.ref o), some (.int (nI (a))), some (.int (nI (b))), some (.int (nI (T))), some (.int (nI (t))), some (.int (nI (n))), some (.int (nI (nb))), some (.int (nI (t))), some (.int (nI (gd))), some (.int (nI (r))), (o10), none, none] [.int (V2.getD t 0), .int (nI (r))] M2
      refine jn_top (.int (nI (m))) (by rw [hm22]) ?_
      refine jn_icmp_ge (pc := 81) (tgt := 143) kRO_solve_d81 (by decide) (by omega) (by omega) (fun c => by exfalso; omega) (fun _ => ?_)
      refine jj_iload (pc := 84) kRO_solve_d84 rfl ?_
      refine jj_istore (pc := 86) kRO_solve_d86 (Nat.le_of_ble_eq_true rfl) ?_
      show jj G kRO_solve (d + 12) Q rc2 rs2 88 [some (.ref o), some (.int (nI (a))), some (.int (nI (b))), some (.int (nI (T))), some (.int (nI (t))), some (.int (nI (n))), some (.int (nI (nb))), some (.int (nI (t))), some (.int (nI (gd))), some (.int (nI (r))), some (.int (nI (n))), none, none] [] M2
      have inner : ∀ mu2 k, N = k + mu2 → n ≤ k → ∀ gd : Nat, gd ≤ 1 → (gd = 1 ↔ (∀ r' k', rk2 ≤ r' → r' < r → n ≤ k' → k' < N → A2 r' k' = 0) ∧ ∀ k', n ≤ k' → k' < k → A2 r k' = 0) → jj G kRO_solve (d + 12) Q rc2 rs2 88 [some (.ref o), some (.int (nI (a))), some (.int (nI (b))), some (.int (nI (T))), some (.int (nI (t))), some (.int (nI (n))), some (.int (nI (nb))), some (.int (nI (t))), some (.int (nI (gd))), some (.int (nI (r))), some (.int (nI (k))), none, none] [] M2 := by
        intro mu2
        induction mu2 with
        | zero =>
          intro k hk2 hnk gd hgd hiff
          have e9 : N = k := by omega
          subst e9
          refine jj_iload (pc := 88) kRO_solve_d88 rfl ?_
          refine jj_iload (pc := 90) kRO_solve_d90 rfl ?_
          refine jj_iload (pc := 92) kRO_solve_d92 rfl ?_
          refine jn_iadd (pc := 94) (N) kRO_solve_d94 hN ?_
          refine jn_icmp_ge (pc := 95) (tgt := 137) kRO_solve_d95 (by decide) (by omega) (by omega) (fun _ => ?_) (fun c => by exfalso; omega)
          refine jn_iinc (pc := 137) (r + 1) kRO_solve_d137 rfl (nI_1 _) ?_
          refine jj_goto (pc := 140) (tgt := 70) kRO_solve_d140 (by decide) ?_
          show jj G kRO_solve (d + 12) Q rc2 rs2 70 [some (.ref o), some (.int (nI (a))), some (.int (nI (b))), some (.int (nI (T))), some (.int (nI (t))), some (.int (nI (n))), some (.int (nI (nb))), some (.int (nI (t))), some (.int (nI (gd))), some (.int (nI (r + 1))), some (.int (nI (N))), none, none] [] M2
          exact ih (r + 1) (by omega) (by omega) gd _ hgd (by
              rw [hiff]
              constructor
              · intro h r' k' a1 a2 a3 a4
                by_cases e : r' = r
                · rw [e]; exact h.2 k' a3 a4
                · exact h.1 r' k' a1 (by omega) a3 a4
              · intro h
                exact ⟨fun r' k' a1 a2 a3 a4 => h r' k' a1 (by omega) a3 a4, fun k' a3 a4 => h r k' hr (by omega) a3 a4⟩)
        | succ mu2 ih2 =>
          intro k hk2 hnk gd hgd hiff
          obtain ⟨pn, hpn⟩ : ∃ pn, r * N = pn := ⟨_, rfl⟩
          obtain ⟨ix, hix⟩ : ∃ ix, pn + k = ix := ⟨_, rfl⟩
          have hil : ix < m * N := by rw [← hix, ← hpn]; exact cell_lt (by omega) (by omega)
          obtain ⟨pp, lp, a1, a2, a3, -⟩ := hm24 ix hil
          have hAx : A2 r k = q2 ix := by rw [hA2 r (by omega) k (by omega), hpn, hix]
          have lpp := a3.1.lt
          refine jj_iload (pc := 88) kRO_solve_d88 rfl ?_
          refine jj_iload (pc := 90) kRO_solve_d90 rfl ?_
          refine jj_iload (pc := 92) kRO_solve_d92 rfl ?_
          refine jn_iadd (pc := 94) (N) kRO_solve_d94 hN ?_
          refine jn_icmp_ge (pc := 95) (tgt := 137) kRO_solve_d95 (by decide) (by omega) (by omega) (fun c => by exfalso; omega) (fun _ => ?_)
          refine jj_iload (pc := 98) kRO_solve_d98 rfl ?_
          refine jj_aload_n (pc := 100) kRO_solve_d100 rfl ?_
          refine jj_getf (pc := 101) kRO_solve_d101 (kfRO_f hG) (hO.ff hF3).1 rfl ?_
          refine jj_iload (pc := 104) kRO_solve_d104 rfl ?_
          refine jj_iload (pc := 106) kRO_solve_d106 rfl ?_
          refine jj_iload (pc := 108) kRO_solve_d108 rfl ?_
          refine jj_iload (pc := 110) kRO_solve_d110 rfl ?_
          refine jn_iadd (pc := 112) (N) kRO_solve_d112 hN ?_
          refine jn_imul (pc := 113) (pn) kRO_solve_d113 hpn ?_
          refine jj_iload (pc := 114) kRO_solve_d114 rfl ?_
          refine jn_iadd (pc := 116) (ix) kRO_solve_d116 hix ?_
          refine jj_callV (pc := 117) (b := f) (As := [.int (nI (t)), .int (nI (ix))]) kRO_solve_d117 (kvRO_RF_upper hG) (kG_cl hG rfl) rfl hC2.1 rfl rfl rfl (Nat.le_of_ble_eq_true rfl) (Nat.le_of_ble_eq_true rfl) (jj_bare0 rfl) ?_
          refine rf_upper hG hC2 (by omega) (by omega) ?_
          show jj G kRO_solve (d + 12) Q rc2 rs2 120 [some (.ref o), some (.int (nI (a))), some (.int (nI (b))), some (.int (nI (T))), some (.int (nI (t))), some (.int (nI (n))), some (.int (nI (nb))), some (.int (nI (t))), some (.int (nI (gd))), some (.int (nI (r))), some (.int (nI (k))), none, none] [.int (V2.getD (t + 2 + 2 * ix) 0), .int (nI (gd))] M2
          refine jn_top (.int (nI (pp))) (by rw [a1]) ?_
          refine jn_if_ne (pc := 120) (tgt := 127) kRO_solve_d120 (by decide) (by omega) (fun c3 => ?_) (fun c3 => ?_)
          · skip
            have hx0 : A2 r k ≠ 0 := fun e => by have h9 := a3.1; rw [← hAx, e] at h9; have := RI.p0 h9; omega
            refine jn_iconst (pc := 127) 0 kRO_solve_d127 (by decide) ?_
            refine jj_iand (pc := 128) kRO_solve_d128 ?_
            refine jn_top (.int (nI (0))) (by rcases (show gd = 0 ∨ gd = 1 by omega) with e | e <;> rw [e] <;> decide) ?_
            refine jj_istore (pc := 129) kRO_solve_d129 (Nat.le_of_ble_eq_true rfl) ?_
            refine jn_iinc (pc := 131) (k + 1) kRO_solve_d131 rfl (nI_1 _) ?_
            refine jj_goto (pc := 134) (tgt := 88) kRO_solve_d134 (by decide) ?_
            show jj G kRO_solve (d + 12) Q rc2 rs2 88 [some (.ref o), some (.int (nI (a))), some (.int (nI (b))), some (.int (nI (T))), some (.int (nI (t))), some (.int (nI (n))), some (.int (nI (nb))), some (.int (nI (t))), some (.int (nI (0))), some (.int (nI (r))), some (.int (nI (k + 1))), none, none] [] M2
            exact ih2 (k + 1) (by omega) (by omega) 0 (by omega) (by
                constructor
                · intro e; omega
                · intro h; exact absurd (h.2 k hnk (by omega)) hx0)
          · skip
            have hx0 : A2 r k = 0 := by rw [hAx]; exact Rat.num_eq_zero.mp (by have h9 := a3.1; rw [show pp = 0 by omega] at h9; exact h9.z0 hz20 (by omega))
            refine jn_iconst (pc := 123) 1 kRO_solve_d123 (by decide) ?_
            refine jj_goto (pc := 124) (tgt := 128) kRO_solve_d124 (by decide) ?_
            refine jj_iand (pc := 128) kRO_solve_d128 ?_
            refine jn_top (.int (nI (gd))) (by rcases (show gd = 0 ∨ gd = 1 by omega) with e | e <;> rw [e] <;> decide) ?_
            refine jj_istore (pc := 129) kRO_solve_d129 (Nat.le_of_ble_eq_true rfl) ?_
            refine jn_iinc (pc := 131) (k + 1) kRO_solve_d131 rfl (nI_1 _) ?_
            refine jj_goto (pc := 134) (tgt := 88) kRO_solve_d134 (by decide) ?_
            show jj G kRO_solve (d + 12) Q rc2 rs2 88 [some (.ref o), some (.int (nI (a))), some (.int (nI (b))), some (.int (nI (T))), some (.int (nI (t))), some (.int (nI (n))), some (.int (nI (nb))), some (.int (nI (t))), some (.int (nI (gd))), some (.int (nI (r))), some (.int (nI (k + 1))), none, none] [] M2
            exact ih2 (k + 1) (by omega) (by omega) gd hgd (by
                rw [hiff]
                constructor
                · intro h
                  refine ⟨h.1, fun k' b1 b2 => ?_⟩
                  by_cases e : k' = k
                  · rw [e]; exact hx0
                  · exact h.2 k' b1 (by omega)
                · intro h
                  exact ⟨h.1, fun k' b1 b2 => h.2 k' b1 (by omega)⟩)
      exact inner nb n (by omega) (Nat.le_refl _) gd hgd (by
          rw [hiff]
          constructor
          · intro h; exact ⟨h, fun k' b1 b2 => by omega⟩
          · intro h; exact h.1)
  exact loop (m - rk2) rk2 (by omega) (Nat.le_refl _) 1 _ (by omega) ⟨fun _ r' k' b1 b2 => by omega, fun _ => rfl⟩
end RO3
