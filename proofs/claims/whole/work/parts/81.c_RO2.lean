/-! ===== Forms.kernel (printed by wip/gen/ro2.py) ===== -/
theorem EJ.ofKI {W : qmat} {r n f B s : Nat} (hB : ∀ y : Nat → Nat, (∀ k, k < r → y k < n) → zle B (det r (fun a c => W a (y c)))) (hB1 : 1 ≤ B) (hs : B < 32768 ^ s) : EJ (fun K _ _ => KI W r n f K) f n s := by
  refine ⟨fun A' c rk p g h hg hc hp hpm h0 => h.step hp hpm hc h0, fun A' c rk g h hg hc => ⟨fun i j hi hj => ?_, fun hcn o p ho hp hpm h0 => ?_⟩⟩
  · obtain ⟨h1, h2⟩ := h.size hB hB1 hi hj
    exact ⟨ZB.of_le h1 hs, ZB.of_le (by omega) hs⟩
  · obtain ⟨h1, h2⟩ := h.factor hB hB1 ho hpm hcn h0
    exact ⟨ZB.of_le h1 hs, ZB.of_le (by omega) hs⟩
/-- rows of A are made of the rows not 0 of its echelon form -/
theorem rowsIn_cut {A B : qmat} {m s r n : Nat} (h : rowsIn A m B s n) (hr : r ≤ s) (h0 : ∀ i, r ≤ i → i < s → ∀ j, j < n → B i j = 0) : rowsIn A m B r n := by
  intro i hi
  obtain ⟨c, hc⟩ := h i hi
  refine ⟨c, fun j hj => ?_⟩
  rw [hc j hj]
  have main : ∀ s, r ≤ s → (∀ i, r ≤ i → i < s → B i j = 0) → qsum (fun k => c k * B k j) s = qsum (fun k => c k * B k j) r := by
    intro s
    induction s with
    | zero => intro h1 _; rw [show r = 0 by omega]
    | succ s ih =>
      intro h1 h2
      by_cases e : r = s + 1
      · rw [e]
      · show qsum (fun k => c k * B k j) s + c s * B s j = _
        rw [ih (by omega) (fun i a b => h2 i a (by omega)), h2 s (by omega) (by omega)]
        grind
  exact main s hr (fun i a b => h0 i a b j hj)
theorem rowsIn_sub {A B : qmat} {m s r n : Nat} (h : rowsIn A m B s n) (hr : r ≤ m) : rowsIn A r B s n := fun i hi => h i (by omega)
section RO2
variable {G : jg} {d : Nat} {Q : jq} {rc rs : Nat} {M : mheap} {o f w vv pv ca ra : Nat} {v2 : Value} {D V P CA RA : List Int32} {t : Nat} {up low rk fi se : Int32}
/-- what is known of the echelon form behind which the kernel stands -/
def KEC (A E : qmat) (m n r f : Nat) (p q : Nat → Nat) : Prop := rref E n r p ∧ rowsIn A m E r n ∧ rowsIn E r A m n ∧ parts2 n r f p q ∧ f + r = n
theorem ro_kernel {a m n loa T s S E b0 wb Km cm cv X Z X' Z' : Nat} {q : Nat → Rat} {A W : qmat} {wt : Nat → Rat} (hG : kG G) (hO : OC M o f w ca ra CA RA fi se) (hC : FC M f w vv pv V t up low P rk) (hS : RS M w D T v2 cm X Z rc rs) (hX : FXB cv V X Z X' Z') (htV : t ≤ V.length) (h1 : RI D T 1 1) (hT3 : 3 ≤ T) (hb : MX D T V t a m n loa q) (hA : ∀ i, i < m → ∀ j, j < n → A i j = q (i * n + j)) (hm : m < 64) (hn : n < 64) (hm1 : 1 ≤ m) (hn1 : 1 ≤ n) (hP : P.length = 64) (hW : ∀ i, i < m → ∀ j, j < n → W i j = wt i * A i j) (hWb : ∀ i, i < m → ∀ j, j < n → zle b0 (W i j)) (hw : ∀ i, i < m → zle wb (wt i) ∧ wt i ≠ 0) (hb0 : 1 ≤ b0) (hwb : 1 ≤ wb) (hKm : Km = min m n) (hss : (Km * b0) ^ Km * wb < 32768 ^ s) (hs : S = 4 * s + 8) (hs2 : 3 * s + 1 ≤ 9000) (hs3 : 2 ≤ s) (hE : E = T + m * n * S + n * n * S) (ht : t + 8 + 4 * (m * n) + 4 * (n * n) ≤ cv) (hT : E + m * n * S + n * n * S + 20000 + 100 * s + 500 ≤ cm)
    (K0 : ∀ M' vv' D' V' P' up' low' rk' X1 Z1 v2' rc' rs' Ef p q, FC M' f w vv' pv V' t up' low' P' rk' → RS M' w D' T v2' cm X1 Z1 rc' rs' → FXB cv V' X1 Z1 X' Z' → (∀ i, i < T → D'.getD i 0 = D.getD i 0) → (∀ i, i < t → V'.getD i 0 = V.getD i 0) → t ≤ V'.length → FF M M' f → P'.length = P.length → KEC A Ef m n n 0 p q → Q (.returned (some (.int (-1)))) M' rc' rs')
    (K : ∀ Ef r f' p q W', KEC A Ef m n r f' p q → 0 < f' → EJ (fun K _ _ => KI W' r n f' K) f' n s → ∀ P', P'.length = P.length → ECK Q M f w pv D V P' t T f' n n cm cv X' Z' E (kerF Ef r p q) (fun K _ _ => KI W' r n f' K)) : jj G kRO_kernel (d + 13) Q rc rs 0 (jj_ent [.ref o, .int (nI a)] 14) [] M := by
  have hcap := hX.cap
  have hcapD := hS.2.1.cap
  obtain ⟨hb1, hb2, hb3, hb4⟩ := id hb
  have hesz : ESZ W wt m n s := ESZ.of hWb hw hKm hb0 hwb hss
  have hmn : m * n < 64 * 1024 := Nat.mul_lt_mul_of_lt_of_le hm (by omega) (by decide)
  have hnn : n * n < 64 * 1024 := Nat.mul_lt_mul_of_lt_of_le hn (by omega) (by decide)
  have hmS := Nat.mul_le_mul_left (m * n) (show 4 * s + 4 ≤ S by omega)
  obtain ⟨hW101, hB101, hTD101, hz101, hp101⟩ := id hS
  obtain ⟨dd101, hw101, hd101⟩ := id hW101
  have hcap101 := hB101.cap
  show jj G kRO_kernel (d + 13) Q rc rs 0 [some (.ref o), some (.int (nI (a))), none, none, none, none, none, none, none, none, none, none, none, none] [] M
  refine jj_aload_n (pc := 0) kRO_kernel_d0 rfl ?_
  refine jj_getf (pc := 1) kRO_kernel_d1 (kfRO_w hG) hO.1 rfl ?_
  refine jj_getf (pc := 4) kRO_kernel_d4 (kfRO_RW_top hG) hw101 rfl ?_
  refine jj_istore_n (pc := 7) kRO_kernel_d7 (Nat.le_of_ble_eq_true rfl) ?_
  refine jj_aload_n (pc := 8) kRO_kernel_d8 rfl ?_
  refine jj_getf (pc := 9) kRO_kernel_d9 (kfRO_f hG) hO.1 rfl ?_
  refine jj_getf (pc := 12) kRO_kernel_d12 (kfRO_RF_top hG) hC.1 rfl ?_
  refine jj_istore_n (pc := 15) kRO_kernel_d15 (Nat.le_of_ble_eq_true rfl) ?_
  refine jj_aload_n (pc := 16) kRO_kernel_d16 rfl ?_
  refine jj_getf (pc := 17) kRO_kernel_d17 (kfRO_f hG) hO.1 rfl ?_
  refine jj_iload_n (pc := 20) kRO_kernel_d20 rfl ?_
  refine jj_callV (pc := 21) (b := f) (As := [.int (nI (a))]) kRO_kernel_d21 (kvRO_RF_columns hG) (kG_cl hG rfl) rfl hC.1 rfl rfl rfl (Nat.le_of_ble_eq_true rfl) (Nat.le_of_ble_eq_true rfl) (jj_bare0 rfl) ?_
  refine rf_columns hG hC (by omega) (by omega) ?_
  show jj G kRO_kernel (d + 13) Q rc rs 24 [some (.ref o), some (.int (nI (a))), some (.int (nI (T))), some (.int (nI (t))), none, none, none, none, none, none, none, none, none, none] [.int (V.getD (a + 1) 0)] M
  refine jn_top (.int (nI (n))) (by rw [hb3]) ?_
  refine jj_istore (pc := 24) kRO_kernel_d24 (Nat.le_of_ble_eq_true rfl) ?_
  refine jj_aload_n (pc := 26) kRO_kernel_d26 rfl ?_
  refine jj_iload_n (pc := 27) kRO_kernel_d27 rfl ?_
  refine jj_callV (pc := 28) (b := o) (As := [.int (nI (a))]) kRO_kernel_d28 (kvRO_RO_echelon hG) (kG_cl hG rfl) rfl hO.1 rfl rfl rfl (Nat.le_of_ble_eq_true rfl) (Nat.le_of_ble_eq_true rfl) (jj_bare0 rfl) ?_
  refine ro_echelon (loa := loa) (m := m) (n := n) (s := s) (S := 4 * s + 4) (E := T + m * n * (4 * s + 4)) (A := A) (J := (fun A' rk g => ∃ x, GI W wt A' m n rk x g)) hG hO hC hS hX htV h1 hT3 hb hA hm hn hP (EJ.ofESZ hesz (fun i hi => (hw i hi).2)) ⟨fun i => i, GI_start hW⟩ rfl hs2 rfl (by omega) (by omega) (fun M2 vv D2 T2 V2 P2 up2 low2 rk2 g2 A2 q2 X2 Z2 v2_ rc2 rs2 hC2 hS2 hX2 t2 u2 ho2 hv2 hl2 hF2 hm2 hA2 hg2 hI2 hr2 hs2_ hP2 hp2 => ?_)
  show jj G kRO_kernel (d + 13) Q rc2 rs2 31 [some (.ref o), some (.int (nI (a))), some (.int (nI (T))), some (.int (nI (t))), some (.int (nI (n))), none, none, none, none, none, none, none, none, none] [.int (nI (t))] M2
  have hcap2 := hX2.cap
  obtain ⟨x2, hI2⟩ := hI2
  have hrk := gjinv_le hg2
  obtain ⟨fr, qf, hfr, hpt⟩ := free_parts hg2.2.2.1 hg2.2.1
  have hrr := gjinv_rref hg2
  have hrm := hg2.1
  have hkec : KEC A A2 m n rk2 fr g2 qf := ⟨hrr, rowsIn_cut hs2_ hrm (fun i a b j hj => hg2.2.2.2.2.2.2 i a b j hj), rowsIn_sub hr2 hrm, hpt, hfr⟩
  have hg64 : ∀ i, i < rk2 → P2.getD i 0 = nI (g2 i) ∧ g2 i < 2 ^ 31 := fun i hi => ⟨hp2 i hi, by have := hg2.2.1 i hi; omega⟩
  obtain ⟨tk, htk⟩ : ∃ tk, t + 2 + 2 * (m * n) = tk := ⟨_, rfl⟩
  rw [htk] at hC2 hl2 hm2
  obtain ⟨hW102, hB102, hTD102, hz102, hp102⟩ := id hS2
  obtain ⟨dd102, hw102, hd102⟩ := id hW102
  have hcap102 := hB102.cap
  refine jj_istore (pc := 31) kRO_kernel_d31 (Nat.le_of_ble_eq_true rfl) ?_
  refine jj_iload (pc := 33) kRO_kernel_d33 rfl ?_
  refine jj_aload_n (pc := 35) kRO_kernel_d35 rfl ?_
  refine jj_getf (pc := 36) kRO_kernel_d36 (kfRO_f hG) (hO.ff hF2).1 rfl ?_
  refine jj_getf (pc := 39) kRO_kernel_d39 (kfRO_RF_rank hG) hC2.1 rfl ?_
  refine jn_isub (pc := 42) (fr) kRO_kernel_d42 (by omega) ?_
  refine jj_istore (pc := 43) kRO_kernel_d43 (Nat.le_of_ble_eq_true rfl) ?_
  refine jj_iload (pc := 45) kRO_kernel_d45 rfl ?_
  refine jn_if_ne (pc := 47) (tgt := 68) kRO_kernel_d47 (by decide) (by omega) (fun c0 => ?_) (fun c0 => ?_)
  · skip
    obtain ⟨hm21, hm22, hm23, hm24⟩ := id hm2
    have hfn : fr * n ≤ n * n := Nat.mul_le_mul_right _ (by omega)
    have hfS := Nat.mul_le_mul_right (2 * s + 8) hfn
    have hnS := Nat.mul_le_mul_left (n * n) (show 2 * s + 8 ≤ S by omega)
    have hnS2 := Nat.mul_le_mul_left (n * n) (show 4 * s + 4 ≤ S by omega)
    have hfS2 := Nat.mul_le_mul_right (4 * s + 4) hfn
    obtain ⟨zA, -⟩ := hesz _ _ _ _ _ hI2 hg2 (Nat.le_refl _)
    refine jj_aload_n (pc := 68) kRO_kernel_d68 rfl ?_
    refine jj_getf (pc := 69) kRO_kernel_d69 (kfRO_w hG) (hO.ff hF2).1 rfl ?_
    refine jj_getf (pc := 72) kRO_kernel_d72 (kfRO_RW_top hG) hw102 rfl ?_
    refine jj_istore (pc := 75) kRO_kernel_d75 (Nat.le_of_ble_eq_true rfl) ?_
    refine jj_aload_n (pc := 77) kRO_kernel_d77 rfl ?_
    refine jj_getf (pc := 78) kRO_kernel_d78 (kfRO_f hG) (hO.ff hF2).1 rfl ?_
    refine jj_iload (pc := 81) kRO_kernel_d81 rfl ?_
    refine jj_iload (pc := 83) kRO_kernel_d83 rfl ?_
    refine jj_callV (pc := 85) (b := f) (As := [.int (nI (fr)), .int (nI (n))]) kRO_kernel_d85 (kvRO_RF_make hG) (kG_cl hG rfl) rfl hC2.1 rfl rfl rfl (Nat.le_of_ble_eq_true rfl) (Nat.le_of_ble_eq_true rfl) (jj_bare0 rfl) ?_
    refine rf_make (r := fr) (c := n) hG hC2 hS2 hX2 hl2 (by omega) (by omega) (by omega) (fun M3 vv V3 X3 Z3 rc3 rs3 hC3 hS3 hX3 hl3 hr3 hc3 ho3 hF3 => ?_)
    show jj G kRO_kernel (d + 13) Q rc3 rs3 88 [some (.ref o), some (.int (nI (a))), some (.int (nI (T))), some (.int (nI (t))), some (.int (nI (n))), some (.int (nI (t))), some (.int (nI (fr))), some (.int (nI (T2))), none, none, none, none, none, none] [.int (nI (tk))] M3
    have hcap3 := hX3.cap
    have hF4 := hF2.trans hF3
    obtain ⟨tz, htz⟩ : ∃ tz, tk + 2 + 2 * (fr * n) = tz := ⟨_, rfl⟩
    rw [htz] at hC3 hl3
    refine jj_istore (pc := 88) kRO_kernel_d88 (Nat.le_of_ble_eq_true rfl) ?_
    refine jn_iconst (pc := 90) 0 kRO_kernel_d90 (by decide) ?_
    refine jj_istore (pc := 91) kRO_kernel_d91 (Nat.le_of_ble_eq_true rfl) ?_
    refine jn_iconst (pc := 93) 0 kRO_kernel_d93 (by decide) ?_
    refine jj_istore (pc := 94) kRO_kernel_d94 (Nat.le_of_ble_eq_true rfl) ?_
    show jj G kRO_kernel (d + 13) Q rc3 rs3 96 [some (.ref o), some (.int (nI (a))), some (.int (nI (T))), some (.int (nI (t))), some (.int (nI (n))), some (.int (nI (t))), some (.int (nI (fr))), some (.int (nI (T2))), some (.int (nI (tk))), some (.int (nI (0))), some (.int (nI (0))), none, none, none] [] M3
    have loop : ∀ mu c, n = c + mu → ∀ row, row ≤ fr → (∀ i, i < row → qf i < c) → (∀ i, row ≤ i → i < fr → c ≤ qf i) → ∀ (o11 o12 o13 : Option Value) (M9 : mheap) (D9 : List Int32) (T9 : Nat) (V9 : List Int32) (up9 low9 : Int32) (v9 : Value) (rc9 rs9 : Nat), FC M9 f w vv pv V9 tz up9 low9 P2 (nI rk2) → RS M9 w D9 T9 v9 cm X3 Z3 rc9 rs9 → T2 ≤ T9 → T9 ≤ T2 + (row * n) * (2 * s + 8) → (∀ i, i < T2 → D9.getD i 0 = D2.getD i 0) → V9.length = V3.length → (∀ i, i < tk → V9.getD i 0 = V2.getD i 0) → V9.getD tk 0 = nI fr → V9.getD (tk + 1) 0 = nI n → FF M M9 f → (∀ k', k' < row * n → MC D9 T9 V9 tk T2 k' (kerF A2 rk2 g2 qf (k' / n) (k' % n))) → jj G kRO_kernel (d + 13) Q rc9 rs9 96 [some (.ref o), some (.int (nI (a))), some (.int (nI (T))), some (.int (nI (t))), some (.int (nI (n))), some (.int (nI (t))), some (.int (nI (fr))), some (.int (nI (T2))), some (.int (nI (tk))), some (.int (nI (row))), some (.int (nI (c))), (o11), (o12), (o13)] [] M9 := by
      intro mu
      induction mu with
      | zero =>
        intro c hk row hrow hq1 hq2 o11 o12 o13 M9 D9 T9 V9 up9 low9 v9 rc9 rs9 hC9 hS9 t9 u9 ho9 hlen9 hV9 hr9 hc9 hF9 hm9
        have e9 : n = c := by omega
        subst e9
        have e8 : row = fr := by
          rcases Nat.lt_or_ge row fr with g | g
          · have h1' := hq2 row (Nat.le_refl _) g
            have h2' := hpt.2.2.1 row g
            omega
          · omega
        subst e8
        have hmK : MX D9 T9 V9 tz tk row n T2 (fun k => kerF A2 rk2 g2 qf (k / n) (k % n)) := ⟨by omega, hr9, hc9, fun k hk => hm9 k hk⟩
        have ho90 : ∀ i, i < T → D9.getD i 0 = D.getD i 0 := fun i hi => by rw [ho9 i (by omega), ho2 i hi]
        have hv90 : ∀ i, i < t → V9.getD i 0 = V.getD i 0 := fun i hi => by rw [hV9 i (by omega), hv2 i hi]
        refine jj_iload (pc := 96) kRO_kernel_d96 rfl ?_
        refine jj_iload (pc := 98) kRO_kernel_d98 rfl ?_
        refine jn_icmp_ge (pc := 100) (tgt := 271) kRO_kernel_d100 (by decide) (by omega) (by omega) (fun _ => ?_) (fun c => by exfalso; omega)
        refine jj_aload_n (pc := 271) kRO_kernel_d271 rfl ?_
        refine jj_getf (pc := 272) kRO_kernel_d272 (kfRO_f hG) (hO.ff hF9).1 rfl ?_
        refine jj_iload_n (pc := 275) kRO_kernel_d275 rfl ?_
        refine jj_iload_n (pc := 276) kRO_kernel_d276 rfl ?_
        refine jj_iload (pc := 277) kRO_kernel_d277 rfl ?_
        refine jj_iload (pc := 279) kRO_kernel_d279 rfl ?_
        refine jj_callV (pc := 281) (b := f) (As := [.int (nI (T)), .int (nI (t)), .int (nI (T2)), .int (nI (tk))]) kRO_kernel_d281 (kvRO_RF_slide hG) (kG_cl hG rfl) rfl hC9.1 rfl rfl rfl (Nat.le_of_ble_eq_true rfl) (Nat.le_of_ble_eq_true rfl) (jj_bare0 rfl) ?_
        refine rf_slide hG hC9 hS9 (by omega) (by omega) hmK (h1.congr (Nat.le_refl _) ho90) hT3 (by omega) t9 (by omega) (by omega) (by omega) (by omega) (fun M4 D4 T4 V4 hC4 hS4 t4 ho4 hl4 hv4 hF4' hm4 => ?_)
        show jj G kRO_kernel (d + 13) Q rc9 rs9 284 [some (.ref o), some (.int (nI (a))), some (.int (nI (T))), some (.int (nI (t))), some (.int (nI (n))), some (.int (nI (t))), some (.int (nI (row))), some (.int (nI (T2))), some (.int (nI (tk))), some (.int (nI (row))), some (.int (nI (n))), (o11), (o12), (o13)] [.int (nI (t))] M4
        have hF5 := hF9.trans hF4'
        obtain ⟨t4x, ht4x⟩ : ∃ t4x, t + 2 + 2 * (row * n) = t4x := ⟨_, rfl⟩
        rw [ht4x] at hC4 hm4
        obtain ⟨B, hBd⟩ : ∃ B, (Km * b0) ^ Km = B := ⟨_, rfl⟩
        rw [hBd] at hss
        have hB1 : 1 ≤ B := by rw [← hBd]; exact Nat.pow_pos (Nat.mul_pos (by omega) hb0)
        have hBs : B < 32768 ^ s := Nat.lt_of_le_of_lt (Nat.le_mul_of_pos_right _ hwb) hss
        have hBz : ∀ y : Nat → Nat, (∀ k, k < rk2 → y k < n) → zle B (det rk2 (fun a c => (fun a => W (x2 a)) a (y c))) := fun y hy => by
          have hKr : rk2 ≤ Km := by omega
          have := zle_det (K := Km) (b := b0) (M := fun a c => W (x2 a) (y c)) hKr (fun i hi j hj => hWb _ (hI2.2.1 i (by omega)) _ (hy j hj))
          refine zle_mono this ?_
          rw [← hBd]
          exact Nat.pow_le_pow_right (Nat.mul_pos (by omega) hb0) hKr
        have hWr : rowsIn (fun a => W (x2 a)) rk2 A2 rk2 n := by
          intro i hi
          have hxi := hI2.2.1 i (by omega)
          obtain ⟨cc, hcc⟩ := hkec.2.1 _ hxi
          refine ⟨fun k => wt (x2 i) * cc k, fun j hj => ?_⟩
          show W (x2 i) j = _
          rw [hW _ hxi j hj, hcc j hj, qsum_mul]
          exact qsum_congr (fun k _ => by grind)
        have hKS := KI_start hrr hpt hWr hI2.2.2.2.2
        have hej : EJ (fun K _ _ => KI (fun a => W (x2 a)) rk2 n row K) row n s := EJ.ofKI hBz hB1 hBs
        have hrS := Nat.mul_le_mul_left (row * n) (show 2 * s + 8 ≤ 4 * s + 4 by omega)
        refine jj_istore (pc := 284) kRO_kernel_d284 (Nat.le_of_ble_eq_true rfl) ?_
        refine jj_aload_n (pc := 286) kRO_kernel_d286 rfl ?_
        refine jj_getf (pc := 287) kRO_kernel_d287 (kfRO_f hG) (hO.ff hF5).1 rfl ?_
        refine jj_iload (pc := 290) kRO_kernel_d290 rfl ?_
        refine jj_iload_n (pc := 292) kRO_kernel_d292 rfl ?_
        refine jj_iload (pc := 293) kRO_kernel_d293 rfl ?_
        refine jj_callV (pc := 295) (b := f) (As := [.int (nI (t)), .int (nI (T)), .int (nI (n))]) kRO_kernel_d295 (kvRO_RF_echelon hG) (kG_cl hG rfl) rfl hC4.1 rfl rfl rfl (Nat.le_of_ble_eq_true rfl) (Nat.le_of_ble_eq_true rfl) (jj_bare0 rfl) ?_
        refine rf_echelon (b := t) (nu := T) (m := row) (n := n) (s := s) (S := 4 * s + 4) (E := T + row * n * (4 * s + 4)) (A := kerF A2 rk2 g2 qf) (J := fun K _ _ => KI (fun a => W (x2 a)) rk2 n row K) hG hC4 hS4 (hX3.same (by omega)) (by omega) (h1.congr (Nat.le_refl _) (fun i hi => by rw [ho4 i hi, ho90 i hi])) hT3 (by omega) (hm4.congr (Nat.le_refl _) (fun _ _ => rfl) (Nat.le_refl _) (fun _ _ => rfl) (Nat.zero_le _)) (fun i hi j hj => by rw [(at_div hj).1, (at_div hj).2]) (by omega) (by omega) (Nat.le_refl _) (by omega) ht4x.symm hej hKS rfl hs2 rfl (by omega) (by omega) (by omega) (fun M5 vv D5 T5 V5 P5 up5 low5 rk5 g5 A5 q5 X5 Z5 v5 rc5 rs5 hC5 hS5 hX5 t5 u5 ho5 hv5 hl5 hF5_ hm5 hA5 hg5 hI5 hr5 hs5 hP5 hp5 => ?_)
        show jj G kRO_kernel (d + 13) Q rc5 rs5 298 [some (.ref o), some (.int (nI (a))), some (.int (nI (T))), some (.int (nI (t))), some (.int (nI (n))), some (.int (nI (t))), some (.int (nI (row))), some (.int (nI (T2))), some (.int (nI (tk))), some (.int (nI (row))), some (.int (nI (t))), (o11), (o12), (o13)] [.int (nI (t))] M5
        exact jj_iret (pc := 298) kRO_kernel_d298 rfl (by rfl) (K A2 rk2 row g2 qf _ hkec (by omega) hej P2 hP2 M5 vv D5 T5 V5 P5 up5 low5 rk5 g5 A5 q5 X5 Z5 v5 rc5 rs5 hC5 hS5 hX5 t5 (by omega) (fun i hi => by rw [ho5 i hi, ho4 i hi, ho90 i hi]) (fun i hi => by rw [hv5 i hi, hv4 i hi, hv90 i hi]) hl5 (hF5.trans hF5_) hm5 hA5 hg5 hI5 hr5 hs5 hP5 hp5)
      | succ mu ih =>
        intro c hk row hrow hq1 hq2 o11 o12 o13 M9 D9 T9 V9 up9 low9 v9 rc9 rs9 hC9 hS9 t9 u9 ho9 hlen9 hV9 hr9 hc9 hF9 hm9
        have hPl : P2.length = 64 := by omega
        refine jj_iload (pc := 96) kRO_kernel_d96 rfl ?_
        refine jj_iload (pc := 98) kRO_kernel_d98 rfl ?_
        refine jn_icmp_ge (pc := 100) (tgt := 271) kRO_kernel_d100 (by decide) (by omega) (by omega) (fun c => by exfalso; omega) (fun _ => ?_)
        refine jj_aload_n (pc := 103) kRO_kernel_d103 rfl ?_
        refine jj_iload (pc := 104) kRO_kernel_d104 rfl ?_
        refine jj_callV (pc := 106) (b := o) (As := [.int (nI (c))]) kRO_kernel_d106 (kvRO_RO_pivotOf hG) (kG_cl hG rfl) rfl (hO.ff hF9).1 rfl rfl rfl (Nat.le_of_ble_eq_true rfl) (Nat.le_of_ble_eq_true rfl) (jj_bare0 rfl) ?_
        refine ro_pivotOf (g := g2) hG (hO.ff hF9) hC9 hPl (by omega) (by omega) hg64 (fun pr hpr epr => ?_) (fun hnp => ?_)
        · skip
          show jj G kRO_kernel (d + 13) Q rc9 rs9 109 [some (.ref o), some (.int (nI (a))), some (.int (nI (T))), some (.int (nI (t))), some (.int (nI (n))), some (.int (nI (t))), some (.int (nI (fr))), some (.int (nI (T2))), some (.int (nI (tk))), some (.int (nI (row))), some (.int (nI (c))), (o11), (o12), (o13)] [.int (nI (pr))] M9
          refine jz_if_lt (pc := 109) (tgt := 115) (a := ((pr : Nat) : Int)) kRO_kernel_d109 (by decide) (zI_nat _).symm (by omega) (by omega) (fun c => by exfalso; omega) (fun _ => ?_)
          refine jj_goto (pc := 112) (tgt := 265) kRO_kernel_d112 (by decide) ?_
          refine jn_iinc (pc := 265) (c + 1) kRO_kernel_d265 rfl (nI_1 _) ?_
          refine jj_goto (pc := 268) (tgt := 96) kRO_kernel_d268 (by decide) ?_
          show jj G kRO_kernel (d + 13) Q rc9 rs9 96 [some (.ref o), some (.int (nI (a))), some (.int (nI (T))), some (.int (nI (t))), some (.int (nI (n))), some (.int (nI (t))), some (.int (nI (fr))), some (.int (nI (T2))), some (.int (nI (tk))), some (.int (nI (row))), some (.int (nI (c + 1))), (o11), (o12), (o13)] [] M9
          exact ih (c + 1) (by omega) row hrow (fun i hi => by have := hq1 i hi; omega) (fun i h2 h3 => by
              have h4 := hq2 i h2 h3
              have h5 := hpt.2.2.2.2.2 pr i hpr h3
              omega) _ _ _ M9 D9 T9 V9 up9 low9 v9 rc9 rs9 hC9 hS9 t9 u9 ho9 hlen9 hV9 hr9 hc9 hF9 hm9
        · skip
          show jj G kRO_kernel (d + 13) Q rc9 rs9 109 [some (.ref o), some (.int (nI (a))), some (.int (nI (T))), some (.int (nI (t))), some (.int (nI (n))), some (.int (nI (t))), some (.int (nI (fr))), some (.int (nI (T2))), some (.int (nI (tk))), some (.int (nI (row))), some (.int (nI (c))), (o11), (o12), (o13)] [.int (-1)] M9
          have hqc : row < fr ∧ qf row = c := by
            rcases hpt.2.2.2.2.1 c (by omega) with ⟨k, hk', e⟩ | ⟨k, hk', e⟩
            · exact absurd e (hnp k hk')
            · have h2 : ¬ k < row := fun g => by have := hq1 k g; omega
              have h3 := hq2 row (Nat.le_refl _) (by omega)
              rcases Nat.eq_or_lt_of_le (show row ≤ k by omega) with g | g
              · exact ⟨by omega, by rw [g]; exact e⟩
              · have := hpt.2.2.2.1 row k g hk'
                omega
          obtain ⟨hrf, hqc⟩ := hqc
          obtain ⟨rn, hrn⟩ : ∃ rn, row * n = rn := ⟨_, rfl⟩
          have hrn1 : (row + 1) * n = rn + n := by rw [Nat.succ_mul, hrn]
          have hrn2 : (row + 1) * n ≤ fr * n := Nat.mul_le_mul_right _ (by omega)
          rw [hrn] at hm9 u9
          refine jj_if_lt (pc := 109) (tgt := 115) kRO_kernel_d109 (by decide) (fun _ => ?_) (fun c => absurd c (by decide))
          refine jn_iconst (pc := 115) 0 kRO_kernel_d115 (by decide) ?_
          refine jj_istore (pc := 116) kRO_kernel_d116 (Nat.le_of_ble_eq_true rfl) ?_
          show jj G kRO_kernel (d + 13) Q rc9 rs9 118 [some (.ref o), some (.int (nI (a))), some (.int (nI (T))), some (.int (nI (t))), some (.int (nI (n))), some (.int (nI (t))), some (.int (nI (fr))), some (.int (nI (T2))), some (.int (nI (tk))), some (.int (nI (row))), some (.int (nI (c))), some (.int (nI (0))), (o12), (o13)] [] M9
          have inner : ∀ mu2 i, n = i + mu2 → ∀ (o12 o13 : Option Value) (M9 : mheap) (D9 : List Int32) (T9 : Nat) (V9 : List Int32) (up9 low9 : Int32) (v9 : Value) (rc9 rs9 : Nat), FC M9 f w vv pv V9 tz up9 low9 P2 (nI rk2) → RS M9 w D9 T9 v9 cm X3 Z3 rc9 rs9 → T2 ≤ T9 → T9 ≤ T2 + (rn + i) * (2 * s + 8) → (∀ i, i < T2 → D9.getD i 0 = D2.getD i 0) → V9.length = V3.length → (∀ i, i < tk → V9.getD i 0 = V2.getD i 0) → V9.getD tk 0 = nI fr → V9.getD (tk + 1) 0 = nI n → FF M M9 f → (∀ k', k' < rn + i → MC D9 T9 V9 tk T2 k' (kerF A2 rk2 g2 qf (k' / n) (k' % n))) → jj G kRO_kernel (d + 13) Q rc9 rs9 118 [some (.ref o), some (.int (nI (a))), some (.int (nI (T))), some (.int (nI (t))), some (.int (nI (n))), some (.int (nI (t))), some (.int (nI (fr))), some (.int (nI (T2))), some (.int (nI (tk))), some (.int (nI (row))), some (.int (nI (c))), some (.int (nI (i))), (o12), (o13)] [] M9 := by
            clear hC9 hS9 t9 u9 ho9 hlen9 hV9 hr9 hc9 hF9 hm9
            intro mu2
            induction mu2 with
            | zero =>
              intro i hi o12 o13 M9 D9 T9 V9 up9 low9 v9 rc9 rs9 hC9 hS9 t9 u9 ho9 hlen9 hV9 hr9 hc9 hF9 hm9
              have e9 : n = i := by omega
              subst e9
              rw [← hrn1] at u9 hm9
              refine jj_iload (pc := 118) kRO_kernel_d118 rfl ?_
              refine jj_iload (pc := 120) kRO_kernel_d120 rfl ?_
              refine jn_icmp_ge (pc := 122) (tgt := 262) kRO_kernel_d122 (by decide) (by omega) (by omega) (fun _ => ?_) (fun c => by exfalso; omega)
              refine jn_iinc (pc := 262) (row + 1) kRO_kernel_d262 rfl (nI_1 _) ?_
              refine jn_iinc (pc := 265) (c + 1) kRO_kernel_d265 rfl (nI_1 _) ?_
              refine jj_goto (pc := 268) (tgt := 96) kRO_kernel_d268 (by decide) ?_
              show jj G kRO_kernel (d + 13) Q rc9 rs9 96 [some (.ref o), some (.int (nI (a))), some (.int (nI (T))), some (.int (nI (t))), some (.int (nI (n))), some (.int (nI (t))), some (.int (nI (fr))), some (.int (nI (T2))), some (.int (nI (tk))), some (.int (nI (row + 1))), some (.int (nI (c + 1))), some (.int (nI (n))), (o12), (o13)] [] M9
              exact ih (c + 1) (by omega) (row + 1) (by omega) (fun k hk' => by
                  by_cases e : k = row
                  · rw [e, hqc]; omega
                  · have := hq1 k (by omega); omega) (fun k h2 h3 => by
                  have := hpt.2.2.2.1 row k (by omega) h3
                  omega) _ _ _ M9 D9 T9 V9 up9 low9 v9 rc9 rs9 hC9 hS9 t9 u9 ho9 hlen9 hV9 hr9 hc9 hF9 hm9
            | succ mu2 ih2 =>
              intro i hi o12 o13 M9 D9 T9 V9 up9 low9 v9 rc9 rs9 hC9 hS9 t9 u9 ho9 hlen9 hV9 hr9 hc9 hF9 hm9
              obtain ⟨kc, hkc⟩ : ∃ kc, rn + i = kc := ⟨_, rfl⟩
              rw [hkc] at u9 hm9
              have hkl : kc < fr * n := by omega
              have hk1 : (kc + 1) * (2 * s + 8) ≤ fr * n * (2 * s + 8) := Nat.mul_le_mul_right _ (by omega)
              rw [Nat.succ_mul] at hk1
              have hdiv : kc / n = row ∧ kc % n = i := by rw [← hkc, ← hrn]; exact at_div (by omega)
              have ho90 : ∀ i, i < T → D9.getD i 0 = D.getD i 0 := fun i hi => by rw [ho9 i (by omega), ho2 i hi]
              have h19 := h1.congr (show T ≤ T9 by omega) ho90
              have hcap9 := hS9.2.1.cap
              have hTD9 := hS9.2.2.1
              have k239 : ∀ (p6 l6 : Nat) (q12 q13 : Option Value) (M6 : mheap) (D5 : List Int32) (T5 : Nat) (v6 : Value) (rc5 rs5 : Nat), FC M6 f w vv pv V9 (tz) (nI (p6)) (nI (l6)) P2 (nI (rk2)) → RS M6 w D5 T5 v6 cm X3 Z3 rc5 rs5 → T9 ≤ T5 → T5 ≤ T9 + (2 * s + 8) → (∀ i, i < T9 → D5.getD i 0 = D9.getD i 0) → FF M M6 f → FQ D5 T5 p6 l6 (kerF A2 rk2 g2 qf row i) → (p6 = 0 ∨ T9 ≤ p6) → (l6 = 1 ∨ T9 ≤ l6) → jj G kRO_kernel (d + 13) Q rc5 rs5 239 [some (.ref o), some (.int (nI (a))), some (.int (nI (T))), some (.int (nI (t))), some (.int (nI (n))), some (.int (nI (t))), some (.int (nI (fr))), some (.int (nI (T2))), some (.int (nI (tk))), some (.int (nI (row))), some (.int (nI (c))), some (.int (nI (i))), (q12), (q13)] [] M6 := by
                intro p6 l6 q12 q13 M6 D5 T5 v6 rc5 rs5 hC6 hS6 t5 u5 ho5 hF6 hq6 g1 g2_
                refine jj_aload_n (pc := 239) kRO_kernel_d239 rfl ?_
                refine jj_getf (pc := 240) kRO_kernel_d240 (kfRO_f hG) (hO.ff hF6).1 rfl ?_
                refine jj_iload (pc := 243) kRO_kernel_d243 rfl ?_
                refine jj_iload (pc := 245) kRO_kernel_d245 rfl ?_
                refine jj_iload (pc := 247) kRO_kernel_d247 rfl ?_
                refine jn_imul (pc := 249) (rn) kRO_kernel_d249 hrn ?_
                refine jj_iload (pc := 250) kRO_kernel_d250 rfl ?_
                refine jn_iadd (pc := 252) (kc) kRO_kernel_d252 (by omega) ?_
                refine jj_callV (pc := 253) (b := f) (As := [.int (nI (tk)), .int (nI (kc))]) kRO_kernel_d253 (kvRO_RF_put hG) (kG_cl hG rfl) rfl hC6.1 rfl rfl rfl (Nat.le_of_ble_eq_true rfl) (Nat.le_of_ble_eq_true rfl) (jj_bare0 rfl) ?_
                refine rf_put (a := tk) (i := kc) hG hC6 hS6 (by omega) (by omega) (fun M5 hC5 hS5 hF7 => ?_)
                show jj G kRO_kernel (d + 13) Q rc5 rs5 256 [some (.ref o), some (.int (nI (a))), some (.int (nI (T))), some (.int (nI (t))), some (.int (nI (n))), some (.int (nI (t))), some (.int (nI (fr))), some (.int (nI (T2))), some (.int (nI (tk))), some (.int (nI (row))), some (.int (nI (c))), some (.int (nI (i))), (q12), (q13)] [] M5
                obtain ⟨V5, hV5⟩ : ∃ V5, (V9.set (tk + 2 + 2 * kc) (nI p6)).set (tk + 3 + 2 * kc) (nI l6) = V5 := ⟨_, rfl⟩
                rw [hV5] at hC5
                have hl5 : V5.length = V9.length := by rw [← hV5, List.length_set, List.length_set]
                have hv5 : ∀ i, i < tk + 2 + 2 * kc ∨ tk + 4 + 2 * kc ≤ i → V5.getD i 0 = V9.getD i 0 := fun i hi => by rw [← hV5, gd_set_ne (by omega), gd_set_ne (by omega)]
                rw [← hdiv.1, ← hdiv.2] at hq6
                have hm5 : MC D5 T5 V5 tk T2 kc (kerF A2 rk2 g2 qf (kc / n) (kc % n)) := ⟨p6, l6, by rw [← hV5, gd_set_ne (by omega)]; exact gd_set_eq (by omega), by rw [← hV5]; exact gd_set_eq (by rw [List.length_set]; omega), hq6, by omega, by omega⟩
                refine jn_iinc (pc := 256) (i + 1) kRO_kernel_d256 rfl (nI_1 _) ?_
                refine jj_goto (pc := 259) (tgt := 118) kRO_kernel_d259 (by decide) ?_
                show jj G kRO_kernel (d + 13) Q rc5 rs5 118 [some (.ref o), some (.int (nI (a))), some (.int (nI (T))), some (.int (nI (t))), some (.int (nI (n))), some (.int (nI (t))), some (.int (nI (fr))), some (.int (nI (T2))), some (.int (nI (tk))), some (.int (nI (row))), some (.int (nI (c))), some (.int (nI (i + 1))), (q12), (q13)] [] M5
                refine ih2 (i + 1) (by omega) _ _ M5 D5 T5 V5 _ _ _ rc5 rs5 hC5 hS5 (by omega) (by rw [show rn + (i + 1) = kc + 1 by omega, Nat.succ_mul]; omega) (fun i hi => by rw [ho5 i (by omega), ho9 i hi]) (by omega) (fun i hi => by rw [hv5 i (by omega), hV9 i hi]) (by rw [hv5 _ (by omega)]; exact hr9) (by rw [hv5 _ (by omega)]; exact hc9) (hF6.trans hF7) (fun k' hk' => ?_)
                by_cases e : k' = kc
                · rw [e]; exact hm5
                · exact (hm9 k' (by omega)).congr t5 ho5 (fun i h6 h7 => hv5 i (by omega)) (Nat.le_refl _)
              clear ih2
              refine jj_iload (pc := 118) kRO_kernel_d118 rfl ?_
              refine jj_iload (pc := 120) kRO_kernel_d120 rfl ?_
              refine jn_icmp_ge (pc := 122) (tgt := 262) kRO_kernel_d122 (by decide) (by omega) (by omega) (fun c => by exfalso; omega) (fun _ => ?_)
              refine jj_aload_n (pc := 125) kRO_kernel_d125 rfl ?_
              refine jj_iload (pc := 126) kRO_kernel_d126 rfl ?_
              refine jj_callV (pc := 128) (b := o) (As := [.int (nI (i))]) kRO_kernel_d128 (kvRO_RO_pivotOf hG) (kG_cl hG rfl) rfl (hO.ff hF9).1 rfl rfl rfl (Nat.le_of_ble_eq_true rfl) (Nat.le_of_ble_eq_true rfl) (jj_bare0 rfl) ?_
              refine ro_pivotOf (g := g2) hG (hO.ff hF9) hC9 hPl (by omega) (by omega) hg64 (fun pr hpr epr => ?_) (fun hni => ?_)
              · skip
                show jj G kRO_kernel (d + 13) Q rc9 rs9 131 [some (.ref o), some (.int (nI (a))), some (.int (nI (T))), some (.int (nI (t))), some (.int (nI (n))), some (.int (nI (t))), some (.int (nI (fr))), some (.int (nI (T2))), some (.int (nI (tk))), some (.int (nI (row))), some (.int (nI (c))), some (.int (nI (i))), (o12), (o13)] [.int (nI (pr))] M9
                have hval : kerF A2 rk2 g2 qf row i = -A2 pr c := by rw [← epr, kerF_pivot hpt hrf hpr, hqc]
                obtain ⟨pn, hpn⟩ : ∃ pn, pr * n = pn := ⟨_, rfl⟩
                obtain ⟨ix, hix⟩ : ∃ ix, pn + c = ix := ⟨_, rfl⟩
                have hil : ix < m * n := by rw [← hix, ← hpn]; exact cell_lt (by omega) (by omega)
                obtain ⟨pp, lp, a1, a2, a3, -⟩ := (hm24 ix hil).congr (D' := D9) (V' := V9) (T' := T9) (lo' := 0) t9 ho9 (fun i _ h6 => hV9 i (by omega)) (Nat.le_refl _)
                have hAx : A2 pr c = q2 ix := by rw [hA2 pr (by omega) c (by omega), hpn, hix]
                obtain ⟨zn, zd⟩ := zA pr c (by omega) (by omega)
                rw [hAx] at zn zd hval
                obtain ⟨r1, r2, r3⟩ := id a3
                have lpp := r1.lt
                have lpl := r2.lt
                refine jj_istore (pc := 131) kRO_kernel_d131 (Nat.le_of_ble_eq_true rfl) ?_
                refine jj_iload (pc := 133) kRO_kernel_d133 rfl ?_
                refine jz_if_lt (pc := 135) (tgt := 220) (a := ((pr : Nat) : Int)) kRO_kernel_d135 (by decide) (zI_nat _).symm (by omega) (by omega) (fun c => by exfalso; omega) (fun _ => ?_)
                refine jj_iload (pc := 138) kRO_kernel_d138 rfl ?_
                refine jj_iload (pc := 140) kRO_kernel_d140 rfl ?_
                refine jn_imul (pc := 142) (pn) kRO_kernel_d142 hpn ?_
                refine jj_iload (pc := 143) kRO_kernel_d143 rfl ?_
                refine jn_iadd (pc := 145) (ix) kRO_kernel_d145 hix ?_
                obtain ⟨hW103, hB103, hTD103, hz103, hp103⟩ := id hS9
                obtain ⟨dd103, hw103, hd103⟩ := id hW103
                have hcap103 := hB103.cap
                refine jj_istore (pc := 146) kRO_kernel_d146 (Nat.le_of_ble_eq_true rfl) ?_
                refine jj_aload_n (pc := 148) kRO_kernel_d148 rfl ?_
                refine jj_getf (pc := 149) kRO_kernel_d149 (kfRO_f hG) (hO.ff hF9).1 rfl ?_
                refine jj_aload_n (pc := 152) kRO_kernel_d152 rfl ?_
                refine jj_getf (pc := 153) kRO_kernel_d153 (kfRO_w hG) (hO.ff hF9).1 rfl ?_
                refine jj_aload_n (pc := 156) kRO_kernel_d156 rfl ?_
                refine jj_getf (pc := 157) kRO_kernel_d157 (kfRO_f hG) (hO.ff hF9).1 rfl ?_
                refine jj_iload (pc := 160) kRO_kernel_d160 rfl ?_
                refine jj_iload (pc := 162) kRO_kernel_d162 rfl ?_
                refine jj_callV (pc := 164) (b := f) (As := [.int (nI (t)), .int (nI (ix))]) kRO_kernel_d164 (kvRO_RF_upper hG) (kG_cl hG rfl) rfl hC9.1 rfl rfl rfl (Nat.le_of_ble_eq_true rfl) (Nat.le_of_ble_eq_true rfl) (jj_bare0 rfl) ?_
                refine rf_upper hG hC9 (by omega) (by omega) ?_
                show jj G kRO_kernel (d + 13) Q rc9 rs9 167 [some (.ref o), some (.int (nI (a))), some (.int (nI (T))), some (.int (nI (t))), some (.int (nI (n))), some (.int (nI (t))), some (.int (nI (fr))), some (.int (nI (T2))), some (.int (nI (tk))), some (.int (nI (row))), some (.int (nI (c))), some (.int (nI (i))), some (.int (nI (pr))), some (.int (nI (ix)))] [.int (V9.getD (t + 2 + 2 * ix) 0), .ref w, .ref f] M9
                refine jn_top (.int (nI (pp))) (by rw [a1]) ?_
                refine jj_callV (pc := 167) (b := w) (As := [.int (nI (pp))]) kRO_kernel_d167 (kvRO_RW_negative hG) (kG_cl hG rfl) rfl hw103 rfl rfl rfl (Nat.le_of_ble_eq_true rfl) (Nat.le_of_ble_eq_true rfl) (jj_bare0 rfl) ?_
                refine ri_negative (a := s) hG hS9 r1 zn (by omega) (fun M104 D104 T104 p104 rc104 rs104 hS104 t104 u104 ho104 hf104 hI104 => ?_)
                show jj G kRO_kernel (d + 13) Q rc104 rs104 170 [some (.ref o), some (.int (nI (a))), some (.int (nI (T))), some (.int (nI (t))), some (.int (nI (n))), some (.int (nI (t))), some (.int (nI (fr))), some (.int (nI (T2))), some (.int (nI (tk))), some (.int (nI (row))), some (.int (nI (c))), some (.int (nI (i))), some (.int (nI (pr))), some (.int (nI (ix)))] [.int (nI (p104)), .ref f] M104
                have hC104 := hC9.rf hf104
                have hF104 := hF9.trans (FF.ofRF hC9 hf104)
                have r1_104 := r1.congr t104.1 ho104
                have r2_104 := r2.congr t104.1 ho104
                obtain ⟨hW105, hB105, hTD105, hz105, hp105⟩ := id hS104
                obtain ⟨dd105, hw105, hd105⟩ := id hW105
                have hcap105 := hB105.cap
                refine jj_putf (pc := 170) kRO_kernel_d170 (kpRO_RF_up hG) hC104.1 (by rfl) rfl ?_
                refine jn_gen (fun M106 hM107 => ?_)
                have hC108 : FC M106 f w vv pv V9 (tz) (nI (p104)) (low9) P2 (nI (rk2)) := by rw [hM107]; exact hC104.putf
                have hF108 : FF M M106 f := by rw [hM107]; exact hF104.trans (FF.putf hC104)
                have hS108 : RS M106 w D104 (T104) v9 cm X3 Z3 rc104 rs104 := by rw [hM107]; exact hS104.other hC104.2.2.2.2.1
                obtain ⟨hW109, hB109, hTD109, hz109, hp109⟩ := id hS108
                obtain ⟨dd109, hw109, hd109⟩ := id hW109
                have hcap109 := hB109.cap
                refine jj_aload_n (pc := 173) kRO_kernel_d173 rfl ?_
                refine jj_getf (pc := 174) kRO_kernel_d174 (kfRO_f hG) (hO.ff hF108).1 rfl ?_
                refine jj_aload_n (pc := 177) kRO_kernel_d177 rfl ?_
                refine jj_getf (pc := 178) kRO_kernel_d178 (kfRO_f hG) (hO.ff hF108).1 rfl ?_
                refine jj_iload (pc := 181) kRO_kernel_d181 rfl ?_
                refine jj_iload (pc := 183) kRO_kernel_d183 rfl ?_
                refine jj_callV (pc := 185) (b := f) (As := [.int (nI (t)), .int (nI (ix))]) kRO_kernel_d185 (kvRO_RF_lower hG) (kG_cl hG rfl) rfl hC108.1 rfl rfl rfl (Nat.le_of_ble_eq_true rfl) (Nat.le_of_ble_eq_true rfl) (jj_bare0 rfl) ?_
                refine rf_lower hG hC108 (by omega) (by omega) ?_
                show jj G kRO_kernel (d + 13) Q rc104 rs104 188 [some (.ref o), some (.int (nI (a))), some (.int (nI (T))), some (.int (nI (t))), some (.int (nI (n))), some (.int (nI (t))), some (.int (nI (fr))), some (.int (nI (T2))), some (.int (nI (tk))), some (.int (nI (row))), some (.int (nI (c))), some (.int (nI (i))), some (.int (nI (pr))), some (.int (nI (ix)))] [.int (V9.getD (t + 3 + 2 * ix) 0), .ref f] M106
                refine jn_top (.int (nI (lp))) (by rw [a2]) ?_
                refine jn_iconst (pc := 188) 1 kRO_kernel_d188 (by decide) ?_
                refine jn_icmp_ne (pc := 189) (tgt := 196) kRO_kernel_d189 (by decide) (by omega) (by omega) (fun c3 => ?_) (fun c3 => ?_)
                · skip
                  refine jj_aload_n (pc := 196) kRO_kernel_d196 rfl ?_
                  refine jj_getf (pc := 197) kRO_kernel_d197 (kfRO_w hG) (hO.ff hF108).1 rfl ?_
                  refine jj_aload_n (pc := 200) kRO_kernel_d200 rfl ?_
                  refine jj_getf (pc := 201) kRO_kernel_d201 (kfRO_f hG) (hO.ff hF108).1 rfl ?_
                  refine jj_iload (pc := 204) kRO_kernel_d204 rfl ?_
                  refine jj_iload (pc := 206) kRO_kernel_d206 rfl ?_
                  refine jj_callV (pc := 208) (b := f) (As := [.int (nI (t)), .int (nI (ix))]) kRO_kernel_d208 (kvRO_RF_lower hG) (kG_cl hG rfl) rfl hC108.1 rfl rfl rfl (Nat.le_of_ble_eq_true rfl) (Nat.le_of_ble_eq_true rfl) (jj_bare0 rfl) ?_
                  refine rf_lower hG hC108 (by omega) (by omega) ?_
                  show jj G kRO_kernel (d + 13) Q rc104 rs104 211 [some (.ref o), some (.int (nI (a))), some (.int (nI (T))), some (.int (nI (t))), some (.int (nI (n))), some (.int (nI (t))), some (.int (nI (fr))), some (.int (nI (T2))), some (.int (nI (tk))), some (.int (nI (row))), some (.int (nI (c))), some (.int (nI (i))), some (.int (nI (pr))), some (.int (nI (ix)))] [.int (V9.getD (t + 3 + 2 * ix) 0), .ref w, .ref f] M106
                  refine jn_top (.int (nI (lp))) (by rw [a2]) ?_
                  refine jj_callV (pc := 211) (b := w) (As := [.int (nI (lp))]) kRO_kernel_d211 (kvRO_RW_copy hG) (kG_cl hG rfl) rfl hw109 rfl rfl rfl (Nat.le_of_ble_eq_true rfl) (Nat.le_of_ble_eq_true rfl) (jj_bare0 rfl) ?_
                  refine ri_copy (a := s) hG hS108 r2_104 zd (by omega) (fun M110 D110 T110 p110 rc110 rs110 hS110 t110 u110 ho110 hf110 hI110 => ?_)
                  show jj G kRO_kernel (d + 13) Q rc110 rs110 214 [some (.ref o), some (.int (nI (a))), some (.int (nI (T))), some (.int (nI (t))), some (.int (nI (n))), some (.int (nI (t))), some (.int (nI (fr))), some (.int (nI (T2))), some (.int (nI (tk))), some (.int (nI (row))), some (.int (nI (c))), some (.int (nI (i))), some (.int (nI (pr))), some (.int (nI (ix)))] [.int (nI (p110)), .ref f] M110
                  have hC110 := hC108.rf hf110
                  have hF110 := hF108.trans (FF.ofRF hC108 hf110)
                  have r1_110 := r1_104.congr t110.1 ho110
                  have r2_110 := r2_104.congr t110.1 ho110
                  have hI104_110 := hI104.congr t110.1 ho110
                  obtain ⟨hW111, hB111, hTD111, hz111, hp111⟩ := id hS110
                  obtain ⟨dd111, hw111, hd111⟩ := id hW111
                  have hcap111 := hB111.cap
                  have hq2 : p110 ≠ 0 := fun e9 => by
                    have h9 := hI110
                    rw [e9] at h9
                    have := h9.z0 hz111 (by omega)
                    have := (q2 ix).den_nz
                    omega
                  refine jj_putf (pc := 214) kRO_kernel_d214 (kpRO_RF_low hG) hC110.1 (by rfl) rfl ?_
                  refine jn_gen (fun M112 hM113 => ?_)
                  have hC114 : FC M112 f w vv pv V9 (tz) (nI (p104)) (nI (p110)) P2 (nI (rk2)) := by rw [hM113]; exact hC110.putf
                  have hF114 : FF M M112 f := by rw [hM113]; exact hF110.trans (FF.putf hC110)
                  have hS114 : RS M112 w D110 (T110) v9 cm X3 Z3 rc110 rs110 := by rw [hM113]; exact hS110.other hC110.2.2.2.2.1
                  obtain ⟨hW115, hB115, hTD115, hz115, hp115⟩ := id hS114
                  obtain ⟨dd115, hw115, hd115⟩ := id hW115
                  have hcap115 := hB115.cap
                  refine jj_goto (pc := 217) (tgt := 239) kRO_kernel_d217 (by decide) ?_
                  show jj G kRO_kernel (d + 13) Q rc110 rs110 239 [some (.ref o), some (.int (nI (a))), some (.int (nI (T))), some (.int (nI (t))), some (.int (nI (n))), some (.int (nI (t))), some (.int (nI (fr))), some (.int (nI (T2))), some (.int (nI (tk))), some (.int (nI (row))), some (.int (nI (c))), some (.int (nI (i))), some (.int (nI (pr))), some (.int (nI (ix)))] [] M112
                  exact k239 p104 p110 _ _ M112 D110 (T110) _ rc110 rs110 hC114 hS114 (by omega) (by omega) (fun i hi => by rw [ho110 i (by omega), ho104 i (by omega)]) hF114 (by rw [hval]; exact ⟨hI104_110, hI110, fun e9 => absurd (r3 e9) c3⟩) (by omega) (by omega)
                · skip
                  subst c3
                  refine jn_iconst (pc := 192) 1 kRO_kernel_d192 (by decide) ?_
                  refine jj_goto (pc := 193) (tgt := 214) kRO_kernel_d193 (by decide) ?_
                  refine jj_putf (pc := 214) kRO_kernel_d214 (kpRO_RF_low hG) hC108.1 (by rfl) rfl ?_
                  refine jn_gen (fun M116 hM117 => ?_)
                  have hC118 : FC M116 f w vv pv V9 (tz) (nI (p104)) (nI (1)) P2 (nI (rk2)) := by rw [hM117]; exact hC108.putf
                  have hF118 : FF M M116 f := by rw [hM117]; exact hF108.trans (FF.putf hC108)
                  have hS118 : RS M116 w D104 (T104) v9 cm X3 Z3 rc104 rs104 := by rw [hM117]; exact hS108.other hC108.2.2.2.2.1
                  obtain ⟨hW119, hB119, hTD119, hz119, hp119⟩ := id hS118
                  obtain ⟨dd119, hw119, hd119⟩ := id hW119
                  have hcap119 := hB119.cap
                  refine jj_goto (pc := 217) (tgt := 239) kRO_kernel_d217 (by decide) ?_
                  show jj G kRO_kernel (d + 13) Q rc104 rs104 239 [some (.ref o), some (.int (nI (a))), some (.int (nI (T))), some (.int (nI (t))), some (.int (nI (n))), some (.int (nI (t))), some (.int (nI (fr))), some (.int (nI (T2))), some (.int (nI (tk))), some (.int (nI (row))), some (.int (nI (c))), some (.int (nI (i))), some (.int (nI (pr))), some (.int (nI (ix)))] [] M116
                  exact k239 p104 1 _ _ M116 D104 (T104) _ rc104 rs104 hC118 hS118 (by omega) (by omega) (fun i hi => by rw [ho104 i (by omega)]) hF118 (by rw [hval]; exact ⟨hI104, r2_104, fun _ => rfl⟩) (by omega) (Or.inl rfl)
              · skip
                show jj G kRO_kernel (d + 13) Q rc9 rs9 131 [some (.ref o), some (.int (nI (a))), some (.int (nI (T))), some (.int (nI (t))), some (.int (nI (n))), some (.int (nI (t))), some (.int (nI (fr))), some (.int (nI (T2))), some (.int (nI (tk))), some (.int (nI (row))), some (.int (nI (c))), some (.int (nI (i))), (o12), (o13)] [.int (-1)] M9
                have hval := kerF_free (E := A2) (i := row) hpt hni
                rw [hqc] at hval
                refine jj_istore (pc := 131) kRO_kernel_d131 (Nat.le_of_ble_eq_true rfl) ?_
                refine jj_iload (pc := 133) kRO_kernel_d133 rfl ?_
                refine jj_if_lt (pc := 135) (tgt := 220) kRO_kernel_d135 (by decide) (fun _ => ?_) (fun c => absurd c (by decide))
                refine jj_aload_n (pc := 220) kRO_kernel_d220 rfl ?_
                refine jj_getf (pc := 221) kRO_kernel_d221 (kfRO_f hG) (hO.ff hF9).1 rfl ?_
                refine jj_iload (pc := 224) kRO_kernel_d224 rfl ?_
                refine jj_iload (pc := 226) kRO_kernel_d226 rfl ?_
                refine jn_icmp_ne (pc := 228) (tgt := 235) kRO_kernel_d228 (by decide) (by omega) (by omega) (fun c3 => ?_) (fun c3 => ?_)
                · skip
                  refine jj_lconst (pc := 235) (v := lN 0) kRO_kernel_d235 (by decide) ?_
                  refine jj_callV (pc := 236) (b := f) (As := [.long (lN (0))]) kRO_kernel_d236 (kvRO_RF_whole hG) (kG_cl hG rfl) rfl hC9.1 rfl rfl rfl (Nat.le_of_ble_eq_true rfl) (Nat.le_of_ble_eq_true rfl) (jj_bare0 rfl) ?_
                  refine rf_whole hG hC9 hS9 h19 (by omega) (by omega) (fun M6 D5 T5 p6 l6 v6 rc5 rs5 hC6 hS6 t5 u6 ho5 hF6 hq6 g1 g2_ => ?_)
                  show jj G kRO_kernel (d + 13) Q rc5 rs5 239 [some (.ref o), some (.int (nI (a))), some (.int (nI (T))), some (.int (nI (t))), some (.int (nI (n))), some (.int (nI (t))), some (.int (nI (fr))), some (.int (nI (T2))), some (.int (nI (tk))), some (.int (nI (row))), some (.int (nI (c))), some (.int (nI (i))), some (.int (-1)), (o13)] [] M6
                  rw [if_neg c3] at hval
                  rw [show (((lN 0).toInt : Int) : Rat) = kerF A2 rk2 g2 qf row i by rw [hval]; rfl] at hq6
                  exact k239 p6 l6 _ _ M6 D5 T5 v6 rc5 rs5 hC6 hS6 t5 (by omega) ho5 (hF9.trans hF6) hq6 g1 g2_
                · skip
                  refine jj_lconst (pc := 231) (v := lN 1) kRO_kernel_d231 (by decide) ?_
                  refine jj_goto (pc := 232) (tgt := 236) kRO_kernel_d232 (by decide) ?_
                  refine jj_callV (pc := 236) (b := f) (As := [.long (lN (1))]) kRO_kernel_d236 (kvRO_RF_whole hG) (kG_cl hG rfl) rfl hC9.1 rfl rfl rfl (Nat.le_of_ble_eq_true rfl) (Nat.le_of_ble_eq_true rfl) (jj_bare0 rfl) ?_
                  refine rf_whole hG hC9 hS9 h19 (by omega) (by omega) (fun M6 D5 T5 p6 l6 v6 rc5 rs5 hC6 hS6 t5 u6 ho5 hF6 hq6 g1 g2_ => ?_)
                  show jj G kRO_kernel (d + 13) Q rc5 rs5 239 [some (.ref o), some (.int (nI (a))), some (.int (nI (T))), some (.int (nI (t))), some (.int (nI (n))), some (.int (nI (t))), some (.int (nI (fr))), some (.int (nI (T2))), some (.int (nI (tk))), some (.int (nI (row))), some (.int (nI (c))), some (.int (nI (i))), some (.int (-1)), (o13)] [] M6
                  rw [if_pos c3] at hval
                  rw [show (((lN 1).toInt : Int) : Rat) = kerF A2 rk2 g2 qf row i by rw [hval]; rfl] at hq6
                  exact k239 p6 l6 _ _ M6 D5 T5 v6 rc5 rs5 hC6 hS6 t5 (by omega) ho5 (hF9.trans hF6) hq6 g1 g2_
          exact inner n 0 (by omega) _ _ M9 D9 T9 V9 up9 low9 v9 rc9 rs9 hC9 hS9 t9 u9 ho9 hlen9 hV9 hr9 hc9 hF9 hm9
    exact loop n 0 (by omega) 0 (Nat.zero_le _) (fun i hi => by omega) (fun i _ _ => Nat.zero_le _) none none none M3 D2 T2 V3 up2 low2 v2_ rc3 rs3 hC3 hS3 (Nat.le_refl _) (by omega) (fun _ _ => rfl) rfl ho3 hr3 hc3 hF4 (fun k' hk' => by rw [Nat.zero_mul] at hk'; omega)
  · skip
    subst c0
    have e9 : rk2 = n := by omega
    rw [e9] at hkec
    refine jj_aload_n (pc := 50) kRO_kernel_d50 rfl ?_
    refine jj_getf (pc := 51) kRO_kernel_d51 (kfRO_w hG) (hO.ff hF2).1 rfl ?_
    refine jj_iload_n (pc := 54) kRO_kernel_d54 rfl ?_
    refine jj_putf (pc := 55) kRO_kernel_d55 (kpRO_RW_top hG) hw102 (by rfl) rfl ?_
    refine jn_gen (fun M120 hM121 => ?_)
    have hf122 : RF M2 M120 w := by rw [hM121]; exact RF.top hw102
    have hS122 : RS M120 w D2 (T) v2_ cm X2 Z2 rc2 rs2 := ⟨⟨dd102, by rw [hM121]; exact jj_up_at _ _ _, by rw [hM121, jj_up_ne _ _ (fun e => by have q1 := hd102; rw [e, hw102] at q1; cases q1)]; exact hd102⟩, hB102, by omega, hz102, by omega⟩
    have hC122 := hC2.rf hf122
    have hF122 := hF2.trans (FF.ofRF hC2 hf122)
    obtain ⟨hW123, hB123, hTD123, hz123, hp123⟩ := id hS122
    obtain ⟨dd123, hw123, hd123⟩ := id hW123
    have hcap123 := hB123.cap
    refine jj_aload_n (pc := 58) kRO_kernel_d58 rfl ?_
    refine jj_getf (pc := 59) kRO_kernel_d59 (kfRO_f hG) (hO.ff hF122).1 rfl ?_
    refine jj_iload_n (pc := 62) kRO_kernel_d62 rfl ?_
    refine jj_putf (pc := 63) kRO_kernel_d63 (kpRO_RF_top hG) hC122.1 (by rfl) rfl ?_
    refine jn_gen (fun M124 hM125 => ?_)
    have hC126 : FC M124 f w vv pv V2 (t) (up2) (low2) P2 (nI (rk2)) := by rw [hM125]; exact hC122.putf
    have hF126 : FF M M124 f := by rw [hM125]; exact hF122.trans (FF.putf hC122)
    have hS126 : RS M124 w D2 (T) v2_ cm X2 Z2 rc2 rs2 := by rw [hM125]; exact hS122.other hC122.2.2.2.2.1
    obtain ⟨hW127, hB127, hTD127, hz127, hp127⟩ := id hS126
    obtain ⟨dd127, hw127, hd127⟩ := id hW127
    have hcap127 := hB127.cap
    refine jj_iconst (pc := 66) (v := (-1)) kRO_kernel_d66 (by decide) ?_
    exact jj_iret (pc := 67) kRO_kernel_d67 rfl (by rfl) (K0 M124 vv D2 V2 P2 up2 low2 _ X2 Z2 _ rc2 rs2 A2 g2 qf hC126 hS126 hX2 ho2 hv2 (by omega) hF126 hP2 hkec)
end RO2
