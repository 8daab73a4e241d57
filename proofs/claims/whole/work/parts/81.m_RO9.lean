/-! ===== Forms.triangle (printed by wip/gen/ro9.py) ===== -/
theorem T2I.small {Zs Z : imat} {d : Int} {n i : Nat} (h : T2I Zs Z d n n i) : ∀ a k, a < n → k < n → (Z a k).natAbs ≤ d.natAbs := fun a k ha hk => by
  obtain ⟨h1, h2, h3, h4, -⟩ := h
  rcases Nat.lt_trichotomy a k with g | g | g
  · have a1 := h4 k hk hk a g
    have a2 := h2 k hk
    omega
  · rw [g]; have a2 := h2 k hk; omega
  · rw [h3 a k g ha]; omega
section RO9
variable {G : jg} {d : Nat} {Q : jq} {rc rs : Nat} {M : mheap} {o f w vv pv ca ra : Nat} {v2 : Value} {D V P CA RA : List Int32} {t : Nat} {up low rk fi se : Int32}
theorem ro_triangle {b nu dp n m R T sa sd B LIM cm cv X Z X' Z' : Nat} {Z0 : imat} {zd : Int} (hG : kG G) (hO : OC M o f w ca ra CA RA fi se) (hC : FC M f w vv pv V t up low P rk) (hS : RS M w D T v2 cm X Z rc rs) (hX : FXB cv V X Z X' Z') (ht0 : t = b + 2 + 2 * (R * n)) (htV : t ≤ V.length) (hR : R = m + n) (hz : MZ D T V t b R n Z0) (hR' : R < 64) (hnm : n ≤ m) (hn1 : 1 ≤ n) (h1 : RI D nu 1 1) (hnu : 3 ≤ nu) (hnT : nu ≤ T) (hdp : RI D nu dp zd) (hd : 0 < zd) (hdB : zd.natAbs ≤ B) (hdr : ∀ k, k < n → ∀ j, j < n → Z0 (m + k) j = if j = k then zd else 0) (hB : ∀ a b, a < m + n → b < n → (Z0 a b).natAbs ≤ B) (hBs : B < 32768 ^ sa) (hsa : 2 * sa + 2 ≤ 4000) (hsd : zd.natAbs + 1 ≤ 32768 ^ sd) (hL1 : 100000 ≤ LIM) (hL2 : R * n * (2 * sa + 2) ≤ LIM) (hTL : T ≤ nu + LIM) (hcv : t + 2 + 2 * (R * n) ≤ cv) (hT : nu + LIM + 31000 + 100 * sa + n * (18 * sa + 40) + R * n * (2 * sa + 2) + 1000 ≤ cm) (hT2 : nu + LIM + nsum (thG n sd) n + 8 * (sd * (n + 1)) + 200 ≤ cm)
    (K : ∀ Y M' vv' D' T' V' up' low' fi' se' X1 Z1 v2' rc' rs', hermF Y n n (fun i => i) → rowsZ Y n Z0 (m + n) n → rowsZ Z0 (m + n) Y n n → (∀ a k, a < n → k < n → (Y a k).natAbs ≤ zd.natAbs) → (∀ a k, n ≤ a → a < R → k < n → Y a k = 0) → OC M' o f w ca ra CA RA fi' se' → FC M' f w vv' pv V' t up' low' P rk → RS M' w D' T' v2' cm X1 Z1 rc' rs' → FXB cv V' X1 Z1 X' Z' → nu ≤ T' → T' ≤ nu + LIM + nsum (thG n sd) n → (∀ i, i < nu → D'.getD i 0 = D.getD i 0) → (∀ i, i < b → V'.getD i 0 = V.getD i 0) → t ≤ V'.length → OF M M' o → MZ D' T' V' t b R n Y → Q (.returned (some (.int (nI b)))) M' rc' rs') : jj G kRO_triangle (d + 10) Q rc rs 0 (jj_ent [.ref o, .int (nI b), .int (nI nu), .int (nI dp)] 21) [] M := by
  have hcap := hX.cap
  have hRn : R * n < 64 * 1024 := Nat.mul_lt_mul_of_lt_of_le hR' (by omega) (by decide)
  show jj G kRO_triangle (d + 10) Q rc rs 0 [some (.ref o), some (.int (nI (b))), some (.int (nI (nu))), some (.int (nI (dp))), none, none, none, none, none, none, none, none, none, none, none, none, none, none, none, none, none] [] M
  refine jj_iload_n (pc := 0) kRO_triangle_d0 rfl ?_
  refine jj_istore (pc := 1) kRO_triangle_d1 (Nat.le_of_ble_eq_true rfl) ?_
  refine jj_aload_n (pc := 3) kRO_triangle_d3 rfl ?_
  refine jj_getf (pc := 4) kRO_triangle_d4 (kfRO_f hG) hO.1 rfl ?_
  refine jj_iload (pc := 7) kRO_triangle_d7 rfl ?_
  refine jj_callV (pc := 9) (b := f) (As := [.int (nI (b))]) kRO_triangle_d9 (kvRO_RF_columns hG) (kG_cl hG rfl) rfl hC.1 rfl rfl rfl (Nat.le_of_ble_eq_true rfl) (Nat.le_of_ble_eq_true rfl) (jj_bare0 rfl) ?_
  refine rf_columns hG hC (by omega) (by omega) ?_
  show jj G kRO_triangle (d + 10) Q rc rs 12 [some (.ref o), some (.int (nI (b))), some (.int (nI (nu))), some (.int (nI (dp))), some (.int (nI (b))), none, none, none, none, none, none, none, none, none, none, none, none, none, none, none, none] [.int (V.getD (b + 1) 0)] M
  refine jn_top (.int (nI (n))) (by rw [hz.2.2.1]) ?_
  refine jj_istore (pc := 12) kRO_triangle_d12 (Nat.le_of_ble_eq_true rfl) ?_
  refine jn_iconst (pc := 14) 0 kRO_triangle_d14 (by decide) ?_
  refine jj_istore (pc := 15) kRO_triangle_d15 (Nat.le_of_ble_eq_true rfl) ?_
  show jj G kRO_triangle (d + 10) Q rc rs 17 [some (.ref o), some (.int (nI (b))), some (.int (nI (nu))), some (.int (nI (dp))), some (.int (nI (b))), some (.int (nI (n))), some (.int (nI (0))), none, none, none, none, none, none, none, none, none, none, none, none, none, none] [] M
  show jj G kRO_triangle (d + 10) Q rc rs 17 [some (.ref o), some (.int (nI (b))), some (.int (nI (nu))), some (.int (nI (dp))), some (.int (nI (b))), some (.int (nI (n))), some (.int (nI (0))), none, none, none, none, none, none, none, none, none, none, none, none, none, none] [] M
  refine ro_tri_one (sa := sa) (B := B) (LIM := LIM) (m := m) (Z0 := Z0) hG hO hC hS hX ht0 htV hR hz hR' hnm hn1 h1 hnu hnT hdp hd hdB hdr hB hBs hsa hL1 hL2 hTL hcv hT (fun Z1 M1 vv D1 T1 V1 up1 low1 fi1 se1 X1 Y1 v1 rc1 rs1 o7 o8 o9 o10 o11 o12 o13 o14 o15 o16 o17 o18 o19 o20 hI1 hO1 hC1 hS1 hX1 t1 u1 ho1 hv1 hl1 hG1 hz1 => ?_)
  have hcap1 := hX1.cap
  obtain ⟨hd1, hd2⟩ := hI1.done
  have hI2 := T2I_start hI1 hd
  refine ro_tri_two (sd := sd) hG hO1 hC1 hS1 (by omega) hl1 hz1 hR' (by omega) hn1 hd hI2 hsd (by omega) (fun Z2 M2 D2 T2 V2 up2 low2 v2_ rc2 rs2 hI3 hR2 hC2 hS2 t2 u2 ho2 hlen2 hv2 hF2 hz2 => ?_)
  exact K Z2 M2 vv D2 T2 V2 up2 low2 fi1 se1 X1 Y1 v2_ rc2 rs2 hI3.done (rowsZ_trans hI3.1.1 hd1) (rowsZ_trans hd2 hI3.1.2) hI3.small (fun a k ha haR hk => by rw [hR2 a k ha hk]; exact (hI1.2.1 k hk).2 a (by omega) (by omega)) (hO1.ff hF2) hC2 hS2 (hX1.same hlen2) (by omega) (by omega) (fun i hi => by rw [ho2 i (by omega), ho1 i hi]) (fun i hi => by rw [hv2 i (by omega), hv1 i hi]) (by omega) (hG1.trans (OF.ofFF hO1 hF2)) hz2
end RO9
