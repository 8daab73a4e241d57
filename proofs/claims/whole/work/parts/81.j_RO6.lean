/-! ===== Forms.triangle: two rows (printed by wip/gen/ro6.py) ===== -/
section RO6
variable {G : jg} {d : Nat} {Q : jq} {rc rs : Nat} {M : mheap} {o f w vv pv ca ra : Nat} {v2 : Value} {D V P CA RA : List Int32} {t : Nat} {up low rk fi se : Int32}
theorem ro_tri_row {b nu dp a n c i x p bz g pu pv_ ppg pxg R T sa A1 CK cm X Z' : Nat} {o17 o18 o19 o20 : Option Value} {Z : imat} {zd zu zv zpg zxg : Int} {one two : Nat → Int} (hG : kG G) (hO : OC M o f w ca ra CA RA fi se) (hC : FC M f w vv pv V t up low P rk) (hS : RS M w D T v2 cm X Z' rc rs) (hV : V.length < 2 ^ 31) (htV : t ≤ V.length) (hz : MZ D T V t a R n Z) (hR : R < 1024) (hn : n < 1024) (hcn : c < n) (hcR : c < R) (hiR : i < R) (hci : c < i) (hdp : RI D T dp zd) (hd : 0 < zd) (hpu : RI D T pu zu) (hpv : RI D T pv_ zv) (hpg : RI D T ppg zpg) (hxg : RI D T pxg zxg) (bd : ZB sa zd) (bu : ZB A1 zu) (bv : ZB A1 zv) (bpg : ZB sa zpg) (bxg : ZB sa zxg) (hA1 : A1 = sa + 1) (hsz : ∀ i j, i < R → j < n → ZB sa (Z i j)) (h1o : one = fun k => zu * Z c k + zv * Z i k) (h2o : bz = 1 ∧ two = (fun k => Z c k) ∨ bz = 0 ∧ two = (fun k => zpg * Z i k - zxg * Z c k)) (hCK : CK = 18 * sa + 40) (hT : T + n * CK + 20 * sa + 100 ≤ cm)
    (K : ∀ M' D' T' V' up' low' v2' rc' rs' o17 o18 o19 o20, FC M' f w vv pv V' t up' low' P rk → RS M' w D' T' v2' cm X Z' rc' rs' → T ≤ T' → T' ≤ T + n * CK → (∀ i, i < T → D'.getD i 0 = D.getD i 0) → V'.length = V.length → (∀ i, i < a ∨ a + 2 + 2 * (R * n) ≤ i → V'.getD i 0 = V.getD i 0) → FF M M' f → MZ D' T' V' t a R n (trow Z zd c i one two n) → jj G kRO_triangle (d + 9) Q rc' rs' 422 [some (.ref o), some (.int (nI (b))), some (.int (nI (nu))), some (.int (nI (dp))), some (.int (nI (a))), some (.int (nI (n))), some (.int (nI (c))), some (.int (nI (i))), some (.int (nI (x))), some (.int (nI (p))), some (.int (nI (bz))), some (.int (nI (g))), some (.int (nI (pu))), some (.int (nI (pv_))), some (.int (nI (ppg))), some (.int (nI (pxg))), some (.int (nI (n))), (o17), (o18), (o19), (o20)] [] M') : jj G kRO_triangle (d + 9) Q rc rs 233 [some (.ref o), some (.int (nI (b))), some (.int (nI (nu))), some (.int (nI (dp))), some (.int (nI (a))), some (.int (nI (n))), some (.int (nI (c))), some (.int (nI (i))), some (.int (nI (x))), some (.int (nI (p))), some (.int (nI (bz))), some (.int (nI (g))), some (.int (nI (pu))), some (.int (nI (pv_))), some (.int (nI (ppg))), some (.int (nI (pxg))), some (.int (nI (c))), (o17), (o18), (o19), (o20)] [] M := by
  have hcapD := hS.2.1.cap
  have hza := hz.1
  have hRn : R * n < 1024 * 1024 := Nat.mul_lt_mul_of_lt_of_le hR (by omega) (by decide)
  have loop : ∀ mu k, n = k + mu → c ≤ k → ∀ (o17 o18 o19 o20 : Option Value) (M9 : mheap) (D9 : List Int32) (T9 : Nat) (V9 : List Int32) (up9 low9 : Int32) (v9 : Value) (rc9 rs9 : Nat), FC M9 f w vv pv V9 t up9 low9 P rk → RS M9 w D9 T9 v9 cm X Z' rc9 rs9 → T ≤ T9 → T9 + c * CK ≤ T + k * CK → (∀ i, i < T → D9.getD i 0 = D.getD i 0) → V9.length = V.length → (∀ i, i < a ∨ a + 2 + 2 * (R * n) ≤ i → V9.getD i 0 = V.getD i 0) → FF M M9 f → MZ D9 T9 V9 t a R n (trow Z zd c i one two k) → jj G kRO_triangle (d + 9) Q rc9 rs9 233 [some (.ref o), some (.int (nI (b))), some (.int (nI (nu))), some (.int (nI (dp))), some (.int (nI (a))), some (.int (nI (n))), some (.int (nI (c))), some (.int (nI (i))), some (.int (nI (x))), some (.int (nI (p))), some (.int (nI (bz))), some (.int (nI (g))), some (.int (nI (pu))), some (.int (nI (pv_))), some (.int (nI (ppg))), some (.int (nI (pxg))), some (.int (nI (k))), (o17), (o18), (o19), (o20)] [] M9 := by
    intro mu
    induction mu with
    | zero =>
      intro k hk hck o17 o18 o19 o20 M9 D9 T9 V9 up9 low9 v9 rc9 rs9 hC9 hS9 t9 u9 ho9 hlen9 hV9 hF9 hz9
      have e9 : n = k := by omega
      subst e9
      refine jj_iload (pc := 233) kRO_triangle_d233 rfl ?_
      refine jj_iload (pc := 235) kRO_triangle_d235 rfl ?_
      refine jn_icmp_ge (pc := 237) (tgt := 422) kRO_triangle_d237 (by decide) (by omega) (by omega) (fun _ => ?_) (fun c => by exfalso; omega)
      show jj G kRO_triangle (d + 9) Q rc9 rs9 422 [some (.ref o), some (.int (nI (b))), some (.int (nI (nu))), some (.int (nI (dp))), some (.int (nI (a))), some (.int (nI (n))), some (.int (nI (c))), some (.int (nI (i))), some (.int (nI (x))), some (.int (nI (p))), some (.int (nI (bz))), some (.int (nI (g))), some (.int (nI (pu))), some (.int (nI (pv_))), some (.int (nI (ppg))), some (.int (nI (pxg))), some (.int (nI (n))), (o17), (o18), (o19), (o20)] [] M9
      exact K M9 D9 T9 V9 up9 low9 v9 rc9 rs9 _ _ _ _ hC9 hS9 t9 (by omega) ho9 hlen9 hV9 hF9 hz9
    | succ mu ih =>
      intro k hk hck o17 o18 o19 o20 M9 D9 T9 V9 up9 low9 v9 rc9 rs9 hC9 hS9 t9 u9 ho9 hlen9 hV9 hF9 hz9
      have hk1 : (k + 1) * CK ≤ n * CK := Nat.mul_le_mul_right _ (by omega)
      have hk2 : (k + 1) * CK = k * CK + CK := Nat.succ_mul _ _
      obtain ⟨cn, hcn_⟩ : ∃ cn, c * n = cn := ⟨_, rfl⟩
      obtain ⟨iN, hin_⟩ : ∃ iN, i * n = iN := ⟨_, rfl⟩
      obtain ⟨xc, hxc⟩ : ∃ xc, cn + k = xc := ⟨_, rfl⟩
      obtain ⟨xi, hxi⟩ : ∃ xi, iN + k = xi := ⟨_, rfl⟩
      have hxcl : xc < R * n := by rw [← hxc, ← hcn_]; exact cell_lt hcR (by omega)
      have hxil : xi < R * n := by rw [← hxi, ← hin_]; exact cell_lt hiR (by omega)
      obtain ⟨py, a1, a2, a3⟩ := hz9.2.2.2 c k hcR (by omega)
      obtain ⟨pz, b1, b2, b3⟩ := hz9.2.2.2 i k hiR (by omega)
      rw [hcn_, hxc] at a1 a2
      rw [hin_, hxi] at b1 b2
      have ey : trow Z zd c i one two k c k = Z c k := if_neg (by omega)
      have ez : trow Z zd c i one two k i k = Z i k := if_neg (by omega)
      rw [ey] at a3
      rw [ez] at b3
      have sy := hsz c k hcR (by omega)
      have sz := hsz i k hiR (by omega)
      have e1k : one k = zu * Z c k + zv * Z i k := by rw [h1o]
      have hnx := trow_next Z zd one two hck (show c ≠ i by omega)
      generalize hyy : Z c k = yy at a3 sy e1k
      generalize hzz : Z i k = zz at b3 sz e1k
      have lpy := a3.lt
      have lpz := b3.lt
      have d9 := hdp.congr t9 ho9
      have u9' := hpu.congr t9 ho9
      have v9' := hpv.congr t9 ho9
      have g9 := hpg.congr t9 ho9
      have x9 := hxg.congr t9 ho9
      have s1 : ZB (A1 + sa) (zu * yy) := bu.mul sy
      have s2 : ZB (A1 + sa) (zv * zz) := bv.mul sz
      have s3 : ZB (A1 + sa + 1) (zu * yy + zv * zz) := s1.add s2
      rw [← e1k] at s3
      have s4 : ZB (sa + sa) (zpg * zz) := bpg.mul sz
      have s5 : ZB (sa + sa) (zxg * yy) := bxg.mul sy
      have s6 : ZB (A1 + sa + 1) (zpg * zz - zxg * yy) := (s4.sub s5).mono (by omega)
      have hcap9 := hS9.2.1.cap
      have hk2' : k * CK ≤ n * CK := Nat.mul_le_mul_right _ (by omega)
      rcases h2o with ⟨hbz, h2e⟩ | ⟨hbz, h2e⟩
      · skip
        subst hbz
        have e2k : two k = yy := by rw [h2e, ← hyy]
        rcases Nat.eq_or_lt_of_le hck with hkc | hkc
        · skip
          have hr1 : rdm zd c k (one k) = one k := if_pos hkc.symm
          have hr2 : rdm zd c k (two k) = two k := if_pos hkc.symm
          obtain ⟨hW101, hB101, hTD101, hz101, hp101⟩ := id hS9
          obtain ⟨dd101, hw101, hd101⟩ := id hW101
          have hcap101 := hB101.cap
          refine jj_iload (pc := 233) kRO_triangle_d233 rfl ?_
          refine jj_iload (pc := 235) kRO_triangle_d235 rfl ?_
          refine jn_icmp_ge (pc := 237) (tgt := 422) kRO_triangle_d237 (by decide) (by omega) (by omega) (fun c => by exfalso; omega) (fun _ => ?_)
          refine jj_aload_n (pc := 240) kRO_triangle_d240 rfl ?_
          refine jj_getf (pc := 241) kRO_triangle_d241 (kfRO_f hG) (hO.ff hF9).1 rfl ?_
          refine jj_iload (pc := 244) kRO_triangle_d244 rfl ?_
          refine jj_iload (pc := 246) kRO_triangle_d246 rfl ?_
          refine jj_iload (pc := 248) kRO_triangle_d248 rfl ?_
          refine jn_imul (pc := 250) (cn) kRO_triangle_d250 hcn_ ?_
          refine jj_iload (pc := 251) kRO_triangle_d251 rfl ?_
          refine jn_iadd (pc := 253) (xc) kRO_triangle_d253 hxc ?_
          refine jj_callV (pc := 254) (b := f) (As := [.int (nI (a)), .int (nI (xc))]) kRO_triangle_d254 (kvRO_RF_upper hG) (kG_cl hG rfl) rfl hC9.1 rfl rfl rfl (Nat.le_of_ble_eq_true rfl) (Nat.le_of_ble_eq_true rfl) (jj_bare0 rfl) ?_
          refine rf_upper hG hC9 (by omega) (by omega) ?_
          show jj G kRO_triangle (d + 9) Q rc9 rs9 257 [some (.ref o), some (.int (nI (b))), some (.int (nI (nu))), some (.int (nI (dp))), some (.int (nI (a))), some (.int (nI (n))), some (.int (nI (c))), some (.int (nI (i))), some (.int (nI (x))), some (.int (nI (p))), some (.int (nI (1))), some (.int (nI (g))), some (.int (nI (pu))), some (.int (nI (pv_))), some (.int (nI (ppg))), some (.int (nI (pxg))), some (.int (nI (k))), (o17), (o18), (o19), (o20)] [.int (V9.getD (a + 2 + 2 * xc) 0)] M9
          refine jn_top (.int (nI (py))) (by rw [a1]) ?_
          refine jj_istore (pc := 257) kRO_triangle_d257 (Nat.le_of_ble_eq_true rfl) ?_
          refine jj_aload_n (pc := 259) kRO_triangle_d259 rfl ?_
          refine jj_getf (pc := 260) kRO_triangle_d260 (kfRO_f hG) (hO.ff hF9).1 rfl ?_
          refine jj_iload (pc := 263) kRO_triangle_d263 rfl ?_
          refine jj_iload (pc := 265) kRO_triangle_d265 rfl ?_
          refine jj_iload (pc := 267) kRO_triangle_d267 rfl ?_
          refine jn_imul (pc := 269) (iN) kRO_triangle_d269 hin_ ?_
          refine jj_iload (pc := 270) kRO_triangle_d270 rfl ?_
          refine jn_iadd (pc := 272) (xi) kRO_triangle_d272 hxi ?_
          refine jj_callV (pc := 273) (b := f) (As := [.int (nI (a)), .int (nI (xi))]) kRO_triangle_d273 (kvRO_RF_upper hG) (kG_cl hG rfl) rfl hC9.1 rfl rfl rfl (Nat.le_of_ble_eq_true rfl) (Nat.le_of_ble_eq_true rfl) (jj_bare0 rfl) ?_
          refine rf_upper hG hC9 (by omega) (by omega) ?_
          show jj G kRO_triangle (d + 9) Q rc9 rs9 276 [some (.ref o), some (.int (nI (b))), some (.int (nI (nu))), some (.int (nI (dp))), some (.int (nI (a))), some (.int (nI (n))), some (.int (nI (c))), some (.int (nI (i))), some (.int (nI (x))), some (.int (nI (p))), some (.int (nI (1))), some (.int (nI (g))), some (.int (nI (pu))), some (.int (nI (pv_))), some (.int (nI (ppg))), some (.int (nI (pxg))), some (.int (nI (k))), some (.int (nI (py))), (o18), (o19), (o20)] [.int (V9.getD (a + 2 + 2 * xi) 0)] M9
          refine jn_top (.int (nI (pz))) (by rw [b1]) ?_
          refine jj_istore (pc := 276) kRO_triangle_d276 (Nat.le_of_ble_eq_true rfl) ?_
          refine jj_aload_n (pc := 278) kRO_triangle_d278 rfl ?_
          refine jj_getf (pc := 279) kRO_triangle_d279 (kfRO_w hG) (hO.ff hF9).1 rfl ?_
          refine jj_aload_n (pc := 282) kRO_triangle_d282 rfl ?_
          refine jj_getf (pc := 283) kRO_triangle_d283 (kfRO_w hG) (hO.ff hF9).1 rfl ?_
          refine jj_iload (pc := 286) kRO_triangle_d286 rfl ?_
          refine jj_iload (pc := 288) kRO_triangle_d288 rfl ?_
          refine jj_callV (pc := 290) (b := w) (As := [.int (nI (pu)), .int (nI (py))]) kRO_triangle_d290 (kvRO_RW_multiply hG) (kG_cl hG rfl) rfl hw101 rfl rfl rfl (Nat.le_of_ble_eq_true rfl) (Nat.le_of_ble_eq_true rfl) (jj_bare0 rfl) ?_
          refine rs_multiply (a := A1) (b := sa) hG hS9 u9' a3 bu sy (by omega) (fun M102 D102 T102 p102 rc102 rs102 hS102 t102 u102 ho102 hf102 hI102 => ?_)
          show jj G kRO_triangle (d + 9) Q rc102 rs102 293 [some (.ref o), some (.int (nI (b))), some (.int (nI (nu))), some (.int (nI (dp))), some (.int (nI (a))), some (.int (nI (n))), some (.int (nI (c))), some (.int (nI (i))), some (.int (nI (x))), some (.int (nI (p))), some (.int (nI (1))), some (.int (nI (g))), some (.int (nI (pu))), some (.int (nI (pv_))), some (.int (nI (ppg))), some (.int (nI (pxg))), some (.int (nI (k))), some (.int (nI (py))), some (.int (nI (pz))), (o19), (o20)] [.int (nI (p102)), .ref w] M102
          have hC102 := hC9.rf hf102
          have hF102 := hF9.trans (FF.ofRF hC9 hf102)
          have d9_102 := d9.congr t102.1 ho102
          have u9'_102 := u9'.congr t102.1 ho102
          have v9'_102 := v9'.congr t102.1 ho102
          have g9_102 := g9.congr t102.1 ho102
          have x9_102 := x9.congr t102.1 ho102
          have a3_102 := a3.congr t102.1 ho102
          have b3_102 := b3.congr t102.1 ho102
          have t102q := t102.1
          clear t102
          obtain ⟨hW103, hB103, hTD103, hz103, hp103⟩ := id hS102
          obtain ⟨dd103, hw103, hd103⟩ := id hW103
          have hcap103 := hB103.cap
          refine jj_aload_n (pc := 293) kRO_triangle_d293 rfl ?_
          refine jj_getf (pc := 294) kRO_triangle_d294 (kfRO_w hG) (hO.ff hF102).1 rfl ?_
          refine jj_iload (pc := 297) kRO_triangle_d297 rfl ?_
          refine jj_iload (pc := 299) kRO_triangle_d299 rfl ?_
          refine jj_callV (pc := 301) (b := w) (As := [.int (nI (pv_)), .int (nI (pz))]) kRO_triangle_d301 (kvRO_RW_multiply hG) (kG_cl hG rfl) rfl hw103 rfl rfl rfl (Nat.le_of_ble_eq_true rfl) (Nat.le_of_ble_eq_true rfl) (jj_bare0 rfl) ?_
          refine rs_multiply (a := A1) (b := sa) hG hS102 v9'_102 b3_102 bv sz (by omega) (fun M104 D104 T104 p104 rc104 rs104 hS104 t104 u104 ho104 hf104 hI104 => ?_)
          show jj G kRO_triangle (d + 9) Q rc104 rs104 304 [some (.ref o), some (.int (nI (b))), some (.int (nI (nu))), some (.int (nI (dp))), some (.int (nI (a))), some (.int (nI (n))), some (.int (nI (c))), some (.int (nI (i))), some (.int (nI (x))), some (.int (nI (p))), some (.int (nI (1))), some (.int (nI (g))), some (.int (nI (pu))), some (.int (nI (pv_))), some (.int (nI (ppg))), some (.int (nI (pxg))), some (.int (nI (k))), some (.int (nI (py))), some (.int (nI (pz))), (o19), (o20)] [.int (nI (p104)), .int (nI (p102)), .ref w] M104
          have hC104 := hC102.rf hf104
          have hF104 := hF102.trans (FF.ofRF hC102 hf104)
          have d9_104 := d9_102.congr t104.1 ho104
          have u9'_104 := u9'_102.congr t104.1 ho104
          have v9'_104 := v9'_102.congr t104.1 ho104
          have g9_104 := g9_102.congr t104.1 ho104
          have x9_104 := x9_102.congr t104.1 ho104
          have a3_104 := a3_102.congr t104.1 ho104
          have b3_104 := b3_102.congr t104.1 ho104
          have hI102_104 := hI102.congr t104.1 ho104
          have t104q := t104.1
          clear t104
          obtain ⟨hW105, hB105, hTD105, hz105, hp105⟩ := id hS104
          obtain ⟨dd105, hw105, hd105⟩ := id hW105
          have hcap105 := hB105.cap
          refine jj_callV (pc := 304) (b := w) (As := [.int (nI (p102)), .int (nI (p104))]) kRO_triangle_d304 (kvRO_RW_add hG) (kG_cl hG rfl) rfl hw105 rfl rfl rfl (Nat.le_of_ble_eq_true rfl) (Nat.le_of_ble_eq_true rfl) (jj_bare0 rfl) ?_
          refine rs_add (a := A1 + sa) hG hS104 hI102_104 hI104 s1 s2 (by omega) (fun M106 D106 T106 p106 rc106 rs106 hS106 t106 u106 ho106 hf106 hI106 => ?_)
          show jj G kRO_triangle (d + 9) Q rc106 rs106 307 [some (.ref o), some (.int (nI (b))), some (.int (nI (nu))), some (.int (nI (dp))), some (.int (nI (a))), some (.int (nI (n))), some (.int (nI (c))), some (.int (nI (i))), some (.int (nI (x))), some (.int (nI (p))), some (.int (nI (1))), some (.int (nI (g))), some (.int (nI (pu))), some (.int (nI (pv_))), some (.int (nI (ppg))), some (.int (nI (pxg))), some (.int (nI (k))), some (.int (nI (py))), some (.int (nI (pz))), (o19), (o20)] [.int (nI (p106))] M106
          have hC106 := hC104.rf hf106
          have hF106 := hF104.trans (FF.ofRF hC104 hf106)
          have d9_106 := d9_104.congr t106.1 ho106
          have u9'_106 := u9'_104.congr t106.1 ho106
          have v9'_106 := v9'_104.congr t106.1 ho106
          have g9_106 := g9_104.congr t106.1 ho106
          have x9_106 := x9_104.congr t106.1 ho106
          have a3_106 := a3_104.congr t106.1 ho106
          have b3_106 := b3_104.congr t106.1 ho106
          have hI102_106 := hI102_104.congr t106.1 ho106
          have hI104_106 := hI104.congr t106.1 ho106
          have t106q := t106.1
          clear t106
          obtain ⟨hW107, hB107, hTD107, hz107, hp107⟩ := id hS106
          obtain ⟨dd107, hw107, hd107⟩ := id hW107
          have hcap107 := hB107.cap
          rw [← e1k] at hI106
          refine jj_istore (pc := 307) kRO_triangle_d307 (Nat.le_of_ble_eq_true rfl) ?_
          refine jj_iload (pc := 309) kRO_triangle_d309 rfl ?_
          refine jn_if_eq (pc := 311) (tgt := 319) kRO_triangle_d311 (by decide) (by omega) (fun c => by exfalso; omega) (fun _ => ?_)
          refine jj_iload (pc := 314) kRO_triangle_d314 rfl ?_
          refine jj_goto (pc := 316) (tgt := 348) kRO_triangle_d316 (by decide) ?_
          have s7 : ZB (A1 + sa + 1) (two k) := by rw [e2k]; exact sy.mono (by omega)
          have m5 := hz9.congr (show T9 ≤ T106 by omega) (fun i hi => by rw [ho106 i (by omega), ho104 i (by omega), ho102 i (by omega)]) hza (fun _ _ _ => rfl)
          have f2 := a3_106
          rw [← e2k] at f2
          refine jj_istore (pc := 348) kRO_triangle_d348 (Nat.le_of_ble_eq_true rfl) ?_
          show jj G kRO_triangle (d + 9) Q rc106 rs106 350 [some (.ref o), some (.int (nI (b))), some (.int (nI (nu))), some (.int (nI (dp))), some (.int (nI (a))), some (.int (nI (n))), some (.int (nI (c))), some (.int (nI (i))), some (.int (nI (x))), some (.int (nI (p))), some (.int (nI (1))), some (.int (nI (g))), some (.int (nI (pu))), some (.int (nI (pv_))), some (.int (nI (ppg))), some (.int (nI (pxg))), some (.int (nI (k))), some (.int (nI (py))), some (.int (nI (pz))), some (.int (nI (p106))), some (.int (nI (py)))] [] M106
          refine jj_aload_n (pc := 350) kRO_triangle_d350 rfl ?_
          refine jj_iload (pc := 351) kRO_triangle_d351 rfl ?_
          refine jj_iload (pc := 353) kRO_triangle_d353 rfl ?_
          refine jj_iload (pc := 355) kRO_triangle_d355 rfl ?_
          refine jn_imul (pc := 357) (cn) kRO_triangle_d357 hcn_ ?_
          refine jj_iload (pc := 358) kRO_triangle_d358 rfl ?_
          refine jn_iadd (pc := 360) (xc) kRO_triangle_d360 hxc ?_
          refine jj_iload (pc := 361) kRO_triangle_d361 rfl ?_
          refine jj_iload (pc := 363) kRO_triangle_d363 rfl ?_
          refine jn_icmp_ne (pc := 365) (tgt := 373) kRO_triangle_d365 (by decide) (by omega) (by omega) (fun c => by exfalso; omega) (fun _ => ?_)
          refine jj_iload (pc := 368) kRO_triangle_d368 rfl ?_
          refine jj_goto (pc := 370) (tgt := 380) kRO_triangle_d370 (by decide) ?_
          refine jj_callV (pc := 380) (b := o) (As := [.int (nI (a)), .int (nI (xc)), .int (nI (p106))]) kRO_triangle_d380 (kvRO_RO_whole hG) (kG_cl hG rfl) rfl (hO.ff hF106).1 rfl rfl rfl (Nat.le_of_ble_eq_true rfl) (Nat.le_of_ble_eq_true rfl) (jj_bare0 rfl) ?_
          refine ro_whole (a := a) (i := xc) (x := p106) hG (hO.ff hF106) hC106 hS106 (by omega) (by omega) (fun M108 hC108 hS108 hf108 => ?_)
          show jj G kRO_triangle (d + 9) Q rc106 rs106 383 [some (.ref o), some (.int (nI (b))), some (.int (nI (nu))), some (.int (nI (dp))), some (.int (nI (a))), some (.int (nI (n))), some (.int (nI (c))), some (.int (nI (i))), some (.int (nI (x))), some (.int (nI (p))), some (.int (nI (1))), some (.int (nI (g))), some (.int (nI (pu))), some (.int (nI (pv_))), some (.int (nI (ppg))), some (.int (nI (pxg))), some (.int (nI (k))), some (.int (nI (py))), some (.int (nI (pz))), some (.int (nI (p106))), some (.int (nI (py)))] [] M108
          obtain ⟨V108, hV108⟩ : ∃ V108, (V9.set (a + 2 + 2 * xc) (nI p106)).set (a + 3 + 2 * xc) (nI 1) = V108 := ⟨_, rfl⟩
          rw [hV108] at hC108
          have hl108 : V108.length = V9.length := by rw [← hV108, List.length_set, List.length_set]
          have hv108 : ∀ i, i < a ∨ a + 2 + 2 * (R * n) ≤ i → V108.getD i 0 = V9.getD i 0 := fun i hi => by rw [← hV108, gd_set_ne (by omega), gd_set_ne (by omega)]
          have hF108 := hF106.trans hf108
          have mz108 := m5.put (i := c) (j := k) (x := p106) (z := rdm zd c k (one k)) (V' := V108) hcR (by omega) (by omega) (by rw [hcn_, hxc]; exact hV108.symm) (by rw [hr1]; exact hI106)
          obtain ⟨hW109, hB109, hTD109, hz109, hp109⟩ := id hS108
          obtain ⟨dd109, hw109, hd109⟩ := id hW109
          have hcap109 := hB109.cap
          refine jj_aload_n (pc := 383) kRO_triangle_d383 rfl ?_
          refine jj_iload (pc := 384) kRO_triangle_d384 rfl ?_
          refine jj_iload (pc := 386) kRO_triangle_d386 rfl ?_
          refine jj_iload (pc := 388) kRO_triangle_d388 rfl ?_
          refine jn_imul (pc := 390) (iN) kRO_triangle_d390 hin_ ?_
          refine jj_iload (pc := 391) kRO_triangle_d391 rfl ?_
          refine jn_iadd (pc := 393) (xi) kRO_triangle_d393 hxi ?_
          refine jj_iload (pc := 394) kRO_triangle_d394 rfl ?_
          refine jj_iload (pc := 396) kRO_triangle_d396 rfl ?_
          refine jn_icmp_ne (pc := 398) (tgt := 406) kRO_triangle_d398 (by decide) (by omega) (by omega) (fun c => by exfalso; omega) (fun _ => ?_)
          refine jj_iload (pc := 401) kRO_triangle_d401 rfl ?_
          refine jj_goto (pc := 403) (tgt := 413) kRO_triangle_d403 (by decide) ?_
          refine jj_callV (pc := 413) (b := o) (As := [.int (nI (a)), .int (nI (xi)), .int (nI (py))]) kRO_triangle_d413 (kvRO_RO_whole hG) (kG_cl hG rfl) rfl (hO.ff hF108).1 rfl rfl rfl (Nat.le_of_ble_eq_true rfl) (Nat.le_of_ble_eq_true rfl) (jj_bare0 rfl) ?_
          refine ro_whole (a := a) (i := xi) (x := py) hG (hO.ff hF108) hC108 hS108 (by omega) (by omega) (fun M110 hC110 hS110 hf110 => ?_)
          show jj G kRO_triangle (d + 9) Q rc106 rs106 416 [some (.ref o), some (.int (nI (b))), some (.int (nI (nu))), some (.int (nI (dp))), some (.int (nI (a))), some (.int (nI (n))), some (.int (nI (c))), some (.int (nI (i))), some (.int (nI (x))), some (.int (nI (p))), some (.int (nI (1))), some (.int (nI (g))), some (.int (nI (pu))), some (.int (nI (pv_))), some (.int (nI (ppg))), some (.int (nI (pxg))), some (.int (nI (k))), some (.int (nI (py))), some (.int (nI (pz))), some (.int (nI (p106))), some (.int (nI (py)))] [] M110
          obtain ⟨V110, hV110⟩ : ∃ V110, (V108.set (a + 2 + 2 * xi) (nI py)).set (a + 3 + 2 * xi) (nI 1) = V110 := ⟨_, rfl⟩
          rw [hV110] at hC110
          have hl110 : V110.length = V108.length := by rw [← hV110, List.length_set, List.length_set]
          have hv110 : ∀ i, i < a ∨ a + 2 + 2 * (R * n) ≤ i → V110.getD i 0 = V108.getD i 0 := fun i hi => by rw [← hV110, gd_set_ne (by omega), gd_set_ne (by omega)]
          have hF110 := hF108.trans hf110
          have mz110 := mz108.put (i := i) (j := k) (x := py) (z := rdm zd c k (two k)) (V' := V110) hiR (by omega) (by omega) (by rw [hin_, hxi]; exact hV110.symm) (by rw [hr2]; exact f2)
          obtain ⟨hW111, hB111, hTD111, hz111, hp111⟩ := id hS110
          obtain ⟨dd111, hw111, hd111⟩ := id hW111
          have hcap111 := hB111.cap
          refine jn_iinc (pc := 416) (k + 1) kRO_triangle_d416 rfl (nI_1 _) ?_
          refine jj_goto (pc := 419) (tgt := 233) kRO_triangle_d419 (by decide) ?_
          show jj G kRO_triangle (d + 9) Q rc106 rs106 233 [some (.ref o), some (.int (nI (b))), some (.int (nI (nu))), some (.int (nI (dp))), some (.int (nI (a))), some (.int (nI (n))), some (.int (nI (c))), some (.int (nI (i))), some (.int (nI (x))), some (.int (nI (p))), some (.int (nI (1))), some (.int (nI (g))), some (.int (nI (pu))), some (.int (nI (pv_))), some (.int (nI (ppg))), some (.int (nI (pxg))), some (.int (nI (k + 1))), some (.int (nI (py))), some (.int (nI (pz))), some (.int (nI (p106))), some (.int (nI (py)))] [] M110
          exact ih (k + 1) (by omega) (by omega) _ _ _ _ M110 D106 T106 V110 _ _ _ rc106 rs106 hC110 hS110 (by omega) (by omega) (fun i hi => by rw [ho106 i (by omega), ho104 i (by omega), ho102 i (by omega), ho9 i (by omega)]) (by omega) (fun i hi => by rw [hv110 i hi, hv108 i hi, hV9 i hi]) hF110 (by rw [hnx]; exact mz110)
        · skip
          have hr1 : rdm zd c k (one k) = one k % zd := if_neg (by omega)
          have hr2 : rdm zd c k (two k) = two k % zd := if_neg (by omega)
          obtain ⟨hW112, hB112, hTD112, hz112, hp112⟩ := id hS9
          obtain ⟨dd112, hw112, hd112⟩ := id hW112
          have hcap112 := hB112.cap
          refine jj_iload (pc := 233) kRO_triangle_d233 rfl ?_
          refine jj_iload (pc := 235) kRO_triangle_d235 rfl ?_
          refine jn_icmp_ge (pc := 237) (tgt := 422) kRO_triangle_d237 (by decide) (by omega) (by omega) (fun c => by exfalso; omega) (fun _ => ?_)
          refine jj_aload_n (pc := 240) kRO_triangle_d240 rfl ?_
          refine jj_getf (pc := 241) kRO_triangle_d241 (kfRO_f hG) (hO.ff hF9).1 rfl ?_
          refine jj_iload (pc := 244) kRO_triangle_d244 rfl ?_
          refine jj_iload (pc := 246) kRO_triangle_d246 rfl ?_
          refine jj_iload (pc := 248) kRO_triangle_d248 rfl ?_
          refine jn_imul (pc := 250) (cn) kRO_triangle_d250 hcn_ ?_
          refine jj_iload (pc := 251) kRO_triangle_d251 rfl ?_
          refine jn_iadd (pc := 253) (xc) kRO_triangle_d253 hxc ?_
          refine jj_callV (pc := 254) (b := f) (As := [.int (nI (a)), .int (nI (xc))]) kRO_triangle_d254 (kvRO_RF_upper hG) (kG_cl hG rfl) rfl hC9.1 rfl rfl rfl (Nat.le_of_ble_eq_true rfl) (Nat.le_of_ble_eq_true rfl) (jj_bare0 rfl) ?_
          refine rf_upper hG hC9 (by omega) (by omega) ?_
          show jj G kRO_triangle (d + 9) Q rc9 rs9 257 [some (.ref o), some (.int (nI (b))), some (.int (nI (nu))), some (.int (nI (dp))), some (.int (nI (a))), some (.int (nI (n))), some (.int (nI (c))), some (.int (nI (i))), some (.int (nI (x))), some (.int (nI (p))), some (.int (nI (1))), some (.int (nI (g))), some (.int (nI (pu))), some (.int (nI (pv_))), some (.int (nI (ppg))), some (.int (nI (pxg))), some (.int (nI (k))), (o17), (o18), (o19), (o20)] [.int (V9.getD (a + 2 + 2 * xc) 0)] M9
          refine jn_top (.int (nI (py))) (by rw [a1]) ?_
          refine jj_istore (pc := 257) kRO_triangle_d257 (Nat.le_of_ble_eq_true rfl) ?_
          refine jj_aload_n (pc := 259) kRO_triangle_d259 rfl ?_
          refine jj_getf (pc := 260) kRO_triangle_d260 (kfRO_f hG) (hO.ff hF9).1 rfl ?_
          refine jj_iload (pc := 263) kRO_triangle_d263 rfl ?_
          refine jj_iload (pc := 265) kRO_triangle_d265 rfl ?_
          refine jj_iload (pc := 267) kRO_triangle_d267 rfl ?_
          refine jn_imul (pc := 269) (iN) kRO_triangle_d269 hin_ ?_
          refine jj_iload (pc := 270) kRO_triangle_d270 rfl ?_
          refine jn_iadd (pc := 272) (xi) kRO_triangle_d272 hxi ?_
          refine jj_callV (pc := 273) (b := f) (As := [.int (nI (a)), .int (nI (xi))]) kRO_triangle_d273 (kvRO_RF_upper hG) (kG_cl hG rfl) rfl hC9.1 rfl rfl rfl (Nat.le_of_ble_eq_true rfl) (Nat.le_of_ble_eq_true rfl) (jj_bare0 rfl) ?_
          refine rf_upper hG hC9 (by omega) (by omega) ?_
          show jj G kRO_triangle (d + 9) Q rc9 rs9 276 [some (.ref o), some (.int (nI (b))), some (.int (nI (nu))), some (.int (nI (dp))), some (.int (nI (a))), some (.int (nI (n))), some (.int (nI (c))), some (.int (nI (i))), some (.int (nI (x))), some (.int (nI (p))), some (.int (nI (1))), some (.int (nI (g))), some (.int (nI (pu))), some (.int (nI (pv_))), some (.int (nI (ppg))), some (.int (nI (pxg))), some (.int (nI (k))), some (.int (nI (py))), (o18), (o19), (o20)] [.int (V9.getD (a + 2 + 2 * xi) 0)] M9
          refine jn_top (.int (nI (pz))) (by rw [b1]) ?_
          refine jj_istore (pc := 276) kRO_triangle_d276 (Nat.le_of_ble_eq_true rfl) ?_
          refine jj_aload_n (pc := 278) kRO_triangle_d278 rfl ?_
          refine jj_getf (pc := 279) kRO_triangle_d279 (kfRO_w hG) (hO.ff hF9).1 rfl ?_
          refine jj_aload_n (pc := 282) kRO_triangle_d282 rfl ?_
          refine jj_getf (pc := 283) kRO_triangle_d283 (kfRO_w hG) (hO.ff hF9).1 rfl ?_
          refine jj_iload (pc := 286) kRO_triangle_d286 rfl ?_
          refine jj_iload (pc := 288) kRO_triangle_d288 rfl ?_
          refine jj_callV (pc := 290) (b := w) (As := [.int (nI (pu)), .int (nI (py))]) kRO_triangle_d290 (kvRO_RW_multiply hG) (kG_cl hG rfl) rfl hw112 rfl rfl rfl (Nat.le_of_ble_eq_true rfl) (Nat.le_of_ble_eq_true rfl) (jj_bare0 rfl) ?_
          refine rs_multiply (a := A1) (b := sa) hG hS9 u9' a3 bu sy (by omega) (fun M113 D113 T113 p113 rc113 rs113 hS113 t113 u113 ho113 hf113 hI113 => ?_)
          show jj G kRO_triangle (d + 9) Q rc113 rs113 293 [some (.ref o), some (.int (nI (b))), some (.int (nI (nu))), some (.int (nI (dp))), some (.int (nI (a))), some (.int (nI (n))), some (.int (nI (c))), some (.int (nI (i))), some (.int (nI (x))), some (.int (nI (p))), some (.int (nI (1))), some (.int (nI (g))), some (.int (nI (pu))), some (.int (nI (pv_))), some (.int (nI (ppg))), some (.int (nI (pxg))), some (.int (nI (k))), some (.int (nI (py))), some (.int (nI (pz))), (o19), (o20)] [.int (nI (p113)), .ref w] M113
          have hC113 := hC9.rf hf113
          have hF113 := hF9.trans (FF.ofRF hC9 hf113)
          have d9_113 := d9.congr t113.1 ho113
          have u9'_113 := u9'.congr t113.1 ho113
          have v9'_113 := v9'.congr t113.1 ho113
          have g9_113 := g9.congr t113.1 ho113
          have x9_113 := x9.congr t113.1 ho113
          have a3_113 := a3.congr t113.1 ho113
          have b3_113 := b3.congr t113.1 ho113
          have t113q := t113.1
          clear t113
          obtain ⟨hW114, hB114, hTD114, hz114, hp114⟩ := id hS113
          obtain ⟨dd114, hw114, hd114⟩ := id hW114
          have hcap114 := hB114.cap
          refine jj_aload_n (pc := 293) kRO_triangle_d293 rfl ?_
          refine jj_getf (pc := 294) kRO_triangle_d294 (kfRO_w hG) (hO.ff hF113).1 rfl ?_
          refine jj_iload (pc := 297) kRO_triangle_d297 rfl ?_
          refine jj_iload (pc := 299) kRO_triangle_d299 rfl ?_
          refine jj_callV (pc := 301) (b := w) (As := [.int (nI (pv_)), .int (nI (pz))]) kRO_triangle_d301 (kvRO_RW_multiply hG) (kG_cl hG rfl) rfl hw114 rfl rfl rfl (Nat.le_of_ble_eq_true rfl) (Nat.le_of_ble_eq_true rfl) (jj_bare0 rfl) ?_
          refine rs_multiply (a := A1) (b := sa) hG hS113 v9'_113 b3_113 bv sz (by omega) (fun M115 D115 T115 p115 rc115 rs115 hS115 t115 u115 ho115 hf115 hI115 => ?_)
          show jj G kRO_triangle (d + 9) Q rc115 rs115 304 [some (.ref o), some (.int (nI (b))), some (.int (nI (nu))), some (.int (nI (dp))), some (.int (nI (a))), some (.int (nI (n))), some (.int (nI (c))), some (.int (nI (i))), some (.int (nI (x))), some (.int (nI (p))), some (.int (nI (1))), some (.int (nI (g))), some (.int (nI (pu))), some (.int (nI (pv_))), some (.int (nI (ppg))), some (.int (nI (pxg))), some (.int (nI (k))), some (.int (nI (py))), some (.int (nI (pz))), (o19), (o20)] [.int (nI (p115)), .int (nI (p113)), .ref w] M115
          have hC115 := hC113.rf hf115
          have hF115 := hF113.trans (FF.ofRF hC113 hf115)
          have d9_115 := d9_113.congr t115.1 ho115
          have u9'_115 := u9'_113.congr t115.1 ho115
          have v9'_115 := v9'_113.congr t115.1 ho115
          have g9_115 := g9_113.congr t115.1 ho115
          have x9_115 := x9_113.congr t115.1 ho115
          have a3_115 := a3_113.congr t115.1 ho115
          have b3_115 := b3_113.congr t115.1 ho115
          have hI113_115 := hI113.congr t115.1 ho115
          have t115q := t115.1
          clear t115
          obtain ⟨hW116, hB116, hTD116, hz116, hp116⟩ := id hS115
          obtain ⟨dd116, hw116, hd116⟩ := id hW116
          have hcap116 := hB116.cap
          refine jj_callV (pc := 304) (b := w) (As := [.int (nI (p113)), .int (nI (p115))]) kRO_triangle_d304 (kvRO_RW_add hG) (kG_cl hG rfl) rfl hw116 rfl rfl rfl (Nat.le_of_ble_eq_true rfl) (Nat.le_of_ble_eq_true rfl) (jj_bare0 rfl) ?_
          refine rs_add (a := A1 + sa) hG hS115 hI113_115 hI115 s1 s2 (by omega) (fun M117 D117 T117 p117 rc117 rs117 hS117 t117 u117 ho117 hf117 hI117 => ?_)
          show jj G kRO_triangle (d + 9) Q rc117 rs117 307 [some (.ref o), some (.int (nI (b))), some (.int (nI (nu))), some (.int (nI (dp))), some (.int (nI (a))), some (.int (nI (n))), some (.int (nI (c))), some (.int (nI (i))), some (.int (nI (x))), some (.int (nI (p))), some (.int (nI (1))), some (.int (nI (g))), some (.int (nI (pu))), some (.int (nI (pv_))), some (.int (nI (ppg))), some (.int (nI (pxg))), some (.int (nI (k))), some (.int (nI (py))), some (.int (nI (pz))), (o19), (o20)] [.int (nI (p117))] M117
          have hC117 := hC115.rf hf117
          have hF117 := hF115.trans (FF.ofRF hC115 hf117)
          have d9_117 := d9_115.congr t117.1 ho117
          have u9'_117 := u9'_115.congr t117.1 ho117
          have v9'_117 := v9'_115.congr t117.1 ho117
          have g9_117 := g9_115.congr t117.1 ho117
          have x9_117 := x9_115.congr t117.1 ho117
          have a3_117 := a3_115.congr t117.1 ho117
          have b3_117 := b3_115.congr t117.1 ho117
          have hI113_117 := hI113_115.congr t117.1 ho117
          have hI115_117 := hI115.congr t117.1 ho117
          have t117q := t117.1
          clear t117
          obtain ⟨hW118, hB118, hTD118, hz118, hp118⟩ := id hS117
          obtain ⟨dd118, hw118, hd118⟩ := id hW118
          have hcap118 := hB118.cap
          rw [← e1k] at hI117
          refine jj_istore (pc := 307) kRO_triangle_d307 (Nat.le_of_ble_eq_true rfl) ?_
          refine jj_iload (pc := 309) kRO_triangle_d309 rfl ?_
          refine jn_if_eq (pc := 311) (tgt := 319) kRO_triangle_d311 (by decide) (by omega) (fun c => by exfalso; omega) (fun _ => ?_)
          refine jj_iload (pc := 314) kRO_triangle_d314 rfl ?_
          refine jj_goto (pc := 316) (tgt := 348) kRO_triangle_d316 (by decide) ?_
          have s7 : ZB (A1 + sa + 1) (two k) := by rw [e2k]; exact sy.mono (by omega)
          have m5 := hz9.congr (show T9 ≤ T117 by omega) (fun i hi => by rw [ho117 i (by omega), ho115 i (by omega), ho113 i (by omega)]) hza (fun _ _ _ => rfl)
          have f2 := a3_117
          rw [← e2k] at f2
          refine jj_istore (pc := 348) kRO_triangle_d348 (Nat.le_of_ble_eq_true rfl) ?_
          show jj G kRO_triangle (d + 9) Q rc117 rs117 350 [some (.ref o), some (.int (nI (b))), some (.int (nI (nu))), some (.int (nI (dp))), some (.int (nI (a))), some (.int (nI (n))), some (.int (nI (c))), some (.int (nI (i))), some (.int (nI (x))), some (.int (nI (p))), some (.int (nI (1))), some (.int (nI (g))), some (.int (nI (pu))), some (.int (nI (pv_))), some (.int (nI (ppg))), some (.int (nI (pxg))), some (.int (nI (k))), some (.int (nI (py))), some (.int (nI (pz))), some (.int (nI (p117))), some (.int (nI (py)))] [] M117
          refine jj_aload_n (pc := 350) kRO_triangle_d350 rfl ?_
          refine jj_iload (pc := 351) kRO_triangle_d351 rfl ?_
          refine jj_iload (pc := 353) kRO_triangle_d353 rfl ?_
          refine jj_iload (pc := 355) kRO_triangle_d355 rfl ?_
          refine jn_imul (pc := 357) (cn) kRO_triangle_d357 hcn_ ?_
          refine jj_iload (pc := 358) kRO_triangle_d358 rfl ?_
          refine jn_iadd (pc := 360) (xc) kRO_triangle_d360 hxc ?_
          refine jj_iload (pc := 361) kRO_triangle_d361 rfl ?_
          refine jj_iload (pc := 363) kRO_triangle_d363 rfl ?_
          refine jn_icmp_ne (pc := 365) (tgt := 373) kRO_triangle_d365 (by decide) (by omega) (by omega) (fun _ => ?_) (fun c => by exfalso; omega)
          refine jj_aload_n (pc := 373) kRO_triangle_d373 rfl ?_
          refine jj_iload (pc := 374) kRO_triangle_d374 rfl ?_
          refine jj_iload_n (pc := 376) kRO_triangle_d376 rfl ?_
          refine jj_callV (pc := 377) (b := o) (As := [.int (nI (p117)), .int (nI (dp))]) kRO_triangle_d377 (kvRO_RO_modulo hG) (kG_cl hG rfl) rfl (hO.ff hF117).1 rfl rfl rfl (Nat.le_of_ble_eq_true rfl) (Nat.le_of_ble_eq_true rfl) (jj_bare0 rfl) ?_
          refine ro_modulo (a := A1 + sa + 1) (b := sa) hG (hO.ff hF117) hC117 hS117 hI117 d9_117 hd s3 bd (by omega) (fun M119 D119 T119 p119 v119 rc119 rs119 hC119 hS119 t119 u119 ho119 hf119 hI119 => ?_)
          show jj G kRO_triangle (d + 9) Q rc119 rs119 380 [some (.ref o), some (.int (nI (b))), some (.int (nI (nu))), some (.int (nI (dp))), some (.int (nI (a))), some (.int (nI (n))), some (.int (nI (c))), some (.int (nI (i))), some (.int (nI (x))), some (.int (nI (p))), some (.int (nI (1))), some (.int (nI (g))), some (.int (nI (pu))), some (.int (nI (pv_))), some (.int (nI (ppg))), some (.int (nI (pxg))), some (.int (nI (k))), some (.int (nI (py))), some (.int (nI (pz))), some (.int (nI (p117))), some (.int (nI (py)))] [.int (nI (p119)), .int (nI (xc)), .int (nI (a)), .ref o] M119
          have hF119 := hF117.trans hf119
          have t119q := t119.1
          clear t119
          have d9_119 := d9_117.congr t119q ho119
          have u9'_119 := u9'_117.congr t119q ho119
          have v9'_119 := v9'_117.congr t119q ho119
          have g9_119 := g9_117.congr t119q ho119
          have x9_119 := x9_117.congr t119q ho119
          have f2_119 := f2.congr t119q ho119
          have b3_119 := b3_117.congr t119q ho119
          have hI113_119 := hI113_117.congr t119q ho119
          have hI115_119 := hI115_117.congr t119q ho119
          have hI117_119 := hI117.congr t119q ho119
          have m5_119 := m5.congr t119q ho119 hza (fun _ _ _ => rfl)
          obtain ⟨hW120, hB120, hTD120, hz120, hp120⟩ := id hS119
          obtain ⟨dd120, hw120, hd120⟩ := id hW120
          have hcap120 := hB120.cap
          refine jj_callV (pc := 380) (b := o) (As := [.int (nI (a)), .int (nI (xc)), .int (nI (p119))]) kRO_triangle_d380 (kvRO_RO_whole hG) (kG_cl hG rfl) rfl (hO.ff hF119).1 rfl rfl rfl (Nat.le_of_ble_eq_true rfl) (Nat.le_of_ble_eq_true rfl) (jj_bare0 rfl) ?_
          refine ro_whole (a := a) (i := xc) (x := p119) hG (hO.ff hF119) hC119 hS119 (by omega) (by omega) (fun M121 hC121 hS121 hf121 => ?_)
          show jj G kRO_triangle (d + 9) Q rc119 rs119 383 [some (.ref o), some (.int (nI (b))), some (.int (nI (nu))), some (.int (nI (dp))), some (.int (nI (a))), some (.int (nI (n))), some (.int (nI (c))), some (.int (nI (i))), some (.int (nI (x))), some (.int (nI (p))), some (.int (nI (1))), some (.int (nI (g))), some (.int (nI (pu))), some (.int (nI (pv_))), some (.int (nI (ppg))), some (.int (nI (pxg))), some (.int (nI (k))), some (.int (nI (py))), some (.int (nI (pz))), some (.int (nI (p117))), some (.int (nI (py)))] [] M121
          obtain ⟨V121, hV121⟩ : ∃ V121, (V9.set (a + 2 + 2 * xc) (nI p119)).set (a + 3 + 2 * xc) (nI 1) = V121 := ⟨_, rfl⟩
          rw [hV121] at hC121
          have hl121 : V121.length = V9.length := by rw [← hV121, List.length_set, List.length_set]
          have hv121 : ∀ i, i < a ∨ a + 2 + 2 * (R * n) ≤ i → V121.getD i 0 = V9.getD i 0 := fun i hi => by rw [← hV121, gd_set_ne (by omega), gd_set_ne (by omega)]
          have hF121 := hF119.trans hf121
          have mz121 := m5_119.put (i := c) (j := k) (x := p119) (z := rdm zd c k (one k)) (V' := V121) hcR (by omega) (by omega) (by rw [hcn_, hxc]; exact hV121.symm) (by rw [hr1]; exact hI119)
          obtain ⟨hW122, hB122, hTD122, hz122, hp122⟩ := id hS121
          obtain ⟨dd122, hw122, hd122⟩ := id hW122
          have hcap122 := hB122.cap
          refine jj_aload_n (pc := 383) kRO_triangle_d383 rfl ?_
          refine jj_iload (pc := 384) kRO_triangle_d384 rfl ?_
          refine jj_iload (pc := 386) kRO_triangle_d386 rfl ?_
          refine jj_iload (pc := 388) kRO_triangle_d388 rfl ?_
          refine jn_imul (pc := 390) (iN) kRO_triangle_d390 hin_ ?_
          refine jj_iload (pc := 391) kRO_triangle_d391 rfl ?_
          refine jn_iadd (pc := 393) (xi) kRO_triangle_d393 hxi ?_
          refine jj_iload (pc := 394) kRO_triangle_d394 rfl ?_
          refine jj_iload (pc := 396) kRO_triangle_d396 rfl ?_
          refine jn_icmp_ne (pc := 398) (tgt := 406) kRO_triangle_d398 (by decide) (by omega) (by omega) (fun _ => ?_) (fun c => by exfalso; omega)
          refine jj_aload_n (pc := 406) kRO_triangle_d406 rfl ?_
          refine jj_iload (pc := 407) kRO_triangle_d407 rfl ?_
          refine jj_iload_n (pc := 409) kRO_triangle_d409 rfl ?_
          refine jj_callV (pc := 410) (b := o) (As := [.int (nI (py)), .int (nI (dp))]) kRO_triangle_d410 (kvRO_RO_modulo hG) (kG_cl hG rfl) rfl (hO.ff hF121).1 rfl rfl rfl (Nat.le_of_ble_eq_true rfl) (Nat.le_of_ble_eq_true rfl) (jj_bare0 rfl) ?_
          refine ro_modulo (a := A1 + sa + 1) (b := sa) hG (hO.ff hF121) hC121 hS121 f2_119 d9_119 hd s7 bd (by omega) (fun M123 D123 T123 p123 v123 rc123 rs123 hC123 hS123 t123 u123 ho123 hf123 hI123 => ?_)
          show jj G kRO_triangle (d + 9) Q rc123 rs123 413 [some (.ref o), some (.int (nI (b))), some (.int (nI (nu))), some (.int (nI (dp))), some (.int (nI (a))), some (.int (nI (n))), some (.int (nI (c))), some (.int (nI (i))), some (.int (nI (x))), some (.int (nI (p))), some (.int (nI (1))), some (.int (nI (g))), some (.int (nI (pu))), some (.int (nI (pv_))), some (.int (nI (ppg))), some (.int (nI (pxg))), some (.int (nI (k))), some (.int (nI (py))), some (.int (nI (pz))), some (.int (nI (p117))), some (.int (nI (py)))] [.int (nI (p123)), .int (nI (xi)), .int (nI (a)), .ref o] M123
          have hF123 := hF121.trans hf123
          have t123q := t123.1
          clear t123
          have d9_123 := d9_119.congr t123q ho123
          have u9'_123 := u9'_119.congr t123q ho123
          have v9'_123 := v9'_119.congr t123q ho123
          have g9_123 := g9_119.congr t123q ho123
          have x9_123 := x9_119.congr t123q ho123
          have f2_123 := f2_119.congr t123q ho123
          have b3_123 := b3_119.congr t123q ho123
          have hI113_123 := hI113_119.congr t123q ho123
          have hI115_123 := hI115_119.congr t123q ho123
          have hI117_123 := hI117_119.congr t123q ho123
          have hI119_123 := hI119.congr t123q ho123
          have mz121_123 := mz121.congr t123q ho123 hza (fun _ _ _ => rfl)
          obtain ⟨hW124, hB124, hTD124, hz124, hp124⟩ := id hS123
          obtain ⟨dd124, hw124, hd124⟩ := id hW124
          have hcap124 := hB124.cap
          refine jj_callV (pc := 413) (b := o) (As := [.int (nI (a)), .int (nI (xi)), .int (nI (p123))]) kRO_triangle_d413 (kvRO_RO_whole hG) (kG_cl hG rfl) rfl (hO.ff hF123).1 rfl rfl rfl (Nat.le_of_ble_eq_true rfl) (Nat.le_of_ble_eq_true rfl) (jj_bare0 rfl) ?_
          refine ro_whole (a := a) (i := xi) (x := p123) hG (hO.ff hF123) hC123 hS123 (by omega) (by omega) (fun M125 hC125 hS125 hf125 => ?_)
          show jj G kRO_triangle (d + 9) Q rc123 rs123 416 [some (.ref o), some (.int (nI (b))), some (.int (nI (nu))), some (.int (nI (dp))), some (.int (nI (a))), some (.int (nI (n))), some (.int (nI (c))), some (.int (nI (i))), some (.int (nI (x))), some (.int (nI (p))), some (.int (nI (1))), some (.int (nI (g))), some (.int (nI (pu))), some (.int (nI (pv_))), some (.int (nI (ppg))), some (.int (nI (pxg))), some (.int (nI (k))), some (.int (nI (py))), some (.int (nI (pz))), some (.int (nI (p117))), some (.int (nI (py)))] [] M125
          obtain ⟨V125, hV125⟩ : ∃ V125, (V121.set (a + 2 + 2 * xi) (nI p123)).set (a + 3 + 2 * xi) (nI 1) = V125 := ⟨_, rfl⟩
          rw [hV125] at hC125
          have hl125 : V125.length = V121.length := by rw [← hV125, List.length_set, List.length_set]
          have hv125 : ∀ i, i < a ∨ a + 2 + 2 * (R * n) ≤ i → V125.getD i 0 = V121.getD i 0 := fun i hi => by rw [← hV125, gd_set_ne (by omega), gd_set_ne (by omega)]
          have hF125 := hF123.trans hf125
          have mz125 := mz121_123.put (i := i) (j := k) (x := p123) (z := rdm zd c k (two k)) (V' := V125) hiR (by omega) (by omega) (by rw [hin_, hxi]; exact hV125.symm) (by rw [hr2]; exact hI123)
          obtain ⟨hW126, hB126, hTD126, hz126, hp126⟩ := id hS125
          obtain ⟨dd126, hw126, hd126⟩ := id hW126
          have hcap126 := hB126.cap
          refine jn_iinc (pc := 416) (k + 1) kRO_triangle_d416 rfl (nI_1 _) ?_
          refine jj_goto (pc := 419) (tgt := 233) kRO_triangle_d419 (by decide) ?_
          show jj G kRO_triangle (d + 9) Q rc123 rs123 233 [some (.ref o), some (.int (nI (b))), some (.int (nI (nu))), some (.int (nI (dp))), some (.int (nI (a))), some (.int (nI (n))), some (.int (nI (c))), some (.int (nI (i))), some (.int (nI (x))), some (.int (nI (p))), some (.int (nI (1))), some (.int (nI (g))), some (.int (nI (pu))), some (.int (nI (pv_))), some (.int (nI (ppg))), some (.int (nI (pxg))), some (.int (nI (k + 1))), some (.int (nI (py))), some (.int (nI (pz))), some (.int (nI (p117))), some (.int (nI (py)))] [] M125
          exact ih (k + 1) (by omega) (by omega) _ _ _ _ M125 D123 T123 V125 _ _ _ rc123 rs123 hC125 hS125 (by omega) (by omega) (fun i hi => by rw [ho123 i (by omega), ho119 i (by omega), ho117 i (by omega), ho115 i (by omega), ho113 i (by omega), ho9 i (by omega)]) (by omega) (fun i hi => by rw [hv125 i hi, hv121 i hi, hV9 i hi]) hF125 (by rw [hnx]; exact mz125)
      · skip
        subst hbz
        have e2k : two k = zpg * zz - zxg * yy := by rw [h2e, ← hyy, ← hzz]
        rcases Nat.eq_or_lt_of_le hck with hkc | hkc
        · skip
          have hr1 : rdm zd c k (one k) = one k := if_pos hkc.symm
          have hr2 : rdm zd c k (two k) = two k := if_pos hkc.symm
          obtain ⟨hW127, hB127, hTD127, hz127, hp127⟩ := id hS9
          obtain ⟨dd127, hw127, hd127⟩ := id hW127
          have hcap127 := hB127.cap
          refine jj_iload (pc := 233) kRO_triangle_d233 rfl ?_
          refine jj_iload (pc := 235) kRO_triangle_d235 rfl ?_
          refine jn_icmp_ge (pc := 237) (tgt := 422) kRO_triangle_d237 (by decide) (by omega) (by omega) (fun c => by exfalso; omega) (fun _ => ?_)
          refine jj_aload_n (pc := 240) kRO_triangle_d240 rfl ?_
          refine jj_getf (pc := 241) kRO_triangle_d241 (kfRO_f hG) (hO.ff hF9).1 rfl ?_
          refine jj_iload (pc := 244) kRO_triangle_d244 rfl ?_
          refine jj_iload (pc := 246) kRO_triangle_d246 rfl ?_
          refine jj_iload (pc := 248) kRO_triangle_d248 rfl ?_
          refine jn_imul (pc := 250) (cn) kRO_triangle_d250 hcn_ ?_
          refine jj_iload (pc := 251) kRO_triangle_d251 rfl ?_
          refine jn_iadd (pc := 253) (xc) kRO_triangle_d253 hxc ?_
          refine jj_callV (pc := 254) (b := f) (As := [.int (nI (a)), .int (nI (xc))]) kRO_triangle_d254 (kvRO_RF_upper hG) (kG_cl hG rfl) rfl hC9.1 rfl rfl rfl (Nat.le_of_ble_eq_true rfl) (Nat.le_of_ble_eq_true rfl) (jj_bare0 rfl) ?_
          refine rf_upper hG hC9 (by omega) (by omega) ?_
          show jj G kRO_triangle (d + 9) Q rc9 rs9 257 [some (.ref o), some (.int (nI (b))), some (.int (nI (nu))), some (.int (nI (dp))), some (.int (nI (a))), some (.int (nI (n))), some (.int (nI (c))), some (.int (nI (i))), some (.int (nI (x))), some (.int (nI (p))), some (.int (nI (0))), some (.int (nI (g))), some (.int (nI (pu))), some (.int (nI (pv_))), some (.int (nI (ppg))), some (.int (nI (pxg))), some (.int (nI (k))), (o17), (o18), (o19), (o20)] [.int (V9.getD (a + 2 + 2 * xc) 0)] M9
          refine jn_top (.int (nI (py))) (by rw [a1]) ?_
          refine jj_istore (pc := 257) kRO_triangle_d257 (Nat.le_of_ble_eq_true rfl) ?_
          refine jj_aload_n (pc := 259) kRO_triangle_d259 rfl ?_
          refine jj_getf (pc := 260) kRO_triangle_d260 (kfRO_f hG) (hO.ff hF9).1 rfl ?_
          refine jj_iload (pc := 263) kRO_triangle_d263 rfl ?_
          refine jj_iload (pc := 265) kRO_triangle_d265 rfl ?_
          refine jj_iload (pc := 267) kRO_triangle_d267 rfl ?_
          refine jn_imul (pc := 269) (iN) kRO_triangle_d269 hin_ ?_
          refine jj_iload (pc := 270) kRO_triangle_d270 rfl ?_
          refine jn_iadd (pc := 272) (xi) kRO_triangle_d272 hxi ?_
          refine jj_callV (pc := 273) (b := f) (As := [.int (nI (a)), .int (nI (xi))]) kRO_triangle_d273 (kvRO_RF_upper hG) (kG_cl hG rfl) rfl hC9.1 rfl rfl rfl (Nat.le_of_ble_eq_true rfl) (Nat.le_of_ble_eq_true rfl) (jj_bare0 rfl) ?_
          refine rf_upper hG hC9 (by omega) (by omega) ?_
          show jj G kRO_triangle (d + 9) Q rc9 rs9 276 [some (.ref o), some (.int (nI (b))), some (.int (nI (nu))), some (.int (nI (dp))), some (.int (nI (a))), some (.int (nI (n))), some (.int (nI (c))), some (.int (nI (i))), some (.int (nI (x))), some (.int (nI (p))), some (.int (nI (0))), some (.int (nI (g))), some (.int (nI (pu))), some (.int (nI (pv_))), some (.int (nI (ppg))), some (.int (nI (pxg))), some (.int (nI (k))), some (.int (nI (py))), (o18), (o19), (o20)] [.int (V9.getD (a + 2 + 2 * xi) 0)] M9
          refine jn_top (.int (nI (pz))) (by rw [b1]) ?_
          refine jj_istore (pc := 276) kRO_triangle_d276 (Nat.le_of_ble_eq_true rfl) ?_
          refine jj_aload_n (pc := 278) kRO_triangle_d278 rfl ?_
          refine jj_getf (pc := 279) kRO_triangle_d279 (kfRO_w hG) (hO.ff hF9).1 rfl ?_
          refine jj_aload_n (pc := 282) kRO_triangle_d282 rfl ?_
          refine jj_getf (pc := 283) kRO_triangle_d283 (kfRO_w hG) (hO.ff hF9).1 rfl ?_
          refine jj_iload (pc := 286) kRO_triangle_d286 rfl ?_
          refine jj_iload (pc := 288) kRO_triangle_d288 rfl ?_
          refine jj_callV (pc := 290) (b := w) (As := [.int (nI (pu)), .int (nI (py))]) kRO_triangle_d290 (kvRO_RW_multiply hG) (kG_cl hG rfl) rfl hw127 rfl rfl rfl (Nat.le_of_ble_eq_true rfl) (Nat.le_of_ble_eq_true rfl) (jj_bare0 rfl) ?_
          refine rs_multiply (a := A1) (b := sa) hG hS9 u9' a3 bu sy (by omega) (fun M128 D128 T128 p128 rc128 rs128 hS128 t128 u128 ho128 hf128 hI128 => ?_)
          show jj G kRO_triangle (d + 9) Q rc128 rs128 293 [some (.ref o), some (.int (nI (b))), some (.int (nI (nu))), some (.int (nI (dp))), some (.int (nI (a))), some (.int (nI (n))), some (.int (nI (c))), some (.int (nI (i))), some (.int (nI (x))), some (.int (nI (p))), some (.int (nI (0))), some (.int (nI (g))), some (.int (nI (pu))), some (.int (nI (pv_))), some (.int (nI (ppg))), some (.int (nI (pxg))), some (.int (nI (k))), some (.int (nI (py))), some (.int (nI (pz))), (o19), (o20)] [.int (nI (p128)), .ref w] M128
          have hC128 := hC9.rf hf128
          have hF128 := hF9.trans (FF.ofRF hC9 hf128)
          have d9_128 := d9.congr t128.1 ho128
          have u9'_128 := u9'.congr t128.1 ho128
          have v9'_128 := v9'.congr t128.1 ho128
          have g9_128 := g9.congr t128.1 ho128
          have x9_128 := x9.congr t128.1 ho128
          have a3_128 := a3.congr t128.1 ho128
          have b3_128 := b3.congr t128.1 ho128
          have t128q := t128.1
          clear t128
          obtain ⟨hW129, hB129, hTD129, hz129, hp129⟩ := id hS128
          obtain ⟨dd129, hw129, hd129⟩ := id hW129
          have hcap129 := hB129.cap
          refine jj_aload_n (pc := 293) kRO_triangle_d293 rfl ?_
          refine jj_getf (pc := 294) kRO_triangle_d294 (kfRO_w hG) (hO.ff hF128).1 rfl ?_
          refine jj_iload (pc := 297) kRO_triangle_d297 rfl ?_
          refine jj_iload (pc := 299) kRO_triangle_d299 rfl ?_
          refine jj_callV (pc := 301) (b := w) (As := [.int (nI (pv_)), .int (nI (pz))]) kRO_triangle_d301 (kvRO_RW_multiply hG) (kG_cl hG rfl) rfl hw129 rfl rfl rfl (Nat.le_of_ble_eq_true rfl) (Nat.le_of_ble_eq_true rfl) (jj_bare0 rfl) ?_
          refine rs_multiply (a := A1) (b := sa) hG hS128 v9'_128 b3_128 bv sz (by omega) (fun M130 D130 T130 p130 rc130 rs130 hS130 t130 u130 ho130 hf130 hI130 => ?_)
          show jj G kRO_triangle (d + 9) Q rc130 rs130 304 [some (.ref o), some (.int (nI (b))), some (.int (nI (nu))), some (.int (nI (dp))), some (.int (nI (a))), some (.int (nI (n))), some (.int (nI (c))), some (.int (nI (i))), some (.int (nI (x))), some (.int (nI (p))), some (.int (nI (0))), some (.int (nI (g))), some (.int (nI (pu))), some (.int (nI (pv_))), some (.int (nI (ppg))), some (.int (nI (pxg))), some (.int (nI (k))), some (.int (nI (py))), some (.int (nI (pz))), (o19), (o20)] [.int (nI (p130)), .int (nI (p128)), .ref w] M130
          have hC130 := hC128.rf hf130
          have hF130 := hF128.trans (FF.ofRF hC128 hf130)
          have d9_130 := d9_128.congr t130.1 ho130
          have u9'_130 := u9'_128.congr t130.1 ho130
          have v9'_130 := v9'_128.congr t130.1 ho130
          have g9_130 := g9_128.congr t130.1 ho130
          have x9_130 := x9_128.congr t130.1 ho130
          have a3_130 := a3_128.congr t130.1 ho130
          have b3_130 := b3_128.congr t130.1 ho130
          have hI128_130 := hI128.congr t130.1 ho130
          have t130q := t130.1
          clear t130
          obtain ⟨hW131, hB131, hTD131, hz131, hp131⟩ := id hS130
          obtain ⟨dd131, hw131, hd131⟩ := id hW131
          have hcap131 := hB131.cap
          refine jj_callV (pc := 304) (b := w) (As := [.int (nI (p128)), .int (nI (p130))]) kRO_triangle_d304 (kvRO_RW_add hG) (kG_cl hG rfl) rfl hw131 rfl rfl rfl (Nat.le_of_ble_eq_true rfl) (Nat.le_of_ble_eq_true rfl) (jj_bare0 rfl) ?_
          refine rs_add (a := A1 + sa) hG hS130 hI128_130 hI130 s1 s2 (by omega) (fun M132 D132 T132 p132 rc132 rs132 hS132 t132 u132 ho132 hf132 hI132 => ?_)
          show jj G kRO_triangle (d + 9) Q rc132 rs132 307 [some (.ref o), some (.int (nI (b))), some (.int (nI (nu))), some (.int (nI (dp))), some (.int (nI (a))), some (.int (nI (n))), some (.int (nI (c))), some (.int (nI (i))), some (.int (nI (x))), some (.int (nI (p))), some (.int (nI (0))), some (.int (nI (g))), some (.int (nI (pu))), some (.int (nI (pv_))), some (.int (nI (ppg))), some (.int (nI (pxg))), some (.int (nI (k))), some (.int (nI (py))), some (.int (nI (pz))), (o19), (o20)] [.int (nI (p132))] M132
          have hC132 := hC130.rf hf132
          have hF132 := hF130.trans (FF.ofRF hC130 hf132)
          have d9_132 := d9_130.congr t132.1 ho132
          have u9'_132 := u9'_130.congr t132.1 ho132
          have v9'_132 := v9'_130.congr t132.1 ho132
          have g9_132 := g9_130.congr t132.1 ho132
          have x9_132 := x9_130.congr t132.1 ho132
          have a3_132 := a3_130.congr t132.1 ho132
          have b3_132 := b3_130.congr t132.1 ho132
          have hI128_132 := hI128_130.congr t132.1 ho132
          have hI130_132 := hI130.congr t132.1 ho132
          have t132q := t132.1
          clear t132
          obtain ⟨hW133, hB133, hTD133, hz133, hp133⟩ := id hS132
          obtain ⟨dd133, hw133, hd133⟩ := id hW133
          have hcap133 := hB133.cap
          rw [← e1k] at hI132
          refine jj_istore (pc := 307) kRO_triangle_d307 (Nat.le_of_ble_eq_true rfl) ?_
          refine jj_iload (pc := 309) kRO_triangle_d309 rfl ?_
          refine jn_if_eq (pc := 311) (tgt := 319) kRO_triangle_d311 (by decide) (by omega) (fun _ => ?_) (fun c => by exfalso; omega)
          refine jj_aload_n (pc := 319) kRO_triangle_d319 rfl ?_
          refine jj_getf (pc := 320) kRO_triangle_d320 (kfRO_w hG) (hO.ff hF132).1 rfl ?_
          refine jj_aload_n (pc := 323) kRO_triangle_d323 rfl ?_
          refine jj_getf (pc := 324) kRO_triangle_d324 (kfRO_w hG) (hO.ff hF132).1 rfl ?_
          refine jj_iload (pc := 327) kRO_triangle_d327 rfl ?_
          refine jj_iload (pc := 329) kRO_triangle_d329 rfl ?_
          refine jj_callV (pc := 331) (b := w) (As := [.int (nI (ppg)), .int (nI (pz))]) kRO_triangle_d331 (kvRO_RW_multiply hG) (kG_cl hG rfl) rfl hw133 rfl rfl rfl (Nat.le_of_ble_eq_true rfl) (Nat.le_of_ble_eq_true rfl) (jj_bare0 rfl) ?_
          refine rs_multiply (a := sa) (b := sa) hG hS132 g9_132 b3_132 bpg sz (by omega) (fun M134 D134 T134 p134 rc134 rs134 hS134 t134 u134 ho134 hf134 hI134 => ?_)
          show jj G kRO_triangle (d + 9) Q rc134 rs134 334 [some (.ref o), some (.int (nI (b))), some (.int (nI (nu))), some (.int (nI (dp))), some (.int (nI (a))), some (.int (nI (n))), some (.int (nI (c))), some (.int (nI (i))), some (.int (nI (x))), some (.int (nI (p))), some (.int (nI (0))), some (.int (nI (g))), some (.int (nI (pu))), some (.int (nI (pv_))), some (.int (nI (ppg))), some (.int (nI (pxg))), some (.int (nI (k))), some (.int (nI (py))), some (.int (nI (pz))), some (.int (nI (p132))), (o20)] [.int (nI (p134)), .ref w] M134
          have hC134 := hC132.rf hf134
          have hF134 := hF132.trans (FF.ofRF hC132 hf134)
          have d9_134 := d9_132.congr t134.1 ho134
          have u9'_134 := u9'_132.congr t134.1 ho134
          have v9'_134 := v9'_132.congr t134.1 ho134
          have g9_134 := g9_132.congr t134.1 ho134
          have x9_134 := x9_132.congr t134.1 ho134
          have a3_134 := a3_132.congr t134.1 ho134
          have b3_134 := b3_132.congr t134.1 ho134
          have hI128_134 := hI128_132.congr t134.1 ho134
          have hI130_134 := hI130_132.congr t134.1 ho134
          have hI132_134 := hI132.congr t134.1 ho134
          have t134q := t134.1
          clear t134
          obtain ⟨hW135, hB135, hTD135, hz135, hp135⟩ := id hS134
          obtain ⟨dd135, hw135, hd135⟩ := id hW135
          have hcap135 := hB135.cap
          refine jj_aload_n (pc := 334) kRO_triangle_d334 rfl ?_
          refine jj_getf (pc := 335) kRO_triangle_d335 (kfRO_w hG) (hO.ff hF134).1 rfl ?_
          refine jj_iload (pc := 338) kRO_triangle_d338 rfl ?_
          refine jj_iload (pc := 340) kRO_triangle_d340 rfl ?_
          refine jj_callV (pc := 342) (b := w) (As := [.int (nI (pxg)), .int (nI (py))]) kRO_triangle_d342 (kvRO_RW_multiply hG) (kG_cl hG rfl) rfl hw135 rfl rfl rfl (Nat.le_of_ble_eq_true rfl) (Nat.le_of_ble_eq_true rfl) (jj_bare0 rfl) ?_
          refine rs_multiply (a := sa) (b := sa) hG hS134 x9_134 a3_134 bxg sy (by omega) (fun M136 D136 T136 p136 rc136 rs136 hS136 t136 u136 ho136 hf136 hI136 => ?_)
          show jj G kRO_triangle (d + 9) Q rc136 rs136 345 [some (.ref o), some (.int (nI (b))), some (.int (nI (nu))), some (.int (nI (dp))), some (.int (nI (a))), some (.int (nI (n))), some (.int (nI (c))), some (.int (nI (i))), some (.int (nI (x))), some (.int (nI (p))), some (.int (nI (0))), some (.int (nI (g))), some (.int (nI (pu))), some (.int (nI (pv_))), some (.int (nI (ppg))), some (.int (nI (pxg))), some (.int (nI (k))), some (.int (nI (py))), some (.int (nI (pz))), some (.int (nI (p132))), (o20)] [.int (nI (p136)), .int (nI (p134)), .ref w] M136
          have hC136 := hC134.rf hf136
          have hF136 := hF134.trans (FF.ofRF hC134 hf136)
          have d9_136 := d9_134.congr t136.1 ho136
          have u9'_136 := u9'_134.congr t136.1 ho136
          have v9'_136 := v9'_134.congr t136.1 ho136
          have g9_136 := g9_134.congr t136.1 ho136
          have x9_136 := x9_134.congr t136.1 ho136
          have a3_136 := a3_134.congr t136.1 ho136
          have b3_136 := b3_134.congr t136.1 ho136
          have hI128_136 := hI128_134.congr t136.1 ho136
          have hI130_136 := hI130_134.congr t136.1 ho136
          have hI132_136 := hI132_134.congr t136.1 ho136
          have hI134_136 := hI134.congr t136.1 ho136
          have t136q := t136.1
          clear t136
          obtain ⟨hW137, hB137, hTD137, hz137, hp137⟩ := id hS136
          obtain ⟨dd137, hw137, hd137⟩ := id hW137
          have hcap137 := hB137.cap
          refine jj_callV (pc := 345) (b := w) (As := [.int (nI (p134)), .int (nI (p136))]) kRO_triangle_d345 (kvRO_RW_subtract hG) (kG_cl hG rfl) rfl hw137 rfl rfl rfl (Nat.le_of_ble_eq_true rfl) (Nat.le_of_ble_eq_true rfl) (jj_bare0 rfl) ?_
          refine rs_subtract (a := sa + sa) hG hS136 hI134_136 hI136 s4 s5 (by omega) (fun M138 D138 T138 p138 rc138 rs138 hS138 t138 u138 ho138 hf138 hI138 => ?_)
          show jj G kRO_triangle (d + 9) Q rc138 rs138 348 [some (.ref o), some (.int (nI (b))), some (.int (nI (nu))), some (.int (nI (dp))), some (.int (nI (a))), some (.int (nI (n))), some (.int (nI (c))), some (.int (nI (i))), some (.int (nI (x))), some (.int (nI (p))), some (.int (nI (0))), some (.int (nI (g))), some (.int (nI (pu))), some (.int (nI (pv_))), some (.int (nI (ppg))), some (.int (nI (pxg))), some (.int (nI (k))), some (.int (nI (py))), some (.int (nI (pz))), some (.int (nI (p132))), (o20)] [.int (nI (p138))] M138
          have hC138 := hC136.rf hf138
          have hF138 := hF136.trans (FF.ofRF hC136 hf138)
          have d9_138 := d9_136.congr t138.1 ho138
          have u9'_138 := u9'_136.congr t138.1 ho138
          have v9'_138 := v9'_136.congr t138.1 ho138
          have g9_138 := g9_136.congr t138.1 ho138
          have x9_138 := x9_136.congr t138.1 ho138
          have a3_138 := a3_136.congr t138.1 ho138
          have b3_138 := b3_136.congr t138.1 ho138
          have hI128_138 := hI128_136.congr t138.1 ho138
          have hI130_138 := hI130_136.congr t138.1 ho138
          have hI132_138 := hI132_136.congr t138.1 ho138
          have hI134_138 := hI134_136.congr t138.1 ho138
          have hI136_138 := hI136.congr t138.1 ho138
          have t138q := t138.1
          clear t138
          obtain ⟨hW139, hB139, hTD139, hz139, hp139⟩ := id hS138
          obtain ⟨dd139, hw139, hd139⟩ := id hW139
          have hcap139 := hB139.cap
          have s7 : ZB (A1 + sa + 1) (two k) := by rw [e2k]; exact s6
          have m5 := hz9.congr (show T9 ≤ T138 by omega) (fun i hi => by rw [ho138 i (by omega), ho136 i (by omega), ho134 i (by omega), ho132 i (by omega), ho130 i (by omega), ho128 i (by omega)]) hza (fun _ _ _ => rfl)
          have f2 := hI138
          rw [← e2k] at f2
          refine jj_istore (pc := 348) kRO_triangle_d348 (Nat.le_of_ble_eq_true rfl) ?_
          refine jj_aload_n (pc := 350) kRO_triangle_d350 rfl ?_
          refine jj_iload (pc := 351) kRO_triangle_d351 rfl ?_
          refine jj_iload (pc := 353) kRO_triangle_d353 rfl ?_
          refine jj_iload (pc := 355) kRO_triangle_d355 rfl ?_
          refine jn_imul (pc := 357) (cn) kRO_triangle_d357 hcn_ ?_
          refine jj_iload (pc := 358) kRO_triangle_d358 rfl ?_
          refine jn_iadd (pc := 360) (xc) kRO_triangle_d360 hxc ?_
          refine jj_iload (pc := 361) kRO_triangle_d361 rfl ?_
          refine jj_iload (pc := 363) kRO_triangle_d363 rfl ?_
          refine jn_icmp_ne (pc := 365) (tgt := 373) kRO_triangle_d365 (by decide) (by omega) (by omega) (fun c => by exfalso; omega) (fun _ => ?_)
          refine jj_iload (pc := 368) kRO_triangle_d368 rfl ?_
          refine jj_goto (pc := 370) (tgt := 380) kRO_triangle_d370 (by decide) ?_
          refine jj_callV (pc := 380) (b := o) (As := [.int (nI (a)), .int (nI (xc)), .int (nI (p132))]) kRO_triangle_d380 (kvRO_RO_whole hG) (kG_cl hG rfl) rfl (hO.ff hF138).1 rfl rfl rfl (Nat.le_of_ble_eq_true rfl) (Nat.le_of_ble_eq_true rfl) (jj_bare0 rfl) ?_
          refine ro_whole (a := a) (i := xc) (x := p132) hG (hO.ff hF138) hC138 hS138 (by omega) (by omega) (fun M140 hC140 hS140 hf140 => ?_)
          show jj G kRO_triangle (d + 9) Q rc138 rs138 383 [some (.ref o), some (.int (nI (b))), some (.int (nI (nu))), some (.int (nI (dp))), some (.int (nI (a))), some (.int (nI (n))), some (.int (nI (c))), some (.int (nI (i))), some (.int (nI (x))), some (.int (nI (p))), some (.int (nI (0))), some (.int (nI (g))), some (.int (nI (pu))), some (.int (nI (pv_))), some (.int (nI (ppg))), some (.int (nI (pxg))), some (.int (nI (k))), some (.int (nI (py))), some (.int (nI (pz))), some (.int (nI (p132))), some (.int (nI (p138)))] [] M140
          obtain ⟨V140, hV140⟩ : ∃ V140, (V9.set (a + 2 + 2 * xc) (nI p132)).set (a + 3 + 2 * xc) (nI 1) = V140 := ⟨_, rfl⟩
          rw [hV140] at hC140
          have hl140 : V140.length = V9.length := by rw [← hV140, List.length_set, List.length_set]
          have hv140 : ∀ i, i < a ∨ a + 2 + 2 * (R * n) ≤ i → V140.getD i 0 = V9.getD i 0 := fun i hi => by rw [← hV140, gd_set_ne (by omega), gd_set_ne (by omega)]
          have hF140 := hF138.trans hf140
          have mz140 := m5.put (i := c) (j := k) (x := p132) (z := rdm zd c k (one k)) (V' := V140) hcR (by omega) (by omega) (by rw [hcn_, hxc]; exact hV140.symm) (by rw [hr1]; exact hI132_138)
          obtain ⟨hW141, hB141, hTD141, hz141, hp141⟩ := id hS140
          obtain ⟨dd141, hw141, hd141⟩ := id hW141
          have hcap141 := hB141.cap
          refine jj_aload_n (pc := 383) kRO_triangle_d383 rfl ?_
          refine jj_iload (pc := 384) kRO_triangle_d384 rfl ?_
          refine jj_iload (pc := 386) kRO_triangle_d386 rfl ?_
          refine jj_iload (pc := 388) kRO_triangle_d388 rfl ?_
          refine jn_imul (pc := 390) (iN) kRO_triangle_d390 hin_ ?_
          refine jj_iload (pc := 391) kRO_triangle_d391 rfl ?_
          refine jn_iadd (pc := 393) (xi) kRO_triangle_d393 hxi ?_
          refine jj_iload (pc := 394) kRO_triangle_d394 rfl ?_
          refine jj_iload (pc := 396) kRO_triangle_d396 rfl ?_
          refine jn_icmp_ne (pc := 398) (tgt := 406) kRO_triangle_d398 (by decide) (by omega) (by omega) (fun c => by exfalso; omega) (fun _ => ?_)
          refine jj_iload (pc := 401) kRO_triangle_d401 rfl ?_
          refine jj_goto (pc := 403) (tgt := 413) kRO_triangle_d403 (by decide) ?_
          refine jj_callV (pc := 413) (b := o) (As := [.int (nI (a)), .int (nI (xi)), .int (nI (p138))]) kRO_triangle_d413 (kvRO_RO_whole hG) (kG_cl hG rfl) rfl (hO.ff hF140).1 rfl rfl rfl (Nat.le_of_ble_eq_true rfl) (Nat.le_of_ble_eq_true rfl) (jj_bare0 rfl) ?_
          refine ro_whole (a := a) (i := xi) (x := p138) hG (hO.ff hF140) hC140 hS140 (by omega) (by omega) (fun M142 hC142 hS142 hf142 => ?_)
          show jj G kRO_triangle (d + 9) Q rc138 rs138 416 [some (.ref o), some (.int (nI (b))), some (.int (nI (nu))), some (.int (nI (dp))), some (.int (nI (a))), some (.int (nI (n))), some (.int (nI (c))), some (.int (nI (i))), some (.int (nI (x))), some (.int (nI (p))), some (.int (nI (0))), some (.int (nI (g))), some (.int (nI (pu))), some (.int (nI (pv_))), some (.int (nI (ppg))), some (.int (nI (pxg))), some (.int (nI (k))), some (.int (nI (py))), some (.int (nI (pz))), some (.int (nI (p132))), some (.int (nI (p138)))] [] M142
          obtain ⟨V142, hV142⟩ : ∃ V142, (V140.set (a + 2 + 2 * xi) (nI p138)).set (a + 3 + 2 * xi) (nI 1) = V142 := ⟨_, rfl⟩
          rw [hV142] at hC142
          have hl142 : V142.length = V140.length := by rw [← hV142, List.length_set, List.length_set]
          have hv142 : ∀ i, i < a ∨ a + 2 + 2 * (R * n) ≤ i → V142.getD i 0 = V140.getD i 0 := fun i hi => by rw [← hV142, gd_set_ne (by omega), gd_set_ne (by omega)]
          have hF142 := hF140.trans hf142
          have mz142 := mz140.put (i := i) (j := k) (x := p138) (z := rdm zd c k (two k)) (V' := V142) hiR (by omega) (by omega) (by rw [hin_, hxi]; exact hV142.symm) (by rw [hr2]; exact f2)
          obtain ⟨hW143, hB143, hTD143, hz143, hp143⟩ := id hS142
          obtain ⟨dd143, hw143, hd143⟩ := id hW143
          have hcap143 := hB143.cap
          refine jn_iinc (pc := 416) (k + 1) kRO_triangle_d416 rfl (nI_1 _) ?_
          refine jj_goto (pc := 419) (tgt := 233) kRO_triangle_d419 (by decide) ?_
          show jj G kRO_triangle (d + 9) Q rc138 rs138 233 [some (.ref o), some (.int (nI (b))), some (.int (nI (nu))), some (.int (nI (dp))), some (.int (nI (a))), some (.int (nI (n))), some (.int (nI (c))), some (.int (nI (i))), some (.int (nI (x))), some (.int (nI (p))), some (.int (nI (0))), some (.int (nI (g))), some (.int (nI (pu))), some (.int (nI (pv_))), some (.int (nI (ppg))), some (.int (nI (pxg))), some (.int (nI (k + 1))), some (.int (nI (py))), some (.int (nI (pz))), some (.int (nI (p132))), some (.int (nI (p138)))] [] M142
          exact ih (k + 1) (by omega) (by omega) _ _ _ _ M142 D138 T138 V142 _ _ _ rc138 rs138 hC142 hS142 (by omega) (by omega) (fun i hi => by rw [ho138 i (by omega), ho136 i (by omega), ho134 i (by omega), ho132 i (by omega), ho130 i (by omega), ho128 i (by omega), ho9 i (by omega)]) (by omega) (fun i hi => by rw [hv142 i hi, hv140 i hi, hV9 i hi]) hF142 (by rw [hnx]; exact mz142)
        · skip
          have hr1 : rdm zd c k (one k) = one k % zd := if_neg (by omega)
          have hr2 : rdm zd c k (two k) = two k % zd := if_neg (by omega)
          obtain ⟨hW144, hB144, hTD144, hz144, hp144⟩ := id hS9
          obtain ⟨dd144, hw144, hd144⟩ := id hW144
          have hcap144 := hB144.cap
          refine jj_iload (pc := 233) kRO_triangle_d233 rfl ?_
          refine jj_iload (pc := 235) kRO_triangle_d235 rfl ?_
          refine jn_icmp_ge (pc := 237) (tgt := 422) kRO_triangle_d237 (by decide) (by omega) (by omega) (fun c => by exfalso; omega) (fun _ => ?_)
          refine jj_aload_n (pc := 240) kRO_triangle_d240 rfl ?_
          refine jj_getf (pc := 241) kRO_triangle_d241 (kfRO_f hG) (hO.ff hF9).1 rfl ?_
          refine jj_iload (pc := 244) kRO_triangle_d244 rfl ?_
          refine jj_iload (pc := 246) kRO_triangle_d246 rfl ?_
          refine jj_iload (pc := 248) kRO_triangle_d248 rfl ?_
          refine jn_imul (pc := 250) (cn) kRO_triangle_d250 hcn_ ?_
          refine jj_iload (pc := 251) kRO_triangle_d251 rfl ?_
          refine jn_iadd (pc := 253) (xc) kRO_triangle_d253 hxc ?_
          refine jj_callV (pc := 254) (b := f) (As := [.int (nI (a)), .int (nI (xc))]) kRO_triangle_d254 (kvRO_RF_upper hG) (kG_cl hG rfl) rfl hC9.1 rfl rfl rfl (Nat.le_of_ble_eq_true rfl) (Nat.le_of_ble_eq_true rfl) (jj_bare0 rfl) ?_
          refine rf_upper hG hC9 (by omega) (by omega) ?_
          show jj G kRO_triangle (d + 9) Q rc9 rs9 257 [some (.ref o), some (.int (nI (b))), some (.int (nI (nu))), some (.int (nI (dp))), some (.int (nI (a))), some (.int (nI (n))), some (.int (nI (c))), some (.int (nI (i))), some (.int (nI (x))), some (.int (nI (p))), some (.int (nI (0))), some (.int (nI (g))), some (.int (nI (pu))), some (.int (nI (pv_))), some (.int (nI (ppg))), some (.int (nI (pxg))), some (.int (nI (k))), (o17), (o18), (o19), (o20)] [.int (V9.getD (a + 2 + 2 * xc) 0)] M9
          refine jn_top (.int (nI (py))) (by rw [a1]) ?_
          refine jj_istore (pc := 257) kRO_triangle_d257 (Nat.le_of_ble_eq_true rfl) ?_
          refine jj_aload_n (pc := 259) kRO_triangle_d259 rfl ?_
          refine jj_getf (pc := 260) kRO_triangle_d260 (kfRO_f hG) (hO.ff hF9).1 rfl ?_
          refine jj_iload (pc := 263) kRO_triangle_d263 rfl ?_
          refine jj_iload (pc := 265) kRO_triangle_d265 rfl ?_
          refine jj_iload (pc := 267) kRO_triangle_d267 rfl ?_
          refine jn_imul (pc := 269) (iN) kRO_triangle_d269 hin_ ?_
          refine jj_iload (pc := 270) kRO_triangle_d270 rfl ?_
          refine jn_iadd (pc := 272) (xi) kRO_triangle_d272 hxi ?_
          refine jj_callV (pc := 273) (b := f) (As := [.int (nI (a)), .int (nI (xi))]) kRO_triangle_d273 (kvRO_RF_upper hG) (kG_cl hG rfl) rfl hC9.1 rfl rfl rfl (Nat.le_of_ble_eq_true rfl) (Nat.le_of_ble_eq_true rfl) (jj_bare0 rfl) ?_
          refine rf_upper hG hC9 (by omega) (by omega) ?_
          show jj G kRO_triangle (d + 9) Q rc9 rs9 276 [some (.ref o), some (.int (nI (b))), some (.int (nI (nu))), some (.int (nI (dp))), some (.int (nI (a))), some (.int (nI (n))), some (.int (nI (c))), some (.int (nI (i))), some (.int (nI (x))), some (.int (nI (p))), some (.int (nI (0))), some (.int (nI (g))), some (.int (nI (pu))), some (.int (nI (pv_))), some (.int (nI (ppg))), some (.int (nI (pxg))), some (.int (nI (k))), some (.int (nI (py))), (o18), (o19), (o20)] [.int (V9.getD (a + 2 + 2 * xi) 0)] M9
          refine jn_top (.int (nI (pz))) (by rw [b1]) ?_
          refine jj_istore (pc := 276) kRO_triangle_d276 (Nat.le_of_ble_eq_true rfl) ?_
          refine jj_aload_n (pc := 278) kRO_triangle_d278 rfl ?_
          refine jj_getf (pc := 279) kRO_triangle_d279 (kfRO_w hG) (hO.ff hF9).1 rfl ?_
          refine jj_aload_n (pc := 282) kRO_triangle_d282 rfl ?_
          refine jj_getf (pc := 283) kRO_triangle_d283 (kfRO_w hG) (hO.ff hF9).1 rfl ?_
          refine jj_iload (pc := 286) kRO_triangle_d286 rfl ?_
          refine jj_iload (pc := 288) kRO_triangle_d288 rfl ?_
          refine jj_callV (pc := 290) (b := w) (As := [.int (nI (pu)), .int (nI (py))]) kRO_triangle_d290 (kvRO_RW_multiply hG) (kG_cl hG rfl) rfl hw144 rfl rfl rfl (Nat.le_of_ble_eq_true rfl) (Nat.le_of_ble_eq_true rfl) (jj_bare0 rfl) ?_
          refine rs_multiply (a := A1) (b := sa) hG hS9 u9' a3 bu sy (by omega) (fun M145 D145 T145 p145 rc145 rs145 hS145 t145 u145 ho145 hf145 hI145 => ?_)
          show jj G kRO_triangle (d + 9) Q rc145 rs145 293 [some (.ref o), some (.int (nI (b))), some (.int (nI (nu))), some (.int (nI (dp))), some (.int (nI (a))), some (.int (nI (n))), some (.int (nI (c))), some (.int (nI (i))), some (.int (nI (x))), some (.int (nI (p))), some (.int (nI (0))), some (.int (nI (g))), some (.int (nI (pu))), some (.int (nI (pv_))), some (.int (nI (ppg))), some (.int (nI (pxg))), some (.int (nI (k))), some (.int (nI (py))), some (.int (nI (pz))), (o19), (o20)] [.int (nI (p145)), .ref w] M145
          have hC145 := hC9.rf hf145
          have hF145 := hF9.trans (FF.ofRF hC9 hf145)
          have d9_145 := d9.congr t145.1 ho145
          have u9'_145 := u9'.congr t145.1 ho145
          have v9'_145 := v9'.congr t145.1 ho145
          have g9_145 := g9.congr t145.1 ho145
          have x9_145 := x9.congr t145.1 ho145
          have a3_145 := a3.congr t145.1 ho145
          have b3_145 := b3.congr t145.1 ho145
          have t145q := t145.1
          clear t145
          obtain ⟨hW146, hB146, hTD146, hz146, hp146⟩ := id hS145
          obtain ⟨dd146, hw146, hd146⟩ := id hW146
          have hcap146 := hB146.cap
          refine jj_aload_n (pc := 293) kRO_triangle_d293 rfl ?_
          refine jj_getf (pc := 294) kRO_triangle_d294 (kfRO_w hG) (hO.ff hF145).1 rfl ?_
          refine jj_iload (pc := 297) kRO_triangle_d297 rfl ?_
          refine jj_iload (pc := 299) kRO_triangle_d299 rfl ?_
          refine jj_callV (pc := 301) (b := w) (As := [.int (nI (pv_)), .int (nI (pz))]) kRO_triangle_d301 (kvRO_RW_multiply hG) (kG_cl hG rfl) rfl hw146 rfl rfl rfl (Nat.le_of_ble_eq_true rfl) (Nat.le_of_ble_eq_true rfl) (jj_bare0 rfl) ?_
          refine rs_multiply (a := A1) (b := sa) hG hS145 v9'_145 b3_145 bv sz (by omega) (fun M147 D147 T147 p147 rc147 rs147 hS147 t147 u147 ho147 hf147 hI147 => ?_)
          show jj G kRO_triangle (d + 9) Q rc147 rs147 304 [some (.ref o), some (.int (nI (b))), some (.int (nI (nu))), some (.int (nI (dp))), some (.int (nI (a))), some (.int (nI (n))), some (.int (nI (c))), some (.int (nI (i))), some (.int (nI (x))), some (.int (nI (p))), some (.int (nI (0))), some (.int (nI (g))), some (.int (nI (pu))), some (.int (nI (pv_))), some (.int (nI (ppg))), some (.int (nI (pxg))), some (.int (nI (k))), some (.int (nI (py))), some (.int (nI (pz))), (o19), (o20)] [.int (nI (p147)), .int (nI (p145)), .ref w] M147
          have hC147 := hC145.rf hf147
          have hF147 := hF145.trans (FF.ofRF hC145 hf147)
          have d9_147 := d9_145.congr t147.1 ho147
          have u9'_147 := u9'_145.congr t147.1 ho147
          have v9'_147 := v9'_145.congr t147.1 ho147
          have g9_147 := g9_145.congr t147.1 ho147
          have x9_147 := x9_145.congr t147.1 ho147
          have a3_147 := a3_145.congr t147.1 ho147
          have b3_147 := b3_145.congr t147.1 ho147
          have hI145_147 := hI145.congr t147.1 ho147
          have t147q := t147.1
          clear t147
          obtain ⟨hW148, hB148, hTD148, hz148, hp148⟩ := id hS147
          obtain ⟨dd148, hw148, hd148⟩ := id hW148
          have hcap148 := hB148.cap
          refine jj_callV (pc := 304) (b := w) (As := [.int (nI (p145)), .int (nI (p147))]) kRO_triangle_d304 (kvRO_RW_add hG) (kG_cl hG rfl) rfl hw148 rfl rfl rfl (Nat.le_of_ble_eq_true rfl) (Nat.le_of_ble_eq_true rfl) (jj_bare0 rfl) ?_
          refine rs_add (a := A1 + sa) hG hS147 hI145_147 hI147 s1 s2 (by omega) (fun M149 D149 T149 p149 rc149 rs149 hS149 t149 u149 ho149 hf149 hI149 => ?_)
          show jj G kRO_triangle (d + 9) Q rc149 rs149 307 [some (.ref o), some (.int (nI (b))), some (.int (nI (nu))), some (.int (nI (dp))), some (.int (nI (a))), some (.int (nI (n))), some (.int (nI (c))), some (.int (nI (i))), some (.int (nI (x))), some (.int (nI (p))), some (.int (nI (0))), some (.int (nI (g))), some (.int (nI (pu))), some (.int (nI (pv_))), some (.int (nI (ppg))), some (.int (nI (pxg))), some (.int (nI (k))), some (.int (nI (py))), some (.int (nI (pz))), (o19), (o20)] [.int (nI (p149))] M149
          have hC149 := hC147.rf hf149
          have hF149 := hF147.trans (FF.ofRF hC147 hf149)
          have d9_149 := d9_147.congr t149.1 ho149
          have u9'_149 := u9'_147.congr t149.1 ho149
          have v9'_149 := v9'_147.congr t149.1 ho149
          have g9_149 := g9_147.congr t149.1 ho149
          have x9_149 := x9_147.congr t149.1 ho149
          have a3_149 := a3_147.congr t149.1 ho149
          have b3_149 := b3_147.congr t149.1 ho149
          have hI145_149 := hI145_147.congr t149.1 ho149
          have hI147_149 := hI147.congr t149.1 ho149
          have t149q := t149.1
          clear t149
          obtain ⟨hW150, hB150, hTD150, hz150, hp150⟩ := id hS149
          obtain ⟨dd150, hw150, hd150⟩ := id hW150
          have hcap150 := hB150.cap
          rw [← e1k] at hI149
          refine jj_istore (pc := 307) kRO_triangle_d307 (Nat.le_of_ble_eq_true rfl) ?_
          refine jj_iload (pc := 309) kRO_triangle_d309 rfl ?_
          refine jn_if_eq (pc := 311) (tgt := 319) kRO_triangle_d311 (by decide) (by omega) (fun _ => ?_) (fun c => by exfalso; omega)
          refine jj_aload_n (pc := 319) kRO_triangle_d319 rfl ?_
          refine jj_getf (pc := 320) kRO_triangle_d320 (kfRO_w hG) (hO.ff hF149).1 rfl ?_
          refine jj_aload_n (pc := 323) kRO_triangle_d323 rfl ?_
          refine jj_getf (pc := 324) kRO_triangle_d324 (kfRO_w hG) (hO.ff hF149).1 rfl ?_
          refine jj_iload (pc := 327) kRO_triangle_d327 rfl ?_
          refine jj_iload (pc := 329) kRO_triangle_d329 rfl ?_
          refine jj_callV (pc := 331) (b := w) (As := [.int (nI (ppg)), .int (nI (pz))]) kRO_triangle_d331 (kvRO_RW_multiply hG) (kG_cl hG rfl) rfl hw150 rfl rfl rfl (Nat.le_of_ble_eq_true rfl) (Nat.le_of_ble_eq_true rfl) (jj_bare0 rfl) ?_
          refine rs_multiply (a := sa) (b := sa) hG hS149 g9_149 b3_149 bpg sz (by omega) (fun M151 D151 T151 p151 rc151 rs151 hS151 t151 u151 ho151 hf151 hI151 => ?_)
          show jj G kRO_triangle (d + 9) Q rc151 rs151 334 [some (.ref o), some (.int (nI (b))), some (.int (nI (nu))), some (.int (nI (dp))), some (.int (nI (a))), some (.int (nI (n))), some (.int (nI (c))), some (.int (nI (i))), some (.int (nI (x))), some (.int (nI (p))), some (.int (nI (0))), some (.int (nI (g))), some (.int (nI (pu))), some (.int (nI (pv_))), some (.int (nI (ppg))), some (.int (nI (pxg))), some (.int (nI (k))), some (.int (nI (py))), some (.int (nI (pz))), some (.int (nI (p149))), (o20)] [.int (nI (p151)), .ref w] M151
          have hC151 := hC149.rf hf151
          have hF151 := hF149.trans (FF.ofRF hC149 hf151)
          have d9_151 := d9_149.congr t151.1 ho151
          have u9'_151 := u9'_149.congr t151.1 ho151
          have v9'_151 := v9'_149.congr t151.1 ho151
          have g9_151 := g9_149.congr t151.1 ho151
          have x9_151 := x9_149.congr t151.1 ho151
          have a3_151 := a3_149.congr t151.1 ho151
          have b3_151 := b3_149.congr t151.1 ho151
          have hI145_151 := hI145_149.congr t151.1 ho151
          have hI147_151 := hI147_149.congr t151.1 ho151
          have hI149_151 := hI149.congr t151.1 ho151
          have t151q := t151.1
          clear t151
          obtain ⟨hW152, hB152, hTD152, hz152, hp152⟩ := id hS151
          obtain ⟨dd152, hw152, hd152⟩ := id hW152
          have hcap152 := hB152.cap
          refine jj_aload_n (pc := 334) kRO_triangle_d334 rfl ?_
          refine jj_getf (pc := 335) kRO_triangle_d335 (kfRO_w hG) (hO.ff hF151).1 rfl ?_
          refine jj_iload (pc := 338) kRO_triangle_d338 rfl ?_
          refine jj_iload (pc := 340) kRO_triangle_d340 rfl ?_
          refine jj_callV (pc := 342) (b := w) (As := [.int (nI (pxg)), .int (nI (py))]) kRO_triangle_d342 (kvRO_RW_multiply hG) (kG_cl hG rfl) rfl hw152 rfl rfl rfl (Nat.le_of_ble_eq_true rfl) (Nat.le_of_ble_eq_true rfl) (jj_bare0 rfl) ?_
          refine rs_multiply (a := sa) (b := sa) hG hS151 x9_151 a3_151 bxg sy (by omega) (fun M153 D153 T153 p153 rc153 rs153 hS153 t153 u153 ho153 hf153 hI153 => ?_)
          show jj G kRO_triangle (d + 9) Q rc153 rs153 345 [some (.ref o), some (.int (nI (b))), some (.int (nI (nu))), some (.int (nI (dp))), some (.int (nI (a))), some (.int (nI (n))), some (.int (nI (c))), some (.int (nI (i))), some (.int (nI (x))), some (.int (nI (p))), some (.int (nI (0))), some (.int (nI (g))), some (.int (nI (pu))), some (.int (nI (pv_))), some (.int (nI (ppg))), some (.int (nI (pxg))), some (.int (nI (k))), some (.int (nI (py))), some (.int (nI (pz))), some (.int (nI (p149))), (o20)] [.int (nI (p153)), .int (nI (p151)), .ref w] M153
          have hC153 := hC151.rf hf153
          have hF153 := hF151.trans (FF.ofRF hC151 hf153)
          have d9_153 := d9_151.congr t153.1 ho153
          have u9'_153 := u9'_151.congr t153.1 ho153
          have v9'_153 := v9'_151.congr t153.1 ho153
          have g9_153 := g9_151.congr t153.1 ho153
          have x9_153 := x9_151.congr t153.1 ho153
          have a3_153 := a3_151.congr t153.1 ho153
          have b3_153 := b3_151.congr t153.1 ho153
          have hI145_153 := hI145_151.congr t153.1 ho153
          have hI147_153 := hI147_151.congr t153.1 ho153
          have hI149_153 := hI149_151.congr t153.1 ho153
          have hI151_153 := hI151.congr t153.1 ho153
          have t153q := t153.1
          clear t153
          obtain ⟨hW154, hB154, hTD154, hz154, hp154⟩ := id hS153
          obtain ⟨dd154, hw154, hd154⟩ := id hW154
          have hcap154 := hB154.cap
          refine jj_callV (pc := 345) (b := w) (As := [.int (nI (p151)), .int (nI (p153))]) kRO_triangle_d345 (kvRO_RW_subtract hG) (kG_cl hG rfl) rfl hw154 rfl rfl rfl (Nat.le_of_ble_eq_true rfl) (Nat.le_of_ble_eq_true rfl) (jj_bare0 rfl) ?_
          refine rs_subtract (a := sa + sa) hG hS153 hI151_153 hI153 s4 s5 (by omega) (fun M155 D155 T155 p155 rc155 rs155 hS155 t155 u155 ho155 hf155 hI155 => ?_)
          show jj G kRO_triangle (d + 9) Q rc155 rs155 348 [some (.ref o), some (.int (nI (b))), some (.int (nI (nu))), some (.int (nI (dp))), some (.int (nI (a))), some (.int (nI (n))), some (.int (nI (c))), some (.int (nI (i))), some (.int (nI (x))), some (.int (nI (p))), some (.int (nI (0))), some (.int (nI (g))), some (.int (nI (pu))), some (.int (nI (pv_))), some (.int (nI (ppg))), some (.int (nI (pxg))), some (.int (nI (k))), some (.int (nI (py))), some (.int (nI (pz))), some (.int (nI (p149))), (o20)] [.int (nI (p155))] M155
          have hC155 := hC153.rf hf155
          have hF155 := hF153.trans (FF.ofRF hC153 hf155)
          have d9_155 := d9_153.congr t155.1 ho155
          have u9'_155 := u9'_153.congr t155.1 ho155
          have v9'_155 := v9'_153.congr t155.1 ho155
          have g9_155 := g9_153.congr t155.1 ho155
          have x9_155 := x9_153.congr t155.1 ho155
          have a3_155 := a3_153.congr t155.1 ho155
          have b3_155 := b3_153.congr t155.1 ho155
          have hI145_155 := hI145_153.congr t155.1 ho155
          have hI147_155 := hI147_153.congr t155.1 ho155
          have hI149_155 := hI149_153.congr t155.1 ho155
          have hI151_155 := hI151_153.congr t155.1 ho155
          have hI153_155 := hI153.congr t155.1 ho155
          have t155q := t155.1
          clear t155
          obtain ⟨hW156, hB156, hTD156, hz156, hp156⟩ := id hS155
          obtain ⟨dd156, hw156, hd156⟩ := id hW156
          have hcap156 := hB156.cap
          have s7 : ZB (A1 + sa + 1) (two k) := by rw [e2k]; exact s6
          have m5 := hz9.congr (show T9 ≤ T155 by omega) (fun i hi => by rw [ho155 i (by omega), ho153 i (by omega), ho151 i (by omega), ho149 i (by omega), ho147 i (by omega), ho145 i (by omega)]) hza (fun _ _ _ => rfl)
          have f2 := hI155
          rw [← e2k] at f2
          refine jj_istore (pc := 348) kRO_triangle_d348 (Nat.le_of_ble_eq_true rfl) ?_
          refine jj_aload_n (pc := 350) kRO_triangle_d350 rfl ?_
          refine jj_iload (pc := 351) kRO_triangle_d351 rfl ?_
          refine jj_iload (pc := 353) kRO_triangle_d353 rfl ?_
          refine jj_iload (pc := 355) kRO_triangle_d355 rfl ?_
          refine jn_imul (pc := 357) (cn) kRO_triangle_d357 hcn_ ?_
          refine jj_iload (pc := 358) kRO_triangle_d358 rfl ?_
          refine jn_iadd (pc := 360) (xc) kRO_triangle_d360 hxc ?_
          refine jj_iload (pc := 361) kRO_triangle_d361 rfl ?_
          refine jj_iload (pc := 363) kRO_triangle_d363 rfl ?_
          refine jn_icmp_ne (pc := 365) (tgt := 373) kRO_triangle_d365 (by decide) (by omega) (by omega) (fun _ => ?_) (fun c => by exfalso; omega)
          refine jj_aload_n (pc := 373) kRO_triangle_d373 rfl ?_
          refine jj_iload (pc := 374) kRO_triangle_d374 rfl ?_
          refine jj_iload_n (pc := 376) kRO_triangle_d376 rfl ?_
          refine jj_callV (pc := 377) (b := o) (As := [.int (nI (p149)), .int (nI (dp))]) kRO_triangle_d377 (kvRO_RO_modulo hG) (kG_cl hG rfl) rfl (hO.ff hF155).1 rfl rfl rfl (Nat.le_of_ble_eq_true rfl) (Nat.le_of_ble_eq_true rfl) (jj_bare0 rfl) ?_
          refine ro_modulo (a := A1 + sa + 1) (b := sa) hG (hO.ff hF155) hC155 hS155 hI149_155 d9_155 hd s3 bd (by omega) (fun M157 D157 T157 p157 v157 rc157 rs157 hC157 hS157 t157 u157 ho157 hf157 hI157 => ?_)
          show jj G kRO_triangle (d + 9) Q rc157 rs157 380 [some (.ref o), some (.int (nI (b))), some (.int (nI (nu))), some (.int (nI (dp))), some (.int (nI (a))), some (.int (nI (n))), some (.int (nI (c))), some (.int (nI (i))), some (.int (nI (x))), some (.int (nI (p))), some (.int (nI (0))), some (.int (nI (g))), some (.int (nI (pu))), some (.int (nI (pv_))), some (.int (nI (ppg))), some (.int (nI (pxg))), some (.int (nI (k))), some (.int (nI (py))), some (.int (nI (pz))), some (.int (nI (p149))), some (.int (nI (p155)))] [.int (nI (p157)), .int (nI (xc)), .int (nI (a)), .ref o] M157
          have hF157 := hF155.trans hf157
          have t157q := t157.1
          clear t157
          have d9_157 := d9_155.congr t157q ho157
          have u9'_157 := u9'_155.congr t157q ho157
          have v9'_157 := v9'_155.congr t157q ho157
          have g9_157 := g9_155.congr t157q ho157
          have x9_157 := x9_155.congr t157q ho157
          have a3_157 := a3_155.congr t157q ho157
          have b3_157 := b3_155.congr t157q ho157
          have hI145_157 := hI145_155.congr t157q ho157
          have hI147_157 := hI147_155.congr t157q ho157
          have hI149_157 := hI149_155.congr t157q ho157
          have hI151_157 := hI151_155.congr t157q ho157
          have hI153_157 := hI153_155.congr t157q ho157
          have f2_157 := f2.congr t157q ho157
          have m5_157 := m5.congr t157q ho157 hza (fun _ _ _ => rfl)
          obtain ⟨hW158, hB158, hTD158, hz158, hp158⟩ := id hS157
          obtain ⟨dd158, hw158, hd158⟩ := id hW158
          have hcap158 := hB158.cap
          refine jj_callV (pc := 380) (b := o) (As := [.int (nI (a)), .int (nI (xc)), .int (nI (p157))]) kRO_triangle_d380 (kvRO_RO_whole hG) (kG_cl hG rfl) rfl (hO.ff hF157).1 rfl rfl rfl (Nat.le_of_ble_eq_true rfl) (Nat.le_of_ble_eq_true rfl) (jj_bare0 rfl) ?_
          refine ro_whole (a := a) (i := xc) (x := p157) hG (hO.ff hF157) hC157 hS157 (by omega) (by omega) (fun M159 hC159 hS159 hf159 => ?_)
          show jj G kRO_triangle (d + 9) Q rc157 rs157 383 [some (.ref o), some (.int (nI (b))), some (.int (nI (nu))), some (.int (nI (dp))), some (.int (nI (a))), some (.int (nI (n))), some (.int (nI (c))), some (.int (nI (i))), some (.int (nI (x))), some (.int (nI (p))), some (.int (nI (0))), some (.int (nI (g))), some (.int (nI (pu))), some (.int (nI (pv_))), some (.int (nI (ppg))), some (.int (nI (pxg))), some (.int (nI (k))), some (.int (nI (py))), some (.int (nI (pz))), some (.int (nI (p149))), some (.int (nI (p155)))] [] M159
          obtain ⟨V159, hV159⟩ : ∃ V159, (V9.set (a + 2 + 2 * xc) (nI p157)).set (a + 3 + 2 * xc) (nI 1) = V159 := ⟨_, rfl⟩
          rw [hV159] at hC159
          have hl159 : V159.length = V9.length := by rw [← hV159, List.length_set, List.length_set]
          have hv159 : ∀ i, i < a ∨ a + 2 + 2 * (R * n) ≤ i → V159.getD i 0 = V9.getD i 0 := fun i hi => by rw [← hV159, gd_set_ne (by omega), gd_set_ne (by omega)]
          have hF159 := hF157.trans hf159
          have mz159 := m5_157.put (i := c) (j := k) (x := p157) (z := rdm zd c k (one k)) (V' := V159) hcR (by omega) (by omega) (by rw [hcn_, hxc]; exact hV159.symm) (by rw [hr1]; exact hI157)
          obtain ⟨hW160, hB160, hTD160, hz160, hp160⟩ := id hS159
          obtain ⟨dd160, hw160, hd160⟩ := id hW160
          have hcap160 := hB160.cap
          refine jj_aload_n (pc := 383) kRO_triangle_d383 rfl ?_
          refine jj_iload (pc := 384) kRO_triangle_d384 rfl ?_
          refine jj_iload (pc := 386) kRO_triangle_d386 rfl ?_
          refine jj_iload (pc := 388) kRO_triangle_d388 rfl ?_
          refine jn_imul (pc := 390) (iN) kRO_triangle_d390 hin_ ?_
          refine jj_iload (pc := 391) kRO_triangle_d391 rfl ?_
          refine jn_iadd (pc := 393) (xi) kRO_triangle_d393 hxi ?_
          refine jj_iload (pc := 394) kRO_triangle_d394 rfl ?_
          refine jj_iload (pc := 396) kRO_triangle_d396 rfl ?_
          refine jn_icmp_ne (pc := 398) (tgt := 406) kRO_triangle_d398 (by decide) (by omega) (by omega) (fun _ => ?_) (fun c => by exfalso; omega)
          refine jj_aload_n (pc := 406) kRO_triangle_d406 rfl ?_
          refine jj_iload (pc := 407) kRO_triangle_d407 rfl ?_
          refine jj_iload_n (pc := 409) kRO_triangle_d409 rfl ?_
          refine jj_callV (pc := 410) (b := o) (As := [.int (nI (p155)), .int (nI (dp))]) kRO_triangle_d410 (kvRO_RO_modulo hG) (kG_cl hG rfl) rfl (hO.ff hF159).1 rfl rfl rfl (Nat.le_of_ble_eq_true rfl) (Nat.le_of_ble_eq_true rfl) (jj_bare0 rfl) ?_
          refine ro_modulo (a := A1 + sa + 1) (b := sa) hG (hO.ff hF159) hC159 hS159 f2_157 d9_157 hd s7 bd (by omega) (fun M161 D161 T161 p161 v161 rc161 rs161 hC161 hS161 t161 u161 ho161 hf161 hI161 => ?_)
          show jj G kRO_triangle (d + 9) Q rc161 rs161 413 [some (.ref o), some (.int (nI (b))), some (.int (nI (nu))), some (.int (nI (dp))), some (.int (nI (a))), some (.int (nI (n))), some (.int (nI (c))), some (.int (nI (i))), some (.int (nI (x))), some (.int (nI (p))), some (.int (nI (0))), some (.int (nI (g))), some (.int (nI (pu))), some (.int (nI (pv_))), some (.int (nI (ppg))), some (.int (nI (pxg))), some (.int (nI (k))), some (.int (nI (py))), some (.int (nI (pz))), some (.int (nI (p149))), some (.int (nI (p155)))] [.int (nI (p161)), .int (nI (xi)), .int (nI (a)), .ref o] M161
          have hF161 := hF159.trans hf161
          have t161q := t161.1
          clear t161
          have d9_161 := d9_157.congr t161q ho161
          have u9'_161 := u9'_157.congr t161q ho161
          have v9'_161 := v9'_157.congr t161q ho161
          have g9_161 := g9_157.congr t161q ho161
          have x9_161 := x9_157.congr t161q ho161
          have a3_161 := a3_157.congr t161q ho161
          have b3_161 := b3_157.congr t161q ho161
          have hI145_161 := hI145_157.congr t161q ho161
          have hI147_161 := hI147_157.congr t161q ho161
          have hI149_161 := hI149_157.congr t161q ho161
          have hI151_161 := hI151_157.congr t161q ho161
          have hI153_161 := hI153_157.congr t161q ho161
          have f2_161 := f2_157.congr t161q ho161
          have hI157_161 := hI157.congr t161q ho161
          have mz159_161 := mz159.congr t161q ho161 hza (fun _ _ _ => rfl)
          obtain ⟨hW162, hB162, hTD162, hz162, hp162⟩ := id hS161
          obtain ⟨dd162, hw162, hd162⟩ := id hW162
          have hcap162 := hB162.cap
          refine jj_callV (pc := 413) (b := o) (As := [.int (nI (a)), .int (nI (xi)), .int (nI (p161))]) kRO_triangle_d413 (kvRO_RO_whole hG) (kG_cl hG rfl) rfl (hO.ff hF161).1 rfl rfl rfl (Nat.le_of_ble_eq_true rfl) (Nat.le_of_ble_eq_true rfl) (jj_bare0 rfl) ?_
          refine ro_whole (a := a) (i := xi) (x := p161) hG (hO.ff hF161) hC161 hS161 (by omega) (by omega) (fun M163 hC163 hS163 hf163 => ?_)
          show jj G kRO_triangle (d + 9) Q rc161 rs161 416 [some (.ref o), some (.int (nI (b))), some (.int (nI (nu))), some (.int (nI (dp))), some (.int (nI (a))), some (.int (nI (n))), some (.int (nI (c))), some (.int (nI (i))), some (.int (nI (x))), some (.int (nI (p))), some (.int (nI (0))), some (.int (nI (g))), some (.int (nI (pu))), some (.int (nI (pv_))), some (.int (nI (ppg))), some (.int (nI (pxg))), some (.int (nI (k))), some (.int (nI (py))), some (.int (nI (pz))), some (.int (nI (p149))), some (.int (nI (p155)))] [] M163
          obtain ⟨V163, hV163⟩ : ∃ V163, (V159.set (a + 2 + 2 * xi) (nI p161)).set (a + 3 + 2 * xi) (nI 1) = V163 := ⟨_, rfl⟩
          rw [hV163] at hC163
          have hl163 : V163.length = V159.length := by rw [← hV163, List.length_set, List.length_set]
          have hv163 : ∀ i, i < a ∨ a + 2 + 2 * (R * n) ≤ i → V163.getD i 0 = V159.getD i 0 := fun i hi => by rw [← hV163, gd_set_ne (by omega), gd_set_ne (by omega)]
          have hF163 := hF161.trans hf163
          have mz163 := mz159_161.put (i := i) (j := k) (x := p161) (z := rdm zd c k (two k)) (V' := V163) hiR (by omega) (by omega) (by rw [hin_, hxi]; exact hV163.symm) (by rw [hr2]; exact hI161)
          obtain ⟨hW164, hB164, hTD164, hz164, hp164⟩ := id hS163
          obtain ⟨dd164, hw164, hd164⟩ := id hW164
          have hcap164 := hB164.cap
          refine jn_iinc (pc := 416) (k + 1) kRO_triangle_d416 rfl (nI_1 _) ?_
          refine jj_goto (pc := 419) (tgt := 233) kRO_triangle_d419 (by decide) ?_
          show jj G kRO_triangle (d + 9) Q rc161 rs161 233 [some (.ref o), some (.int (nI (b))), some (.int (nI (nu))), some (.int (nI (dp))), some (.int (nI (a))), some (.int (nI (n))), some (.int (nI (c))), some (.int (nI (i))), some (.int (nI (x))), some (.int (nI (p))), some (.int (nI (0))), some (.int (nI (g))), some (.int (nI (pu))), some (.int (nI (pv_))), some (.int (nI (ppg))), some (.int (nI (pxg))), some (.int (nI (k + 1))), some (.int (nI (py))), some (.int (nI (pz))), some (.int (nI (p149))), some (.int (nI (p155)))] [] M163
          exact ih (k + 1) (by omega) (by omega) _ _ _ _ M163 D161 T161 V163 _ _ _ rc161 rs161 hC163 hS163 (by omega) (by omega) (fun i hi => by rw [ho161 i (by omega), ho157 i (by omega), ho155 i (by omega), ho153 i (by omega), ho151 i (by omega), ho149 i (by omega), ho147 i (by omega), ho145 i (by omega), ho9 i (by omega)]) (by omega) (fun i hi => by rw [hv163 i hi, hv159 i hi, hV9 i hi]) hF163 (by rw [hnx]; exact mz163)
  exact loop (n - c) c (by omega) (Nat.le_refl _) _ _ _ _ M D T V up low v2 rc rs hC hS (Nat.le_refl _) (Nat.le_refl _) (fun _ _ => rfl) rfl (fun _ _ => rfl) (FF.refl M f) (by rw [trow_start]; exact hz)
end RO6
