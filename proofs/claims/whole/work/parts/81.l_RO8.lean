/-! ===== Forms.triangle: the second half (printed by wip/gen/ro8.py) ===== -/
def nsum (f : Nat → Nat) : Nat → Nat
  | 0 => 0
  | n + 1 => nsum f n + f n
theorem nsum_le {f : Nat → Nat} : ∀ {a b : Nat}, a ≤ b → nsum f a ≤ nsum f b := by
  intro a b
  induction b with
  | zero => intro h; rw [show a = 0 by omega]; exact Nat.le_refl _
  | succ b ih =>
    intro h
    by_cases e : a = b + 1
    · rw [e]; exact Nat.le_refl _
    · have := ih (by omega)
      show nsum f a ≤ nsum f b + f b
      omega
/-- what a row of the second half costs -/
def thC (n sd c i : Nat) : Nat := (n - c) * (2 * (sd * (c + 1 - i)) + 4) + sd * (c + 1 - i) + 4
def thG (n sd c : Nat) : Nat := nsum (thC n sd c) c
def t2row (Z : imat) (zq : Int) (c i k : Nat) : imat := fun a b => if a = i ∧ c ≤ b ∧ b < k then Z i b - zq * Z c b else Z a b
theorem t2row_start (Z : imat) (zq : Int) (c i : Nat) : t2row Z zq c i c = Z := by
  funext a b
  exact if_neg (by omega)
theorem t2row_next (Z : imat) (zq : Int) {c i k : Nat} (hk : c ≤ k) : t2row Z zq c i (k + 1) = fun a b => if a = i ∧ b = k then Z i k - zq * Z c k else t2row Z zq c i k a b := by
  funext a b
  unfold t2row
  by_cases e : a = i ∧ b = k
  · obtain ⟨e1, e2⟩ := e
    subst e1 e2
    rw [if_pos ⟨rfl, hk, by omega⟩, if_pos ⟨rfl, rfl⟩]
  · rw [if_neg e]
    by_cases e1 : a = i ∧ c ≤ b ∧ b < k
    · rw [if_pos e1, if_pos ⟨e1.1, e1.2.1, by omega⟩]
    · rw [if_neg e1, if_neg (by omega)]
theorem ZB.ofpow {sd e D : Nat} {z : Int} (h : z.natAbs < D ^ e) (hD : D ≤ 32768 ^ sd) : ZB (sd * e) z := by
  unfold ZB
  rw [Nat.pow_mul]
  exact Nat.lt_of_lt_of_le h (Nat.pow_le_pow_left hD e)
section RO8
variable {G : jg} {d : Nat} {Q : jq} {rc rs : Nat} {M : mheap} {o f w vv pv ca ra : Nat} {v2 : Value} {D V P CA RA : List Int32} {t : Nat} {up low rk fi se : Int32}
theorem ro_tri_two {b nu dp n R T sd cm X Z' : Nat} {o7 o8 o9 o10 o11 o12 o13 o14 o15 o16 o17 o18 o19 o20 : Option Value} {Zs : imat} {zd : Int} (hG : kG G) (hO : OC M o f w ca ra CA RA fi se) (hC : FC M f w vv pv V t up low P rk) (hS : RS M w D T v2 cm X Z' rc rs) (hV : V.length < 2 ^ 31) (htV : t ≤ V.length) (hz : MZ D T V t b R n Zs) (hR' : R < 64) (hnR : n ≤ R) (hn1 : 1 ≤ n) (hd : 0 < zd) (hI : T2I Zs Zs zd n 1 0) (hsd : zd.natAbs + 1 ≤ 32768 ^ sd) (hT : T + nsum (thG n sd) n + 8 * (sd * (n + 1)) + 200 ≤ cm)
    (K : ∀ Z M' D' T' V' up' low' v2' rc' rs', T2I Zs Z zd n n 0 → (∀ a k, n ≤ a → k < n → Z a k = Zs a k) → FC M' f w vv pv V' t up' low' P rk → RS M' w D' T' v2' cm X Z' rc' rs' → T ≤ T' → T' ≤ T + nsum (thG n sd) n → (∀ i, i < T → D'.getD i 0 = D.getD i 0) → V'.length = V.length → (∀ i, i < b ∨ b + 2 + 2 * (R * n) ≤ i → V'.getD i 0 = V.getD i 0) → FF M M' f → MZ D' T' V' t b R n Z → Q (.returned (some (.int (nI b)))) M' rc' rs') : jj G kRO_triangle (d + 10) Q rc rs 480 [some (.ref o), some (.int (nI (b))), some (.int (nI (nu))), some (.int (nI (dp))), some (.int (nI (b))), some (.int (nI (n))), some (.int (nI (n))), (o7), (o8), (o9), (o10), (o11), (o12), (o13), (o14), (o15), (o16), (o17), (o18), (o19), (o20)] [] M := by
  have hcapD := hS.2.1.cap
  have hza := hz.1
  have hRn : R * n < 64 * 1024 := Nat.mul_lt_mul_of_lt_of_le hR' (by omega) (by decide)
  have loop : ∀ mu c, n = c + mu → 1 ≤ c → ∀ (o7 o8 o9 o10 o11 o12 o13 o14 o15 o16 o17 o18 o19 o20 : Option Value) (Z9 : imat) (M9 : mheap) (D9 : List Int32) (T9 : Nat) (V9 : List Int32) (up9 low9 : Int32) (v9 : Value) (rc9 rs9 : Nat), T2I Zs Z9 zd n c 0 → FC M9 f w vv pv V9 t up9 low9 P rk → RS M9 w D9 T9 v9 cm X Z' rc9 rs9 → T ≤ T9 → T9 ≤ T + nsum (thG n sd) c → (∀ i, i < T → D9.getD i 0 = D.getD i 0) → V9.length = V.length → (∀ i, i < b ∨ b + 2 + 2 * (R * n) ≤ i → V9.getD i 0 = V.getD i 0) → FF M M9 f → MZ D9 T9 V9 t b R n Z9 → (∀ a k, n ≤ a → k < n → Z9 a k = Zs a k) → jj G kRO_triangle (d + 10) Q rc9 rs9 483 [some (.ref o), some (.int (nI (b))), some (.int (nI (nu))), some (.int (nI (dp))), some (.int (nI (b))), some (.int (nI (n))), some (.int (nI (c))), (o7), (o8), (o9), (o10), (o11), (o12), (o13), (o14), (o15), (o16), (o17), (o18), (o19), (o20)] [] M9 := by
    intro mu
    induction mu with
    | zero =>
      intro c hk hc1 o7 o8 o9 o10 o11 o12 o13 o14 o15 o16 o17 o18 o19 o20 Z9 M9 D9 T9 V9 up9 low9 v9 rc9 rs9 hI9 hC9 hS9 t9 u9 ho9 hlen9 hV9 hF9 hz9 hR9
      have e9 : n = c := by omega
      subst e9
      refine jj_iload (pc := 483) kRO_triangle_d483 rfl ?_
      refine jj_iload (pc := 485) kRO_triangle_d485 rfl ?_
      refine jn_icmp_ge (pc := 487) (tgt := 641) kRO_triangle_d487 (by decide) (by omega) (by omega) (fun _ => ?_) (fun c => by exfalso; omega)
      refine jj_iload (pc := 641) kRO_triangle_d641 rfl ?_
      exact jj_iret (pc := 643) kRO_triangle_d643 rfl (by rfl) (K Z9 M9 D9 T9 V9 up9 low9 v9 rc9 rs9 hI9 hR9 hC9 hS9 t9 u9 ho9 hlen9 hV9 hF9 hz9)
    | succ mu ih =>
      intro c hk hc1 o7 o8 o9 o10 o11 o12 o13 o14 o15 o16 o17 o18 o19 o20 Z9 M9 D9 T9 V9 up9 low9 v9 rc9 rs9 hI9 hC9 hS9 t9 u9 ho9 hlen9 hV9 hF9 hz9 hR9
      have hG1 : nsum (thG n sd) (c + 1) ≤ nsum (thG n sd) n := nsum_le (by omega)
      have hG2 : nsum (thG n sd) (c + 1) = nsum (thG n sd) c + nsum (thC n sd c) c := rfl
      refine jj_iload (pc := 483) kRO_triangle_d483 rfl ?_
      refine jj_iload (pc := 485) kRO_triangle_d485 rfl ?_
      refine jn_icmp_ge (pc := 487) (tgt := 641) kRO_triangle_d487 (by decide) (by omega) (by omega) (fun c => by exfalso; omega) (fun _ => ?_)
      refine jn_iconst (pc := 490) 0 kRO_triangle_d490 (by decide) ?_
      refine jj_istore (pc := 491) kRO_triangle_d491 (Nat.le_of_ble_eq_true rfl) ?_
      show jj G kRO_triangle (d + 10) Q rc9 rs9 493 [some (.ref o), some (.int (nI (b))), some (.int (nI (nu))), some (.int (nI (dp))), some (.int (nI (b))), some (.int (nI (n))), some (.int (nI (c))), some (.int (nI (0))), (o8), (o9), (o10), (o11), (o12), (o13), (o14), (o15), (o16), (o17), (o18), (o19), (o20)] [] M9
      have inner : ∀ mu2 i, c = i + mu2 → ∀ (o8 o9 o10 o11 o12 o13 o14 o15 o16 o17 o18 o19 o20 : Option Value) (Z9 : imat) (M9 : mheap) (D9 : List Int32) (T9 : Nat) (V9 : List Int32) (up9 low9 : Int32) (v9 : Value) (rc9 rs9 : Nat), T2I Zs Z9 zd n c i → FC M9 f w vv pv V9 t up9 low9 P rk → RS M9 w D9 T9 v9 cm X Z' rc9 rs9 → T ≤ T9 → T9 ≤ T + nsum (thG n sd) c + nsum (thC n sd c) i → (∀ i, i < T → D9.getD i 0 = D.getD i 0) → V9.length = V.length → (∀ i, i < b ∨ b + 2 + 2 * (R * n) ≤ i → V9.getD i 0 = V.getD i 0) → FF M M9 f → MZ D9 T9 V9 t b R n Z9 → (∀ a k, n ≤ a → k < n → Z9 a k = Zs a k) → jj G kRO_triangle (d + 10) Q rc9 rs9 493 [some (.ref o), some (.int (nI (b))), some (.int (nI (nu))), some (.int (nI (dp))), some (.int (nI (b))), some (.int (nI (n))), some (.int (nI (c))), some (.int (nI (i))), (o8), (o9), (o10), (o11), (o12), (o13), (o14), (o15), (o16), (o17), (o18), (o19), (o20)] [] M9 := by
        clear hI9 hC9 hS9 t9 u9 ho9 hlen9 hV9 hF9 hz9 hR9
        intro mu2
        induction mu2 with
        | zero =>
          intro i hi o8 o9 o10 o11 o12 o13 o14 o15 o16 o17 o18 o19 o20 Z9 M9 D9 T9 V9 up9 low9 v9 rc9 rs9 hI9 hC9 hS9 t9 u9 ho9 hlen9 hV9 hF9 hz9 hR9
          have e9 : c = i := by omega
          subst e9
          refine jj_iload (pc := 493) kRO_triangle_d493 rfl ?_
          refine jj_iload (pc := 495) kRO_triangle_d495 rfl ?_
          refine jn_icmp_ge (pc := 497) (tgt := 635) kRO_triangle_d497 (by decide) (by omega) (by omega) (fun _ => ?_) (fun c => by exfalso; omega)
          refine jn_iinc (pc := 635) (c + 1) kRO_triangle_d635 rfl (nI_1 _) ?_
          refine jj_goto (pc := 638) (tgt := 483) kRO_triangle_d638 (by decide) ?_
          show jj G kRO_triangle (d + 10) Q rc9 rs9 483 [some (.ref o), some (.int (nI (b))), some (.int (nI (nu))), some (.int (nI (dp))), some (.int (nI (b))), some (.int (nI (n))), some (.int (nI (c + 1))), some (.int (nI (c))), (o8), (o9), (o10), (o11), (o12), (o13), (o14), (o15), (o16), (o17), (o18), (o19), (o20)] [] M9
          exact ih (c + 1) (by omega) (by omega) _ _ _ _ _ _ _ _ _ _ _ _ _ _ Z9 M9 D9 T9 V9 up9 low9 v9 rc9 rs9 (hI9.next (by omega)) hC9 hS9 t9 (by omega) ho9 hlen9 hV9 hF9 hz9 hR9
        | succ mu2 ih2 =>
          intro i hi o8 o9 o10 o11 o12 o13 o14 o15 o16 o17 o18 o19 o20 Z9 M9 D9 T9 V9 up9 low9 v9 rc9 rs9 hI9 hC9 hS9 t9 u9 ho9 hlen9 hV9 hF9 hz9 hR9
          have hH1 : nsum (thC n sd c) (i + 1) ≤ nsum (thC n sd c) c := nsum_le (by omega)
          have hH2 : nsum (thC n sd c) (i + 1) = nsum (thC n sd c) i + ((n - c) * (2 * (sd * (c + 1 - i)) + 4) + sd * (c + 1 - i) + 4) := rfl
          obtain ⟨E1, hE1⟩ : ∃ E1, sd * (c + 1 - i) = E1 := ⟨_, rfl⟩
          obtain ⟨E0, hE0⟩ : ∃ E0, sd * (c - i) = E0 := ⟨_, rfl⟩
          have hE2 : E1 = E0 + sd := by rw [← hE1, ← hE0, show c + 1 - i = (c - i) + 1 by omega, Nat.mul_add, Nat.mul_one]
          have hE3 : E1 ≤ sd * (n + 1) := by rw [← hE1]; exact Nat.mul_le_mul_left _ (by omega)
          rw [hE1] at hH2
          obtain ⟨HK, hHK⟩ : ∃ HK, 2 * E1 + 4 = HK := ⟨_, rfl⟩
          rw [hHK] at hH2
          obtain ⟨nc, hnc⟩ : ∃ nc, n = nc + c := ⟨n - c, by omega⟩
          rw [show n - c = nc by omega] at hH2
          have hcap9 := hS9.2.1.cap
          have hTD9 := hS9.2.2.1
          have hz90 := hS9.2.2.2.1
          obtain ⟨iN, hin_⟩ : ∃ iN, i * n = iN := ⟨_, rfl⟩
          obtain ⟨cn, hcn_⟩ : ∃ cn, c * n = cn := ⟨_, rfl⟩
          obtain ⟨xi, hxi⟩ : ∃ xi, iN + c = xi := ⟨_, rfl⟩
          obtain ⟨xc, hxc⟩ : ∃ xc, cn + c = xc := ⟨_, rfl⟩
          have hxil : xi < R * n := by rw [← hxi, ← hin_]; exact cell_lt (by omega) (by omega)
          have hxcl : xc < R * n := by rw [← hxc, ← hcn_]; exact cell_lt (by omega) (by omega)
          obtain ⟨px, a1, -, a3⟩ := hz9.2.2.2 i c (by omega) (by omega)
          obtain ⟨pp, b1, -, b3⟩ := hz9.2.2.2 c c (by omega) (by omega)
          rw [hin_, hxi] at a1
          rw [hcn_, hxc] at b1
          have hp0 := (hI9.2.1 c (by omega)).1
          have hrowI : ∀ k, k < n → ZB E0 (Z9 i k) := fun k hk => by
            have := hI9.2.2.2.2.2.2 i k (by omega) hk
            rw [if_neg (by omega)] at this
            rw [← hE0]
            exact ZB.ofpow this hsd
          have hrowC : ∀ k, k < n → ZB sd (Z9 c k) := fun k hk => by
            refine ZB.of_le (b := zd.natAbs) ?_ (by omega)
            by_cases e1 : k = c
            · rw [e1]; have := hI9.2.1 c (by omega); omega
            · by_cases e2 : k < c
              · rw [hI9.2.2.1 c k e2 (by omega)]; omega
              · have := hI9.2.2.2.2.2.1 c k (Nat.le_refl _) (by omega) hk
                omega
          have lpx := a3.lt
          have lpp := b3.lt
          obtain ⟨hW101, hB101, hTD101, hz101, hp101⟩ := id hS9
          obtain ⟨dd101, hw101, hd101⟩ := id hW101
          have hcap101 := hB101.cap
          refine jj_iload (pc := 493) kRO_triangle_d493 rfl ?_
          refine jj_iload (pc := 495) kRO_triangle_d495 rfl ?_
          refine jn_icmp_ge (pc := 497) (tgt := 635) kRO_triangle_d497 (by decide) (by omega) (by omega) (fun c => by exfalso; omega) (fun _ => ?_)
          refine jj_aload_n (pc := 500) kRO_triangle_d500 rfl ?_
          refine jj_getf (pc := 501) kRO_triangle_d501 (kfRO_w hG) (hO.ff hF9).1 rfl ?_
          refine jj_aload_n (pc := 504) kRO_triangle_d504 rfl ?_
          refine jj_getf (pc := 505) kRO_triangle_d505 (kfRO_f hG) (hO.ff hF9).1 rfl ?_
          refine jj_iload (pc := 508) kRO_triangle_d508 rfl ?_
          refine jj_iload (pc := 510) kRO_triangle_d510 rfl ?_
          refine jj_iload (pc := 512) kRO_triangle_d512 rfl ?_
          refine jn_imul (pc := 514) (iN) kRO_triangle_d514 hin_ ?_
          refine jj_iload (pc := 515) kRO_triangle_d515 rfl ?_
          refine jn_iadd (pc := 517) (xi) kRO_triangle_d517 hxi ?_
          refine jj_callV (pc := 518) (b := f) (As := [.int (nI (b)), .int (nI (xi))]) kRO_triangle_d518 (kvRO_RF_upper hG) (kG_cl hG rfl) rfl hC9.1 rfl rfl rfl (Nat.le_of_ble_eq_true rfl) (Nat.le_of_ble_eq_true rfl) (jj_bare0 rfl) ?_
          refine rf_upper hG hC9 (by omega) (by omega) ?_
          show jj G kRO_triangle (d + 10) Q rc9 rs9 521 [some (.ref o), some (.int (nI (b))), some (.int (nI (nu))), some (.int (nI (dp))), some (.int (nI (b))), some (.int (nI (n))), some (.int (nI (c))), some (.int (nI (i))), (o8), (o9), (o10), (o11), (o12), (o13), (o14), (o15), (o16), (o17), (o18), (o19), (o20)] [.int (V9.getD (b + 2 + 2 * xi) 0), .ref w] M9
          refine jn_top (.int (nI (px))) (by rw [a1]) ?_
          refine jj_aload_n (pc := 521) kRO_triangle_d521 rfl ?_
          refine jj_getf (pc := 522) kRO_triangle_d522 (kfRO_f hG) (hO.ff hF9).1 rfl ?_
          refine jj_iload (pc := 525) kRO_triangle_d525 rfl ?_
          refine jj_iload (pc := 527) kRO_triangle_d527 rfl ?_
          refine jj_iload (pc := 529) kRO_triangle_d529 rfl ?_
          refine jn_imul (pc := 531) (cn) kRO_triangle_d531 hcn_ ?_
          refine jj_iload (pc := 532) kRO_triangle_d532 rfl ?_
          refine jn_iadd (pc := 534) (xc) kRO_triangle_d534 hxc ?_
          refine jj_callV (pc := 535) (b := f) (As := [.int (nI (b)), .int (nI (xc))]) kRO_triangle_d535 (kvRO_RF_upper hG) (kG_cl hG rfl) rfl hC9.1 rfl rfl rfl (Nat.le_of_ble_eq_true rfl) (Nat.le_of_ble_eq_true rfl) (jj_bare0 rfl) ?_
          refine rf_upper hG hC9 (by omega) (by omega) ?_
          show jj G kRO_triangle (d + 10) Q rc9 rs9 538 [some (.ref o), some (.int (nI (b))), some (.int (nI (nu))), some (.int (nI (dp))), some (.int (nI (b))), some (.int (nI (n))), some (.int (nI (c))), some (.int (nI (i))), (o8), (o9), (o10), (o11), (o12), (o13), (o14), (o15), (o16), (o17), (o18), (o19), (o20)] [.int (V9.getD (b + 2 + 2 * xc) 0), .int (nI (px)), .ref w] M9
          refine jn_top (.int (nI (pp))) (by rw [b1]) ?_
          refine jj_callV (pc := 538) (b := w) (As := [.int (nI (px)), .int (nI (pp))]) kRO_triangle_d538 (kvRO_RW_divide hG) (kG_cl hG rfl) rfl hw101 rfl rfl rfl (Nat.le_of_ble_eq_true rfl) (Nat.le_of_ble_eq_true rfl) (jj_bare0 rfl) ?_
          refine ri_divide (a := E0) (b := sd) hG hS9 a3 b3 hp0 (hrowI c (by omega)) (hrowC c (by omega)) (by omega) (fun M102 D102 T102 p102 s102 rc102 rs102 hS102 t102 u102 ho102 hf102 hI102 hJ102 => ?_)
          show jj G kRO_triangle (d + 10) Q rc102 rs102 541 [some (.ref o), some (.int (nI (b))), some (.int (nI (nu))), some (.int (nI (dp))), some (.int (nI (b))), some (.int (nI (n))), some (.int (nI (c))), some (.int (nI (i))), (o8), (o9), (o10), (o11), (o12), (o13), (o14), (o15), (o16), (o17), (o18), (o19), (o20)] [.int (nI (p102))] M102
          have hC102 := hC9.rf hf102
          have hF102 := hF9.trans (FF.ofRF hC9 hf102)
          have a3_102 := a3.congr t102.1 ho102
          have b3_102 := b3.congr t102.1 ho102
          have t102q := t102.1
          clear t102
          obtain ⟨hW103, hB103, hTD103, hz103, hp103⟩ := id hS102
          obtain ⟨dd103, hw103, hd103⟩ := id hW103
          have hcap103 := hB103.cap
          obtain ⟨zq, hzq⟩ : ∃ zq, Z9 i c / Z9 c c = zq := ⟨_, rfl⟩
          rw [hzq] at hI102
          have bq : ZB E0 zq := by rw [← hzq]; exact (hrowI c (by omega)).ediv hp0
          have hz1 := hz9.congr t102q ho102 hza (fun _ _ _ => rfl)
          have ho10 : ∀ i, i < T → D102.getD i 0 = D.getD i 0 := fun i hi => by rw [ho102 i (by omega), ho9 i hi]
          have lq := hI102.lt
          refine jj_istore (pc := 541) kRO_triangle_d541 (Nat.le_of_ble_eq_true rfl) ?_
          refine jj_iload (pc := 543) kRO_triangle_d543 rfl ?_
          refine jj_istore (pc := 545) kRO_triangle_d545 (Nat.le_of_ble_eq_true rfl) ?_
          show jj G kRO_triangle (d + 10) Q rc102 rs102 547 [some (.ref o), some (.int (nI (b))), some (.int (nI (nu))), some (.int (nI (dp))), some (.int (nI (b))), some (.int (nI (n))), some (.int (nI (c))), some (.int (nI (i))), some (.int (nI (p102))), some (.int (nI (c))), (o10), (o11), (o12), (o13), (o14), (o15), (o16), (o17), (o18), (o19), (o20)] [] M102
          show jj G kRO_triangle (d + 10) Q rc102 rs102 547 [some (.ref o), some (.int (nI (b))), some (.int (nI (nu))), some (.int (nI (dp))), some (.int (nI (b))), some (.int (nI (n))), some (.int (nI (c))), some (.int (nI (i))), some (.int (nI (p102))), some (.int (nI (c))), (o10), (o11), (o12), (o13), (o14), (o15), (o16), (o17), (o18), (o19), (o20)] [] M102
          have k629 : ∀ (k : Nat) (Z8 : imat) (M8 : mheap) (D8 : List Int32) (T8 : Nat) (V8 : List Int32) (up8 low8 : Int32) (v8 : Value) (rc8 rs8 : Nat), T2I Zs Z8 zd n c (i + 1) → FC M8 f w vv pv V8 t up8 low8 P rk → RS M8 w D8 T8 v8 cm X Z' rc8 rs8 → T ≤ T8 → T8 ≤ T + nsum (thG n sd) c + nsum (thC n sd c) (i + 1) → (∀ i, i < T → D8.getD i 0 = D.getD i 0) → V8.length = V.length → (∀ i, i < b ∨ b + 2 + 2 * (R * n) ≤ i → V8.getD i 0 = V.getD i 0) → FF M M8 f → MZ D8 T8 V8 t b R n Z8 → (∀ a k, n ≤ a → k < n → Z8 a k = Zs a k) → jj G kRO_triangle (d + 10) Q rc8 rs8 629 [some (.ref o), some (.int (nI (b))), some (.int (nI (nu))), some (.int (nI (dp))), some (.int (nI (b))), some (.int (nI (n))), some (.int (nI (c))), some (.int (nI (i))), some (.int (nI (p102))), some (.int (nI (k))), (o10), (o11), (o12), (o13), (o14), (o15), (o16), (o17), (o18), (o19), (o20)] [] M8 := by
            intro k Z8 M8 D8 T8 V8 up8 low8 v8 rc8 rs8 hI8 hC8 hS8 t8 u8 ho8 hlen8 hV8 hF8 hz8 hR8
            refine jn_iinc (pc := 629) (i + 1) kRO_triangle_d629 rfl (nI_1 _) ?_
            refine jj_goto (pc := 632) (tgt := 493) kRO_triangle_d632 (by decide) ?_
            show jj G kRO_triangle (d + 10) Q rc8 rs8 493 [some (.ref o), some (.int (nI (b))), some (.int (nI (nu))), some (.int (nI (dp))), some (.int (nI (b))), some (.int (nI (n))), some (.int (nI (c))), some (.int (nI (i + 1))), some (.int (nI (p102))), some (.int (nI (k))), (o10), (o11), (o12), (o13), (o14), (o15), (o16), (o17), (o18), (o19), (o20)] [] M8
            exact ih2 (i + 1) (by omega) _ _ _ _ _ _ _ _ _ _ _ _ _ Z8 M8 D8 T8 V8 up8 low8 v8 rc8 rs8 hI8 hC8 hS8 t8 u8 ho8 hlen8 hV8 hF8 hz8 hR8
          clear ih2
          by_cases cq : p102 = 0
          · skip
            have eq0 : zq = 0 := by have h9 := hI102; rw [cq] at h9; exact h9.z0 hz103 (by omega)
            have hT2 := hI9.row (Z' := Z9) (by omega) (by omega) hzq.symm (fun a b _ => by
              by_cases e : a = i ∧ c ≤ b
              · rw [if_pos e, e.1, eq0]; omega
              · rw [if_neg e])
            refine jj_iload (pc := 547) kRO_triangle_d547 rfl ?_
            refine jj_iload (pc := 549) kRO_triangle_d549 rfl ?_
            refine jn_icmp_ge (pc := 551) (tgt := 629) kRO_triangle_d551 (by decide) (by omega) (by omega) (fun c => by exfalso; omega) (fun _ => ?_)
            refine jj_iload (pc := 554) kRO_triangle_d554 rfl ?_
            refine jn_if_eq (pc := 556) (tgt := 629) kRO_triangle_d556 (by decide) (by omega) (fun _ => ?_) (fun c => by exfalso; omega)
            exact k629 c Z9 M102 D102 T102 V9 up9 low9 _ rc102 rs102 hT2 hC102 hS102 (by omega) (by rw [hH2]; omega) ho10 hlen9 hV9 hF102 hz1 hR9
          · skip
            have hT2 := hI9.row (Z' := t2row Z9 zq c i n) (by omega) (by omega) hzq.symm (fun a b hb => by
              unfold t2row
              by_cases e : a = i ∧ c ≤ b
              · rw [if_pos e, if_pos ⟨e.1, e.2, hb⟩]
              · rw [if_neg e, if_neg (fun e1 => e ⟨e1.1, e1.2.1⟩)])
            have hk0 : n * HK = nc * HK + c * HK := by rw [← Nat.add_mul, ← hnc]
            have kl : ∀ mu3 k, n = k + mu3 → c ≤ k → ∀ (M8 : mheap) (D8 : List Int32) (T8 : Nat) (V8 : List Int32) (up8 low8 : Int32) (v8 : Value) (rc8 rs8 : Nat), FC M8 f w vv pv V8 t up8 low8 P rk → RS M8 w D8 T8 v8 cm X Z' rc8 rs8 → T ≤ T8 → T8 + c * HK ≤ T + nsum (thG n sd) c + nsum (thC n sd c) i + E1 + 4 + k * HK → (∀ i, i < T → D8.getD i 0 = D.getD i 0) → V8.length = V.length → (∀ i, i < b ∨ b + 2 + 2 * (R * n) ≤ i → V8.getD i 0 = V.getD i 0) → FF M M8 f → MZ D8 T8 V8 t b R n (t2row Z9 zq c i k) → T102 ≤ T8 → (∀ i, i < T102 → D8.getD i 0 = D102.getD i 0) → jj G kRO_triangle (d + 10) Q rc8 rs8 547 [some (.ref o), some (.int (nI (b))), some (.int (nI (nu))), some (.int (nI (dp))), some (.int (nI (b))), some (.int (nI (n))), some (.int (nI (c))), some (.int (nI (i))), some (.int (nI (p102))), some (.int (nI (k))), (o10), (o11), (o12), (o13), (o14), (o15), (o16), (o17), (o18), (o19), (o20)] [] M8 := by
              intro mu3
              induction mu3 with
              | zero =>
                intro k hk3 hck M8 D8 T8 V8 up8 low8 v8 rc8 rs8 hC8 hS8 t8 u8 ho8 hlen8 hV8 hF8 hz8 tq oq
                have e9 : n = k := by omega
                subst e9
                refine jj_iload (pc := 547) kRO_triangle_d547 rfl ?_
                refine jj_iload (pc := 549) kRO_triangle_d549 rfl ?_
                refine jn_icmp_ge (pc := 551) (tgt := 629) kRO_triangle_d551 (by decide) (by omega) (by omega) (fun _ => ?_) (fun c => by exfalso; omega)
                exact k629 n (t2row Z9 zq c i n) M8 D8 T8 V8 up8 low8 v8 rc8 rs8 hT2 hC8 hS8 t8 (by rw [hH2]; omega) ho8 hlen8 hV8 hF8 hz8 (fun a k ha hk => by rw [show t2row Z9 zq c i n a k = Z9 a k from if_neg (by omega)]; exact hR9 a k ha hk)
              | succ mu3 ih3 =>
                intro k hk3 hck M8 D8 T8 V8 up8 low8 v8 rc8 rs8 hC8 hS8 t8 u8 ho8 hlen8 hV8 hF8 hz8 tq oq
                have hk2 : (k + 1) * HK = k * HK + HK := Nat.succ_mul _ _
                have hk1 : (k + 1) * HK ≤ n * HK := Nat.mul_le_mul_right _ (by omega)
                obtain ⟨xj, hxj⟩ : ∃ xj, iN + k = xj := ⟨_, rfl⟩
                obtain ⟨xd, hxd⟩ : ∃ xd, cn + k = xd := ⟨_, rfl⟩
                have hxjl : xj < R * n := by rw [← hxj, ← hin_]; exact cell_lt (by omega) (by omega)
                have hxdl : xd < R * n := by rw [← hxd, ← hcn_]; exact cell_lt (by omega) (by omega)
                obtain ⟨py, c1, -, c3⟩ := hz8.2.2.2 i k (by omega) (by omega)
                obtain ⟨pz, d1, -, d3⟩ := hz8.2.2.2 c k (by omega) (by omega)
                rw [hin_, hxj] at c1
                rw [hcn_, hxd] at d1
                rw [show t2row Z9 zq c i k i k = Z9 i k from if_neg (by omega)] at c3
                rw [show t2row Z9 zq c i k c k = Z9 c k from if_neg (by omega)] at d3
                have sy := hrowI k (by omega)
                have sz := hrowC k (by omega)
                have s1 : ZB (E0 + sd) (zq * Z9 c k) := bq.mul sz
                have q8 := hI102.congr tq oq
                have hnx := t2row_next Z9 zq (i := i) hck
                have hcap8 := hS8.2.1.cap
                obtain ⟨hW104, hB104, hTD104, hz104, hp104⟩ := id hS8
                obtain ⟨dd104, hw104, hd104⟩ := id hW104
                have hcap104 := hB104.cap
                refine jj_iload (pc := 547) kRO_triangle_d547 rfl ?_
                refine jj_iload (pc := 549) kRO_triangle_d549 rfl ?_
                refine jn_icmp_ge (pc := 551) (tgt := 629) kRO_triangle_d551 (by decide) (by omega) (by omega) (fun c => by exfalso; omega) (fun _ => ?_)
                refine jj_iload (pc := 554) kRO_triangle_d554 rfl ?_
                refine jn_if_eq (pc := 556) (tgt := 629) kRO_triangle_d556 (by decide) (by omega) (fun c => by exfalso; omega) (fun _ => ?_)
                refine jj_aload_n (pc := 559) kRO_triangle_d559 rfl ?_
                refine jj_iload (pc := 560) kRO_triangle_d560 rfl ?_
                refine jj_iload (pc := 562) kRO_triangle_d562 rfl ?_
                refine jj_iload (pc := 564) kRO_triangle_d564 rfl ?_
                refine jn_imul (pc := 566) (iN) kRO_triangle_d566 hin_ ?_
                refine jj_iload (pc := 567) kRO_triangle_d567 rfl ?_
                refine jn_iadd (pc := 569) (xj) kRO_triangle_d569 hxj ?_
                refine jj_aload_n (pc := 570) kRO_triangle_d570 rfl ?_
                refine jj_getf (pc := 571) kRO_triangle_d571 (kfRO_w hG) (hO.ff hF8).1 rfl ?_
                refine jj_aload_n (pc := 574) kRO_triangle_d574 rfl ?_
                refine jj_getf (pc := 575) kRO_triangle_d575 (kfRO_f hG) (hO.ff hF8).1 rfl ?_
                refine jj_iload (pc := 578) kRO_triangle_d578 rfl ?_
                refine jj_iload (pc := 580) kRO_triangle_d580 rfl ?_
                refine jj_iload (pc := 582) kRO_triangle_d582 rfl ?_
                refine jn_imul (pc := 584) (iN) kRO_triangle_d584 hin_ ?_
                refine jj_iload (pc := 585) kRO_triangle_d585 rfl ?_
                refine jn_iadd (pc := 587) (xj) kRO_triangle_d587 hxj ?_
                refine jj_callV (pc := 588) (b := f) (As := [.int (nI (b)), .int (nI (xj))]) kRO_triangle_d588 (kvRO_RF_upper hG) (kG_cl hG rfl) rfl hC8.1 rfl rfl rfl (Nat.le_of_ble_eq_true rfl) (Nat.le_of_ble_eq_true rfl) (jj_bare0 rfl) ?_
                refine rf_upper hG hC8 (by omega) (by omega) ?_
                show jj G kRO_triangle (d + 10) Q rc8 rs8 591 [some (.ref o), some (.int (nI (b))), some (.int (nI (nu))), some (.int (nI (dp))), some (.int (nI (b))), some (.int (nI (n))), some (.int (nI (c))), some (.int (nI (i))), some (.int (nI (p102))), some (.int (nI (k))), (o10), (o11), (o12), (o13), (o14), (o15), (o16), (o17), (o18), (o19), (o20)] [.int (V8.getD (b + 2 + 2 * xj) 0), .ref w, .int (nI (xj)), .int (nI (b)), .ref o] M8
                refine jn_top (.int (nI (py))) (by rw [c1]) ?_
                refine jj_aload_n (pc := 591) kRO_triangle_d591 rfl ?_
                refine jj_getf (pc := 592) kRO_triangle_d592 (kfRO_w hG) (hO.ff hF8).1 rfl ?_
                refine jj_iload (pc := 595) kRO_triangle_d595 rfl ?_
                refine jj_aload_n (pc := 597) kRO_triangle_d597 rfl ?_
                refine jj_getf (pc := 598) kRO_triangle_d598 (kfRO_f hG) (hO.ff hF8).1 rfl ?_
                refine jj_iload (pc := 601) kRO_triangle_d601 rfl ?_
                refine jj_iload (pc := 603) kRO_triangle_d603 rfl ?_
                refine jj_iload (pc := 605) kRO_triangle_d605 rfl ?_
                refine jn_imul (pc := 607) (cn) kRO_triangle_d607 hcn_ ?_
                refine jj_iload (pc := 608) kRO_triangle_d608 rfl ?_
                refine jn_iadd (pc := 610) (xd) kRO_triangle_d610 hxd ?_
                refine jj_callV (pc := 611) (b := f) (As := [.int (nI (b)), .int (nI (xd))]) kRO_triangle_d611 (kvRO_RF_upper hG) (kG_cl hG rfl) rfl hC8.1 rfl rfl rfl (Nat.le_of_ble_eq_true rfl) (Nat.le_of_ble_eq_true rfl) (jj_bare0 rfl) ?_
                refine rf_upper hG hC8 (by omega) (by omega) ?_
                show jj G kRO_triangle (d + 10) Q rc8 rs8 614 [some (.ref o), some (.int (nI (b))), some (.int (nI (nu))), some (.int (nI (dp))), some (.int (nI (b))), some (.int (nI (n))), some (.int (nI (c))), some (.int (nI (i))), some (.int (nI (p102))), some (.int (nI (k))), (o10), (o11), (o12), (o13), (o14), (o15), (o16), (o17), (o18), (o19), (o20)] [.int (V8.getD (b + 2 + 2 * xd) 0), .int (nI (p102)), .ref w, .int (nI (py)), .ref w, .int (nI (xj)), .int (nI (b)), .ref o] M8
                refine jn_top (.int (nI (pz))) (by rw [d1]) ?_
                refine jj_callV (pc := 614) (b := w) (As := [.int (nI (p102)), .int (nI (pz))]) kRO_triangle_d614 (kvRO_RW_multiply hG) (kG_cl hG rfl) rfl hw104 rfl rfl rfl (Nat.le_of_ble_eq_true rfl) (Nat.le_of_ble_eq_true rfl) (jj_bare0 rfl) ?_
                refine rs_multiply (a := E0) (b := sd) hG hS8 q8 d3 bq sz (by omega) (fun M105 D105 T105 p105 rc105 rs105 hS105 t105 u105 ho105 hf105 hI105 => ?_)
                show jj G kRO_triangle (d + 10) Q rc105 rs105 617 [some (.ref o), some (.int (nI (b))), some (.int (nI (nu))), some (.int (nI (dp))), some (.int (nI (b))), some (.int (nI (n))), some (.int (nI (c))), some (.int (nI (i))), some (.int (nI (p102))), some (.int (nI (k))), (o10), (o11), (o12), (o13), (o14), (o15), (o16), (o17), (o18), (o19), (o20)] [.int (nI (p105)), .int (nI (py)), .ref w, .int (nI (xj)), .int (nI (b)), .ref o] M105
                have hC105 := hC8.rf hf105
                have hF105 := hF8.trans (FF.ofRF hC8 hf105)
                have c3_105 := c3.congr t105.1 ho105
                have d3_105 := d3.congr t105.1 ho105
                have q8_105 := q8.congr t105.1 ho105
                have t105q := t105.1
                clear t105
                obtain ⟨hW106, hB106, hTD106, hz106, hp106⟩ := id hS105
                obtain ⟨dd106, hw106, hd106⟩ := id hW106
                have hcap106 := hB106.cap
                refine jj_callV (pc := 617) (b := w) (As := [.int (nI (py)), .int (nI (p105))]) kRO_triangle_d617 (kvRO_RW_subtract hG) (kG_cl hG rfl) rfl hw106 rfl rfl rfl (Nat.le_of_ble_eq_true rfl) (Nat.le_of_ble_eq_true rfl) (jj_bare0 rfl) ?_
                refine rs_subtract (a := E0 + sd) hG hS105 c3_105 hI105 (sy.mono (by omega)) s1 (by omega) (fun M107 D107 T107 p107 rc107 rs107 hS107 t107 u107 ho107 hf107 hI107 => ?_)
                show jj G kRO_triangle (d + 10) Q rc107 rs107 620 [some (.ref o), some (.int (nI (b))), some (.int (nI (nu))), some (.int (nI (dp))), some (.int (nI (b))), some (.int (nI (n))), some (.int (nI (c))), some (.int (nI (i))), some (.int (nI (p102))), some (.int (nI (k))), (o10), (o11), (o12), (o13), (o14), (o15), (o16), (o17), (o18), (o19), (o20)] [.int (nI (p107)), .int (nI (xj)), .int (nI (b)), .ref o] M107
                have hC107 := hC105.rf hf107
                have hF107 := hF105.trans (FF.ofRF hC105 hf107)
                have c3_107 := c3_105.congr t107.1 ho107
                have d3_107 := d3_105.congr t107.1 ho107
                have q8_107 := q8_105.congr t107.1 ho107
                have hI105_107 := hI105.congr t107.1 ho107
                have t107q := t107.1
                clear t107
                obtain ⟨hW108, hB108, hTD108, hz108, hp108⟩ := id hS107
                obtain ⟨dd108, hw108, hd108⟩ := id hW108
                have hcap108 := hB108.cap
                refine jj_callV (pc := 620) (b := o) (As := [.int (nI (b)), .int (nI (xj)), .int (nI (p107))]) kRO_triangle_d620 (kvRO_RO_whole hG) (kG_cl hG rfl) rfl (hO.ff hF107).1 rfl rfl rfl (Nat.le_of_ble_eq_true rfl) (Nat.le_of_ble_eq_true rfl) (jj_bare0 rfl) ?_
                refine ro_whole (a := b) (i := xj) (x := p107) hG (hO.ff hF107) hC107 hS107 (by omega) (by omega) (fun M109 hC109 hS109 hf109 => ?_)
                show jj G kRO_triangle (d + 10) Q rc107 rs107 623 [some (.ref o), some (.int (nI (b))), some (.int (nI (nu))), some (.int (nI (dp))), some (.int (nI (b))), some (.int (nI (n))), some (.int (nI (c))), some (.int (nI (i))), some (.int (nI (p102))), some (.int (nI (k))), (o10), (o11), (o12), (o13), (o14), (o15), (o16), (o17), (o18), (o19), (o20)] [] M109
                obtain ⟨V109, hV109⟩ : ∃ V109, (V8.set (b + 2 + 2 * xj) (nI p107)).set (b + 3 + 2 * xj) (nI 1) = V109 := ⟨_, rfl⟩
                rw [hV109] at hC109
                have hl109 : V109.length = V8.length := by rw [← hV109, List.length_set, List.length_set]
                have hv109 : ∀ i, i < b ∨ b + 2 + 2 * (R * n) ≤ i → V109.getD i 0 = V8.getD i 0 := fun i hi => by rw [← hV109, gd_set_ne (by omega), gd_set_ne (by omega)]
                have hF109 := hF107.trans hf109
                have hm8 := hz8.congr (D' := D107) (T' := T107) (V' := V8) (t' := t) (by omega) (fun i hi => by rw [ho107 i (by omega), ho105 i (by omega)]) hza (fun _ _ _ => rfl)
                have mz109 := hm8.put (i := i) (j := k) (x := p107) (z := Z9 i k - zq * Z9 c k) (V' := V109) (by omega) (by omega) (by omega) (by rw [hin_, hxj]; exact hV109.symm) hI107
                refine jn_iinc (pc := 623) (k + 1) kRO_triangle_d623 rfl (nI_1 _) ?_
                refine jj_goto (pc := 626) (tgt := 547) kRO_triangle_d626 (by decide) ?_
                show jj G kRO_triangle (d + 10) Q rc107 rs107 547 [some (.ref o), some (.int (nI (b))), some (.int (nI (nu))), some (.int (nI (dp))), some (.int (nI (b))), some (.int (nI (n))), some (.int (nI (c))), some (.int (nI (i))), some (.int (nI (p102))), some (.int (nI (k + 1))), (o10), (o11), (o12), (o13), (o14), (o15), (o16), (o17), (o18), (o19), (o20)] [] M109
                exact ih3 (k + 1) (by omega) (by omega) M109 D107 T107 V109 _ _ _ rc107 rs107 hC109 hS109 (by omega) (by omega) (fun i hi => by rw [ho107 i (by omega), ho105 i (by omega), ho8 i hi]) (by omega) (fun i hi => by rw [hv109 i hi, hV8 i hi]) hF109 (by rw [hnx]; exact mz109) (by omega) (fun i hi => by rw [ho107 i (by omega), ho105 i (by omega), oq i hi])
            exact kl nc c (by omega) (Nat.le_refl _) M102 D102 T102 V9 up9 low9 _ rc102 rs102 hC102 hS102 (by omega) (by omega) ho10 hlen9 hV9 hF102 (by rw [t2row_start]; exact hz1) (Nat.le_refl _) (fun _ _ => rfl)
      exact inner c 0 (by omega) _ _ _ _ _ _ _ _ _ _ _ _ _ Z9 M9 D9 T9 V9 up9 low9 v9 rc9 rs9 hI9 hC9 hS9 t9 u9 ho9 hlen9 hV9 hF9 hz9 hR9
  refine jn_iconst (pc := 480) 1 kRO_triangle_d480 (by decide) ?_
  refine jj_istore (pc := 481) kRO_triangle_d481 (Nat.le_of_ble_eq_true rfl) ?_
  show jj G kRO_triangle (d + 10) Q rc rs 483 [some (.ref o), some (.int (nI (b))), some (.int (nI (nu))), some (.int (nI (dp))), some (.int (nI (b))), some (.int (nI (n))), some (.int (nI (1))), (o7), (o8), (o9), (o10), (o11), (o12), (o13), (o14), (o15), (o16), (o17), (o18), (o19), (o20)] [] M
  exact loop (n - 1) 1 (by omega) (by omega) _ _ _ _ _ _ _ _ _ _ _ _ _ _ Zs M D T V up low v2 rc rs hI hC hS (Nat.le_refl _) (Nat.le_add_right _ _) (fun _ _ => rfl) rfl (fun _ _ => rfl) (FF.refl M f) hz (fun _ _ _ _ => rfl)
end RO8
