/-! ===== Fractions.rowProduct (printed by wip/gen/rf11.py) ===== -/
theorem ZB.le {a : Nat} {x y : Int} (h : ZB a y) (hx : x.natAbs ≤ y.natAbs) : ZB a x := Nat.lt_of_le_of_lt hx h
theorem ZB.dvd {a : Nat} {x y : Int} (h : ZB a y) (hx : x ∣ y) (hy : y ≠ 0) : ZB a x := h.le (Nat.le_of_dvd (by omega) (Int.natAbs_dvd_natAbs.mpr hx))
theorem ZB.div {a : Nat} {x y : Int} (h : ZB a x) (hx : 0 ≤ x) (hy : 0 ≤ y) : ZB a (x / y) := by
  have h1 : 0 ≤ x / y := Int.ediv_nonneg hx hy
  have h2 : x / y ≤ x := Int.ediv_le_self _ hx
  exact h.le (by omega)
/-- a partial sum of fractions over a number that divides a common multiple of all lower parts -/
theorem frac_size {m : Nat} {S : Rat} {u l L z : Int} (hl : 0 < l) (hL : 0 < L) (hd : l ∣ L) (hu : (u : Rat) = S * l) (hz : S * L = z) (hb : ZB m z) : ZB m u := by
  obtain ⟨e, he⟩ := hd
  have he0 : 0 < e := by
    rcases Int.lt_or_gt_of_ne (show e ≠ 0 from fun c => by rw [c, Int.mul_zero] at he; omega) with h | h
    · have := Int.mul_neg_of_pos_of_neg hl h; omega
    · exact h
  have h1 : z = u * e := by
    have : (z : Rat) = ((u * e : Int) : Rat) := by rw [← hz, he, Rat.intCast_mul, Rat.intCast_mul, hu]; grind
    exact Rat.intCast_inj.mp this
  refine hb.le ?_
  rw [h1, Int.natAbs_mul]
  exact Nat.le_mul_of_pos_right _ (by omega)
theorem frac_next {S t : Rat} {u p l q L : Int} (hl : 0 < l) (hq : 0 < q) (hlL : l ∣ L) (hqL : q ∣ L) (hu : (u : Rat) = S * l) (hp : (p : Rat) = t * q) : 0 < (Int.gcd l q : Int) ∧ 0 < l * (q / (Int.gcd l q : Int)) ∧ l * (q / (Int.gcd l q : Int)) ∣ L ∧ ((u * (q / (Int.gcd l q : Int)) + p * (l / (Int.gcd l q : Int)) : Int) : Rat) = (S + t) * (l * (q / (Int.gcd l q : Int)) : Int) := by
  have hg : 0 < (Int.gcd l q : Int) := by have := Int.gcd_pos_of_ne_zero_left (a := l) q (by omega); omega
  obtain ⟨a, ha⟩ := Int.gcd_dvd_left l q
  obtain ⟨b, hb⟩ := Int.gcd_dvd_right l q
  generalize hgg : (Int.gcd l q : Int) = g at hg ha hb
  have e1 : l / g = a := by rw [ha]; exact Int.mul_ediv_cancel_left a (by omega)
  have e2 : q / g = b := by rw [hb]; exact Int.mul_ediv_cancel_left b (by omega)
  rw [e1, e2]
  have hlc : l * b = (Int.lcm l q : Int) := by rw [← lcm_div hl hq, hgg, e1, ha, hb]; grind
  have hb0 : 0 < b := by
    rcases Int.lt_or_gt_of_ne (show b ≠ 0 from fun c => by rw [c, Int.mul_zero] at hb; omega) with h | h
    · have := Int.mul_neg_of_pos_of_neg hg h; omega
    · exact h
  refine ⟨hg, Int.mul_pos hl hb0, ?_, ?_⟩
  · rw [hlc]; exact Int.coe_lcm_dvd hlL hqL
  · have h3 : (l : Rat) = g * a := by rw [← Rat.intCast_mul, ← ha]
    have h4 : (q : Rat) = g * b := by rw [← Rat.intCast_mul, ← hb]
    rw [Rat.intCast_add, Rat.intCast_mul, Rat.intCast_mul, Rat.intCast_mul, hu, hp, h3, h4]
    grind
theorem frac_end {S : Rat} {u l : Int} (hl : 0 < l) (hu : (u : Rat) = S * l) : Rat.divInt u l = S := by
  rw [Rat.divInt_eq_div, hu]
  have : (l : Rat) ≠ 0 := fun c => by have h : (l : Rat) = ((0 : Int) : Rat) := c; have := Rat.intCast_inj.mp h; omega
  grind
theorem rat_num_eq (x y : Rat) : ((x.num * y.num : Int) : Rat) = x * y * ((x.den : Int) * (y.den : Int) : Int) := by
  have h := rat_mulF x y
  have h0 : (((x.den : Int) * (y.den : Int) : Int) : Rat) ≠ 0 := fun c => by
    have h : (((x.den : Int) * (y.den : Int) : Int) : Rat) = ((0 : Int) : Rat) := c
    exact Int.mul_ne_zero (den_ne x) (den_ne y) (Rat.intCast_inj.mp h)
  rw [Rat.divInt_eq_div] at h
  generalize (((x.den : Int) * (y.den : Int) : Int) : Rat) = dd at h h0
  grind
section RF11
variable {G : jg} {d : Nat} {Q : jq} {rc rs : Nat} {M : mheap} {f w vv pv : Nat} {v2 : Value} {D V P : List Int32} {t : Nat} {up low rk : Int32}
theorem rf_rowProduct {a i b j ra rb c loa lob T s m e cm X Z : Nat} {qa qb : Nat → Rat} {L : Int} (hG : kG G) (hC : FC M f w vv pv V t up low P rk) (hS : RS M w D T v2 cm X Z rc rs) (h1 : RI D T 1 1) (hT3 : 3 ≤ T) (hV : V.length < 2 ^ 31) (htV : t ≤ V.length) (hma : MX D T V t a ra c loa qa) (hmb : MX D T V t b rb c lob qb) (hi : i < ra) (hj : j < rb) (hc : c < 1024) (hra : ra < 1024) (hrb : rb < 1024)
    (hqa : ∀ k, k < ra * c → ZB s (qa k).num ∧ ZB s ((qa k).den : Int)) (hqb : ∀ k, k < rb * c → ZB s (qb k).num ∧ ZB s ((qb k).den : Int)) (hsm : 2 * s ≤ m) (hm : m ≤ 9000) (hL : 0 < L) (hLm : ZB m L) (hLd : ∀ k, k < c → ((qa (i * c + k)).den : Int) * ((qb (j * c + k)).den : Int) ∣ L) (hLs : ∀ k, k ≤ c → ∃ z : Int, qsum (fun k => qa (i * c + k) * qb (j * c + k)) k * L = z ∧ ZB m z)
    (hcn : ZB e (qsum (fun k => qa (i * c + k) * qb (j * c + k)) c).num) (hcd : ZB e ((qsum (fun k => qa (i * c + k) * qb (j * c + k)) c).den : Int)) (hT : T + 40000 + 60 * m + 600 ≤ cm)
    (KK : FRK Q M f w vv pv D V t P rk cm X Z T (T + 2 * e + 2) (qsum (fun k => qa (i * c + k) * qb (j * c + k)) c)) : jj G kRF_rowProduct (d + 9) Q rc rs 0 (jj_ent [.ref f, .int (nI a), .int (nI i), .int (nI b), .int (nI j)] 15) [] M := by
  obtain ⟨ha1, ha2, ha3, ha4⟩ := id hma
  obtain ⟨hb1, hb2, hb3, hb4⟩ := id hmb
  have hcapD := hS.2.1.cap
  generalize hF0 : (fun k => qa (i * c + k) * qb (j * c + k)) = F at hLs hcn hcd KK
  have hie : (i + 1) * c ≤ ra * c := Nat.mul_le_mul_right _ hi
  have hje : (j + 1) * c ≤ rb * c := Nat.mul_le_mul_right _ hj
  rw [Nat.succ_mul] at hie hje
  have hrc1 : ra * c < 1024 * 1024 := Nat.mul_lt_mul_of_lt_of_le hra (by omega) (by decide)
  have hrc2 : rb * c < 1024 * 1024 := Nat.mul_lt_mul_of_lt_of_le hrb (by omega) (by decide)
  obtain ⟨ic, hic⟩ : ∃ ic, i * c = ic := ⟨_, rfl⟩
  obtain ⟨jc, hjc⟩ : ∃ jc, j * c = jc := ⟨_, rfl⟩
  rw [hic] at hie
  rw [hjc] at hje
  rw [hic, hjc] at hLd
  have loop : ∀ n k, c = k + n → ∀ (o9 o10 o11 o12 o13 o14 : Option Value) (zu zl : Int) (pu pl : Nat) (M9 : mheap) (D9 : List Int32) (T9 : Nat) (v9 : Value) (rc9 rs9 : Nat), FC M9 f w vv pv V (t) (up) (low) P (rk) → RS M9 w D9 T9 v9 cm X Z rc9 rs9 → T ≤ T9 → T9 ≤ T + 20000 → (∀ i, i < T → D9.getD i 0 = D.getD i 0) → FF M M9 f → RI D9 T9 pu zu → RI D9 T9 pl zl → 0 < zl → zl ∣ L → (zu : Rat) = qsum F k * zl → jj G kRF_rowProduct (d + 9) Q rc9 rs9 18 [some (.ref f), some (.int (nI (a))), some (.int (nI (i))), some (.int (nI (b))), some (.int (nI (j))), some (.int (nI (T))), some (.int (nI (pu))), some (.int (nI (pl))), some (.int (nI (k))), (o9), (o10), (o11), (o12), (o13), (o14)] [] M9 := by
    intro n
    induction n with
    | zero =>
      intro k hk o9 o10 o11 o12 o13 o14 zu zl pu pl M9 D9 T9 v9 rc9 rs9 hC9 hS9 t9 u9 ho9 hF9 hU9 hL9 hz0 hzL hzS
      have e9 : c = k := by omega
      subst e9
      refine jj_iload (pc := 18) kRF_rowProduct_d18 rfl ?_
      refine jj_aload_n (pc := 20) kRF_rowProduct_d20 rfl ?_
      refine jj_iload_n (pc := 21) kRF_rowProduct_d21 rfl ?_
      refine jj_callV (pc := 22) (b := f) (As := [.int (nI (a))]) kRF_rowProduct_d22 (kvRF_RF_columns hG) (kG_cl hG rfl) rfl hC9.1 rfl rfl rfl (Nat.le_of_ble_eq_true rfl) (Nat.le_of_ble_eq_true rfl) (jj_bare0 rfl) ?_
      refine rf_columns hG hC9 (by omega) (by omega) ?_
      show jj G kRF_rowProduct (d + 9) Q rc9 rs9 25 [some (.ref f), some (.int (nI (a))), some (.int (nI (i))), some (.int (nI (b))), some (.int (nI (j))), some (.int (nI (T))), some (.int (nI (pu))), some (.int (nI (pl))), some (.int (nI (c))), (o9), (o10), (o11), (o12), (o13), (o14)] [.int (V.getD (a + 1) 0), .int (nI (c))] M9
      refine jn_top (.int (nI (c))) (by rw [ha3]) ?_
      refine jn_icmp_ge (pc := 25) (tgt := 348) kRF_rowProduct_d25 (by decide) (by omega) (by omega) (fun _ => ?_) (fun c => by exfalso; omega)
      obtain ⟨zz, hz1, hz2⟩ := hLs c (Nat.le_refl _)
      have hbu := frac_size hz0 hL hzL hzS hz1 hz2
      have hbl : ZB m zl := hLm.dvd hzL (by omega)
      have hfe := frac_end hz0 hzS
      rw [← hfe] at hcn hcd KK
      refine jj_aload_n (pc := 348) kRF_rowProduct_d348 rfl ?_
      refine jj_iload (pc := 349) kRF_rowProduct_d349 rfl ?_
      refine jj_iload (pc := 351) kRF_rowProduct_d351 rfl ?_
      refine jj_iload (pc := 353) kRF_rowProduct_d353 rfl ?_
      refine jj_callV (pc := 355) (b := f) (As := [.int (nI (T)), .int (nI (pu)), .int (nI (pl))]) kRF_rowProduct_d355 (kvRF_RF_reduce hG) (kG_cl hG rfl) rfl hC9.1 rfl rfl rfl (Nat.le_of_ble_eq_true rfl) (Nat.le_of_ble_eq_true rfl) (jj_bare0 rfl) ?_
      refine rf_reduce (a := m) (c := e) hG hC9 hS9 hU9 hL9 (by omega) hbu hbl hm hT3 t9 (h1.congr (Nat.le_refl _) ho9) hcn hcd (by omega) (fun M5 D5 T5 p5 l5 v5 rc5 rs5 hC5 hS5 t5 u5 ho5 hF5 hq5 g1 g2 => ?_)
      show jj G kRF_rowProduct (d + 9) Q rc5 rs5 358 [some (.ref f), some (.int (nI (a))), some (.int (nI (i))), some (.int (nI (b))), some (.int (nI (j))), some (.int (nI (T))), some (.int (nI (pu))), some (.int (nI (pl))), some (.int (nI (c))), (o9), (o10), (o11), (o12), (o13), (o14)] [] M5
      exact jj_vret (pc := 358) kRF_rowProduct_d358 rfl (KK _ _ _ _ _ _ _ _ hC5 hS5 t5 u5 (fun i hi => by rw [ho5 i hi, ho9 i hi]) (hF9.trans hF5) hq5 g1 g2)
    | succ n ih =>
      intro k hk o9 o10 o11 o12 o13 o14 zu zl pu pl M9 D9 T9 v9 rc9 rs9 hC9 hS9 t9 u9 ho9 hF9 hU9 hL9 hz0 hzL hzS
      have hSk : qsum F (k + 1) = qsum F k + F k := rfl
      have hFk : F k = qa (ic + k) * qb (jc + k) := by rw [← hF0, ← hic, ← hjc]
      obtain ⟨xi, hxi⟩ : ∃ xi, ic + k = xi := ⟨_, rfl⟩
      obtain ⟨yi, hyi⟩ : ∃ yi, jc + k = yi := ⟨_, rfl⟩
      have hxl : xi < ra * c := by omega
      have hyl : yi < rb * c := by omega
      rw [hxi, hyi] at hFk
      obtain ⟨p1, l1, g1, g2, g3, -⟩ := (ha4 xi hxl).congr (lo' := loa) t9 ho9 (fun _ _ _ => rfl) (Nat.le_refl _)
      obtain ⟨p2, l2, g4, g5, g6, -⟩ := (hb4 yi hyl).congr (lo' := lob) t9 ho9 (fun _ _ _ => rfl) (Nat.le_refl _)
      have bb1 := g3.1.lt
      have bb2 := g3.2.1.lt
      have bb3 := g6.1.lt
      have bb4 := g6.2.1.lt
      obtain ⟨hn1, hn2⟩ := hqa xi hxl
      obtain ⟨hn3, hn4⟩ := hqb yi hyl
      have h19 := h1.congr t9 ho9
      have hcap9 := hS9.2.1.cap
      have hz90 := hS9.2.2.2.1
      have hTD9 := hS9.2.2.1
      have hqL : ((qa xi).den : Int) * ((qb yi).den : Int) ∣ L := by have := hLd k (by omega); rw [hxi, hyi] at this; exact this
      have hne := rat_num_eq (qa xi) (qb yi)
      rw [← hFk] at hne
      have hq0 : 0 < ((qa xi).den : Int) * ((qb yi).den : Int) := Int.mul_pos (by have := (qa xi).den_pos; omega) (by have := (qb yi).den_pos; omega)
      obtain ⟨zz, hz1, hz2⟩ := hLs k (by omega)
      obtain ⟨zz', hz3, hz4⟩ := hLs (k + 1) (by omega)
      have hbu := frac_size hz0 hL hzL hzS hz1 hz2
      have hbl : ZB m zl := hLm.dvd hzL (by omega)
      have hbq : ZB m (((qa xi).den : Int) * ((qb yi).den : Int)) := (hn2.mul hn4).mono (by omega)
      have hbp : ZB m ((qa xi).num * (qb yi).num) := (hn1.mul hn3).mono (by omega)
      refine jj_iload (pc := 18) kRF_rowProduct_d18 rfl ?_
      refine jj_aload_n (pc := 20) kRF_rowProduct_d20 rfl ?_
      refine jj_iload_n (pc := 21) kRF_rowProduct_d21 rfl ?_
      refine jj_callV (pc := 22) (b := f) (As := [.int (nI (a))]) kRF_rowProduct_d22 (kvRF_RF_columns hG) (kG_cl hG rfl) rfl hC9.1 rfl rfl rfl (Nat.le_of_ble_eq_true rfl) (Nat.le_of_ble_eq_true rfl) (jj_bare0 rfl) ?_
      refine rf_columns hG hC9 (by omega) (by omega) ?_
      show jj G kRF_rowProduct (d + 9) Q rc9 rs9 25 [some (.ref f), some (.int (nI (a))), some (.int (nI (i))), some (.int (nI (b))), some (.int (nI (j))), some (.int (nI (T))), some (.int (nI (pu))), some (.int (nI (pl))), some (.int (nI (k))), (o9), (o10), (o11), (o12), (o13), (o14)] [.int (V.getD (a + 1) 0), .int (nI (k))] M9
      refine jn_top (.int (nI (c))) (by rw [ha3]) ?_
      refine jn_icmp_ge (pc := 25) (tgt := 348) kRF_rowProduct_d25 (by decide) (by omega) (by omega) (fun c => by exfalso; omega) (fun _ => ?_)
      refine jj_iload_n (pc := 28) kRF_rowProduct_d28 rfl ?_
      refine jj_aload_n (pc := 29) kRF_rowProduct_d29 rfl ?_
      refine jj_iload_n (pc := 30) kRF_rowProduct_d30 rfl ?_
      refine jj_callV (pc := 31) (b := f) (As := [.int (nI (a))]) kRF_rowProduct_d31 (kvRF_RF_columns hG) (kG_cl hG rfl) rfl hC9.1 rfl rfl rfl (Nat.le_of_ble_eq_true rfl) (Nat.le_of_ble_eq_true rfl) (jj_bare0 rfl) ?_
      refine rf_columns hG hC9 (by omega) (by omega) ?_
      show jj G kRF_rowProduct (d + 9) Q rc9 rs9 34 [some (.ref f), some (.int (nI (a))), some (.int (nI (i))), some (.int (nI (b))), some (.int (nI (j))), some (.int (nI (T))), some (.int (nI (pu))), some (.int (nI (pl))), some (.int (nI (k))), (o9), (o10), (o11), (o12), (o13), (o14)] [.int (V.getD (a + 1) 0), .int (nI (i))] M9
      refine jn_top (.int (nI (c))) (by rw [ha3]) ?_
      refine jn_imul (pc := 34) (ic) kRF_rowProduct_d34 hic ?_
      refine jj_iload (pc := 35) kRF_rowProduct_d35 rfl ?_
      refine jn_iadd (pc := 37) (xi) kRF_rowProduct_d37 (by omega) ?_
      refine jj_istore (pc := 38) kRF_rowProduct_d38 (Nat.le_of_ble_eq_true rfl) ?_
      refine jj_iload (pc := 40) kRF_rowProduct_d40 rfl ?_
      refine jj_aload_n (pc := 42) kRF_rowProduct_d42 rfl ?_
      refine jj_iload_n (pc := 43) kRF_rowProduct_d43 rfl ?_
      refine jj_callV (pc := 44) (b := f) (As := [.int (nI (b))]) kRF_rowProduct_d44 (kvRF_RF_columns hG) (kG_cl hG rfl) rfl hC9.1 rfl rfl rfl (Nat.le_of_ble_eq_true rfl) (Nat.le_of_ble_eq_true rfl) (jj_bare0 rfl) ?_
      refine rf_columns hG hC9 (by omega) (by omega) ?_
      show jj G kRF_rowProduct (d + 9) Q rc9 rs9 47 [some (.ref f), some (.int (nI (a))), some (.int (nI (i))), some (.int (nI (b))), some (.int (nI (j))), some (.int (nI (T))), some (.int (nI (pu))), some (.int (nI (pl))), some (.int (nI (k))), some (.int (nI (xi))), (o10), (o11), (o12), (o13), (o14)] [.int (V.getD (b + 1) 0), .int (nI (j))] M9
      refine jn_top (.int (nI (c))) (by rw [hb3]) ?_
      refine jn_imul (pc := 47) (jc) kRF_rowProduct_d47 hjc ?_
      refine jj_iload (pc := 48) kRF_rowProduct_d48 rfl ?_
      refine jn_iadd (pc := 50) (yi) kRF_rowProduct_d50 (by omega) ?_
      refine jj_istore (pc := 51) kRF_rowProduct_d51 (Nat.le_of_ble_eq_true rfl) ?_
      refine jj_aload_n (pc := 53) kRF_rowProduct_d53 rfl ?_
      refine jj_iload_n (pc := 54) kRF_rowProduct_d54 rfl ?_
      refine jj_iload (pc := 55) kRF_rowProduct_d55 rfl ?_
      refine jj_callV (pc := 57) (b := f) (As := [.int (nI (a)), .int (nI (xi))]) kRF_rowProduct_d57 (kvRF_RF_upper hG) (kG_cl hG rfl) rfl hC9.1 rfl rfl rfl (Nat.le_of_ble_eq_true rfl) (Nat.le_of_ble_eq_true rfl) (jj_bare0 rfl) ?_
      refine rf_upper hG hC9 (by omega) (by omega) ?_
      show jj G kRF_rowProduct (d + 9) Q rc9 rs9 60 [some (.ref f), some (.int (nI (a))), some (.int (nI (i))), some (.int (nI (b))), some (.int (nI (j))), some (.int (nI (T))), some (.int (nI (pu))), some (.int (nI (pl))), some (.int (nI (k))), some (.int (nI (xi))), some (.int (nI (yi))), (o11), (o12), (o13), (o14)] [.int (V.getD (a + 2 + 2 * xi) 0)] M9
      refine jn_top (.int (nI (p1))) (by rw [g1]) ?_
      refine jn_if_eq (pc := 60) (tgt := 342) kRF_rowProduct_d60 (by decide) (by omega) (fun c1 => ?_) (fun c1 => ?_)
      · skip
        subst c1
        have e0 := g3.1.z0 hz90 (by omega)
        have e1 : qa xi = 0 := Rat.num_eq_zero.mp e0
        have e2 : F k = 0 := by rw [hFk, e1]; grind
        have hS' : (zu : Rat) = qsum F (k + 1) * zl := by rw [hSk, e2, hzS]; grind
        refine jn_iinc (pc := 342) (k + 1) kRF_rowProduct_d342 rfl (nI_1 _) ?_
        refine jj_goto (pc := 345) (tgt := 18) kRF_rowProduct_d345 (by decide) ?_
        show jj G kRF_rowProduct (d + 9) Q rc9 rs9 18 [some (.ref f), some (.int (nI (a))), some (.int (nI (i))), some (.int (nI (b))), some (.int (nI (j))), some (.int (nI (T))), some (.int (nI (pu))), some (.int (nI (pl))), some (.int (nI (k + 1))), some (.int (nI (xi))), some (.int (nI (yi))), (o11), (o12), (o13), (o14)] [] M9
        exact ih (k + 1) (by omega) _ _ _ _ _ _ zu zl pu pl M9 D9 (T9) _ rc9 rs9 hC9 hS9 (by omega) (by omega) (fun i hi => by rw [ho9 i (by omega)]) hF9 hU9 hL9 hz0 hzL hS'
      · skip
        refine jj_aload_n (pc := 63) kRF_rowProduct_d63 rfl ?_
        refine jj_iload_n (pc := 64) kRF_rowProduct_d64 rfl ?_
        refine jj_iload (pc := 65) kRF_rowProduct_d65 rfl ?_
        refine jj_callV (pc := 67) (b := f) (As := [.int (nI (b)), .int (nI (yi))]) kRF_rowProduct_d67 (kvRF_RF_upper hG) (kG_cl hG rfl) rfl hC9.1 rfl rfl rfl (Nat.le_of_ble_eq_true rfl) (Nat.le_of_ble_eq_true rfl) (jj_bare0 rfl) ?_
        refine rf_upper hG hC9 (by omega) (by omega) ?_
        show jj G kRF_rowProduct (d + 9) Q rc9 rs9 70 [some (.ref f), some (.int (nI (a))), some (.int (nI (i))), some (.int (nI (b))), some (.int (nI (j))), some (.int (nI (T))), some (.int (nI (pu))), some (.int (nI (pl))), some (.int (nI (k))), some (.int (nI (xi))), some (.int (nI (yi))), (o11), (o12), (o13), (o14)] [.int (V.getD (b + 2 + 2 * yi) 0)] M9
        refine jn_top (.int (nI (p2))) (by rw [g4]) ?_
        refine jn_if_ne (pc := 70) (tgt := 76) kRF_rowProduct_d70 (by decide) (by omega) (fun c2 => ?_) (fun c2 => ?_)
        · skip
          have k273 : ∀ (pu pl pp pq : Nat) (zu zl : Int) (o13 o14 : Option Value) (hz0 : 0 < zl) (hzL : zl ∣ L) (hzS : (zu : Rat) = qsum F (k + 1) * zl) (M7 : mheap) (D7 : List Int32) (T7 : Nat) (v7 : Value) (rc7 rs7 : Nat), FC M7 f w vv pv V (t) (up) (low) P (rk) → RS M7 w D7 T7 v7 cm X Z rc7 rs7 → T ≤ T7 → T7 ≤ T + 20000 + 20 * m + 100 → (∀ i, i < T → D7.getD i 0 = D.getD i 0) → FF M M7 f → RI D7 T7 pu (zu) → RI D7 T7 pl (zl) → jj G kRF_rowProduct (d + 9) Q rc7 rs7 273 [some (.ref f), some (.int (nI (a))), some (.int (nI (i))), some (.int (nI (b))), some (.int (nI (j))), some (.int (nI (T))), some (.int (nI (pu))), some (.int (nI (pl))), some (.int (nI (k))), some (.int (nI (xi))), some (.int (nI (yi))), some (.int (nI (pp))), some (.int (nI (pq))), (o13), (o14)] [] M7 := by
            clear hU9 hL9 hz0 hzL hzS g1 g2 g4 g5 g3 g6 hbu hbl hne hq0 hn1 hn2 hn3 hn4 hqL hbp hbq hC9 hS9 ho9 hF9 h19 hz1 hz2
            intro pu pl pp pq zu zl o13 o14 hz0 hzL hzS M7 D7 T7 v7 rc7 rs7 hC7 hS7 t7 u7 ho7 hF7 hN7x0 hN7x1
            have hbu := frac_size hz0 hL hzL hzS hz3 hz4
            have hbl : ZB m zl := hLm.dvd hzL (by omega)
            obtain ⟨hW101, hB101, hTD101, hz101, hp101⟩ := id hS7
            obtain ⟨dd101, hw101, hd101⟩ := id hW101
            have hcap101 := hB101.cap
            refine jj_aload_n (pc := 273) kRF_rowProduct_d273 rfl ?_
            refine jj_getf (pc := 274) kRF_rowProduct_d274 (kfRF_w hG) hC7.1 rfl ?_
            refine jj_getf (pc := 277) kRF_rowProduct_d277 (kfRF_RW_top hG) hw101 rfl ?_
            refine jj_iload (pc := 280) kRF_rowProduct_d280 rfl ?_
            obtain ⟨dT, hdT⟩ : ∃ dT, T7 = dT + T := ⟨T7 - T, by omega⟩
            refine jn_isub (pc := 282) (dT) kRF_rowProduct_d282 (by omega) ?_
            refine jn_sipush (pc := 283) 20000 kRF_rowProduct_d283 (by decide) ?_
            refine jn_icmp_le (pc := 286) (tgt := 342) kRF_rowProduct_d286 (by decide) (by omega) (by omega) (fun c5 => ?_) (fun c5 => ?_)
            · skip
              refine jn_iinc (pc := 342) (k + 1) kRF_rowProduct_d342 rfl (nI_1 _) ?_
              refine jj_goto (pc := 345) (tgt := 18) kRF_rowProduct_d345 (by decide) ?_
              show jj G kRF_rowProduct (d + 9) Q rc7 rs7 18 [some (.ref f), some (.int (nI (a))), some (.int (nI (i))), some (.int (nI (b))), some (.int (nI (j))), some (.int (nI (T))), some (.int (nI (pu))), some (.int (nI (pl))), some (.int (nI (k + 1))), some (.int (nI (xi))), some (.int (nI (yi))), some (.int (nI (pp))), some (.int (nI (pq))), (o13), (o14)] [] M7
              exact ih (k + 1) (by omega) _ _ _ _ _ _ zu zl pu pl M7 D7 (T7) _ rc7 rs7 hC7 hS7 (by omega) (by omega) (fun i hi => by rw [ho7 i (by omega)]) hF7 hN7x0 hN7x1 hz0 hzL hzS
            · skip
              refine jj_aload_n (pc := 289) kRF_rowProduct_d289 rfl ?_
              refine jj_getf (pc := 290) kRF_rowProduct_d290 (kfRF_w hG) hC7.1 rfl ?_
              refine jj_iload (pc := 293) kRF_rowProduct_d293 rfl ?_
              refine jj_callV (pc := 295) (b := w) (As := [.int (nI (pu))]) kRF_rowProduct_d295 (kvRF_RW_copy hG) (kG_cl hG rfl) rfl hw101 rfl rfl rfl (Nat.le_of_ble_eq_true rfl) (Nat.le_of_ble_eq_true rfl) (jj_bare0 rfl) ?_
              refine ri_copy (a := m) hG hS7 hN7x0 hbu (by omega) (fun M102 D102 T102 p102 rc102 rs102 hS102 t102 u102 ho102 hf102 hI102 => ?_)
              show jj G kRF_rowProduct (d + 9) Q rc102 rs102 298 [some (.ref f), some (.int (nI (a))), some (.int (nI (i))), some (.int (nI (b))), some (.int (nI (j))), some (.int (nI (T))), some (.int (nI (pu))), some (.int (nI (pl))), some (.int (nI (k))), some (.int (nI (xi))), some (.int (nI (yi))), some (.int (nI (pp))), some (.int (nI (pq))), (o13), (o14)] [.int (nI (p102))] M102
              have hC102 := hC7.rf hf102
              have hF102 := hF7.trans (FF.ofRF hC7 hf102)
              have hN7x0_102 := hN7x0.congr t102.1 ho102
              have hN7x1_102 := hN7x1.congr t102.1 ho102
              obtain ⟨hW103, hB103, hTD103, hz103, hp103⟩ := id hS102
              obtain ⟨dd103, hw103, hd103⟩ := id hW103
              have hcap103 := hB103.cap
              refine jj_istore (pc := 298) kRF_rowProduct_d298 (Nat.le_of_ble_eq_true rfl) ?_
              refine jj_aload_n (pc := 300) kRF_rowProduct_d300 rfl ?_
              refine jj_getf (pc := 301) kRF_rowProduct_d301 (kfRF_w hG) hC102.1 rfl ?_
              refine jj_iload (pc := 304) kRF_rowProduct_d304 rfl ?_
              refine jj_callV (pc := 306) (b := w) (As := [.int (nI (pl))]) kRF_rowProduct_d306 (kvRF_RW_copy hG) (kG_cl hG rfl) rfl hw103 rfl rfl rfl (Nat.le_of_ble_eq_true rfl) (Nat.le_of_ble_eq_true rfl) (jj_bare0 rfl) ?_
              refine ri_copy (a := m) hG hS102 hN7x1_102 hbl (by omega) (fun M104 D104 T104 p104 rc104 rs104 hS104 t104 u104 ho104 hf104 hI104 => ?_)
              show jj G kRF_rowProduct (d + 9) Q rc104 rs104 309 [some (.ref f), some (.int (nI (a))), some (.int (nI (i))), some (.int (nI (b))), some (.int (nI (j))), some (.int (nI (T))), some (.int (nI (pu))), some (.int (nI (pl))), some (.int (nI (k))), some (.int (nI (xi))), some (.int (nI (yi))), some (.int (nI (pp))), some (.int (nI (pq))), some (.int (nI (p102))), (o14)] [.int (nI (p104))] M104
              have hC104 := hC102.rf hf104
              have hF104 := hF102.trans (FF.ofRF hC102 hf104)
              have hN7x0_104 := hN7x0_102.congr t104.1 ho104
              have hN7x1_104 := hN7x1_102.congr t104.1 ho104
              have hI102_104 := hI102.congr t104.1 ho104
              obtain ⟨hW105, hB105, hTD105, hz105, hp105⟩ := id hS104
              obtain ⟨dd105, hw105, hd105⟩ := id hW105
              have hcap105 := hB105.cap
              refine jj_istore (pc := 309) kRF_rowProduct_d309 (Nat.le_of_ble_eq_true rfl) ?_
              refine jj_aload_n (pc := 311) kRF_rowProduct_d311 rfl ?_
              refine jj_getf (pc := 312) kRF_rowProduct_d312 (kfRF_w hG) hC104.1 rfl ?_
              refine jj_iload (pc := 315) kRF_rowProduct_d315 rfl ?_
              refine jj_iload (pc := 317) kRF_rowProduct_d317 rfl ?_
              have hcp := hI102_104
              have hcl := hI104
              have hzz := hz105
              have hsm : ∀ i, i < T → D104.getD i 0 = D.getD i 0 := (fun i hi => by rw [ho104 i (by omega), ho102 i (by omega), ho7 i (by omega)])
              have htd := hTD105
              refine jj_callV (pc := 319) (b := w) (As := [.int (nI (p102)), .int (nI (T))]) kRF_rowProduct_d319 (kvRF_RW_moved hG) (kG_cl hG rfl) rfl hw105 rfl rfl rfl (Nat.le_of_ble_eq_true rfl) (Nat.le_of_ble_eq_true rfl) (jj_bare0 rfl) ?_
              refine ri_moved (to := T) (Tm := T104) (a := m) hG hS104 hcp htd (by omega) (by omega) (by omega) hbu (fun M4 D4 T4 p4 hS4 hlen4 t4 u4 ho4 hf4 hI4 e4 e5 => ?_)
              show jj G kRF_rowProduct (d + 9) Q rc104 rs104 322 [some (.ref f), some (.int (nI (a))), some (.int (nI (i))), some (.int (nI (b))), some (.int (nI (j))), some (.int (nI (T))), some (.int (nI (pu))), some (.int (nI (pl))), some (.int (nI (k))), some (.int (nI (xi))), some (.int (nI (yi))), some (.int (nI (pp))), some (.int (nI (pq))), some (.int (nI (p102))), some (.int (nI (p104)))] [.int (nI (p4))] M4
              clear e4 e5
              have hJ4 : RI D4 T104 p104 zl := hcl.above (lo := T102) hzz (by omega) (Nat.le_refl _) (by omega) (fun i h1 h2 => ho4 i (by omega))
              have hC4 := hC104.rf hf4
              have hF4 := hF104.trans (FF.ofRF hC104 hf4)
              have hsm4 : ∀ i, i < T → D4.getD i 0 = D.getD i 0 := fun i hi => by rw [ho4 i (by omega), hsm i hi]
              have hbt : T102 ≤ D4.length ∧ T104 ≤ D4.length ∧ T + 20000 < T102 ∧ (p104 = 0 ∨ T102 ≤ p104) ∧ T4 ≤ T + m + 1 ∧ T ≤ T4 := by omega
              obtain ⟨hW106, hB106, hTD106, hz106, hp106⟩ := id hS4
              obtain ⟨dd106, hw106, hd106⟩ := id hW106
              have hcap106 := hB106.cap
              refine jj_istore (pc := 322) kRF_rowProduct_d322 (Nat.le_of_ble_eq_true rfl) ?_
              refine jj_aload_n (pc := 324) kRF_rowProduct_d324 rfl ?_
              refine jj_getf (pc := 325) kRF_rowProduct_d325 (kfRF_w hG) hC4.1 rfl ?_
              refine jj_iload (pc := 328) kRF_rowProduct_d328 rfl ?_
              refine jj_aload_n (pc := 330) kRF_rowProduct_d330 rfl ?_
              refine jj_getf (pc := 331) kRF_rowProduct_d331 (kfRF_w hG) hC4.1 rfl ?_
              refine jj_getf (pc := 334) kRF_rowProduct_d334 (kfRF_RW_top hG) hw106 rfl ?_
              refine jj_callV (pc := 337) (b := w) (As := [.int (nI (p104)), .int (nI (T4))]) kRF_rowProduct_d337 (kvRF_RW_moved hG) (kG_cl hG rfl) rfl hw106 rfl rfl rfl (Nat.le_of_ble_eq_true rfl) (Nat.le_of_ble_eq_true rfl) (jj_bare0 rfl) ?_
              refine ri_moved (to := T4) (Tm := T104) (a := m) hG hS4 hJ4 (by omega) (by omega) (by omega) (by omega) hbl (fun M5 D5 T5 p5 hS5 hlen5 t5 u5 ho5 hf5 hI5 e6 e7 => ?_)
              show jj G kRF_rowProduct (d + 9) Q rc104 rs104 340 [some (.ref f), some (.int (nI (a))), some (.int (nI (i))), some (.int (nI (b))), some (.int (nI (j))), some (.int (nI (T))), some (.int (nI (p4))), some (.int (nI (pl))), some (.int (nI (k))), some (.int (nI (xi))), some (.int (nI (yi))), some (.int (nI (pp))), some (.int (nI (pq))), some (.int (nI (p102))), some (.int (nI (p104)))] [.int (nI (p5))] M5
              clear e6 e7
              have hC5 := hC4.rf hf5
              have hF5 := hF4.trans (FF.ofRF hC4 hf5)
              have hsm5 : ∀ i, i < T → D5.getD i 0 = D.getD i 0 := fun i hi => by rw [ho5 i (by omega), hsm4 i hi]
              have hU5 := hI4.congr t5.1 (fun i hi => ho5 i (by omega))
              refine jj_istore (pc := 340) kRF_rowProduct_d340 (Nat.le_of_ble_eq_true rfl) ?_
              refine jn_iinc (pc := 342) (k + 1) kRF_rowProduct_d342 rfl (nI_1 _) ?_
              refine jj_goto (pc := 345) (tgt := 18) kRF_rowProduct_d345 (by decide) ?_
              show jj G kRF_rowProduct (d + 9) Q rc104 rs104 18 [some (.ref f), some (.int (nI (a))), some (.int (nI (i))), some (.int (nI (b))), some (.int (nI (j))), some (.int (nI (T))), some (.int (nI (p4))), some (.int (nI (p5))), some (.int (nI (k + 1))), some (.int (nI (xi))), some (.int (nI (yi))), some (.int (nI (pp))), some (.int (nI (pq))), some (.int (nI (p102))), some (.int (nI (p104)))] [] M5
              exact ih (k + 1) (by omega) _ _ _ _ _ _ zu zl p4 p5 M5 D5 (T5) _ rc104 rs104 hC5 hS5 (by omega) (by omega) hsm5 hF5 hU5 hI5 hz0 hzL hzS
          clear ih
          have k162 : ∀ (pp pq : Nat) (M8 : mheap) (D8 : List Int32) (T8 : Nat) (v8 : Value) (rc8 rs8 : Nat), FC M8 f w vv pv V (t) (up) (low) P (rk) → RS M8 w D8 T8 v8 cm X Z rc8 rs8 → T ≤ T8 → T8 ≤ T + 20000 + 4 * m + 10 → (∀ i, i < T → D8.getD i 0 = D.getD i 0) → FF M M8 f → RI D8 T8 pp ((qa xi).num * (qb yi).num) → RI D8 T8 pq (((qa xi).den : Int) * ((qb yi).den : Int)) → RI D8 T8 pu (zu) → RI D8 T8 pl (zl) → jj G kRF_rowProduct (d + 9) Q rc8 rs8 162 [some (.ref f), some (.int (nI (a))), some (.int (nI (i))), some (.int (nI (b))), some (.int (nI (j))), some (.int (nI (T))), some (.int (nI (pu))), some (.int (nI (pl))), some (.int (nI (k))), some (.int (nI (xi))), some (.int (nI (yi))), some (.int (nI (pp))), (o12), (o13), (o14)] [.int (nI (pq))] M8 := by
            intro pp pq M8 D8 T8 v8 rc8 rs8 hC8 hS8 t8 u8 ho8 hF8 hN8x0 hN8x1 hN8x2 hN8x3
            obtain ⟨zp, hzp⟩ : ∃ zp, (qa xi).num * (qb yi).num = zp := ⟨_, rfl⟩
            obtain ⟨zq, hzq⟩ : ∃ zq, ((qa xi).den : Int) * ((qb yi).den : Int) = zq := ⟨_, rfl⟩
            rw [hzp] at hne hbp hN8x0
            rw [hzq] at hne hbq hqL hq0 hN8x1
            clear g1 g2 g3 g4 g5 g6 hn1 hn2 hn3 hn4
            obtain ⟨hW107, hB107, hTD107, hz107, hp107⟩ := id hS8
            obtain ⟨dd107, hw107, hd107⟩ := id hW107
            have hcap107 := hB107.cap
            refine jj_istore (pc := 162) kRF_rowProduct_d162 (Nat.le_of_ble_eq_true rfl) ?_
            refine jj_aload_n (pc := 164) kRF_rowProduct_d164 rfl ?_
            refine jj_getf (pc := 165) kRF_rowProduct_d165 (kfRF_w hG) hC8.1 rfl ?_
            refine jj_iload (pc := 168) kRF_rowProduct_d168 rfl ?_
            refine jj_iload (pc := 170) kRF_rowProduct_d170 rfl ?_
            refine jj_callV (pc := 172) (b := w) (As := [.int (nI (pl)), .int (nI (pq))]) kRF_rowProduct_d172 (kvRF_RW_order hG) (kG_cl hG rfl) rfl hw107 rfl rfl rfl (Nat.le_of_ble_eq_true rfl) (Nat.le_of_ble_eq_true rfl) (jj_bare0 rfl) ?_
            refine ri_order hG hS8 hN8x3 hN8x1 ?_
            show jj G kRF_rowProduct (d + 9) Q rc8 rs8 175 [some (.ref f), some (.int (nI (a))), some (.int (nI (i))), some (.int (nI (b))), some (.int (nI (j))), some (.int (nI (T))), some (.int (nI (pu))), some (.int (nI (pl))), some (.int (nI (k))), some (.int (nI (xi))), some (.int (nI (yi))), some (.int (nI (pp))), some (.int (nI (pq))), (o13), (o14)] [.int (cmpZ (zl) (zq))] M8
            refine jj_if_ne (pc := 175) (tgt := 194) kRF_rowProduct_d175 (by decide) (fun c6 => ?_) (fun c6 => ?_)
            · skip
              obtain ⟨n1, n2, n3, n4⟩ := frac_next hz0 hq0 hzL hqL hzS hne
              rw [← hSk] at n4
              have hgl : (Int.gcd zl zq : Int) ∣ zl := Int.gcd_dvd_left zl zq
              have bg : ZB m (Int.gcd zl zq : Int) := hbl.dvd hgl (by omega)
              obtain ⟨zg, hzg⟩ : ∃ zg, (Int.gcd zl zq : Int) = zg := ⟨_, rfl⟩
              rw [hzg] at n1 n2 n3 n4 hgl bg
              have bq' : ZB m (zq / zg) := hbq.div (by omega) (by omega)
              have bl' : ZB m (zl / zg) := hbl.div (by omega) (by omega)
              have bU : ZB (m + m) (zu * (zq / zg)) := hbu.mul bq'
              have bP : ZB (m + m) (zp * (zl / zg)) := hbp.mul bl'
              refine jj_aload_n (pc := 194) kRF_rowProduct_d194 rfl ?_
              refine jj_getf (pc := 195) kRF_rowProduct_d195 (kfRF_w hG) hC8.1 rfl ?_
              refine jj_iload (pc := 198) kRF_rowProduct_d198 rfl ?_
              refine jj_iload (pc := 200) kRF_rowProduct_d200 rfl ?_
              refine jj_callV (pc := 202) (b := w) (As := [.int (nI (pl)), .int (nI (pq))]) kRF_rowProduct_d202 (kvRF_RW_common hG) (kG_cl hG rfl) rfl hw107 rfl rfl rfl (Nat.le_of_ble_eq_true rfl) (Nat.le_of_ble_eq_true rfl) (jj_bare0 rfl) ?_
              refine ri_common (a := m) hG hS8 hN8x3 hN8x1 hbl hbq hm (by omega) (fun M108 D108 T108 p108 v108 rc108 rs108 hS108 t108 u108 ho108 hf108 hI108 => ?_)
              show jj G kRF_rowProduct (d + 9) Q rc108 rs108 205 [some (.ref f), some (.int (nI (a))), some (.int (nI (i))), some (.int (nI (b))), some (.int (nI (j))), some (.int (nI (T))), some (.int (nI (pu))), some (.int (nI (pl))), some (.int (nI (k))), some (.int (nI (xi))), some (.int (nI (yi))), some (.int (nI (pp))), some (.int (nI (pq))), (o13), (o14)] [.int (nI (p108))] M108
              have hC108 := hC8.rf hf108
              have hF108 := hF8.trans (FF.ofRF hC8 hf108)
              have hN8x0_108 := hN8x0.congr t108.1 ho108
              have hN8x1_108 := hN8x1.congr t108.1 ho108
              have hN8x2_108 := hN8x2.congr t108.1 ho108
              have hN8x3_108 := hN8x3.congr t108.1 ho108
              obtain ⟨hW109, hB109, hTD109, hz109, hp109⟩ := id hS108
              obtain ⟨dd109, hw109, hd109⟩ := id hW109
              have hcap109 := hB109.cap
              rw [hzg] at hI108
              refine jj_istore (pc := 205) kRF_rowProduct_d205 (Nat.le_of_ble_eq_true rfl) ?_
              refine jj_aload_n (pc := 207) kRF_rowProduct_d207 rfl ?_
              refine jj_getf (pc := 208) kRF_rowProduct_d208 (kfRF_w hG) hC108.1 rfl ?_
              refine jj_iload (pc := 211) kRF_rowProduct_d211 rfl ?_
              refine jj_iload (pc := 213) kRF_rowProduct_d213 rfl ?_
              refine jj_callV (pc := 215) (b := w) (As := [.int (nI (pq)), .int (nI (p108))]) kRF_rowProduct_d215 (kvRF_RW_divide hG) (kG_cl hG rfl) rfl hw109 rfl rfl rfl (Nat.le_of_ble_eq_true rfl) (Nat.le_of_ble_eq_true rfl) (jj_bare0 rfl) ?_
              refine ri_divide (a := m) (b := m) hG hS108 hN8x1_108 hI108 n1 hbq bg (by omega) (fun M110 D110 T110 p110 s110 rc110 rs110 hS110 t110 u110 ho110 hf110 hI110 hJ110 => ?_)
              show jj G kRF_rowProduct (d + 9) Q rc110 rs110 218 [some (.ref f), some (.int (nI (a))), some (.int (nI (i))), some (.int (nI (b))), some (.int (nI (j))), some (.int (nI (T))), some (.int (nI (pu))), some (.int (nI (pl))), some (.int (nI (k))), some (.int (nI (xi))), some (.int (nI (yi))), some (.int (nI (pp))), some (.int (nI (pq))), some (.int (nI (p108))), (o14)] [.int (nI (p110))] M110
              have hC110 := hC108.rf hf110
              have hF110 := hF108.trans (FF.ofRF hC108 hf110)
              have hN8x0_110 := hN8x0_108.congr t110.1 ho110
              have hN8x1_110 := hN8x1_108.congr t110.1 ho110
              have hN8x2_110 := hN8x2_108.congr t110.1 ho110
              have hN8x3_110 := hN8x3_108.congr t110.1 ho110
              have hI108_110 := hI108.congr t110.1 ho110
              obtain ⟨hW111, hB111, hTD111, hz111, hp111⟩ := id hS110
              obtain ⟨dd111, hw111, hd111⟩ := id hW111
              have hcap111 := hB111.cap
              refine jj_istore (pc := 218) kRF_rowProduct_d218 (Nat.le_of_ble_eq_true rfl) ?_
              refine jj_aload_n (pc := 220) kRF_rowProduct_d220 rfl ?_
              refine jj_getf (pc := 221) kRF_rowProduct_d221 (kfRF_w hG) hC110.1 rfl ?_
              refine jj_aload_n (pc := 224) kRF_rowProduct_d224 rfl ?_
              refine jj_getf (pc := 225) kRF_rowProduct_d225 (kfRF_w hG) hC110.1 rfl ?_
              refine jj_iload (pc := 228) kRF_rowProduct_d228 rfl ?_
              refine jj_iload (pc := 230) kRF_rowProduct_d230 rfl ?_
              refine jj_callV (pc := 232) (b := w) (As := [.int (nI (pu)), .int (nI (p110))]) kRF_rowProduct_d232 (kvRF_RW_multiply hG) (kG_cl hG rfl) rfl hw111 rfl rfl rfl (Nat.le_of_ble_eq_true rfl) (Nat.le_of_ble_eq_true rfl) (jj_bare0 rfl) ?_
              refine rs_multiply (a := m) (b := m) hG hS110 hN8x2_110 hI110 hbu bq' (by omega) (fun M112 D112 T112 p112 rc112 rs112 hS112 t112 u112 ho112 hf112 hI112 => ?_)
              show jj G kRF_rowProduct (d + 9) Q rc112 rs112 235 [some (.ref f), some (.int (nI (a))), some (.int (nI (i))), some (.int (nI (b))), some (.int (nI (j))), some (.int (nI (T))), some (.int (nI (pu))), some (.int (nI (pl))), some (.int (nI (k))), some (.int (nI (xi))), some (.int (nI (yi))), some (.int (nI (pp))), some (.int (nI (pq))), some (.int (nI (p108))), some (.int (nI (p110)))] [.int (nI (p112)), .ref w] M112
              have hC112 := hC110.rf hf112
              have hF112 := hF110.trans (FF.ofRF hC110 hf112)
              have hN8x0_112 := hN8x0_110.congr t112.1 ho112
              have hN8x1_112 := hN8x1_110.congr t112.1 ho112
              have hN8x2_112 := hN8x2_110.congr t112.1 ho112
              have hN8x3_112 := hN8x3_110.congr t112.1 ho112
              have hI108_112 := hI108_110.congr t112.1 ho112
              have hI110_112 := hI110.congr t112.1 ho112
              have hJ110_112 := hJ110.congr t112.1 ho112
              obtain ⟨hW113, hB113, hTD113, hz113, hp113⟩ := id hS112
              obtain ⟨dd113, hw113, hd113⟩ := id hW113
              have hcap113 := hB113.cap
              refine jj_aload_n (pc := 235) kRF_rowProduct_d235 rfl ?_
              refine jj_getf (pc := 236) kRF_rowProduct_d236 (kfRF_w hG) hC112.1 rfl ?_
              refine jj_iload (pc := 239) kRF_rowProduct_d239 rfl ?_
              refine jj_aload_n (pc := 241) kRF_rowProduct_d241 rfl ?_
              refine jj_getf (pc := 242) kRF_rowProduct_d242 (kfRF_w hG) hC112.1 rfl ?_
              refine jj_iload (pc := 245) kRF_rowProduct_d245 rfl ?_
              refine jj_iload (pc := 247) kRF_rowProduct_d247 rfl ?_
              refine jj_callV (pc := 249) (b := w) (As := [.int (nI (pl)), .int (nI (p108))]) kRF_rowProduct_d249 (kvRF_RW_divide hG) (kG_cl hG rfl) rfl hw113 rfl rfl rfl (Nat.le_of_ble_eq_true rfl) (Nat.le_of_ble_eq_true rfl) (jj_bare0 rfl) ?_
              refine ri_divide (a := m) (b := m) hG hS112 hN8x3_112 hI108_112 n1 hbl bg (by omega) (fun M114 D114 T114 p114 s114 rc114 rs114 hS114 t114 u114 ho114 hf114 hI114 hJ114 => ?_)
              show jj G kRF_rowProduct (d + 9) Q rc114 rs114 252 [some (.ref f), some (.int (nI (a))), some (.int (nI (i))), some (.int (nI (b))), some (.int (nI (j))), some (.int (nI (T))), some (.int (nI (pu))), some (.int (nI (pl))), some (.int (nI (k))), some (.int (nI (xi))), some (.int (nI (yi))), some (.int (nI (pp))), some (.int (nI (pq))), some (.int (nI (p108))), some (.int (nI (p110)))] [.int (nI (p114)), .int (nI (pp)), .ref w, .int (nI (p112)), .ref w] M114
              have hC114 := hC112.rf hf114
              have hF114 := hF112.trans (FF.ofRF hC112 hf114)
              have hN8x0_114 := hN8x0_112.congr t114.1 ho114
              have hN8x1_114 := hN8x1_112.congr t114.1 ho114
              have hN8x2_114 := hN8x2_112.congr t114.1 ho114
              have hN8x3_114 := hN8x3_112.congr t114.1 ho114
              have hI108_114 := hI108_112.congr t114.1 ho114
              have hI110_114 := hI110_112.congr t114.1 ho114
              have hJ110_114 := hJ110_112.congr t114.1 ho114
              have hI112_114 := hI112.congr t114.1 ho114
              obtain ⟨hW115, hB115, hTD115, hz115, hp115⟩ := id hS114
              obtain ⟨dd115, hw115, hd115⟩ := id hW115
              have hcap115 := hB115.cap
              refine jj_callV (pc := 252) (b := w) (As := [.int (nI (pp)), .int (nI (p114))]) kRF_rowProduct_d252 (kvRF_RW_multiply hG) (kG_cl hG rfl) rfl hw115 rfl rfl rfl (Nat.le_of_ble_eq_true rfl) (Nat.le_of_ble_eq_true rfl) (jj_bare0 rfl) ?_
              refine rs_multiply (a := m) (b := m) hG hS114 hN8x0_114 hI114 hbp bl' (by omega) (fun M116 D116 T116 p116 rc116 rs116 hS116 t116 u116 ho116 hf116 hI116 => ?_)
              show jj G kRF_rowProduct (d + 9) Q rc116 rs116 255 [some (.ref f), some (.int (nI (a))), some (.int (nI (i))), some (.int (nI (b))), some (.int (nI (j))), some (.int (nI (T))), some (.int (nI (pu))), some (.int (nI (pl))), some (.int (nI (k))), some (.int (nI (xi))), some (.int (nI (yi))), some (.int (nI (pp))), some (.int (nI (pq))), some (.int (nI (p108))), some (.int (nI (p110)))] [.int (nI (p116)), .int (nI (p112)), .ref w] M116
              have hC116 := hC114.rf hf116
              have hF116 := hF114.trans (FF.ofRF hC114 hf116)
              have hN8x0_116 := hN8x0_114.congr t116.1 ho116
              have hN8x1_116 := hN8x1_114.congr t116.1 ho116
              have hN8x2_116 := hN8x2_114.congr t116.1 ho116
              have hN8x3_116 := hN8x3_114.congr t116.1 ho116
              have hI108_116 := hI108_114.congr t116.1 ho116
              have hI110_116 := hI110_114.congr t116.1 ho116
              have hJ110_116 := hJ110_114.congr t116.1 ho116
              have hI112_116 := hI112_114.congr t116.1 ho116
              have hI114_116 := hI114.congr t116.1 ho116
              have hJ114_116 := hJ114.congr t116.1 ho116
              obtain ⟨hW117, hB117, hTD117, hz117, hp117⟩ := id hS116
              obtain ⟨dd117, hw117, hd117⟩ := id hW117
              have hcap117 := hB117.cap
              refine jj_callV (pc := 255) (b := w) (As := [.int (nI (p112)), .int (nI (p116))]) kRF_rowProduct_d255 (kvRF_RW_add hG) (kG_cl hG rfl) rfl hw117 rfl rfl rfl (Nat.le_of_ble_eq_true rfl) (Nat.le_of_ble_eq_true rfl) (jj_bare0 rfl) ?_
              refine rs_add (a := m + m) hG hS116 hI112_116 hI116 bU bP (by omega) (fun M118 D118 T118 p118 rc118 rs118 hS118 t118 u118 ho118 hf118 hI118 => ?_)
              show jj G kRF_rowProduct (d + 9) Q rc118 rs118 258 [some (.ref f), some (.int (nI (a))), some (.int (nI (i))), some (.int (nI (b))), some (.int (nI (j))), some (.int (nI (T))), some (.int (nI (pu))), some (.int (nI (pl))), some (.int (nI (k))), some (.int (nI (xi))), some (.int (nI (yi))), some (.int (nI (pp))), some (.int (nI (pq))), some (.int (nI (p108))), some (.int (nI (p110)))] [.int (nI (p118))] M118
              have hC118 := hC116.rf hf118
              have hF118 := hF116.trans (FF.ofRF hC116 hf118)
              have hN8x0_118 := hN8x0_116.congr t118.1 ho118
              have hN8x1_118 := hN8x1_116.congr t118.1 ho118
              have hN8x2_118 := hN8x2_116.congr t118.1 ho118
              have hN8x3_118 := hN8x3_116.congr t118.1 ho118
              have hI108_118 := hI108_116.congr t118.1 ho118
              have hI110_118 := hI110_116.congr t118.1 ho118
              have hJ110_118 := hJ110_116.congr t118.1 ho118
              have hI112_118 := hI112_116.congr t118.1 ho118
              have hI114_118 := hI114_116.congr t118.1 ho118
              have hJ114_118 := hJ114_116.congr t118.1 ho118
              have hI116_118 := hI116.congr t118.1 ho118
              obtain ⟨hW119, hB119, hTD119, hz119, hp119⟩ := id hS118
              obtain ⟨dd119, hw119, hd119⟩ := id hW119
              have hcap119 := hB119.cap
              refine jj_istore (pc := 258) kRF_rowProduct_d258 (Nat.le_of_ble_eq_true rfl) ?_
              refine jj_aload_n (pc := 260) kRF_rowProduct_d260 rfl ?_
              refine jj_getf (pc := 261) kRF_rowProduct_d261 (kfRF_w hG) hC118.1 rfl ?_
              refine jj_iload (pc := 264) kRF_rowProduct_d264 rfl ?_
              refine jj_iload (pc := 266) kRF_rowProduct_d266 rfl ?_
              refine jj_callV (pc := 268) (b := w) (As := [.int (nI (pl)), .int (nI (p110))]) kRF_rowProduct_d268 (kvRF_RW_multiply hG) (kG_cl hG rfl) rfl hw119 rfl rfl rfl (Nat.le_of_ble_eq_true rfl) (Nat.le_of_ble_eq_true rfl) (jj_bare0 rfl) ?_
              refine rs_multiply (a := m) (b := m) hG hS118 hN8x3_118 hI110_118 hbl bq' (by omega) (fun M120 D120 T120 p120 rc120 rs120 hS120 t120 u120 ho120 hf120 hI120 => ?_)
              show jj G kRF_rowProduct (d + 9) Q rc120 rs120 271 [some (.ref f), some (.int (nI (a))), some (.int (nI (i))), some (.int (nI (b))), some (.int (nI (j))), some (.int (nI (T))), some (.int (nI (p118))), some (.int (nI (pl))), some (.int (nI (k))), some (.int (nI (xi))), some (.int (nI (yi))), some (.int (nI (pp))), some (.int (nI (pq))), some (.int (nI (p108))), some (.int (nI (p110)))] [.int (nI (p120))] M120
              have hC120 := hC118.rf hf120
              have hF120 := hF118.trans (FF.ofRF hC118 hf120)
              have hN8x0_120 := hN8x0_118.congr t120.1 ho120
              have hN8x1_120 := hN8x1_118.congr t120.1 ho120
              have hN8x2_120 := hN8x2_118.congr t120.1 ho120
              have hN8x3_120 := hN8x3_118.congr t120.1 ho120
              have hI108_120 := hI108_118.congr t120.1 ho120
              have hI110_120 := hI110_118.congr t120.1 ho120
              have hJ110_120 := hJ110_118.congr t120.1 ho120
              have hI112_120 := hI112_118.congr t120.1 ho120
              have hI114_120 := hI114_118.congr t120.1 ho120
              have hJ114_120 := hJ114_118.congr t120.1 ho120
              have hI116_120 := hI116_118.congr t120.1 ho120
              have hI118_120 := hI118.congr t120.1 ho120
              obtain ⟨hW121, hB121, hTD121, hz121, hp121⟩ := id hS120
              obtain ⟨dd121, hw121, hd121⟩ := id hW121
              have hcap121 := hB121.cap
              refine jj_istore (pc := 271) kRF_rowProduct_d271 (Nat.le_of_ble_eq_true rfl) ?_
              show jj G kRF_rowProduct (d + 9) Q rc120 rs120 273 [some (.ref f), some (.int (nI (a))), some (.int (nI (i))), some (.int (nI (b))), some (.int (nI (j))), some (.int (nI (T))), some (.int (nI (p118))), some (.int (nI (p120))), some (.int (nI (k))), some (.int (nI (xi))), some (.int (nI (yi))), some (.int (nI (pp))), some (.int (nI (pq))), some (.int (nI (p108))), some (.int (nI (p110)))] [] M120
              exact k273 p118 p120 pp pq _ _ _ _ n2 n3 n4 M120 D120 (T120) _ rc120 rs120 hC120 hS120 (by omega) (by omega) (fun i hi => by rw [ho120 i (by omega), ho118 i (by omega), ho116 i (by omega), ho114 i (by omega), ho112 i (by omega), ho110 i (by omega), ho108 i (by omega), ho8 i (by omega)]) hF120 hI118_120 hI120
            · skip
              have e6 : zl = zq := by
                by_cases e : zl = zq
                · exact e
                · exfalso
                  revert c6
                  unfold cmpZ
                  rw [if_neg e]
                  split <;> decide
              have n4 : ((zu + zp : Int) : Rat) = qsum F (k + 1) * zl := by rw [hSk, Rat.intCast_add, hzS, hne, ← e6]; grind
              refine jj_aload_n (pc := 178) kRF_rowProduct_d178 rfl ?_
              refine jj_getf (pc := 179) kRF_rowProduct_d179 (kfRF_w hG) hC8.1 rfl ?_
              refine jj_iload (pc := 182) kRF_rowProduct_d182 rfl ?_
              refine jj_iload (pc := 184) kRF_rowProduct_d184 rfl ?_
              refine jj_callV (pc := 186) (b := w) (As := [.int (nI (pu)), .int (nI (pp))]) kRF_rowProduct_d186 (kvRF_RW_add hG) (kG_cl hG rfl) rfl hw107 rfl rfl rfl (Nat.le_of_ble_eq_true rfl) (Nat.le_of_ble_eq_true rfl) (jj_bare0 rfl) ?_
              refine rs_add (a := m) hG hS8 hN8x2 hN8x0 hbu hbp (by omega) (fun M122 D122 T122 p122 rc122 rs122 hS122 t122 u122 ho122 hf122 hI122 => ?_)
              show jj G kRF_rowProduct (d + 9) Q rc122 rs122 189 [some (.ref f), some (.int (nI (a))), some (.int (nI (i))), some (.int (nI (b))), some (.int (nI (j))), some (.int (nI (T))), some (.int (nI (pu))), some (.int (nI (pl))), some (.int (nI (k))), some (.int (nI (xi))), some (.int (nI (yi))), some (.int (nI (pp))), some (.int (nI (pq))), (o13), (o14)] [.int (nI (p122))] M122
              have hC122 := hC8.rf hf122
              have hF122 := hF8.trans (FF.ofRF hC8 hf122)
              have hN8x0_122 := hN8x0.congr t122.1 ho122
              have hN8x1_122 := hN8x1.congr t122.1 ho122
              have hN8x2_122 := hN8x2.congr t122.1 ho122
              have hN8x3_122 := hN8x3.congr t122.1 ho122
              obtain ⟨hW123, hB123, hTD123, hz123, hp123⟩ := id hS122
              obtain ⟨dd123, hw123, hd123⟩ := id hW123
              have hcap123 := hB123.cap
              refine jj_istore (pc := 189) kRF_rowProduct_d189 (Nat.le_of_ble_eq_true rfl) ?_
              refine jj_goto (pc := 191) (tgt := 273) kRF_rowProduct_d191 (by decide) ?_
              show jj G kRF_rowProduct (d + 9) Q rc122 rs122 273 [some (.ref f), some (.int (nI (a))), some (.int (nI (i))), some (.int (nI (b))), some (.int (nI (j))), some (.int (nI (T))), some (.int (nI (p122))), some (.int (nI (pl))), some (.int (nI (k))), some (.int (nI (xi))), some (.int (nI (yi))), some (.int (nI (pp))), some (.int (nI (pq))), (o13), (o14)] [] M122
              exact k273 p122 pl pp pq _ _ _ _ hz0 hzL n4 M122 D122 (T122) _ rc122 rs122 hC122 hS122 (by omega) (by omega) (fun i hi => by rw [ho122 i (by omega), ho8 i (by omega)]) hF122 hI122 hN8x3_122
          obtain ⟨r1, r2, r3⟩ := id g3
          obtain ⟨r4, r5, r6⟩ := id g6
          obtain ⟨hW124, hB124, hTD124, hz124, hp124⟩ := id hS9
          obtain ⟨dd124, hw124, hd124⟩ := id hW124
          have hcap124 := hB124.cap
          refine jj_aload_n (pc := 76) kRF_rowProduct_d76 rfl ?_
          refine jj_getf (pc := 77) kRF_rowProduct_d77 (kfRF_w hG) hC9.1 rfl ?_
          refine jj_aload_n (pc := 80) kRF_rowProduct_d80 rfl ?_
          refine jj_iload_n (pc := 81) kRF_rowProduct_d81 rfl ?_
          refine jj_iload (pc := 82) kRF_rowProduct_d82 rfl ?_
          refine jj_callV (pc := 84) (b := f) (As := [.int (nI (a)), .int (nI (xi))]) kRF_rowProduct_d84 (kvRF_RF_upper hG) (kG_cl hG rfl) rfl hC9.1 rfl rfl rfl (Nat.le_of_ble_eq_true rfl) (Nat.le_of_ble_eq_true rfl) (jj_bare0 rfl) ?_
          refine rf_upper hG hC9 (by omega) (by omega) ?_
          show jj G kRF_rowProduct (d + 9) Q rc9 rs9 87 [some (.ref f), some (.int (nI (a))), some (.int (nI (i))), some (.int (nI (b))), some (.int (nI (j))), some (.int (nI (T))), some (.int (nI (pu))), some (.int (nI (pl))), some (.int (nI (k))), some (.int (nI (xi))), some (.int (nI (yi))), (o11), (o12), (o13), (o14)] [.int (V.getD (a + 2 + 2 * xi) 0), .ref w] M9
          refine jn_top (.int (nI (p1))) (by rw [g1]) ?_
          refine jj_aload_n (pc := 87) kRF_rowProduct_d87 rfl ?_
          refine jj_iload_n (pc := 88) kRF_rowProduct_d88 rfl ?_
          refine jj_iload (pc := 89) kRF_rowProduct_d89 rfl ?_
          refine jj_callV (pc := 91) (b := f) (As := [.int (nI (b)), .int (nI (yi))]) kRF_rowProduct_d91 (kvRF_RF_upper hG) (kG_cl hG rfl) rfl hC9.1 rfl rfl rfl (Nat.le_of_ble_eq_true rfl) (Nat.le_of_ble_eq_true rfl) (jj_bare0 rfl) ?_
          refine rf_upper hG hC9 (by omega) (by omega) ?_
          show jj G kRF_rowProduct (d + 9) Q rc9 rs9 94 [some (.ref f), some (.int (nI (a))), some (.int (nI (i))), some (.int (nI (b))), some (.int (nI (j))), some (.int (nI (T))), some (.int (nI (pu))), some (.int (nI (pl))), some (.int (nI (k))), some (.int (nI (xi))), some (.int (nI (yi))), (o11), (o12), (o13), (o14)] [.int (V.getD (b + 2 + 2 * yi) 0), .int (nI (p1)), .ref w] M9
          refine jn_top (.int (nI (p2))) (by rw [g4]) ?_
          refine jj_callV (pc := 94) (b := w) (As := [.int (nI (p1)), .int (nI (p2))]) kRF_rowProduct_d94 (kvRF_RW_multiply hG) (kG_cl hG rfl) rfl hw124 rfl rfl rfl (Nat.le_of_ble_eq_true rfl) (Nat.le_of_ble_eq_true rfl) (jj_bare0 rfl) ?_
          refine rs_multiply (a := s) (b := s) hG hS9 r1 r4 hn1 hn3 (by omega) (fun M125 D125 T125 p125 rc125 rs125 hS125 t125 u125 ho125 hf125 hI125 => ?_)
          show jj G kRF_rowProduct (d + 9) Q rc125 rs125 97 [some (.ref f), some (.int (nI (a))), some (.int (nI (i))), some (.int (nI (b))), some (.int (nI (j))), some (.int (nI (T))), some (.int (nI (pu))), some (.int (nI (pl))), some (.int (nI (k))), some (.int (nI (xi))), some (.int (nI (yi))), (o11), (o12), (o13), (o14)] [.int (nI (p125))] M125
          have hC125 := hC9.rf hf125
          have hF125 := hF9.trans (FF.ofRF hC9 hf125)
          have hU9_125 := hU9.congr t125.1 ho125
          have hL9_125 := hL9.congr t125.1 ho125
          have r1_125 := r1.congr t125.1 ho125
          have r4_125 := r4.congr t125.1 ho125
          have r2_125 := r2.congr t125.1 ho125
          have r5_125 := r5.congr t125.1 ho125
          obtain ⟨hW126, hB126, hTD126, hz126, hp126⟩ := id hS125
          obtain ⟨dd126, hw126, hd126⟩ := id hW126
          have hcap126 := hB126.cap
          refine jj_istore (pc := 97) kRF_rowProduct_d97 (Nat.le_of_ble_eq_true rfl) ?_
          refine jj_aload_n (pc := 99) kRF_rowProduct_d99 rfl ?_
          refine jj_iload_n (pc := 100) kRF_rowProduct_d100 rfl ?_
          refine jj_iload (pc := 101) kRF_rowProduct_d101 rfl ?_
          refine jj_callV (pc := 103) (b := f) (As := [.int (nI (a)), .int (nI (xi))]) kRF_rowProduct_d103 (kvRF_RF_lower hG) (kG_cl hG rfl) rfl hC125.1 rfl rfl rfl (Nat.le_of_ble_eq_true rfl) (Nat.le_of_ble_eq_true rfl) (jj_bare0 rfl) ?_
          refine rf_lower hG hC125 (by omega) (by omega) ?_
          show jj G kRF_rowProduct (d + 9) Q rc125 rs125 106 [some (.ref f), some (.int (nI (a))), some (.int (nI (i))), some (.int (nI (b))), some (.int (nI (j))), some (.int (nI (T))), some (.int (nI (pu))), some (.int (nI (pl))), some (.int (nI (k))), some (.int (nI (xi))), some (.int (nI (yi))), some (.int (nI (p125))), (o12), (o13), (o14)] [.int (V.getD (a + 3 + 2 * xi) 0)] M125
          refine jn_top (.int (nI (l1))) (by rw [g2]) ?_
          refine jn_iconst (pc := 106) 1 kRF_rowProduct_d106 (by decide) ?_
          refine jn_icmp_ne (pc := 107) (tgt := 120) kRF_rowProduct_d107 (by decide) (by omega) (by omega) (fun c3 => ?_) (fun c3 => ?_)
          · skip
            refine jj_aload_n (pc := 120) kRF_rowProduct_d120 rfl ?_
            refine jj_iload_n (pc := 121) kRF_rowProduct_d121 rfl ?_
            refine jj_iload (pc := 122) kRF_rowProduct_d122 rfl ?_
            refine jj_callV (pc := 124) (b := f) (As := [.int (nI (b)), .int (nI (yi))]) kRF_rowProduct_d124 (kvRF_RF_lower hG) (kG_cl hG rfl) rfl hC125.1 rfl rfl rfl (Nat.le_of_ble_eq_true rfl) (Nat.le_of_ble_eq_true rfl) (jj_bare0 rfl) ?_
            refine rf_lower hG hC125 (by omega) (by omega) ?_
            show jj G kRF_rowProduct (d + 9) Q rc125 rs125 127 [some (.ref f), some (.int (nI (a))), some (.int (nI (i))), some (.int (nI (b))), some (.int (nI (j))), some (.int (nI (T))), some (.int (nI (pu))), some (.int (nI (pl))), some (.int (nI (k))), some (.int (nI (xi))), some (.int (nI (yi))), some (.int (nI (p125))), (o12), (o13), (o14)] [.int (V.getD (b + 3 + 2 * yi) 0)] M125
            refine jn_top (.int (nI (l2))) (by rw [g5]) ?_
            refine jn_iconst (pc := 127) 1 kRF_rowProduct_d127 (by decide) ?_
            refine jn_icmp_ne (pc := 128) (tgt := 141) kRF_rowProduct_d128 (by decide) (by omega) (by omega) (fun c4 => ?_) (fun c4 => ?_)
            · skip
              refine jj_aload_n (pc := 141) kRF_rowProduct_d141 rfl ?_
              refine jj_getf (pc := 142) kRF_rowProduct_d142 (kfRF_w hG) hC125.1 rfl ?_
              refine jj_aload_n (pc := 145) kRF_rowProduct_d145 rfl ?_
              refine jj_iload_n (pc := 146) kRF_rowProduct_d146 rfl ?_
              refine jj_iload (pc := 147) kRF_rowProduct_d147 rfl ?_
              refine jj_callV (pc := 149) (b := f) (As := [.int (nI (a)), .int (nI (xi))]) kRF_rowProduct_d149 (kvRF_RF_lower hG) (kG_cl hG rfl) rfl hC125.1 rfl rfl rfl (Nat.le_of_ble_eq_true rfl) (Nat.le_of_ble_eq_true rfl) (jj_bare0 rfl) ?_
              refine rf_lower hG hC125 (by omega) (by omega) ?_
              show jj G kRF_rowProduct (d + 9) Q rc125 rs125 152 [some (.ref f), some (.int (nI (a))), some (.int (nI (i))), some (.int (nI (b))), some (.int (nI (j))), some (.int (nI (T))), some (.int (nI (pu))), some (.int (nI (pl))), some (.int (nI (k))), some (.int (nI (xi))), some (.int (nI (yi))), some (.int (nI (p125))), (o12), (o13), (o14)] [.int (V.getD (a + 3 + 2 * xi) 0), .ref w] M125
              refine jn_top (.int (nI (l1))) (by rw [g2]) ?_
              refine jj_aload_n (pc := 152) kRF_rowProduct_d152 rfl ?_
              refine jj_iload_n (pc := 153) kRF_rowProduct_d153 rfl ?_
              refine jj_iload (pc := 154) kRF_rowProduct_d154 rfl ?_
              refine jj_callV (pc := 156) (b := f) (As := [.int (nI (b)), .int (nI (yi))]) kRF_rowProduct_d156 (kvRF_RF_lower hG) (kG_cl hG rfl) rfl hC125.1 rfl rfl rfl (Nat.le_of_ble_eq_true rfl) (Nat.le_of_ble_eq_true rfl) (jj_bare0 rfl) ?_
              refine rf_lower hG hC125 (by omega) (by omega) ?_
              show jj G kRF_rowProduct (d + 9) Q rc125 rs125 159 [some (.ref f), some (.int (nI (a))), some (.int (nI (i))), some (.int (nI (b))), some (.int (nI (j))), some (.int (nI (T))), some (.int (nI (pu))), some (.int (nI (pl))), some (.int (nI (k))), some (.int (nI (xi))), some (.int (nI (yi))), some (.int (nI (p125))), (o12), (o13), (o14)] [.int (V.getD (b + 3 + 2 * yi) 0), .int (nI (l1)), .ref w] M125
              refine jn_top (.int (nI (l2))) (by rw [g5]) ?_
              refine jj_callV (pc := 159) (b := w) (As := [.int (nI (l1)), .int (nI (l2))]) kRF_rowProduct_d159 (kvRF_RW_multiply hG) (kG_cl hG rfl) rfl hw126 rfl rfl rfl (Nat.le_of_ble_eq_true rfl) (Nat.le_of_ble_eq_true rfl) (jj_bare0 rfl) ?_
              refine rs_multiply (a := s) (b := s) hG hS125 r2_125 r5_125 hn2 hn4 (by omega) (fun M127 D127 T127 p127 rc127 rs127 hS127 t127 u127 ho127 hf127 hI127 => ?_)
              show jj G kRF_rowProduct (d + 9) Q rc127 rs127 162 [some (.ref f), some (.int (nI (a))), some (.int (nI (i))), some (.int (nI (b))), some (.int (nI (j))), some (.int (nI (T))), some (.int (nI (pu))), some (.int (nI (pl))), some (.int (nI (k))), some (.int (nI (xi))), some (.int (nI (yi))), some (.int (nI (p125))), (o12), (o13), (o14)] [.int (nI (p127))] M127
              have hC127 := hC125.rf hf127
              have hF127 := hF125.trans (FF.ofRF hC125 hf127)
              have hU9_127 := hU9_125.congr t127.1 ho127
              have hL9_127 := hL9_125.congr t127.1 ho127
              have r1_127 := r1_125.congr t127.1 ho127
              have r4_127 := r4_125.congr t127.1 ho127
              have r2_127 := r2_125.congr t127.1 ho127
              have r5_127 := r5_125.congr t127.1 ho127
              have hI125_127 := hI125.congr t127.1 ho127
              obtain ⟨hW128, hB128, hTD128, hz128, hp128⟩ := id hS127
              obtain ⟨dd128, hw128, hd128⟩ := id hW128
              have hcap128 := hB128.cap
              show jj G kRF_rowProduct (d + 9) Q rc127 rs127 162 [some (.ref f), some (.int (nI (a))), some (.int (nI (i))), some (.int (nI (b))), some (.int (nI (j))), some (.int (nI (T))), some (.int (nI (pu))), some (.int (nI (pl))), some (.int (nI (k))), some (.int (nI (xi))), some (.int (nI (yi))), some (.int (nI (p125))), (o12), (o13), (o14)] [.int (nI (p127))] M127
              exact k162 p125 p127 M127 D127 (T127) _ rc127 rs127 hC127 hS127 (by omega) (by omega) (fun i hi => by rw [ho127 i (by omega), ho125 i (by omega), ho9 i (by omega)]) hF127 hI125_127 hI127 hU9_127 hL9_127
            · skip
              subst c4
              have d2 := g6.den1 h19 (by omega)
              have hpr : ((qa xi).den : Int) * ((qb yi).den : Int) = (qa xi).den := by rw [d2]; omega
              refine jj_aload_n (pc := 131) kRF_rowProduct_d131 rfl ?_
              refine jj_iload_n (pc := 132) kRF_rowProduct_d132 rfl ?_
              refine jj_iload (pc := 133) kRF_rowProduct_d133 rfl ?_
              refine jj_callV (pc := 135) (b := f) (As := [.int (nI (a)), .int (nI (xi))]) kRF_rowProduct_d135 (kvRF_RF_lower hG) (kG_cl hG rfl) rfl hC125.1 rfl rfl rfl (Nat.le_of_ble_eq_true rfl) (Nat.le_of_ble_eq_true rfl) (jj_bare0 rfl) ?_
              refine rf_lower hG hC125 (by omega) (by omega) ?_
              show jj G kRF_rowProduct (d + 9) Q rc125 rs125 138 [some (.ref f), some (.int (nI (a))), some (.int (nI (i))), some (.int (nI (b))), some (.int (nI (j))), some (.int (nI (T))), some (.int (nI (pu))), some (.int (nI (pl))), some (.int (nI (k))), some (.int (nI (xi))), some (.int (nI (yi))), some (.int (nI (p125))), (o12), (o13), (o14)] [.int (V.getD (a + 3 + 2 * xi) 0)] M125
              refine jn_top (.int (nI (l1))) (by rw [g2]) ?_
              refine jj_goto (pc := 138) (tgt := 162) kRF_rowProduct_d138 (by decide) ?_
              show jj G kRF_rowProduct (d + 9) Q rc125 rs125 162 [some (.ref f), some (.int (nI (a))), some (.int (nI (i))), some (.int (nI (b))), some (.int (nI (j))), some (.int (nI (T))), some (.int (nI (pu))), some (.int (nI (pl))), some (.int (nI (k))), some (.int (nI (xi))), some (.int (nI (yi))), some (.int (nI (p125))), (o12), (o13), (o14)] [.int (nI (l1))] M125
              exact k162 p125 l1 M125 D125 (T125) _ rc125 rs125 hC125 hS125 (by omega) (by omega) (fun i hi => by rw [ho125 i (by omega), ho9 i (by omega)]) hF125 hI125 (by rw [hpr]; exact r2_125) hU9_125 hL9_125
          · skip
            subst c3
            have d1 := g3.den1 h19 (by omega)
            have hpr : ((qa xi).den : Int) * ((qb yi).den : Int) = (qb yi).den := by rw [d1]; omega
            refine jj_aload_n (pc := 110) kRF_rowProduct_d110 rfl ?_
            refine jj_iload_n (pc := 111) kRF_rowProduct_d111 rfl ?_
            refine jj_iload (pc := 112) kRF_rowProduct_d112 rfl ?_
            refine jj_callV (pc := 114) (b := f) (As := [.int (nI (b)), .int (nI (yi))]) kRF_rowProduct_d114 (kvRF_RF_lower hG) (kG_cl hG rfl) rfl hC125.1 rfl rfl rfl (Nat.le_of_ble_eq_true rfl) (Nat.le_of_ble_eq_true rfl) (jj_bare0 rfl) ?_
            refine rf_lower hG hC125 (by omega) (by omega) ?_
            show jj G kRF_rowProduct (d + 9) Q rc125 rs125 117 [some (.ref f), some (.int (nI (a))), some (.int (nI (i))), some (.int (nI (b))), some (.int (nI (j))), some (.int (nI (T))), some (.int (nI (pu))), some (.int (nI (pl))), some (.int (nI (k))), some (.int (nI (xi))), some (.int (nI (yi))), some (.int (nI (p125))), (o12), (o13), (o14)] [.int (V.getD (b + 3 + 2 * yi) 0)] M125
            refine jn_top (.int (nI (l2))) (by rw [g5]) ?_
            refine jj_goto (pc := 117) (tgt := 162) kRF_rowProduct_d117 (by decide) ?_
            show jj G kRF_rowProduct (d + 9) Q rc125 rs125 162 [some (.ref f), some (.int (nI (a))), some (.int (nI (i))), some (.int (nI (b))), some (.int (nI (j))), some (.int (nI (T))), some (.int (nI (pu))), some (.int (nI (pl))), some (.int (nI (k))), some (.int (nI (xi))), some (.int (nI (yi))), some (.int (nI (p125))), (o12), (o13), (o14)] [.int (nI (l2))] M125
            exact k162 p125 l2 M125 D125 (T125) _ rc125 rs125 hC125 hS125 (by omega) (by omega) (fun i hi => by rw [ho125 i (by omega), ho9 i (by omega)]) hF125 hI125 (by rw [hpr]; exact r5_125) hU9_125 hL9_125
        · skip
          subst c2
          have e0 := g6.1.z0 hz90 (by omega)
          have e1 : qb yi = 0 := Rat.num_eq_zero.mp e0
          have e2 : F k = 0 := by rw [hFk, e1]; grind
          have hS' : (zu : Rat) = qsum F (k + 1) * zl := by rw [hSk, e2, hzS]; grind
          refine jj_goto (pc := 73) (tgt := 342) kRF_rowProduct_d73 (by decide) ?_
          refine jn_iinc (pc := 342) (k + 1) kRF_rowProduct_d342 rfl (nI_1 _) ?_
          refine jj_goto (pc := 345) (tgt := 18) kRF_rowProduct_d345 (by decide) ?_
          show jj G kRF_rowProduct (d + 9) Q rc9 rs9 18 [some (.ref f), some (.int (nI (a))), some (.int (nI (i))), some (.int (nI (b))), some (.int (nI (j))), some (.int (nI (T))), some (.int (nI (pu))), some (.int (nI (pl))), some (.int (nI (k + 1))), some (.int (nI (xi))), some (.int (nI (yi))), (o11), (o12), (o13), (o14)] [] M9
          exact ih (k + 1) (by omega) _ _ _ _ _ _ zu zl pu pl M9 D9 (T9) _ rc9 rs9 hC9 hS9 (by omega) (by omega) (fun i hi => by rw [ho9 i (by omega)]) hF9 hU9 hL9 hz0 hzL hS'
  obtain ⟨hW129, hB129, hTD129, hz129, hp129⟩ := id hS
  obtain ⟨dd129, hw129, hd129⟩ := id hW129
  have hcap129 := hB129.cap
  show jj G kRF_rowProduct (d + 9) Q rc rs 0 [some (.ref f), some (.int (nI (a))), some (.int (nI (i))), some (.int (nI (b))), some (.int (nI (j))), none, none, none, none, none, none, none, none, none, none] [] M
  refine jj_aload_n (pc := 0) kRF_rowProduct_d0 rfl ?_
  refine jj_getf (pc := 1) kRF_rowProduct_d1 (kfRF_w hG) hC.1 rfl ?_
  refine jj_getf (pc := 4) kRF_rowProduct_d4 (kfRF_RW_top hG) hw129 rfl ?_
  refine jj_istore (pc := 7) kRF_rowProduct_d7 (Nat.le_of_ble_eq_true rfl) ?_
  refine jn_iconst (pc := 9) 0 kRF_rowProduct_d9 (by decide) ?_
  refine jj_istore (pc := 10) kRF_rowProduct_d10 (Nat.le_of_ble_eq_true rfl) ?_
  refine jn_iconst (pc := 12) 1 kRF_rowProduct_d12 (by decide) ?_
  refine jj_istore (pc := 13) kRF_rowProduct_d13 (Nat.le_of_ble_eq_true rfl) ?_
  refine jn_iconst (pc := 15) 0 kRF_rowProduct_d15 (by decide) ?_
  refine jj_istore (pc := 16) kRF_rowProduct_d16 (Nat.le_of_ble_eq_true rfl) ?_
  show jj G kRF_rowProduct (d + 9) Q rc rs 18 [some (.ref f), some (.int (nI (a))), some (.int (nI (i))), some (.int (nI (b))), some (.int (nI (j))), some (.int (nI (T))), some (.int (nI (0))), some (.int (nI (1))), some (.int (nI (0))), none, none, none, none, none, none] [] M
  exact loop c 0 (by omega) none none none none none none 0 1 0 1 M D T v2 rc rs hC hS (Nat.le_refl _) (by omega) (fun _ _ => rfl) (FF.refl M f) (RI.zero hz129 (by omega)) h1 (by omega) (Int.one_dvd L) (show ((0 : Int) : Rat) = (0 : Rat) * ((1 : Int) : Rat) by grind)
end RF11
