/-! ===== the reference: multiple (printed by wip/gen/rm4.py) ===== -/
/-- the least common multiple of z and of k lower parts -/
def lcmf (z : Int) (f : Nat → Nat) : Nat → Int
  | 0 => z
  | n + 1 => (Int.lcm (lcmf z f n) (f n : Int) : Int)
theorem lcmf_pos {z : Int} {f : Nat → Nat} (hz : 0 < z) : ∀ {n : Nat}, (∀ i, i < n → 0 < f i) → 0 < lcmf z f n
  | 0, _ => hz
  | n + 1, h => by
    have h1 := lcmf_pos hz (n := n) (fun i hi => h i (by omega))
    have h2 := h n (by omega)
    have : 0 < Int.lcm (lcmf z f n) (f n : Int) := Int.lcm_pos (by omega) (by omega)
    show (0 : Int) < (Int.lcm (lcmf z f n) (f n : Int) : Int)
    omega
theorem lcm_one_r {z : Int} (hz : 0 < z) : (Int.lcm z ((1 : Nat) : Int) : Int) = z := by
  have : Int.lcm z ((1 : Nat) : Int) = z.natAbs := by simp [Int.lcm]
  rw [this]; omega
section RM4
variable {G : jg} {d : Nat} {Q : jq} {rc rs : Nat} {M : mheap} {r f w vv pv fo st : Nat} {v2 : Value} {D V P : List Int32} {t : Nat} {up low rk code : Int32}
theorem rm_multiple {x a row R c lo mk T s e cm X Z : Nat} {q : Nat → Rat} {zx : Int} (hG : kG G) (hR : RMC M r f fo st code) (hC : FC M f w vv pv V t up low P rk) (hS : RS M w D T v2 cm X Z rc rs) (hV : V.length < 2 ^ 31) (htV : t ≤ V.length) (hmk : x = 1 ∧ mk = T ∨ x ≠ 1 ∧ mk = x) (hmT : mk ≤ T) (hm3 : 3 ≤ mk) (h1 : RI D mk 1 1) (hb : MX D mk V t a R c lo q) (hR' : R < 1024) (hc : c < 1024) (hrow : row < R) (hx : RI D T x zx) (hx0 : 0 < zx) (hq : ∀ k, k < R * c → ZB s ((q k).den : Int)) (hlc : ∀ k, k ≤ c → ZB e (lcmf zx (fun j => (q (row * c + j)).den) k)) (hes : e + s ≤ 9000) (hT1 : T ≤ mk + e + s + 1) (hT : mk + 20000 + 12 * e + 12 * s + 200 ≤ cm)
    (K : ∀ M' D' T' p v2' rc' rs', FC M' f w vv pv V t up low P rk → RS M' w D' T' v2' cm X Z rc' rs' → mk ≤ T' → T' ≤ mk + e + s + 1 → (∀ i, i < mk → D'.getD i 0 = D.getD i 0) → FF M M' f → RI D' T' p (lcmf zx (fun j => (q (row * c + j)).den) c) → (p = 1 ∧ T' = T ∧ x = 1 ∨ p = mk) → Q (.returned (some (.int (nI p)))) M' rc' rs') : jj G kR_multiple (d + 9) Q rc rs 0 (jj_ent [.ref r, .int (nI x), .int (nI a), .int (nI row)] 8) [] M := by
  have hcapD := hS.2.1.cap
  obtain ⟨hb1, hb2, hb3, hb4⟩ := id hb
  have hRc : R * c < 1024 * 1024 := Nat.mul_lt_mul_of_lt_of_le hR' (by omega) (by decide)
  have lx := hx.lt
  generalize hF_ : (fun j => (q (row * c + j)).den) = F at K hlc
  have loop : ∀ mu k, c = k + mu → ∀ (o7 : Option Value) (pl : Nat) (M9 : mheap) (D9 : List Int32) (T9 : Nat) (v9 : Value) (rc9 rs9 : Nat), FC M9 f w vv pv V t up low P rk → RS M9 w D9 T9 v9 cm X Z rc9 rs9 → mk ≤ T9 → T9 ≤ mk + e + s + 1 → (∀ i, i < mk → D9.getD i 0 = D.getD i 0) → FF M M9 f → RI D9 T9 pl (lcmf zx F k) → 0 < lcmf zx F k → (pl = 1 ∧ T9 = T ∧ x = 1 ∨ pl = mk) → jj G kR_multiple (d + 9) Q rc9 rs9 29 [some (.ref r), some (.int (nI (x))), some (.int (nI (a))), some (.int (nI (row))), some (.int (nI (pl))), some (.int (nI (mk))), some (.int (nI (k))), (o7)] [] M9 := by
    intro mu
    induction mu with
    | zero =>
      intro k hk o7 pl M9 D9 T9 v9 rc9 rs9 hC9 hS9 t9 u9 ho9 hF9 hI9 hp9 hl9
      have e9 : c = k := by omega
      subst e9
      refine jj_iload (pc := 29) kR_multiple_d29 rfl ?_
      refine jj_aload_n (pc := 31) kR_multiple_d31 rfl ?_
      refine jj_getf (pc := 32) kR_multiple_d32 (kfR_f hG) (hR.ff hF9).1 rfl ?_
      refine jj_iload_n (pc := 35) kR_multiple_d35 rfl ?_
      refine jj_callV (pc := 36) (b := f) (As := [.int (nI (a))]) kR_multiple_d36 (kvR_RF_columns hG) (kG_cl hG rfl) rfl hC9.1 rfl rfl rfl (Nat.le_of_ble_eq_true rfl) (Nat.le_of_ble_eq_true rfl) (jj_bare0 rfl) ?_
      refine rf_columns hG hC9 hV (by omega) ?_
      show jj G kR_multiple (d + 9) Q rc9 rs9 39 [some (.ref r), some (.int (nI (x))), some (.int (nI (a))), some (.int (nI (row))), some (.int (nI (pl))), some (.int (nI (mk))), some (.int (nI (c))), (o7)] [.int (V.getD (a + 1) 0), .int (nI (c))] M9
      refine jn_top (.int (nI (c))) (by rw [hb3]) ?_
      refine jn_icmp_ge (pc := 39) (tgt := 95) kR_multiple_d39 (by decide) (by omega) (by omega) (fun _ => ?_) (fun c => by exfalso; omega)
      refine jj_iload (pc := 95) kR_multiple_d95 rfl ?_
      exact jj_iret (pc := 97) kR_multiple_d97 rfl (by rfl) (K M9 D9 T9 pl v9 rc9 rs9 hC9 hS9 t9 u9 ho9 hF9 hI9 hl9)
    | succ mu ih =>
      intro k hk o7 pl M9 D9 T9 v9 rc9 rs9 hC9 hS9 t9 u9 ho9 hF9 hI9 hp9 hl9
      obtain ⟨rn, hrn⟩ : ∃ rn, row * c = rn := ⟨_, rfl⟩
      obtain ⟨ix, hix⟩ : ∃ ix, rn + k = ix := ⟨_, rfl⟩
      have hil : ix < R * c := by rw [← hix, ← hrn]; exact cell_lt hrow (by omega)
      have hFk : F k = (q ix).den := by rw [← hF_, ← hix, ← hrn]
      have hnx : lcmf zx F (k + 1) = (Int.lcm (lcmf zx F k) (F k : Int) : Int) := rfl
      obtain ⟨p1, l1, a1, a2, a3, -⟩ := (hb4 ix hil).congr (D' := D9) (V' := V) (T' := T9) (lo' := lo) t9 ho9 (fun _ _ _ => rfl) (Nat.le_refl _)
      obtain ⟨r1, r2, r3⟩ := id a3
      have ll1 := r2.lt
      have b2 := hq ix hil
      have hd0 : 0 < ((q ix).den : Int) := by have := (q ix).den_pos; omega
      have bl := hlc k (by omega)
      have bl' := hlc (k + 1) (by omega)
      have h19 := h1.congr t9 ho9
      rw [hFk] at hnx
      obtain ⟨hW101, hB101, hTD101, hz101, hp101⟩ := id hS9
      obtain ⟨dd101, hw101, hd101⟩ := id hW101
      have hcap101 := hB101.cap
      refine jj_iload (pc := 29) kR_multiple_d29 rfl ?_
      refine jj_aload_n (pc := 31) kR_multiple_d31 rfl ?_
      refine jj_getf (pc := 32) kR_multiple_d32 (kfR_f hG) (hR.ff hF9).1 rfl ?_
      refine jj_iload_n (pc := 35) kR_multiple_d35 rfl ?_
      refine jj_callV (pc := 36) (b := f) (As := [.int (nI (a))]) kR_multiple_d36 (kvR_RF_columns hG) (kG_cl hG rfl) rfl hC9.1 rfl rfl rfl (Nat.le_of_ble_eq_true rfl) (Nat.le_of_ble_eq_true rfl) (jj_bare0 rfl) ?_
      refine rf_columns hG hC9 hV (by omega) ?_
      show jj G kR_multiple (d + 9) Q rc9 rs9 39 [some (.ref r), some (.int (nI (x))), some (.int (nI (a))), some (.int (nI (row))), some (.int (nI (pl))), some (.int (nI (mk))), some (.int (nI (k))), (o7)] [.int (V.getD (a + 1) 0), .int (nI (k))] M9
      refine jn_top (.int (nI (c))) (by rw [hb3]) ?_
      refine jn_icmp_ge (pc := 39) (tgt := 95) kR_multiple_d39 (by decide) (by omega) (by omega) (fun c => by exfalso; omega) (fun _ => ?_)
      refine jj_aload_n (pc := 42) kR_multiple_d42 rfl ?_
      refine jj_getf (pc := 43) kR_multiple_d43 (kfR_f hG) (hR.ff hF9).1 rfl ?_
      refine jj_iload_n (pc := 46) kR_multiple_d46 rfl ?_
      refine jj_iload_n (pc := 47) kR_multiple_d47 rfl ?_
      refine jj_aload_n (pc := 48) kR_multiple_d48 rfl ?_
      refine jj_getf (pc := 49) kR_multiple_d49 (kfR_f hG) (hR.ff hF9).1 rfl ?_
      refine jj_iload_n (pc := 52) kR_multiple_d52 rfl ?_
      refine jj_callV (pc := 53) (b := f) (As := [.int (nI (a))]) kR_multiple_d53 (kvR_RF_columns hG) (kG_cl hG rfl) rfl hC9.1 rfl rfl rfl (Nat.le_of_ble_eq_true rfl) (Nat.le_of_ble_eq_true rfl) (jj_bare0 rfl) ?_
      refine rf_columns hG hC9 hV (by omega) ?_
      show jj G kR_multiple (d + 9) Q rc9 rs9 56 [some (.ref r), some (.int (nI (x))), some (.int (nI (a))), some (.int (nI (row))), some (.int (nI (pl))), some (.int (nI (mk))), some (.int (nI (k))), (o7)] [.int (V.getD (a + 1) 0), .int (nI (row)), .int (nI (a)), .ref f] M9
      refine jn_top (.int (nI (c))) (by rw [hb3]) ?_
      refine jn_imul (pc := 56) (rn) kR_multiple_d56 hrn ?_
      refine jj_iload (pc := 57) kR_multiple_d57 rfl ?_
      refine jn_iadd (pc := 59) (ix) kR_multiple_d59 hix ?_
      refine jj_callV (pc := 60) (b := f) (As := [.int (nI (a)), .int (nI (ix))]) kR_multiple_d60 (kvR_RF_lower hG) (kG_cl hG rfl) rfl hC9.1 rfl rfl rfl (Nat.le_of_ble_eq_true rfl) (Nat.le_of_ble_eq_true rfl) (jj_bare0 rfl) ?_
      refine rf_lower hG hC9 hV (by omega) ?_
      show jj G kR_multiple (d + 9) Q rc9 rs9 63 [some (.ref r), some (.int (nI (x))), some (.int (nI (a))), some (.int (nI (row))), some (.int (nI (pl))), some (.int (nI (mk))), some (.int (nI (k))), (o7)] [.int (V.getD (a + 3 + 2 * ix) 0)] M9
      refine jn_top (.int (nI (l1))) (by rw [a2]) ?_
      refine jj_istore (pc := 63) kR_multiple_d63 (Nat.le_of_ble_eq_true rfl) ?_
      refine jj_iload (pc := 65) kR_multiple_d65 rfl ?_
      refine jn_iconst (pc := 67) 1 kR_multiple_d67 (by decide) ?_
      refine jn_icmp_eq (pc := 68) (tgt := 89) kR_multiple_d68 (by decide) (by omega) (by omega) (fun c1 => ?_) (fun c1 => ?_)
      · skip
        subst c1
        have hd1 : (q ix).den = 1 := by have h9 := r2.uniq h19 (by omega) (by omega); omega
        have he : lcmf zx F (k + 1) = lcmf zx F k := by rw [hnx, hd1]; exact lcm_one_r hp9
        refine jn_iinc (pc := 89) (k + 1) kR_multiple_d89 rfl (nI_1 _) ?_
        refine jj_goto (pc := 92) (tgt := 29) kR_multiple_d92 (by decide) ?_
        show jj G kR_multiple (d + 9) Q rc9 rs9 29 [some (.ref r), some (.int (nI (x))), some (.int (nI (a))), some (.int (nI (row))), some (.int (nI (pl))), some (.int (nI (mk))), some (.int (nI (k + 1))), some (.int (nI (1)))] [] M9
        exact ih (k + 1) (by omega) _ pl M9 D9 T9 v9 rc9 rs9 hC9 hS9 t9 u9 ho9 hF9 (by rw [he]; exact hI9) (by rw [he]; exact hp9) hl9
      · skip
        refine jj_aload_n (pc := 71) kR_multiple_d71 rfl ?_
        refine jj_getf (pc := 72) kR_multiple_d72 (kfR_f hG) (hR.ff hF9).1 rfl ?_
        refine jj_getf (pc := 75) kR_multiple_d75 (kfR_RF_w hG) hC9.1 rfl ?_
        refine jj_iload (pc := 78) kR_multiple_d78 rfl ?_
        refine jj_iload (pc := 80) kR_multiple_d80 rfl ?_
        refine jj_iload (pc := 82) kR_multiple_d82 rfl ?_
        refine jj_callV (pc := 84) (b := w) (As := [.int (nI (pl)), .int (nI (l1)), .int (nI (mk))]) kR_multiple_d84 (kvR_RW_multiple hG) (kG_cl hG rfl) rfl hw101 rfl rfl rfl (Nat.le_of_ble_eq_true rfl) (Nat.le_of_ble_eq_true rfl) (jj_bare0 rfl) ?_
        refine ri_multiple (a := e) (b := s) (mark := mk) hG hS9 hI9 r2 hp9 hd0 bl b2 hes (by omega) t9 (by omega) (fun M5 D5 T5 p5 v5 rc5 rs5 hS5 hor hf5 hI5 => ?_)
        show jj G kR_multiple (d + 9) Q rc5 rs5 87 [some (.ref r), some (.int (nI (x))), some (.int (nI (a))), some (.int (nI (row))), some (.int (nI (pl))), some (.int (nI (mk))), some (.int (nI (k))), some (.int (nI (l1)))] [.int (nI (p5))] M5
        have hC5 := hC9.rf hf5
        have hF5 := hF9.trans (FF.ofRF hC9 hf5)
        rw [← hnx] at hI5
        have hp5 : 0 < lcmf zx F (k + 1) := by rw [hnx]; have : 0 < Int.lcm (lcmf zx F k) ((q ix).den : Int) := Int.lcm_pos (by omega) (by omega)
                                               omega
        have hz5 := hS5.2.2.2.1
        have hcap5 := hS5.2.1.cap
        have hTD5 := hS5.2.2.1
        have hp0 : p5 ≠ 0 := fun e => by have h9 := hI5; rw [e] at h9; have := h9.z0 hz5 (by omega); omega
        refine jj_istore (pc := 87) kR_multiple_d87 (Nat.le_of_ble_eq_true rfl) ?_
        refine jn_iinc (pc := 89) (k + 1) kR_multiple_d89 rfl (nI_1 _) ?_
        refine jj_goto (pc := 92) (tgt := 29) kR_multiple_d92 (by decide) ?_
        show jj G kR_multiple (d + 9) Q rc5 rs5 29 [some (.ref r), some (.int (nI (x))), some (.int (nI (a))), some (.int (nI (row))), some (.int (nI (p5))), some (.int (nI (mk))), some (.int (nI (k + 1))), some (.int (nI (l1)))] [] M5
        rcases hor with ⟨o1, o2, o3⟩ | ⟨o1, o2, o3, o4⟩
        · exact ih (k + 1) (by omega) _ p5 M5 D5 T5 v5 rc5 rs5 hC5 hS5 (by omega) (by omega) (fun i hi => by rw [o3 i (by omega), ho9 i hi]) hF5 hI5 hp5 (by omega)
        · exact ih (k + 1) (by omega) _ p5 M5 D5 T5 v5 rc5 rs5 hC5 hS5 o1 (by omega) (fun i hi => by rw [o4 i hi, ho9 i hi]) hF5 hI5 hp5 (by omega)
  obtain ⟨hW102, hB102, hTD102, hz102, hp102⟩ := id hS
  obtain ⟨dd102, hw102, hd102⟩ := id hW102
  have hcap102 := hB102.cap
  show jj G kR_multiple (d + 9) Q rc rs 0 [some (.ref r), some (.int (nI (x))), some (.int (nI (a))), some (.int (nI (row))), none, none, none, none] [] M
  refine jj_iload_n (pc := 0) kR_multiple_d0 rfl ?_
  refine jj_istore (pc := 1) kR_multiple_d1 (Nat.le_of_ble_eq_true rfl) ?_
  refine jj_iload (pc := 3) kR_multiple_d3 rfl ?_
  refine jn_iconst (pc := 5) 1 kR_multiple_d5 (by decide) ?_
  refine jn_icmp_ne (pc := 6) (tgt := 22) kR_multiple_d6 (by decide) (by omega) (by omega) (fun c0 => ?_) (fun c0 => ?_)
  · skip
    refine jj_iload (pc := 22) kR_multiple_d22 rfl ?_
    have e9 : x = mk := by omega
    refine jn_top (.int (nI (mk))) (by rw [← e9]) ?_
    refine jj_istore (pc := 24) kR_multiple_d24 (Nat.le_of_ble_eq_true rfl) ?_
    show jj G kR_multiple (d + 9) Q rc rs 26 [some (.ref r), some (.int (nI (x))), some (.int (nI (a))), some (.int (nI (row))), some (.int (nI (x))), some (.int (nI (mk))), none, none] [] M
    refine jn_iconst (pc := 26) 0 kR_multiple_d26 (by decide) ?_
    refine jj_istore (pc := 27) kR_multiple_d27 (Nat.le_of_ble_eq_true rfl) ?_
    show jj G kR_multiple (d + 9) Q rc rs 29 [some (.ref r), some (.int (nI (x))), some (.int (nI (a))), some (.int (nI (row))), some (.int (nI (x))), some (.int (nI (mk))), some (.int (nI (0))), none] [] M
    exact loop c 0 (by omega) none x M D T v2 rc rs hC hS hmT hT1 (fun _ _ => rfl) (FF.refl M f) hx hx0 (by omega)
  · skip
    refine jj_aload_n (pc := 9) kR_multiple_d9 rfl ?_
    refine jj_getf (pc := 10) kR_multiple_d10 (kfR_f hG) hR.1 rfl ?_
    refine jj_getf (pc := 13) kR_multiple_d13 (kfR_RF_w hG) hC.1 rfl ?_
    refine jj_getf (pc := 16) kR_multiple_d16 (kfR_RW_top hG) hw102 rfl ?_
    refine jj_goto (pc := 19) (tgt := 24) kR_multiple_d19 (by decide) ?_
    have e9 : T = mk := by omega
    refine jn_top (.int (nI (mk))) (by rw [← e9]) ?_
    refine jj_istore (pc := 24) kR_multiple_d24 (Nat.le_of_ble_eq_true rfl) ?_
    show jj G kR_multiple (d + 9) Q rc rs 26 [some (.ref r), some (.int (nI (x))), some (.int (nI (a))), some (.int (nI (row))), some (.int (nI (x))), some (.int (nI (mk))), none, none] [] M
    refine jn_iconst (pc := 26) 0 kR_multiple_d26 (by decide) ?_
    refine jj_istore (pc := 27) kR_multiple_d27 (Nat.le_of_ble_eq_true rfl) ?_
    show jj G kR_multiple (d + 9) Q rc rs 29 [some (.ref r), some (.int (nI (x))), some (.int (nI (a))), some (.int (nI (row))), some (.int (nI (x))), some (.int (nI (mk))), some (.int (nI (0))), none] [] M
    exact loop c 0 (by omega) none x M D T v2 rc rs hC hS hmT hT1 (fun _ _ => rfl) (FF.refl M f) hx hx0 (by omega)
end RM4
