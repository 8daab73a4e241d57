/-! ===== the reference: limbs, longest, multiple (printed by wip/gen/rm3.py) ===== -/
/-- the reference's object: its code, its Fractions f, its Forms fo, its registers st -/
def RMC (M : mheap) (r f fo st : Nat) (code : Int32) : Prop := M r = some (.inl nR, [.int code, .ref f, .ref fo, .ref st]) ∧ ¬ FO M f r
theorem RMC.ff {M M' : mheap} {r f fo st : Nat} {code : Int32} (h : RMC M r f fo st code) (hf : FF M M' f) : RMC M' r f fo st code := by
  obtain ⟨a1, a2⟩ := hf r (by rw [h.1]; exact fun e => by cases e) h.2
  exact ⟨a1.trans h.1, a2⟩
/-- how many bits -/
def blen (z : Int) : Nat := if z = 0 then 0 else z.natAbs.log2 + 1
theorem blen_eq {z : Int} {L : Nat} (h0 : z = 0 → L = 0) (h1 : z ≠ 0 → 0 < L ∧ 2 ^ (L - 1) ≤ z.natAbs ∧ z.natAbs < 2 ^ L) : L = blen z := by
  unfold blen
  by_cases e : z = 0
  · rw [if_pos e]; exact h0 e
  · rw [if_neg e]
    obtain ⟨a1, a2, a3⟩ := h1 e
    have hz : z.natAbs ≠ 0 := by omega
    have b1 := (Nat.le_log2 hz).mpr a2
    have b2 := (Nat.log2_lt hz).mpr a3
    omega
theorem blen_lt {z : Int} {a : Nat} (h : z.natAbs < 32768 ^ a) : blen z ≤ 15 * a := by
  unfold blen
  by_cases e : z = 0
  · rw [if_pos e]; exact Nat.zero_le _
  · rw [if_neg e]
    have hz : z.natAbs ≠ 0 := by omega
    rw [show (32768 : Nat) = 2 ^ 15 from rfl, ← Nat.pow_mul] at h
    exact (Nat.log2_lt hz).mpr h
def nmax (f : Nat → Nat) : Nat → Nat
  | 0 => 0
  | n + 1 => max (nmax f n) (f n)
theorem nmax_le {f : Nat → Nat} {b : Nat} : ∀ {n : Nat}, (∀ i, i < n → f i ≤ b) → nmax f n ≤ b
  | 0, _ => Nat.zero_le _
  | n + 1, h => Nat.max_le.mpr ⟨nmax_le (fun i hi => h i (by omega)), h n (by omega)⟩
theorem nI_mx {m n : Nat} (hm : m < 2 ^ 31) (hn : n < 2 ^ 31) : (if nI m < nI n then nI n else nI m) = nI (max m n) := by
  have hl : nI m < nI n ↔ m < n := by
    rw [Int32.lt_iff_toInt_lt, nI_toInt hn, nI_toInt hm]
    omega
  by_cases c : m < n
  · rw [if_pos (hl.mpr c), Nat.max_eq_right (by omega)]
  · rw [if_neg (fun h => c (hl.mp h)), Nat.max_eq_left (by omega)]
section RM3
variable {G : jg} {d : Nat} {Q : jq} {rc rs : Nat} {M : mheap} {r f w vv pv fo st : Nat} {v2 : Value} {D V P : List Int32} {t : Nat} {up low rk code : Int32}
theorem rm_limbs {b : Nat} (hb : b < 2 ^ 30) (k : Q (.returned (some (.int (nI ((b + 31) / 32))))) M rc rs) : jj G kR_limbs d Q rc rs 0 (jj_ent [.int (nI b)] 1) [] M := by
  show jj G kR_limbs (d) Q rc rs 0 [some (.int (nI (b)))] [] M
  refine jj_iload_n (pc := 0) kR_limbs_d0 rfl ?_
  refine jn_bipush (pc := 1) 31 kR_limbs_d1 (by decide) ?_
  refine jn_iadd (pc := 3) (b + 31) kR_limbs_d3 (by omega) ?_
  refine jn_bipush (pc := 4) 32 kR_limbs_d4 (by decide) ?_
  refine jn_idiv (pc := 6) ((b + 31) / 32) kR_limbs_d6 (by omega) (by omega) (by omega) rfl ?_
  exact jj_iret (pc := 7) kR_limbs_d7 rfl (by rfl) k
theorem rm_longest {l a row R c lo T s e cm X Z : Nat} {q : Nat → Rat} {zl : Int} (hG : kG G) (hR : RMC M r f fo st code) (hC : FC M f w vv pv V t up low P rk) (hS : RS M w D T v2 cm X Z rc rs) (hV : V.length < 2 ^ 31) (htV : t ≤ V.length) (hb : MX D T V t a R c lo q) (hR' : R < 1024) (hc : c < 1024) (hrow : row < R) (hl : RI D T l zl) (bl : ZB e zl) (hq : ∀ k, k < R * c → ZB s (q k).num ∧ ZB s ((q k).den : Int)) (hes : e + s ≤ 9000) (hT : T + 6 * e + 6 * s + 100 ≤ cm)
    (K : ∀ M' D' v2' rc' rs', FC M' f w vv pv V t up low P rk → RS M' w D' T v2' cm X Z rc' rs' → (∀ i, i < T → D'.getD i 0 = D.getD i 0) → FF M M' f → Q (.returned (some (.int (nI (nmax (fun j => blen (zl / ((q (row * c + j)).den : Int) * (q (row * c + j)).num)) c))))) M' rc' rs') : jj G kR_longest (d + 7) Q rc rs 0 (jj_ent [.ref r, .int (nI l), .int (nI a), .int (nI row)] 9) [] M := by
  have hcapD := hS.2.1.cap
  obtain ⟨hb1, hb2, hb3, hb4⟩ := id hb
  have hRc : R * c < 1024 * 1024 := Nat.mul_lt_mul_of_lt_of_le hR' (by omega) (by decide)
  generalize hF_ : (fun j => blen (zl / ((q (row * c + j)).den : Int) * (q (row * c + j)).num)) = F at K
  have loop : ∀ mu k, c = k + mu → ∀ (o6 o7 o8 : Option Value) (M9 : mheap) (D9 : List Int32) (v9 : Value) (rc9 rs9 : Nat), FC M9 f w vv pv V t up low P rk → RS M9 w D9 T v9 cm X Z rc9 rs9 → (∀ i, i < T → D9.getD i 0 = D.getD i 0) → FF M M9 f → nmax F k ≤ 15 * (e + s) → jj G kR_longest (d + 7) Q rc9 rs9 6 [some (.ref r), some (.int (nI (l))), some (.int (nI (a))), some (.int (nI (row))), some (.int (nI (nmax F k))), some (.int (nI (k))), (o6), (o7), (o8)] [] M9 := by
    intro mu
    induction mu with
    | zero =>
      intro k hk o6 o7 o8 M9 D9 v9 rc9 rs9 hC9 hS9 ho9 hF9 hmx
      have e9 : c = k := by omega
      subst e9
      refine jj_iload (pc := 6) kR_longest_d6 rfl ?_
      refine jj_aload_n (pc := 8) kR_longest_d8 rfl ?_
      refine jj_getf (pc := 9) kR_longest_d9 (kfR_f hG) (hR.ff hF9).1 rfl ?_
      refine jj_iload_n (pc := 12) kR_longest_d12 rfl ?_
      refine jj_callV (pc := 13) (b := f) (As := [.int (nI (a))]) kR_longest_d13 (kvR_RF_columns hG) (kG_cl hG rfl) rfl hC9.1 rfl rfl rfl (Nat.le_of_ble_eq_true rfl) (Nat.le_of_ble_eq_true rfl) (jj_bare0 rfl) ?_
      refine rf_columns hG hC9 hV (by omega) ?_
      show jj G kR_longest (d + 7) Q rc9 rs9 16 [some (.ref r), some (.int (nI (l))), some (.int (nI (a))), some (.int (nI (row))), some (.int (nI (nmax F c))), some (.int (nI (c))), (o6), (o7), (o8)] [.int (V.getD (a + 1) 0), .int (nI (c))] M9
      refine jn_top (.int (nI (c))) (by rw [hb3]) ?_
      refine jn_icmp_ge (pc := 16) (tgt := 126) kR_longest_d16 (by decide) (by omega) (by omega) (fun _ => ?_) (fun c => by exfalso; omega)
      refine jj_iload (pc := 126) kR_longest_d126 rfl ?_
      exact jj_iret (pc := 128) kR_longest_d128 rfl (by rfl) (K M9 D9 v9 rc9 rs9 hC9 hS9 ho9 hF9)
    | succ mu ih =>
      intro k hk o6 o7 o8 M9 D9 v9 rc9 rs9 hC9 hS9 ho9 hF9 hmx
      obtain ⟨rn, hrn⟩ : ∃ rn, row * c = rn := ⟨_, rfl⟩
      obtain ⟨ix, hix⟩ : ∃ ix, rn + k = ix := ⟨_, rfl⟩
      have hil : ix < R * c := by rw [← hix, ← hrn]; exact cell_lt hrow (by omega)
      have hFk : F k = blen (zl / ((q ix).den : Int) * (q ix).num) := by rw [← hF_, ← hix, ← hrn]
      obtain ⟨p1, l1, a1, a2, a3, -⟩ := (hb4 ix hil).congr (D' := D9) (V' := V) (T' := T) (lo' := lo) (Nat.le_refl _) ho9 (fun _ _ _ => rfl) (Nat.le_refl _)
      obtain ⟨r1, r2, r3⟩ := id a3
      have lp1 := r1.lt
      have ll1 := r2.lt
      have hl9 := hl.congr (Nat.le_refl _) ho9
      obtain ⟨b1, b2⟩ := hq ix hil
      have hd0 : 0 < ((q ix).den : Int) := by have := (q ix).den_pos; omega
      have bd : ZB e (zl / ((q ix).den : Int)) := bl.ediv hd0
      have bp : ZB (e + s) (zl / ((q ix).den : Int) * (q ix).num) := bd.mul b1
      have hbl := blen_lt bp
      obtain ⟨hW101, hB101, hTD101, hz101, hp101⟩ := id hS9
      obtain ⟨dd101, hw101, hd101⟩ := id hW101
      have hcap101 := hB101.cap
      refine jj_iload (pc := 6) kR_longest_d6 rfl ?_
      refine jj_aload_n (pc := 8) kR_longest_d8 rfl ?_
      refine jj_getf (pc := 9) kR_longest_d9 (kfR_f hG) (hR.ff hF9).1 rfl ?_
      refine jj_iload_n (pc := 12) kR_longest_d12 rfl ?_
      refine jj_callV (pc := 13) (b := f) (As := [.int (nI (a))]) kR_longest_d13 (kvR_RF_columns hG) (kG_cl hG rfl) rfl hC9.1 rfl rfl rfl (Nat.le_of_ble_eq_true rfl) (Nat.le_of_ble_eq_true rfl) (jj_bare0 rfl) ?_
      refine rf_columns hG hC9 hV (by omega) ?_
      show jj G kR_longest (d + 7) Q rc9 rs9 16 [some (.ref r), some (.int (nI (l))), some (.int (nI (a))), some (.int (nI (row))), some (.int (nI (nmax F k))), some (.int (nI (k))), (o6), (o7), (o8)] [.int (V.getD (a + 1) 0), .int (nI (k))] M9
      refine jn_top (.int (nI (c))) (by rw [hb3]) ?_
      refine jn_icmp_ge (pc := 16) (tgt := 126) kR_longest_d16 (by decide) (by omega) (by omega) (fun c => by exfalso; omega) (fun _ => ?_)
      refine jj_iload_n (pc := 19) kR_longest_d19 rfl ?_
      refine jj_aload_n (pc := 20) kR_longest_d20 rfl ?_
      refine jj_getf (pc := 21) kR_longest_d21 (kfR_f hG) (hR.ff hF9).1 rfl ?_
      refine jj_iload_n (pc := 24) kR_longest_d24 rfl ?_
      refine jj_callV (pc := 25) (b := f) (As := [.int (nI (a))]) kR_longest_d25 (kvR_RF_columns hG) (kG_cl hG rfl) rfl hC9.1 rfl rfl rfl (Nat.le_of_ble_eq_true rfl) (Nat.le_of_ble_eq_true rfl) (jj_bare0 rfl) ?_
      refine rf_columns hG hC9 hV (by omega) ?_
      show jj G kR_longest (d + 7) Q rc9 rs9 28 [some (.ref r), some (.int (nI (l))), some (.int (nI (a))), some (.int (nI (row))), some (.int (nI (nmax F k))), some (.int (nI (k))), (o6), (o7), (o8)] [.int (V.getD (a + 1) 0), .int (nI (row))] M9
      refine jn_top (.int (nI (c))) (by rw [hb3]) ?_
      refine jn_imul (pc := 28) (rn) kR_longest_d28 hrn ?_
      refine jj_iload (pc := 29) kR_longest_d29 rfl ?_
      refine jn_iadd (pc := 31) (ix) kR_longest_d31 hix ?_
      refine jj_istore (pc := 32) kR_longest_d32 (Nat.le_of_ble_eq_true rfl) ?_
      refine jj_aload_n (pc := 34) kR_longest_d34 rfl ?_
      refine jj_getf (pc := 35) kR_longest_d35 (kfR_f hG) (hR.ff hF9).1 rfl ?_
      refine jj_getf (pc := 38) kR_longest_d38 (kfR_RF_w hG) hC9.1 rfl ?_
      refine jj_getf (pc := 41) kR_longest_d41 (kfR_RW_top hG) hw101 rfl ?_
      refine jj_istore (pc := 44) kR_longest_d44 (Nat.le_of_ble_eq_true rfl) ?_
      show jj G kR_longest (d + 7) Q rc9 rs9 46 [some (.ref r), some (.int (nI (l))), some (.int (nI (a))), some (.int (nI (row))), some (.int (nI (nmax F k))), some (.int (nI (k))), some (.int (nI (ix))), some (.int (nI (T))), (o8)] [] M9
      refine jj_aload_n (pc := 46) kR_longest_d46 rfl ?_
      refine jj_getf (pc := 47) kR_longest_d47 (kfR_f hG) (hR.ff hF9).1 rfl ?_
      refine jj_getf (pc := 50) kR_longest_d50 (kfR_RF_w hG) hC9.1 rfl ?_
      refine jj_aload_n (pc := 53) kR_longest_d53 rfl ?_
      refine jj_getf (pc := 54) kR_longest_d54 (kfR_f hG) (hR.ff hF9).1 rfl ?_
      refine jj_getf (pc := 57) kR_longest_d57 (kfR_RF_w hG) hC9.1 rfl ?_
      refine jj_iload_n (pc := 60) kR_longest_d60 rfl ?_
      refine jj_aload_n (pc := 61) kR_longest_d61 rfl ?_
      refine jj_getf (pc := 62) kR_longest_d62 (kfR_f hG) (hR.ff hF9).1 rfl ?_
      refine jj_iload_n (pc := 65) kR_longest_d65 rfl ?_
      refine jj_iload (pc := 66) kR_longest_d66 rfl ?_
      refine jj_callV (pc := 68) (b := f) (As := [.int (nI (a)), .int (nI (ix))]) kR_longest_d68 (kvR_RF_lower hG) (kG_cl hG rfl) rfl hC9.1 rfl rfl rfl (Nat.le_of_ble_eq_true rfl) (Nat.le_of_ble_eq_true rfl) (jj_bare0 rfl) ?_
      refine rf_lower hG hC9 hV (by omega) ?_
      show jj G kR_longest (d + 7) Q rc9 rs9 71 [some (.ref r), some (.int (nI (l))), some (.int (nI (a))), some (.int (nI (row))), some (.int (nI (nmax F k))), some (.int (nI (k))), some (.int (nI (ix))), some (.int (nI (T))), (o8)] [.int (V.getD (a + 3 + 2 * ix) 0), .int (nI (l)), .ref w, .ref w] M9
      refine jn_top (.int (nI (l1))) (by rw [a2]) ?_
      refine jj_callV (pc := 71) (b := w) (As := [.int (nI (l)), .int (nI (l1))]) kR_longest_d71 (kvR_RW_divide hG) (kG_cl hG rfl) rfl hw101 rfl rfl rfl (Nat.le_of_ble_eq_true rfl) (Nat.le_of_ble_eq_true rfl) (jj_bare0 rfl) ?_
      refine ri_divide (a := e) (b := s) hG hS9 hl9 r2 hd0 bl b2 (by omega) (fun M102 D102 T102 p102 s102 rc102 rs102 hS102 t102 u102 ho102 hf102 hI102 hJ102 => ?_)
      show jj G kR_longest (d + 7) Q rc102 rs102 74 [some (.ref r), some (.int (nI (l))), some (.int (nI (a))), some (.int (nI (row))), some (.int (nI (nmax F k))), some (.int (nI (k))), some (.int (nI (ix))), some (.int (nI (T))), (o8)] [.int (nI (p102)), .ref w] M102
      have hC102 := hC9.rf hf102
      have hF102 := hF9.trans (FF.ofRF hC9 hf102)
      have hl9_102 := hl9.congr t102.1 ho102
      have r1_102 := r1.congr t102.1 ho102
      have r2_102 := r2.congr t102.1 ho102
      have t102q := t102.1
      clear t102
      obtain ⟨hW103, hB103, hTD103, hz103, hp103⟩ := id hS102
      obtain ⟨dd103, hw103, hd103⟩ := id hW103
      have hcap103 := hB103.cap
      refine jj_aload_n (pc := 74) kR_longest_d74 rfl ?_
      refine jj_getf (pc := 75) kR_longest_d75 (kfR_f hG) (hR.ff hF102).1 rfl ?_
      refine jj_iload_n (pc := 78) kR_longest_d78 rfl ?_
      refine jj_iload (pc := 79) kR_longest_d79 rfl ?_
      refine jj_callV (pc := 81) (b := f) (As := [.int (nI (a)), .int (nI (ix))]) kR_longest_d81 (kvR_RF_upper hG) (kG_cl hG rfl) rfl hC102.1 rfl rfl rfl (Nat.le_of_ble_eq_true rfl) (Nat.le_of_ble_eq_true rfl) (jj_bare0 rfl) ?_
      refine rf_upper hG hC102 hV (by omega) ?_
      show jj G kR_longest (d + 7) Q rc102 rs102 84 [some (.ref r), some (.int (nI (l))), some (.int (nI (a))), some (.int (nI (row))), some (.int (nI (nmax F k))), some (.int (nI (k))), some (.int (nI (ix))), some (.int (nI (T))), (o8)] [.int (V.getD (a + 2 + 2 * ix) 0), .int (nI (p102)), .ref w] M102
      refine jn_top (.int (nI (p1))) (by rw [a1]) ?_
      refine jj_callV (pc := 84) (b := w) (As := [.int (nI (p102)), .int (nI (p1))]) kR_longest_d84 (kvR_RW_multiply hG) (kG_cl hG rfl) rfl hw103 rfl rfl rfl (Nat.le_of_ble_eq_true rfl) (Nat.le_of_ble_eq_true rfl) (jj_bare0 rfl) ?_
      refine rs_multiply (a := e) (b := s) hG hS102 hI102 r1_102 bd b1 (by omega) (fun M104 D104 T104 p104 rc104 rs104 hS104 t104 u104 ho104 hf104 hI104 => ?_)
      show jj G kR_longest (d + 7) Q rc104 rs104 87 [some (.ref r), some (.int (nI (l))), some (.int (nI (a))), some (.int (nI (row))), some (.int (nI (nmax F k))), some (.int (nI (k))), some (.int (nI (ix))), some (.int (nI (T))), (o8)] [.int (nI (p104))] M104
      have hC104 := hC102.rf hf104
      have hF104 := hF102.trans (FF.ofRF hC102 hf104)
      have hl9_104 := hl9_102.congr t104.1 ho104
      have r1_104 := r1_102.congr t104.1 ho104
      have r2_104 := r2_102.congr t104.1 ho104
      have hI102_104 := hI102.congr t104.1 ho104
      have hJ102_104 := hJ102.congr t104.1 ho104
      have t104q := t104.1
      clear t104
      obtain ⟨hW105, hB105, hTD105, hz105, hp105⟩ := id hS104
      obtain ⟨dd105, hw105, hd105⟩ := id hW105
      have hcap105 := hB105.cap
      refine jj_istore (pc := 87) kR_longest_d87 (Nat.le_of_ble_eq_true rfl) ?_
      refine jj_iload (pc := 89) kR_longest_d89 rfl ?_
      refine jj_aload_n (pc := 91) kR_longest_d91 rfl ?_
      refine jj_getf (pc := 92) kR_longest_d92 (kfR_f hG) (hR.ff hF104).1 rfl ?_
      refine jj_getf (pc := 95) kR_longest_d95 (kfR_RF_w hG) hC104.1 rfl ?_
      refine jj_iload (pc := 98) kR_longest_d98 rfl ?_
      refine jj_callV (pc := 100) (b := w) (As := [.int (nI (p104))]) kR_longest_d100 (kvR_RW_length hG) (kG_cl hG rfl) rfl hw105 rfl rfl rfl (Nat.le_of_ble_eq_true rfl) (Nat.le_of_ble_eq_true rfl) (jj_bare0 rfl) ?_
      refine ri_length hG hS104 hI104 (fun L hL0 hL1 => ?_)
      show jj G kR_longest (d + 7) Q rc104 rs104 103 [some (.ref r), some (.int (nI (l))), some (.int (nI (a))), some (.int (nI (row))), some (.int (nI (nmax F k))), some (.int (nI (k))), some (.int (nI (ix))), some (.int (nI (T))), some (.int (nI (p104)))] [.int (nI (L)), .int (nI (nmax F k))] M104
      have hLe := blen_eq hL0 hL1
      rw [← hFk] at hLe hbl
      refine jj_callS (pc := 103) (As := [.int (nI (nmax F k)), .int (nI (L))]) kR_longest_d103 (kvR_JM_max hG) rfl rfl rfl (Nat.le_of_ble_eq_true rfl) (Nat.le_of_ble_eq_true rfl) (jj_bare0 rfl) ?_
      refine jm_max ?_
      show jj G kR_longest (d + 7) Q rc104 rs104 106 [some (.ref r), some (.int (nI (l))), some (.int (nI (a))), some (.int (nI (row))), some (.int (nI (nmax F k))), some (.int (nI (k))), some (.int (nI (ix))), some (.int (nI (T))), some (.int (nI (p104)))] [.int (if nI (nmax F k) < nI (L) then nI (L) else nI (nmax F k))] M104
      refine jn_top (.int (nI (nmax F (k + 1)))) (by rw [nI_mx (by omega) (by omega), hLe]; rfl) ?_
      refine jj_istore (pc := 106) kR_longest_d106 (Nat.le_of_ble_eq_true rfl) ?_
      refine jj_aload_n (pc := 108) kR_longest_d108 rfl ?_
      refine jj_getf (pc := 109) kR_longest_d109 (kfR_f hG) (hR.ff hF104).1 rfl ?_
      refine jj_getf (pc := 112) kR_longest_d112 (kfR_RF_w hG) hC104.1 rfl ?_
      refine jj_iload (pc := 115) kR_longest_d115 rfl ?_
      refine jj_putf (pc := 117) kR_longest_d117 (kpR_RW_top hG) hw105 (by rfl) rfl ?_
      refine jn_gen (fun M106 hM107 => ?_)
      have hf108 : RF M104 M106 w := by rw [hM107]; exact RF.top hw105
      have hS108 : RS M106 w D104 (T) (.int (nI (s102))) cm X Z rc104 rs104 := ⟨⟨dd105, by rw [hM107]; exact jj_up_at _ _ _, by rw [hM107, jj_up_ne _ _ (fun e => by have q1 := hd105; rw [e, hw105] at q1; cases q1)]; exact hd105⟩, hB105, by omega, hz105, by omega⟩
      have hC108 := hC104.rf hf108
      have hF108 := hF104.trans (FF.ofRF hC104 hf108)
      obtain ⟨hW109, hB109, hTD109, hz109, hp109⟩ := id hS108
      obtain ⟨dd109, hw109, hd109⟩ := id hW109
      have hcap109 := hB109.cap
      refine jn_iinc (pc := 120) (k + 1) kR_longest_d120 rfl (nI_1 _) ?_
      refine jj_goto (pc := 123) (tgt := 6) kR_longest_d123 (by decide) ?_
      show jj G kR_longest (d + 7) Q rc104 rs104 6 [some (.ref r), some (.int (nI (l))), some (.int (nI (a))), some (.int (nI (row))), some (.int (nI (nmax F (k + 1)))), some (.int (nI (k + 1))), some (.int (nI (ix))), some (.int (nI (T))), some (.int (nI (p104)))] [] M106
      exact ih (k + 1) (by omega) _ _ _ M106 D104 _ rc104 rs104 hC108 hS108 (fun i hi => by rw [ho104 i (by omega), ho102 i (by omega), ho9 i (by omega)]) hF108 (Nat.max_le.mpr ⟨hmx, by omega⟩)
  show jj G kR_longest (d + 7) Q rc rs 0 [some (.ref r), some (.int (nI (l))), some (.int (nI (a))), some (.int (nI (row))), none, none, none, none, none] [] M
  refine jn_iconst (pc := 0) 0 kR_longest_d0 (by decide) ?_
  refine jj_istore (pc := 1) kR_longest_d1 (Nat.le_of_ble_eq_true rfl) ?_
  refine jn_iconst (pc := 3) 0 kR_longest_d3 (by decide) ?_
  refine jj_istore (pc := 4) kR_longest_d4 (Nat.le_of_ble_eq_true rfl) ?_
  show jj G kR_longest (d + 7) Q rc rs 6 [some (.ref r), some (.int (nI (l))), some (.int (nI (a))), some (.int (nI (row))), some (.int (nI (0))), some (.int (nI (0))), none, none, none] [] M
  show jj G kR_longest (d + 7) Q rc rs 6 [some (.ref r), some (.int (nI (l))), some (.int (nI (a))), some (.int (nI (row))), some (.int (nI (0))), some (.int (nI (0))), none, none, none] [] M
  exact loop c 0 (by omega) none none none M D v2 rc rs hC hS (fun _ _ => rfl) (FF.refl M f) (Nat.zero_le _)
end RM3
