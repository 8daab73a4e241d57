/-! ===== the reference: limbsOf (printed by wip/gen/rm5.py) ===== -/
theorem blen_ZB {z : Int} (h : blen z ≤ 4000) : ZB 267 z := by
  unfold ZB blen at *
  by_cases e : z = 0
  · rw [e]; exact Nat.pow_pos (by decide)
  · rw [if_neg e] at h
    have hz : z.natAbs ≠ 0 := by omega
    have h1 : z.natAbs < 2 ^ 4000 := (Nat.log2_lt hz).mp (by omega)
    rw [show (32768 : Nat) = 2 ^ 15 from rfl, ← Nat.pow_mul]
    exact Nat.lt_of_lt_of_le h1 (Nat.pow_le_pow_right (by decide) (by decide))
/-- the cells fit: their common lower part, and each times that -/
def fitC (q : Nat → Rat) (n : Nat) : Prop := (∀ k, k ≤ n → blen (lcmf 1 (fun j => (q j).den) k) ≤ 4000) ∧ ∀ j, j < n → blen (lcmf 1 (fun j => (q j).den) n / ((q j).den : Int) * (q j).num) ≤ 4000
def limbC (q : Nat → Rat) (n : Nat) : Nat := (blen (lcmf 1 (fun j => (q j).den) n) + 31) / 32 + nsum (fun j => (blen (lcmf 1 (fun j => (q j).den) n / ((q j).den : Int) * (q j).num) + 31) / 32) n
section RM5
variable {G : jg} {d : Nat} {Q : jq} {rc rs : Nat} {M : mheap} {r f w vv pv fo st : Nat} {v2 : Value} {D V P : List Int32} {t : Nat} {up low rk code : Int32}
theorem rm_limbsOf {a R c lo T s cm X Z : Nat} {q : Nat → Rat} (hG : kG G) (hR : RMC M r f fo st code) (hC : FC M f w vv pv V t up low P rk) (hS : RS M w D T v2 cm X Z rc rs) (hV : V.length < 2 ^ 31) (htV : t ≤ V.length) (hT3 : 3 ≤ T) (h1 : RI D T 1 1) (hb : MX D T V t a R c lo q) (hR' : R < 64) (hc : c < 64) (hq : ∀ k, k < R * c → ZB s (q k).num ∧ ZB s ((q k).den : Int)) (hs : s ≤ 5000) (hT : T + 20000 + 20 * s + 10000 ≤ cm)
    (K0 : ∀ M' D' v2' rc' rs', ¬ fitC q (R * c) → FC M' f w vv pv V t up low P rk → RS M' w D' T v2' cm X Z rc' rs' → (∀ i, i < T → D'.getD i 0 = D.getD i 0) → FF M M' f → Q (.returned (some (.int (-1)))) M' rc' rs')
    (K1 : ∀ M' D' v2' rc' rs', fitC q (R * c) → FC M' f w vv pv V t up low P rk → RS M' w D' T v2' cm X Z rc' rs' → (∀ i, i < T → D'.getD i 0 = D.getD i 0) → FF M M' f → Q (.returned (some (.int (nI (limbC q (R * c)))))) M' rc' rs') : jj G kR_limbsOf (d + 9) Q rc rs 0 (jj_ent [.ref r, .int (nI a)] 8) [] M := by
  have hcapD := hS.2.1.cap
  obtain ⟨hb1, hb2, hb3, hb4⟩ := id hb
  have hRc : R * c < 64 * 64 := Nat.mul_lt_mul_of_lt_of_le hR' (by omega) (by decide)
  obtain ⟨n, hn⟩ : ∃ n, R * c = n := ⟨_, rfl⟩
  rw [hn] at hb1 hb4 hRc hq K0 K1
  unfold fitC at K0 K1
  unfold limbC at K1
  generalize hF_ : (fun j => (q j).den) = F at K0 K1
  have hFk : ∀ k, F k = (q k).den := fun k => by rw [← hF_]
  obtain ⟨Lc, hLc⟩ : ∃ Lc, lcmf 1 F n = Lc := ⟨_, rfl⟩
  generalize hG_ : (fun j => (blen (lcmf 1 F n / ((q j).den : Int) * (q j).num) + 31) / 32) = Gf at K1
  rw [hLc] at K0 K1
  have half : ∀ (pl T8 : Nat) (D8 : List Int32), (∀ k, k ≤ n → blen (lcmf 1 F k) ≤ 4000) → RI D8 T8 pl Lc → 0 < Lc → T ≤ T8 → T8 ≤ T + 270 + s + 10 → (∀ i, i < T → D8.getD i 0 = D.getD i 0) → ∀ mu k, n = k + mu → ∀ (o7 : Option Value) (al : Nat) (M9 : mheap) (D9 : List Int32) (v9 : Value) (rc9 rs9 : Nat), al = (blen Lc + 31) / 32 + nsum Gf k → al ≤ 126 + k * 126 → (∀ j, j < k → blen (Lc / ((q j).den : Int) * (q j).num) ≤ 4000) → FC M9 f w vv pv V t up low P rk → RS M9 w D9 T8 v9 cm X Z rc9 rs9 → (∀ i, i < T8 → D9.getD i 0 = D8.getD i 0) → FF M M9 f → jj G kR_limbsOf (d + 9) Q rc9 rs9 133 [some (.ref r), some (.int (nI (a))), some (.int (nI (T))), some (.int (nI (pl))), some (.int (nI (al))), some (.int (nI (T8))), some (.int (nI (k))), (o7)] [] M9 := by
    intro pl T8 D8 hfit hI8 hL0 t8 u8 ho8 mu
    have bL : ZB 267 Lc := by rw [← hLc]; exact blen_ZB (hfit n (Nat.le_refl _))
    induction mu with
    | zero =>
      intro k hk o7 al M9 D9 v9 rc9 rs9 hal hall hf9 hC9 hS9 ho9 hF9
      have e9 : n = k := by omega
      subst e9
      obtain ⟨hW101, hB101, hTD101, hz101, hp101⟩ := id hS9
      obtain ⟨dd101, hw101, hd101⟩ := id hW101
      have hcap101 := hB101.cap
      refine jj_iload (pc := 133) kR_limbsOf_d133 rfl ?_
      refine jj_aload_n (pc := 135) kR_limbsOf_d135 rfl ?_
      refine jj_getf (pc := 136) kR_limbsOf_d136 (kfR_f hG) (hR.ff hF9).1 rfl ?_
      refine jj_iload_n (pc := 139) kR_limbsOf_d139 rfl ?_
      refine jj_callV (pc := 140) (b := f) (As := [.int (nI (a))]) kR_limbsOf_d140 (kvR_RF_cells hG) (kG_cl hG rfl) rfl hC9.1 rfl rfl rfl (Nat.le_of_ble_eq_true rfl) (Nat.le_of_ble_eq_true rfl) (jj_bare0 rfl) ?_
      refine rf_cells (r := R) (c := c) hG hC9 hV (by omega) hb2 hb3 ?_
      show jj G kR_limbsOf (d + 9) Q rc9 rs9 143 [some (.ref r), some (.int (nI (a))), some (.int (nI (T))), some (.int (nI (pl))), some (.int (nI (al))), some (.int (nI (T8))), some (.int (nI (n))), (o7)] [.int (nI (R * c)), .int (nI (n))] M9
      refine jn_top (.int (nI (n))) (by rw [hn]) ?_
      refine jn_icmp_ge (pc := 143) (tgt := 245) kR_limbsOf_d143 (by decide) (by omega) (by omega) (fun _ => ?_) (fun c => by exfalso; omega)
      refine jj_aload_n (pc := 245) kR_limbsOf_d245 rfl ?_
      refine jj_getf (pc := 246) kR_limbsOf_d246 (kfR_f hG) (hR.ff hF9).1 rfl ?_
      refine jj_getf (pc := 249) kR_limbsOf_d249 (kfR_RF_w hG) hC9.1 rfl ?_
      refine jj_iload_n (pc := 252) kR_limbsOf_d252 rfl ?_
      refine jj_putf (pc := 253) kR_limbsOf_d253 (kpR_RW_top hG) hw101 (by rfl) rfl ?_
      refine jn_gen (fun M102 hM103 => ?_)
      have hf104 : RF M9 M102 w := by rw [hM103]; exact RF.top hw101
      have hS104 : RS M102 w D9 (T) v9 cm X Z rc9 rs9 := ⟨⟨dd101, by rw [hM103]; exact jj_up_at _ _ _, by rw [hM103, jj_up_ne _ _ (fun e => by have q1 := hd101; rw [e, hw101] at q1; cases q1)]; exact hd101⟩, hB101, by omega, hz101, by omega⟩
      have hC104 := hC9.rf hf104
      have hF104 := hF9.trans (FF.ofRF hC9 hf104)
      obtain ⟨hW105, hB105, hTD105, hz105, hp105⟩ := id hS104
      obtain ⟨dd105, hw105, hd105⟩ := id hW105
      have hcap105 := hB105.cap
      refine jj_iload (pc := 256) kR_limbsOf_d256 rfl ?_
      exact jj_iret (pc := 258) kR_limbsOf_d258 rfl (by rfl) (by rw [hal]; exact K1 M102 D9 _ rc9 rs9 ⟨hfit, hf9⟩ hC104 hS104 (fun i hi => by rw [ho9 i (by omega), ho8 i hi]) hF104)
    | succ mu ih =>
      intro k hk o7 al M9 D9 v9 rc9 rs9 hal hall hf9 hC9 hS9 ho9 hF9
      obtain ⟨p1, l1, a1, a2, a3, -⟩ := (hb4 k (by omega)).congr (D' := D9) (V' := V) (T' := T8) (lo' := lo) t8 (fun i hi => by rw [ho9 i (by omega), ho8 i hi]) (fun _ _ _ => rfl) (Nat.le_refl _)
      obtain ⟨r1, r2, r3⟩ := id a3
      have lp1 := r1.lt
      have ll1 := r2.lt
      have hl9 := hI8.congr (Nat.le_refl _) ho9
      obtain ⟨b1, b2⟩ := hq k (by omega)
      have hd0 : 0 < ((q k).den : Int) := by have := (q k).den_pos; omega
      have bd : ZB 267 (Lc / ((q k).den : Int)) := bL.ediv hd0
      have bp : ZB (267 + s) (Lc / ((q k).den : Int) * (q k).num) := bd.mul b1
      have hbl := blen_lt bp
      have hGk : Gf k = (blen (Lc / ((q k).den : Int) * (q k).num) + 31) / 32 := by rw [← hG_, ← hLc]
      have hns : nsum Gf (k + 1) = nsum Gf k + Gf k := rfl
      obtain ⟨hW106, hB106, hTD106, hz106, hp106⟩ := id hS9
      obtain ⟨dd106, hw106, hd106⟩ := id hW106
      have hcap106 := hB106.cap
      refine jj_iload (pc := 133) kR_limbsOf_d133 rfl ?_
      refine jj_aload_n (pc := 135) kR_limbsOf_d135 rfl ?_
      refine jj_getf (pc := 136) kR_limbsOf_d136 (kfR_f hG) (hR.ff hF9).1 rfl ?_
      refine jj_iload_n (pc := 139) kR_limbsOf_d139 rfl ?_
      refine jj_callV (pc := 140) (b := f) (As := [.int (nI (a))]) kR_limbsOf_d140 (kvR_RF_cells hG) (kG_cl hG rfl) rfl hC9.1 rfl rfl rfl (Nat.le_of_ble_eq_true rfl) (Nat.le_of_ble_eq_true rfl) (jj_bare0 rfl) ?_
      refine rf_cells (r := R) (c := c) hG hC9 hV (by omega) hb2 hb3 ?_
      show jj G kR_limbsOf (d + 9) Q rc9 rs9 143 [some (.ref r), some (.int (nI (a))), some (.int (nI (T))), some (.int (nI (pl))), some (.int (nI (al))), some (.int (nI (T8))), some (.int (nI (k))), (o7)] [.int (nI (R * c)), .int (nI (k))] M9
      refine jn_top (.int (nI (n))) (by rw [hn]) ?_
      refine jn_icmp_ge (pc := 143) (tgt := 245) kR_limbsOf_d143 (by decide) (by omega) (by omega) (fun c => by exfalso; omega) (fun _ => ?_)
      refine jj_iload (pc := 146) kR_limbsOf_d146 rfl ?_
      refine jj_iconst (pc := 148) (v := (-1)) kR_limbsOf_d148 (by decide) ?_
      refine jj_icmp_eq (pc := 149) (tgt := 245) kR_limbsOf_d149 (by decide) (fun c => absurd c (nI_m1ne (by omega))) (fun _ => ?_)
      refine jj_aload_n (pc := 152) kR_limbsOf_d152 rfl ?_
      refine jj_getf (pc := 153) kR_limbsOf_d153 (kfR_f hG) (hR.ff hF9).1 rfl ?_
      refine jj_getf (pc := 156) kR_limbsOf_d156 (kfR_RF_w hG) hC9.1 rfl ?_
      refine jj_aload_n (pc := 159) kR_limbsOf_d159 rfl ?_
      refine jj_getf (pc := 160) kR_limbsOf_d160 (kfR_f hG) (hR.ff hF9).1 rfl ?_
      refine jj_getf (pc := 163) kR_limbsOf_d163 (kfR_RF_w hG) hC9.1 rfl ?_
      refine jj_aload_n (pc := 166) kR_limbsOf_d166 rfl ?_
      refine jj_getf (pc := 167) kR_limbsOf_d167 (kfR_f hG) (hR.ff hF9).1 rfl ?_
      refine jj_getf (pc := 170) kR_limbsOf_d170 (kfR_RF_w hG) hC9.1 rfl ?_
      refine jj_iload_n (pc := 173) kR_limbsOf_d173 rfl ?_
      refine jj_aload_n (pc := 174) kR_limbsOf_d174 rfl ?_
      refine jj_getf (pc := 175) kR_limbsOf_d175 (kfR_f hG) (hR.ff hF9).1 rfl ?_
      refine jj_iload_n (pc := 178) kR_limbsOf_d178 rfl ?_
      refine jj_iload (pc := 179) kR_limbsOf_d179 rfl ?_
      refine jj_callV (pc := 181) (b := f) (As := [.int (nI (a)), .int (nI (k))]) kR_limbsOf_d181 (kvR_RF_lower hG) (kG_cl hG rfl) rfl hC9.1 rfl rfl rfl (Nat.le_of_ble_eq_true rfl) (Nat.le_of_ble_eq_true rfl) (jj_bare0 rfl) ?_
      refine rf_lower hG hC9 hV (by omega) ?_
      show jj G kR_limbsOf (d + 9) Q rc9 rs9 184 [some (.ref r), some (.int (nI (a))), some (.int (nI (T))), some (.int (nI (pl))), some (.int (nI (al))), some (.int (nI (T8))), some (.int (nI (k))), (o7)] [.int (V.getD (a + 3 + 2 * k) 0), .int (nI (pl)), .ref w, .ref w, .ref w] M9
      refine jn_top (.int (nI (l1))) (by rw [a2]) ?_
      refine jj_callV (pc := 184) (b := w) (As := [.int (nI (pl)), .int (nI (l1))]) kR_limbsOf_d184 (kvR_RW_divide hG) (kG_cl hG rfl) rfl hw106 rfl rfl rfl (Nat.le_of_ble_eq_true rfl) (Nat.le_of_ble_eq_true rfl) (jj_bare0 rfl) ?_
      refine ri_divide (a := 267) (b := s) hG hS9 hl9 r2 hd0 bL b2 (by omega) (fun M107 D107 T107 p107 s107 rc107 rs107 hS107 t107 u107 ho107 hf107 hI107 hJ107 => ?_)
      show jj G kR_limbsOf (d + 9) Q rc107 rs107 187 [some (.ref r), some (.int (nI (a))), some (.int (nI (T))), some (.int (nI (pl))), some (.int (nI (al))), some (.int (nI (T8))), some (.int (nI (k))), (o7)] [.int (nI (p107)), .ref w, .ref w] M107
      have hC107 := hC9.rf hf107
      have hF107 := hF9.trans (FF.ofRF hC9 hf107)
      have hl9_107 := hl9.congr t107.1 ho107
      have r1_107 := r1.congr t107.1 ho107
      have r2_107 := r2.congr t107.1 ho107
      have t107q := t107.1
      clear t107
      obtain ⟨hW108, hB108, hTD108, hz108, hp108⟩ := id hS107
      obtain ⟨dd108, hw108, hd108⟩ := id hW108
      have hcap108 := hB108.cap
      refine jj_aload_n (pc := 187) kR_limbsOf_d187 rfl ?_
      refine jj_getf (pc := 188) kR_limbsOf_d188 (kfR_f hG) (hR.ff hF107).1 rfl ?_
      refine jj_iload_n (pc := 191) kR_limbsOf_d191 rfl ?_
      refine jj_iload (pc := 192) kR_limbsOf_d192 rfl ?_
      refine jj_callV (pc := 194) (b := f) (As := [.int (nI (a)), .int (nI (k))]) kR_limbsOf_d194 (kvR_RF_upper hG) (kG_cl hG rfl) rfl hC107.1 rfl rfl rfl (Nat.le_of_ble_eq_true rfl) (Nat.le_of_ble_eq_true rfl) (jj_bare0 rfl) ?_
      refine rf_upper hG hC107 hV (by omega) ?_
      show jj G kR_limbsOf (d + 9) Q rc107 rs107 197 [some (.ref r), some (.int (nI (a))), some (.int (nI (T))), some (.int (nI (pl))), some (.int (nI (al))), some (.int (nI (T8))), some (.int (nI (k))), (o7)] [.int (V.getD (a + 2 + 2 * k) 0), .int (nI (p107)), .ref w, .ref w] M107
      refine jn_top (.int (nI (p1))) (by rw [a1]) ?_
      refine jj_callV (pc := 197) (b := w) (As := [.int (nI (p107)), .int (nI (p1))]) kR_limbsOf_d197 (kvR_RW_multiply hG) (kG_cl hG rfl) rfl hw108 rfl rfl rfl (Nat.le_of_ble_eq_true rfl) (Nat.le_of_ble_eq_true rfl) (jj_bare0 rfl) ?_
      refine rs_multiply (a := 267) (b := s) hG hS107 hI107 r1_107 bd b1 (by omega) (fun M109 D109 T109 p109 rc109 rs109 hS109 t109 u109 ho109 hf109 hI109 => ?_)
      show jj G kR_limbsOf (d + 9) Q rc109 rs109 200 [some (.ref r), some (.int (nI (a))), some (.int (nI (T))), some (.int (nI (pl))), some (.int (nI (al))), some (.int (nI (T8))), some (.int (nI (k))), (o7)] [.int (nI (p109)), .ref w] M109
      have hC109 := hC107.rf hf109
      have hF109 := hF107.trans (FF.ofRF hC107 hf109)
      have hl9_109 := hl9_107.congr t109.1 ho109
      have r1_109 := r1_107.congr t109.1 ho109
      have r2_109 := r2_107.congr t109.1 ho109
      have hI107_109 := hI107.congr t109.1 ho109
      have hJ107_109 := hJ107.congr t109.1 ho109
      have t109q := t109.1
      clear t109
      obtain ⟨hW110, hB110, hTD110, hz110, hp110⟩ := id hS109
      obtain ⟨dd110, hw110, hd110⟩ := id hW110
      have hcap110 := hB110.cap
      refine jj_callV (pc := 200) (b := w) (As := [.int (nI (p109))]) kR_limbsOf_d200 (kvR_RW_length hG) (kG_cl hG rfl) rfl hw110 rfl rfl rfl (Nat.le_of_ble_eq_true rfl) (Nat.le_of_ble_eq_true rfl) (jj_bare0 rfl) ?_
      refine ri_length hG hS109 hI109 (fun L hL0' hL1 => ?_)
      show jj G kR_limbsOf (d + 9) Q rc109 rs109 203 [some (.ref r), some (.int (nI (a))), some (.int (nI (T))), some (.int (nI (pl))), some (.int (nI (al))), some (.int (nI (T8))), some (.int (nI (k))), (o7)] [.int (nI (L))] M109
      have hLe := blen_eq hL0' hL1
      rw [← hLe] at hGk hbl
      refine jj_istore (pc := 203) kR_limbsOf_d203 (Nat.le_of_ble_eq_true rfl) ?_
      refine jj_iload (pc := 205) kR_limbsOf_d205 rfl ?_
      refine jn_sipush (pc := 207) 4000 kR_limbsOf_d207 (by decide) ?_
      refine jn_icmp_le (pc := 210) (tgt := 217) kR_limbsOf_d210 (by decide) (by omega) (by omega) (fun c1 => ?_) (fun c1 => ?_)
      · skip
        refine jj_iload (pc := 217) kR_limbsOf_d217 rfl ?_
        refine jj_iload (pc := 219) kR_limbsOf_d219 rfl ?_
        refine jj_callS (pc := 221) (As := [.int (nI (L))]) kR_limbsOf_d221 (kvR_R_limbs hG) rfl rfl rfl (Nat.le_of_ble_eq_true rfl) (Nat.le_of_ble_eq_true rfl) (jj_bare0 rfl) ?_
        refine rm_limbs (by omega) ?_
        show jj G kR_limbsOf (d + 9) Q rc109 rs109 224 [some (.ref r), some (.int (nI (a))), some (.int (nI (T))), some (.int (nI (pl))), some (.int (nI (al))), some (.int (nI (T8))), some (.int (nI (k))), some (.int (nI (L)))] [.int (nI ((L + 31) / 32)), .int (nI (al))] M109
        refine jn_iadd (pc := 224) (al + (L + 31) / 32) kR_limbsOf_d224 (by omega) ?_
        refine jj_istore (pc := 225) kR_limbsOf_d225 (Nat.le_of_ble_eq_true rfl) ?_
        refine jj_aload_n (pc := 227) kR_limbsOf_d227 rfl ?_
        refine jj_getf (pc := 228) kR_limbsOf_d228 (kfR_f hG) (hR.ff hF109).1 rfl ?_
        refine jj_getf (pc := 231) kR_limbsOf_d231 (kfR_RF_w hG) hC109.1 rfl ?_
        refine jj_iload (pc := 234) kR_limbsOf_d234 rfl ?_
        refine jj_putf (pc := 236) kR_limbsOf_d236 (kpR_RW_top hG) hw110 (by rfl) rfl ?_
        refine jn_gen (fun M111 hM112 => ?_)
        have hf113 : RF M109 M111 w := by rw [hM112]; exact RF.top hw110
        have hS113 : RS M111 w D109 (T8) (.int (nI (s107))) cm X Z rc109 rs109 := ⟨⟨dd110, by rw [hM112]; exact jj_up_at _ _ _, by rw [hM112, jj_up_ne _ _ (fun e => by have q1 := hd110; rw [e, hw110] at q1; cases q1)]; exact hd110⟩, hB110, by omega, hz110, by omega⟩
        have hC113 := hC109.rf hf113
        have hF113 := hF109.trans (FF.ofRF hC109 hf113)
        obtain ⟨hW114, hB114, hTD114, hz114, hp114⟩ := id hS113
        obtain ⟨dd114, hw114, hd114⟩ := id hW114
        have hcap114 := hB114.cap
        refine jn_iinc (pc := 239) (k + 1) kR_limbsOf_d239 rfl (nI_1 _) ?_
        refine jj_goto (pc := 242) (tgt := 133) kR_limbsOf_d242 (by decide) ?_
        show jj G kR_limbsOf (d + 9) Q rc109 rs109 133 [some (.ref r), some (.int (nI (a))), some (.int (nI (T))), some (.int (nI (pl))), some (.int (nI (al + (L + 31) / 32))), some (.int (nI (T8))), some (.int (nI (k + 1))), some (.int (nI (L)))] [] M111
        have hGe : al + (L + 31) / 32 = (blen Lc + 31) / 32 + nsum Gf (k + 1) := by rw [hns, hGk, hal]; omega
        exact ih (k + 1) (by omega) _ (al + (L + 31) / 32) M111 D109 _ rc109 rs109 hGe (by omega) (fun j hj => by
            by_cases e : j = k
            · rw [e, ← hLe]; exact c1
            · exact hf9 j (by omega)) hC113 hS113 (fun i hi => by rw [ho109 i (by omega), ho107 i (by omega), ho9 i (by omega)]) hF113
      · skip
        have hnf : ¬ ((∀ k, k ≤ n → blen (lcmf 1 F k) ≤ 4000) ∧ ∀ j, j < n → blen (Lc / ((q j).den : Int) * (q j).num) ≤ 4000) := fun h => by have := h.2 k (by omega); omega
        refine jj_iconst (pc := 213) (v := (-1)) kR_limbsOf_d213 (by decide) ?_
        refine jj_goto (pc := 214) (tgt := 225) kR_limbsOf_d214 (by decide) ?_
        refine jj_istore (pc := 225) kR_limbsOf_d225 (Nat.le_of_ble_eq_true rfl) ?_
        show jj G kR_limbsOf (d + 9) Q rc109 rs109 227 [some (.ref r), some (.int (nI (a))), some (.int (nI (T))), some (.int (nI (pl))), some (.int (-1)), some (.int (nI (T8))), some (.int (nI (k))), some (.int (nI (L)))] [] M109
        refine jj_aload_n (pc := 227) kR_limbsOf_d227 rfl ?_
        refine jj_getf (pc := 228) kR_limbsOf_d228 (kfR_f hG) (hR.ff hF109).1 rfl ?_
        refine jj_getf (pc := 231) kR_limbsOf_d231 (kfR_RF_w hG) hC109.1 rfl ?_
        refine jj_iload (pc := 234) kR_limbsOf_d234 rfl ?_
        refine jj_putf (pc := 236) kR_limbsOf_d236 (kpR_RW_top hG) hw110 (by rfl) rfl ?_
        refine jn_gen (fun M115 hM116 => ?_)
        have hf117 : RF M109 M115 w := by rw [hM116]; exact RF.top hw110
        have hS117 : RS M115 w D109 (T8) (.int (nI (s107))) cm X Z rc109 rs109 := ⟨⟨dd110, by rw [hM116]; exact jj_up_at _ _ _, by rw [hM116, jj_up_ne _ _ (fun e => by have q1 := hd110; rw [e, hw110] at q1; cases q1)]; exact hd110⟩, hB110, by omega, hz110, by omega⟩
        have hC117 := hC109.rf hf117
        have hF117 := hF109.trans (FF.ofRF hC109 hf117)
        obtain ⟨hW118, hB118, hTD118, hz118, hp118⟩ := id hS117
        obtain ⟨dd118, hw118, hd118⟩ := id hW118
        have hcap118 := hB118.cap
        refine jn_iinc (pc := 239) (k + 1) kR_limbsOf_d239 rfl (nI_1 _) ?_
        refine jj_goto (pc := 242) (tgt := 133) kR_limbsOf_d242 (by decide) ?_
        refine jj_iload (pc := 133) kR_limbsOf_d133 rfl ?_
        refine jj_aload_n (pc := 135) kR_limbsOf_d135 rfl ?_
        refine jj_getf (pc := 136) kR_limbsOf_d136 (kfR_f hG) (hR.ff hF117).1 rfl ?_
        refine jj_iload_n (pc := 139) kR_limbsOf_d139 rfl ?_
        refine jj_callV (pc := 140) (b := f) (As := [.int (nI (a))]) kR_limbsOf_d140 (kvR_RF_cells hG) (kG_cl hG rfl) rfl hC117.1 rfl rfl rfl (Nat.le_of_ble_eq_true rfl) (Nat.le_of_ble_eq_true rfl) (jj_bare0 rfl) ?_
        refine rf_cells (r := R) (c := c) hG hC117 hV (by omega) hb2 hb3 ?_
        show jj G kR_limbsOf (d + 9) Q rc109 rs109 143 [some (.ref r), some (.int (nI (a))), some (.int (nI (T))), some (.int (nI (pl))), some (.int (-1)), some (.int (nI (T8))), some (.int (nI (k + 1))), some (.int (nI (L)))] [.int (nI (R * c)), .int (nI (k + 1))] M115
        refine jn_top (.int (nI (n))) (by rw [hn]) ?_
        refine jn_icmp_ge (pc := 143) (tgt := 245) kR_limbsOf_d143 (by decide) (by omega) (by omega) (fun c2 => ?_) (fun c2 => ?_)
        · skip
          refine jj_aload_n (pc := 245) kR_limbsOf_d245 rfl ?_
          refine jj_getf (pc := 246) kR_limbsOf_d246 (kfR_f hG) (hR.ff hF117).1 rfl ?_
          refine jj_getf (pc := 249) kR_limbsOf_d249 (kfR_RF_w hG) hC117.1 rfl ?_
          refine jj_iload_n (pc := 252) kR_limbsOf_d252 rfl ?_
          refine jj_putf (pc := 253) kR_limbsOf_d253 (kpR_RW_top hG) hw118 (by rfl) rfl ?_
          refine jn_gen (fun M119 hM120 => ?_)
          have hf121 : RF M115 M119 w := by rw [hM120]; exact RF.top hw118
          have hS121 : RS M119 w D109 (T) (.int (nI (s107))) cm X Z rc109 rs109 := ⟨⟨dd118, by rw [hM120]; exact jj_up_at _ _ _, by rw [hM120, jj_up_ne _ _ (fun e => by have q1 := hd118; rw [e, hw118] at q1; cases q1)]; exact hd118⟩, hB118, by omega, hz118, by omega⟩
          have hC121 := hC117.rf hf121
          have hF121 := hF117.trans (FF.ofRF hC117 hf121)
          obtain ⟨hW122, hB122, hTD122, hz122, hp122⟩ := id hS121
          obtain ⟨dd122, hw122, hd122⟩ := id hW122
          have hcap122 := hB122.cap
          refine jj_iload (pc := 256) kR_limbsOf_d256 rfl ?_
          exact jj_iret (pc := 258) kR_limbsOf_d258 rfl (by rfl) (K0 M119 D109 _ _ _ hnf hC121 hS121 (fun i hi => by rw [ho109 i (by omega), ho107 i (by omega), ho9 i (by omega), ho8 i hi]) hF121)
        · skip
          refine jj_iload (pc := 146) kR_limbsOf_d146 rfl ?_
          refine jj_iconst (pc := 148) (v := (-1)) kR_limbsOf_d148 (by decide) ?_
          refine jj_icmp_eq (pc := 149) (tgt := 245) kR_limbsOf_d149 (by decide) (fun _ => ?_) (fun c => absurd c (by decide))
          refine jj_aload_n (pc := 245) kR_limbsOf_d245 rfl ?_
          refine jj_getf (pc := 246) kR_limbsOf_d246 (kfR_f hG) (hR.ff hF117).1 rfl ?_
          refine jj_getf (pc := 249) kR_limbsOf_d249 (kfR_RF_w hG) hC117.1 rfl ?_
          refine jj_iload_n (pc := 252) kR_limbsOf_d252 rfl ?_
          refine jj_putf (pc := 253) kR_limbsOf_d253 (kpR_RW_top hG) hw118 (by rfl) rfl ?_
          refine jn_gen (fun M123 hM124 => ?_)
          have hf125 : RF M115 M123 w := by rw [hM124]; exact RF.top hw118
          have hS125 : RS M123 w D109 (T) (.int (nI (s107))) cm X Z rc109 rs109 := ⟨⟨dd118, by rw [hM124]; exact jj_up_at _ _ _, by rw [hM124, jj_up_ne _ _ (fun e => by have q1 := hd118; rw [e, hw118] at q1; cases q1)]; exact hd118⟩, hB118, by omega, hz118, by omega⟩
          have hC125 := hC117.rf hf125
          have hF125 := hF117.trans (FF.ofRF hC117 hf125)
          obtain ⟨hW126, hB126, hTD126, hz126, hp126⟩ := id hS125
          obtain ⟨dd126, hw126, hd126⟩ := id hW126
          have hcap126 := hB126.cap
          refine jj_iload (pc := 256) kR_limbsOf_d256 rfl ?_
          exact jj_iret (pc := 258) kR_limbsOf_d258 rfl (by rfl) (K0 M123 D109 _ _ _ hnf hC125 hS125 (fun i hi => by rw [ho109 i (by omega), ho107 i (by omega), ho9 i (by omega), ho8 i hi]) hF125)
  have loop : ∀ mu k, n = k + mu → ∀ (o5 o6 o7 : Option Value) (pl : Nat) (M9 : mheap) (D9 : List Int32) (T9 : Nat) (v9 : Value) (rc9 rs9 : Nat), (∀ k', k' ≤ k → blen (lcmf 1 F k') ≤ 4000) → 0 < lcmf 1 F k → RI D9 T9 pl (lcmf 1 F k) → (pl = 1 ∨ pl = T) → FC M9 f w vv pv V t up low P rk → RS M9 w D9 T9 v9 cm X Z rc9 rs9 → T ≤ T9 → T9 ≤ T + 270 + s + 10 → (∀ i, i < T → D9.getD i 0 = D.getD i 0) → FF M M9 f → jj G kR_limbsOf (d + 9) Q rc9 rs9 16 [some (.ref r), some (.int (nI (a))), some (.int (nI (T))), some (.int (nI (pl))), some (.int (nI (k))), (o5), (o6), (o7)] [] M9 := by
    intro mu
    induction mu with
    | zero =>
      intro k hk o5 o6 o7 pl M9 D9 T9 v9 rc9 rs9 hfit hL0 hI9 hpl hC9 hS9 t9 u9 ho9 hF9
      have e9 : n = k := by omega
      subst e9
      have lpl := hI9.lt
      have hcap9 := hS9.2.1.cap
      have hbn := hfit n (Nat.le_refl _)
      obtain ⟨hW127, hB127, hTD127, hz127, hp127⟩ := id hS9
      obtain ⟨dd127, hw127, hd127⟩ := id hW127
      have hcap127 := hB127.cap
      refine jj_iload (pc := 16) kR_limbsOf_d16 rfl ?_
      refine jj_aload_n (pc := 18) kR_limbsOf_d18 rfl ?_
      refine jj_getf (pc := 19) kR_limbsOf_d19 (kfR_f hG) (hR.ff hF9).1 rfl ?_
      refine jj_iload_n (pc := 22) kR_limbsOf_d22 rfl ?_
      refine jj_callV (pc := 23) (b := f) (As := [.int (nI (a))]) kR_limbsOf_d23 (kvR_RF_cells hG) (kG_cl hG rfl) rfl hC9.1 rfl rfl rfl (Nat.le_of_ble_eq_true rfl) (Nat.le_of_ble_eq_true rfl) (jj_bare0 rfl) ?_
      refine rf_cells (r := R) (c := c) hG hC9 hV (by omega) hb2 hb3 ?_
      show jj G kR_limbsOf (d + 9) Q rc9 rs9 26 [some (.ref r), some (.int (nI (a))), some (.int (nI (T))), some (.int (nI (pl))), some (.int (nI (n))), (o5), (o6), (o7)] [.int (nI (R * c)), .int (nI (n))] M9
      refine jn_top (.int (nI (n))) (by rw [hn]) ?_
      refine jn_icmp_ge (pc := 26) (tgt := 102) kR_limbsOf_d26 (by decide) (by omega) (by omega) (fun _ => ?_) (fun c => by exfalso; omega)
      refine jj_aload_n (pc := 102) kR_limbsOf_d102 rfl ?_
      refine jj_getf (pc := 103) kR_limbsOf_d103 (kfR_f hG) (hR.ff hF9).1 rfl ?_
      refine jj_getf (pc := 106) kR_limbsOf_d106 (kfR_RF_w hG) hC9.1 rfl ?_
      refine jj_iload_n (pc := 109) kR_limbsOf_d109 rfl ?_
      refine jj_callV (pc := 110) (b := w) (As := [.int (nI (pl))]) kR_limbsOf_d110 (kvR_RW_length hG) (kG_cl hG rfl) rfl hw127 rfl rfl rfl (Nat.le_of_ble_eq_true rfl) (Nat.le_of_ble_eq_true rfl) (jj_bare0 rfl) ?_
      refine ri_length hG hS9 hI9 (fun L hL0' hL1 => ?_)
      show jj G kR_limbsOf (d + 9) Q rc9 rs9 113 [some (.ref r), some (.int (nI (a))), some (.int (nI (T))), some (.int (nI (pl))), some (.int (nI (n))), (o5), (o6), (o7)] [.int (nI (L))] M9
      have hLe := blen_eq hL0' hL1
      refine jj_callS (pc := 113) (As := [.int (nI (L))]) kR_limbsOf_d113 (kvR_R_limbs hG) rfl rfl rfl (Nat.le_of_ble_eq_true rfl) (Nat.le_of_ble_eq_true rfl) (jj_bare0 rfl) ?_
      refine rm_limbs (by omega) ?_
      show jj G kR_limbsOf (d + 9) Q rc9 rs9 116 [some (.ref r), some (.int (nI (a))), some (.int (nI (T))), some (.int (nI (pl))), some (.int (nI (n))), (o5), (o6), (o7)] [.int (nI ((L + 31) / 32))] M9
      refine jj_istore (pc := 116) kR_limbsOf_d116 (Nat.le_of_ble_eq_true rfl) ?_
      refine jj_aload_n (pc := 118) kR_limbsOf_d118 rfl ?_
      refine jj_getf (pc := 119) kR_limbsOf_d119 (kfR_f hG) (hR.ff hF9).1 rfl ?_
      refine jj_getf (pc := 122) kR_limbsOf_d122 (kfR_RF_w hG) hC9.1 rfl ?_
      refine jj_getf (pc := 125) kR_limbsOf_d125 (kfR_RW_top hG) hw127 rfl ?_
      refine jj_istore (pc := 128) kR_limbsOf_d128 (Nat.le_of_ble_eq_true rfl) ?_
      show jj G kR_limbsOf (d + 9) Q rc9 rs9 130 [some (.ref r), some (.int (nI (a))), some (.int (nI (T))), some (.int (nI (pl))), some (.int (nI ((L + 31) / 32))), some (.int (nI (T9))), (o6), (o7)] [] M9
      refine jn_iconst (pc := 130) 0 kR_limbsOf_d130 (by decide) ?_
      refine jj_istore (pc := 131) kR_limbsOf_d131 (Nat.le_of_ble_eq_true rfl) ?_
      show jj G kR_limbsOf (d + 9) Q rc9 rs9 133 [some (.ref r), some (.int (nI (a))), some (.int (nI (T))), some (.int (nI (pl))), some (.int (nI ((L + 31) / 32))), some (.int (nI (T9))), some (.int (nI (0))), (o7)] [] M9
      rw [hLc] at hI9 hL0 hLe hbn
      exact half pl T9 D9 hfit hI9 hL0 t9 u9 ho9 n 0 (by omega) _ ((L + 31) / 32) M9 D9 v9 rc9 rs9 (by rw [hLe]; rfl) (by omega) (fun j hj => by omega) hC9 hS9 (fun _ _ => rfl) hF9
    | succ mu ih =>
      intro k hk o5 o6 o7 pl M9 D9 T9 v9 rc9 rs9 hfit hL0 hI9 hpl hC9 hS9 t9 u9 ho9 hF9
      obtain ⟨p1, l1, a1, a2, a3, -⟩ := (hb4 k (by omega)).congr (D' := D9) (V' := V) (T' := T9) (lo' := lo) t9 ho9 (fun _ _ _ => rfl) (Nat.le_refl _)
      obtain ⟨r1, r2, r3⟩ := id a3
      have ll1 := r2.lt
      have lpl := hI9.lt
      obtain ⟨b1, b2⟩ := hq k (by omega)
      have hd0 : 0 < ((q k).den : Int) := by have := (q k).den_pos; omega
      have bl := blen_ZB (hfit k (Nat.le_refl _))
      have hnx : lcmf 1 F (k + 1) = (Int.lcm (lcmf 1 F k) ((q k).den : Int) : Int) := by rw [← hFk]; rfl
      have h19 := h1.congr t9 ho9
      have hcap9 := hS9.2.1.cap
      obtain ⟨hW128, hB128, hTD128, hz128, hp128⟩ := id hS9
      obtain ⟨dd128, hw128, hd128⟩ := id hW128
      have hcap128 := hB128.cap
      have k66 : ∀ (p5 : Nat) (M5 : mheap) (D5 : List Int32) (T5 : Nat) (v5 : Value) (rc5 rs5 : Nat), 0 < lcmf 1 F (k + 1) → RI D5 T5 p5 (lcmf 1 F (k + 1)) → (p5 = 1 ∨ p5 = T) → FC M5 f w vv pv V t up low P rk → RS M5 w D5 T5 v5 cm X Z rc5 rs5 → T ≤ T5 → T5 ≤ T + 270 + s + 10 → (∀ i, i < T → D5.getD i 0 = D.getD i 0) → FF M M5 f → jj G kR_limbsOf (d + 9) Q rc5 rs5 66 [some (.ref r), some (.int (nI (a))), some (.int (nI (T))), some (.int (nI (p5))), some (.int (nI (k))), (o5), (o6), (o7)] [] M5 := by
        intro p5 M5 D5 T5 v5 rc5 rs5 hp5 hI5 hpl5 hC5 hS5 t5 u5 ho5 hF5
        have lp5 := hI5.lt
        obtain ⟨hW129, hB129, hTD129, hz129, hp129⟩ := id hS5
        obtain ⟨dd129, hw129, hd129⟩ := id hW129
        have hcap129 := hB129.cap
        refine jj_aload_n (pc := 66) kR_limbsOf_d66 rfl ?_
        refine jj_getf (pc := 67) kR_limbsOf_d67 (kfR_f hG) (hR.ff hF5).1 rfl ?_
        refine jj_getf (pc := 70) kR_limbsOf_d70 (kfR_RF_w hG) hC5.1 rfl ?_
        refine jj_iload_n (pc := 73) kR_limbsOf_d73 rfl ?_
        refine jj_callV (pc := 74) (b := w) (As := [.int (nI (p5))]) kR_limbsOf_d74 (kvR_RW_length hG) (kG_cl hG rfl) rfl hw129 rfl rfl rfl (Nat.le_of_ble_eq_true rfl) (Nat.le_of_ble_eq_true rfl) (jj_bare0 rfl) ?_
        refine ri_length hG hS5 hI5 (fun L hL0' hL1 => ?_)
        show jj G kR_limbsOf (d + 9) Q rc5 rs5 77 [some (.ref r), some (.int (nI (a))), some (.int (nI (T))), some (.int (nI (p5))), some (.int (nI (k))), (o5), (o6), (o7)] [.int (nI (L))] M5
        have hLe := blen_eq hL0' hL1
        have hLb : L < 2 ^ 31 := by
          rcases Nat.lt_or_ge L (2 ^ 31) with h | h
          · exact h
          · exfalso
            obtain ⟨n5, y1, y2, y3, y4, y5⟩ := id hI5
            have := blen_lt (z := lcmf 1 F (k + 1)) (a := n5) (by rw [← y5]; exact rnat_lt y3)
            omega
        refine jn_sipush (pc := 77) 4000 kR_limbsOf_d77 (by decide) ?_
        refine jn_icmp_le (pc := 80) (tgt := 96) kR_limbsOf_d80 (by decide) (by omega) (by omega) (fun c1 => ?_) (fun c1 => ?_)
        · skip
          refine jn_iinc (pc := 96) (k + 1) kR_limbsOf_d96 rfl (nI_1 _) ?_
          refine jj_goto (pc := 99) (tgt := 16) kR_limbsOf_d99 (by decide) ?_
          show jj G kR_limbsOf (d + 9) Q rc5 rs5 16 [some (.ref r), some (.int (nI (a))), some (.int (nI (T))), some (.int (nI (p5))), some (.int (nI (k + 1))), (o5), (o6), (o7)] [] M5
          exact ih (k + 1) (by omega) _ _ _ p5 M5 D5 T5 v5 rc5 rs5 (fun k' hk' => by
              by_cases e : k' = k + 1
              · rw [e, ← hLe]; exact c1
              · exact hfit k' (by omega)) hp5 hI5 hpl5 hC5 hS5 t5 u5 ho5 hF5
        · skip
          have hnf : ¬ ((∀ k, k ≤ n → blen (lcmf 1 F k) ≤ 4000) ∧ ∀ j, j < n → blen (Lc / ((q j).den : Int) * (q j).num) ≤ 4000) := fun h => by have := h.1 (k + 1) (by omega); omega
          refine jj_aload_n (pc := 83) kR_limbsOf_d83 rfl ?_
          refine jj_getf (pc := 84) kR_limbsOf_d84 (kfR_f hG) (hR.ff hF5).1 rfl ?_
          refine jj_getf (pc := 87) kR_limbsOf_d87 (kfR_RF_w hG) hC5.1 rfl ?_
          refine jj_iload_n (pc := 90) kR_limbsOf_d90 rfl ?_
          refine jj_putf (pc := 91) kR_limbsOf_d91 (kpR_RW_top hG) hw129 (by rfl) rfl ?_
          refine jn_gen (fun M130 hM131 => ?_)
          have hf132 : RF M5 M130 w := by rw [hM131]; exact RF.top hw129
          have hS132 : RS M130 w D5 (T) v5 cm X Z rc5 rs5 := ⟨⟨dd129, by rw [hM131]; exact jj_up_at _ _ _, by rw [hM131, jj_up_ne _ _ (fun e => by have q1 := hd129; rw [e, hw129] at q1; cases q1)]; exact hd129⟩, hB129, by omega, hz129, by omega⟩
          have hC132 := hC5.rf hf132
          have hF132 := hF5.trans (FF.ofRF hC5 hf132)
          obtain ⟨hW133, hB133, hTD133, hz133, hp133⟩ := id hS132
          obtain ⟨dd133, hw133, hd133⟩ := id hW133
          have hcap133 := hB133.cap
          refine jj_iconst (pc := 94) (v := (-1)) kR_limbsOf_d94 (by decide) ?_
          exact jj_iret (pc := 95) kR_limbsOf_d95 rfl (by rfl) (K0 M130 D5 _ _ _ hnf hC132 hS132 ho5 hF132)
      clear ih
      refine jj_iload (pc := 16) kR_limbsOf_d16 rfl ?_
      refine jj_aload_n (pc := 18) kR_limbsOf_d18 rfl ?_
      refine jj_getf (pc := 19) kR_limbsOf_d19 (kfR_f hG) (hR.ff hF9).1 rfl ?_
      refine jj_iload_n (pc := 22) kR_limbsOf_d22 rfl ?_
      refine jj_callV (pc := 23) (b := f) (As := [.int (nI (a))]) kR_limbsOf_d23 (kvR_RF_cells hG) (kG_cl hG rfl) rfl hC9.1 rfl rfl rfl (Nat.le_of_ble_eq_true rfl) (Nat.le_of_ble_eq_true rfl) (jj_bare0 rfl) ?_
      refine rf_cells (r := R) (c := c) hG hC9 hV (by omega) hb2 hb3 ?_
      show jj G kR_limbsOf (d + 9) Q rc9 rs9 26 [some (.ref r), some (.int (nI (a))), some (.int (nI (T))), some (.int (nI (pl))), some (.int (nI (k))), (o5), (o6), (o7)] [.int (nI (R * c)), .int (nI (k))] M9
      refine jn_top (.int (nI (n))) (by rw [hn]) ?_
      refine jn_icmp_ge (pc := 26) (tgt := 102) kR_limbsOf_d26 (by decide) (by omega) (by omega) (fun c => by exfalso; omega) (fun _ => ?_)
      refine jj_aload_n (pc := 29) kR_limbsOf_d29 rfl ?_
      refine jj_getf (pc := 30) kR_limbsOf_d30 (kfR_f hG) (hR.ff hF9).1 rfl ?_
      refine jj_iload_n (pc := 33) kR_limbsOf_d33 rfl ?_
      refine jj_iload (pc := 34) kR_limbsOf_d34 rfl ?_
      refine jj_callV (pc := 36) (b := f) (As := [.int (nI (a)), .int (nI (k))]) kR_limbsOf_d36 (kvR_RF_lower hG) (kG_cl hG rfl) rfl hC9.1 rfl rfl rfl (Nat.le_of_ble_eq_true rfl) (Nat.le_of_ble_eq_true rfl) (jj_bare0 rfl) ?_
      refine rf_lower hG hC9 hV (by omega) ?_
      show jj G kR_limbsOf (d + 9) Q rc9 rs9 39 [some (.ref r), some (.int (nI (a))), some (.int (nI (T))), some (.int (nI (pl))), some (.int (nI (k))), (o5), (o6), (o7)] [.int (V.getD (a + 3 + 2 * k) 0)] M9
      refine jn_top (.int (nI (l1))) (by rw [a2]) ?_
      refine jn_iconst (pc := 39) 1 kR_limbsOf_d39 (by decide) ?_
      refine jn_icmp_eq (pc := 40) (tgt := 66) kR_limbsOf_d40 (by decide) (by omega) (by omega) (fun c0 => ?_) (fun c0 => ?_)
      · skip
        show jj G kR_limbsOf (d + 9) Q rc9 rs9 66 [some (.ref r), some (.int (nI (a))), some (.int (nI (T))), some (.int (nI (pl))), some (.int (nI (k))), (o5), (o6), (o7)] [] M9
        have hd1 : (q k).den = 1 := by have h9 := r2; rw [c0] at h9; have := h9.uniq h19 (by omega) (by omega); omega
        have he : lcmf 1 F (k + 1) = lcmf 1 F k := by rw [hnx, hd1]; exact lcm_one_r hL0
        exact k66 pl M9 D9 T9 v9 rc9 rs9 (by rw [he]; exact hL0) (by rw [he]; exact hI9) hpl hC9 hS9 t9 u9 ho9 hF9
      · skip
        refine jj_aload_n (pc := 43) kR_limbsOf_d43 rfl ?_
        refine jj_getf (pc := 44) kR_limbsOf_d44 (kfR_f hG) (hR.ff hF9).1 rfl ?_
        refine jj_getf (pc := 47) kR_limbsOf_d47 (kfR_RF_w hG) hC9.1 rfl ?_
        refine jj_iload_n (pc := 50) kR_limbsOf_d50 rfl ?_
        refine jj_aload_n (pc := 51) kR_limbsOf_d51 rfl ?_
        refine jj_getf (pc := 52) kR_limbsOf_d52 (kfR_f hG) (hR.ff hF9).1 rfl ?_
        refine jj_iload_n (pc := 55) kR_limbsOf_d55 rfl ?_
        refine jj_iload (pc := 56) kR_limbsOf_d56 rfl ?_
        refine jj_callV (pc := 58) (b := f) (As := [.int (nI (a)), .int (nI (k))]) kR_limbsOf_d58 (kvR_RF_lower hG) (kG_cl hG rfl) rfl hC9.1 rfl rfl rfl (Nat.le_of_ble_eq_true rfl) (Nat.le_of_ble_eq_true rfl) (jj_bare0 rfl) ?_
        refine rf_lower hG hC9 hV (by omega) ?_
        show jj G kR_limbsOf (d + 9) Q rc9 rs9 61 [some (.ref r), some (.int (nI (a))), some (.int (nI (T))), some (.int (nI (pl))), some (.int (nI (k))), (o5), (o6), (o7)] [.int (V.getD (a + 3 + 2 * k) 0), .int (nI (pl)), .ref w] M9
        refine jn_top (.int (nI (l1))) (by rw [a2]) ?_
        refine jj_iload_n (pc := 61) kR_limbsOf_d61 rfl ?_
        refine jj_callV (pc := 62) (b := w) (As := [.int (nI (pl)), .int (nI (l1)), .int (nI (T))]) kR_limbsOf_d62 (kvR_RW_multiple hG) (kG_cl hG rfl) rfl hw128 rfl rfl rfl (Nat.le_of_ble_eq_true rfl) (Nat.le_of_ble_eq_true rfl) (jj_bare0 rfl) ?_
        refine ri_multiple (a := 267) (b := s) (mark := T) hG hS9 hI9 r2 hL0 hd0 bl b2 (by omega) (by omega) t9 (by omega) (fun M5 D5 T5 p5 v5 rc5 rs5 hS5 hor hf5 hI5 => ?_)
        show jj G kR_limbsOf (d + 9) Q rc5 rs5 65 [some (.ref r), some (.int (nI (a))), some (.int (nI (T))), some (.int (nI (pl))), some (.int (nI (k))), (o5), (o6), (o7)] [.int (nI (p5))] M5
        have hC5 := hC9.rf hf5
        have hF5 := hF9.trans (FF.ofRF hC9 hf5)
        rw [← hnx] at hI5
        have hlp : 0 < Int.lcm (lcmf 1 F k) ((q k).den : Int) := Int.lcm_pos (by omega) (by omega)
        have hp5 : 0 < lcmf 1 F (k + 1) := by rw [hnx]; omega
        have hz5 := hS5.2.2.2.1
        have hcap5 := hS5.2.1.cap
        have hTD5 := hS5.2.2.1
        have hp0 : p5 ≠ 0 := fun e => by have h9 := hI5; rw [e] at h9; have := h9.z0 hz5 (by omega); omega
        refine jj_istore_n (pc := 65) kR_limbsOf_d65 (Nat.le_of_ble_eq_true rfl) ?_
        show jj G kR_limbsOf (d + 9) Q rc5 rs5 66 [some (.ref r), some (.int (nI (a))), some (.int (nI (T))), some (.int (nI (p5))), some (.int (nI (k))), (o5), (o6), (o7)] [] M5
        rcases hor with ⟨o1, o2, o3⟩ | ⟨o1, o2, o3, o4⟩
        · exact k66 p5 M5 D5 T5 v5 rc5 rs5 hp5 hI5 (by omega) hC5 hS5 (by omega) (by omega) (fun i hi => by rw [o3 i (by omega), ho9 i hi]) hF5
        · exact k66 p5 M5 D5 T5 v5 rc5 rs5 hp5 hI5 (by omega) hC5 hS5 o1 (by omega) (fun i hi => by rw [o4 i hi, ho9 i hi]) hF5
  obtain ⟨hW134, hB134, hTD134, hz134, hp134⟩ := id hS
  obtain ⟨dd134, hw134, hd134⟩ := id hW134
  have hcap134 := hB134.cap
  show jj G kR_limbsOf (d + 9) Q rc rs 0 [some (.ref r), some (.int (nI (a))), none, none, none, none, none, none] [] M
  refine jj_aload_n (pc := 0) kR_limbsOf_d0 rfl ?_
  refine jj_getf (pc := 1) kR_limbsOf_d1 (kfR_f hG) hR.1 rfl ?_
  refine jj_getf (pc := 4) kR_limbsOf_d4 (kfR_RF_w hG) hC.1 rfl ?_
  refine jj_getf (pc := 7) kR_limbsOf_d7 (kfR_RW_top hG) hw134 rfl ?_
  refine jj_istore_n (pc := 10) kR_limbsOf_d10 (Nat.le_of_ble_eq_true rfl) ?_
  refine jn_iconst (pc := 11) 1 kR_limbsOf_d11 (by decide) ?_
  refine jj_istore_n (pc := 12) kR_limbsOf_d12 (Nat.le_of_ble_eq_true rfl) ?_
  show jj G kR_limbsOf (d + 9) Q rc rs 13 [some (.ref r), some (.int (nI (a))), some (.int (nI (T))), some (.int (nI (1))), none, none, none, none] [] M
  refine jn_iconst (pc := 13) 0 kR_limbsOf_d13 (by decide) ?_
  refine jj_istore (pc := 14) kR_limbsOf_d14 (Nat.le_of_ble_eq_true rfl) ?_
  show jj G kR_limbsOf (d + 9) Q rc rs 16 [some (.ref r), some (.int (nI (a))), some (.int (nI (T))), some (.int (nI (1))), some (.int (nI (0))), none, none, none] [] M
  exact loop n 0 (by omega) none none none 1 M D T v2 rc rs (fun k' hk' => by rw [show k' = 0 by omega]; show blen 1 ≤ 4000; decide) (by show (0 : Int) < 1; decide) h1 (Or.inl rfl) hC hS (Nat.le_refl _) (by omega) (fun _ _ => rfl) (FF.refl M f)
end RM5
