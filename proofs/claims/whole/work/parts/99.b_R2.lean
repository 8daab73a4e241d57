/-! ===== the reference: the constructor (printed by wip/gen/rR2.py) ===== -/
section R2
variable {G : jg} {d : Nat} {Q : jq} {rc rs : Nat} {M : mheap} {F : Nat → Nat} {r o f st w vv pv ca ra : Nat} {v2 : Value} {D V P CA RA : List Int32} {t : Nat} {up low rk fi se code : Int32} {σ : rst} {pt zt : Nat → Nat}
theorem rm_empty_raw {R c k T cm cv X Z X' Z' f0 : Nat} {L : List Value} (hG : kG G) (hr : M r = some (.inl nR, [.int code, .ref f0, .ref o, .ref st])) (hst : M st = some (.inr 5, L)) (hLl : L.length < 2 ^ 31) (hLk : L[k]? = some (.ref f)) (hk : k < 8) (hC : FC M f w vv pv V t up low P rk) (hS : RS M w D T v2 cm X Z rc rs) (hX : FXB cv V X Z X' Z') (htV : t ≤ V.length) (h1 : RI D 3 1 1) (hT3 : 3 ≤ T) (hR : R ≤ 16) (hc : c ≤ 16) (hcv : 514 ≤ cv) (hcm : 1795 ≤ cm)
    (K : ∀ M' vv' D' T' V' up' low' X1 Z1 v2' rc' rs', FC M' f w vv' pv V' (2 + 2 * (R * c)) up' low' P rk → RS M' w D' T' v2' cm X1 Z1 rc' rs' → FXB cv V' X1 Z1 X' Z' → 3 ≤ T' → RI D' 3 1 1 → 2 + 2 * (R * c) ≤ V'.length → FF M M' f → MX D' T' V' (2 + 2 * (R * c)) 0 R c 3 (fun _ => (0 : Rat)) → Q (.returned none) M' rc' rs') : jj G kR_empty (d + 5) Q rc rs 0 (jj_ent [.ref r, .int (nI k), .int (nI R), .int (nI c)] 7) [] M := by
  have hRc : R * c ≤ 16 * 16 := Nat.mul_le_mul hR hc
  obtain ⟨hW101, hB101, hTD101, hz101, hp101⟩ := id hS
  obtain ⟨dd101, hw101, hd101⟩ := id hW101
  have hcap101 := hB101.cap
  show jj G kR_empty (d + 5) Q rc rs 0 [some (.ref r), some (.int (nI (k))), some (.int (nI (R))), some (.int (nI (c))), none, none, none] [] M
  refine jj_aload_n (pc := 0) kR_empty_d0 rfl ?_
  refine jj_getf (pc := 1) kR_empty_d1 (kfR_store hG) hr rfl ?_
  refine jj_iload_n (pc := 4) kR_empty_d4 rfl ?_
  refine jj_aald (pc := 5) kR_empty_d5 (kG_t hG rfl) hst rfl hLl hLk ?_
  show jj G kR_empty (d + 5) Q rc rs 6 [some (.ref r), some (.int (nI (k))), some (.int (nI (R))), some (.int (nI (c))), none, none, none] [.ref f] M
  refine jj_astore (pc := 6) kR_empty_d6 (Nat.le_of_ble_eq_true rfl) ?_
  show jj G kR_empty (d + 5) Q rc rs 8 [some (.ref r), some (.int (nI (k))), some (.int (nI (R))), some (.int (nI (c))), some (.ref f), none, none] [] M
  refine jj_aload (pc := 8) kR_empty_d8 rfl ?_
  refine jj_getf (pc := 10) kR_empty_d10 (kfR_RF_w hG) hC.1 rfl ?_
  refine jn_iconst (pc := 13) 3 kR_empty_d13 (by decide) ?_
  refine jj_putf (pc := 14) kR_empty_d14 (kpR_RW_top hG) hw101 (by rfl) rfl ?_
  refine jn_gen (fun M102 hM103 => ?_)
  have hf104 : RF M M102 w := by rw [hM103]; exact RF.top hw101
  have hS104 : RS M102 w D (3) v2 cm X Z rc rs := ⟨⟨dd101, by rw [hM103]; exact jj_up_at _ _ _, by rw [hM103, jj_up_ne _ _ (fun e => by have q1 := hd101; rw [e, hw101] at q1; cases q1)]; exact hd101⟩, hB101, by omega, hz101, by omega⟩
  have hC104 := hC.rf hf104
  have hF104 := (FF.refl M f).trans (FF.ofRF hC hf104)
  obtain ⟨hW105, hB105, hTD105, hz105, hp105⟩ := id hS104
  obtain ⟨dd105, hw105, hd105⟩ := id hW105
  have hcap105 := hB105.cap
  refine jj_aload (pc := 17) kR_empty_d17 rfl ?_
  refine jn_iconst (pc := 19) 0 kR_empty_d19 (by decide) ?_
  refine jj_putf (pc := 20) kR_empty_d20 (kpR_RF_top hG) hC104.1 (by rfl) rfl ?_
  refine jn_gen (fun M106 hM107 => ?_)
  have hC108 : FC M106 f w vv pv V (0) (up) (low) P (rk) := by rw [hM107]; exact hC104.putf
  have hF108 : FF M M106 f := by rw [hM107]; exact hF104.trans (FF.putf hC104)
  have hS108 : RS M106 w D (3) v2 cm X Z rc rs := by rw [hM107]; exact hS104.other hC104.2.2.2.2.1
  obtain ⟨hW109, hB109, hTD109, hz109, hp109⟩ := id hS108
  obtain ⟨dd109, hw109, hd109⟩ := id hW109
  have hcap109 := hB109.cap
  show jj G kR_empty (d + 5) Q rc rs 23 [some (.ref r), some (.int (nI (k))), some (.int (nI (R))), some (.int (nI (c))), some (.ref f), none, none] [] M106
  refine rm_empty_mid (T := 3) (t := 0) (R := R) (c := c) (kr := k) hG hC108 hS108 hX (Nat.zero_le _) h1 (Nat.le_refl _) (by omega) (by omega) (by omega) (by omega) (fun M1 vv D1 T1 V1 up1 low1 X1 Z1 v1 rc1 rs1 hC1 hS1 hX1 t1 u1 ho1 hv1 hl1 hF1 hm1 => ?_)
  show jj G kR_empty (d + 5) Q rc1 rs1 64 [some (.ref r), some (.int (nI (k))), some (.int (nI (R))), some (.int (nI (c))), some (.ref f), some (.int (nI (0))), some (.int (nI (R * c)))] [] M1
  rw [Nat.zero_add] at hC1 hl1 hm1
  exact jj_vret (pc := 64) kR_empty_d64 rfl (K M1 vv D1 T1 V1 _ _ X1 Z1 _ rc1 rs1 hC1 hS1 hX1 t1 (h1.congr (Nat.le_refl _) ho1) hl1 (hF108.trans hF1) hm1)
end R2
/-- the start: eight matrices of one cell 0 -/
def sg0 : rst := (fun _ => 1, fun _ => 1, fun _ _ => 0)
/-- the areas below n are made -/
def INR (M0 M : mheap) (F : Nat → Nat) (n : Nat) (pt zt : Nat → Nat) : Prop := (∀ k, k < n → AK M (F k) (cmF k) (cvF k) (pt k) (zt k) (SA sg0 k)) ∧ (∀ j k, j < n → k < n → j ≠ k → SP M (F j) (F k)) ∧ ∀ k q, k < n → FO M (F k) q → M0 q = none ∧ q ≠ F 10 ∧ q ≠ F 11 ∧ q ≠ F 12 ∧ q ≠ F 13
theorem INR.eq {M0 M M' : mheap} {F : Nat → Nat} {n : Nat} {pt zt : Nat → Nat} (h : INR M0 M F n pt zt) (e : ∀ k q, k < n → FO M (F k) q → M' q = M q) : INR M0 M' F n pt zt ∧ ∀ k q, k < n → (FO M' (F k) q ↔ FO M (F k) q) := by
  have e1 : ∀ k q, k < n → (FO M' (F k) q ↔ FO M (F k) q) := fun k q hk => ((h.1 k hk).eq (e k · hk)).2 q
  refine ⟨⟨fun k hk => ((h.1 k hk).eq (e k · hk)).1, fun j k hj hk hn q hq hq2 => ?_, fun k q hk hq => h.2.2 k q hk ((e1 k q hk).mp hq)⟩, e1⟩
  exact h.2.1 j k hj hk hn q ((e1 k q hk).mp hq) ((e1 j q hj).mp hq2)
def fup (F : Nat → Nat) (n a : Nat) : Nat → Nat := fun k => if k = n then a else F k
theorem fup_at (F : Nat → Nat) (n a : Nat) : fup F n a n = a := by unfold fup; rw [if_pos rfl]
theorem fup_ne (F : Nat → Nat) {n a k : Nat} (h : k ≠ n) : fup F n a k = F k := by unfold fup; rw [if_neg h]
theorem nsum_fup {f : Nat → Nat} {n p : Nat} : nsum (fup f n p) (n + 1) = nsum f n + p := by
  show nsum (fup f n p) n + fup f n p n = _
  rw [fup_at, nsum_cong (g := f) (fun i hi => fup_ne f (by omega))]
theorem INR.add {M0 M M' : mheap} {F : Nat → Nat} {n a p z : Nat} {pt zt : Nat → Nat} (h : INR M0 M F n pt zt) (hn : n < 9) (h0 : ∀ q, M0 q ≠ none → M q ≠ none) (h14 : ∀ k, 9 ≤ k → k < 14 → M (F k) ≠ none) (hk : ∀ q, M q ≠ none → ¬ FO M' a q) (he : ∀ k q, k < n → FO M (F k) q → M' q = M q) (hA : AK M' a (cmF n) (cvF n) p z (SA sg0 n)) : INR M0 M' (fup F n a) (n + 1) (fup pt n p) (fup zt n z) := by
  obtain ⟨⟨a1, a2, a3⟩, b⟩ := h.eq he
  have us : ∀ k q, k < n → FO M' (F k) q → M q ≠ none := fun k q hk hq => (h.1 k hk).has ((b k q hk).mp hq)
  refine ⟨fun k hk2 => ?_, fun j k hj hk2 hne => ?_, fun k q hk2 hq => ?_⟩
  · by_cases c : k = n
    · rw [c, fup_at, fup_at, fup_at]; exact hA
    · rw [fup_ne _ c, fup_ne _ c, fup_ne _ c]; exact a1 k (by omega)
  · by_cases c1 : j = n
    · rw [c1, fup_at, fup_ne _ (by omega)]
      exact fun q hq => hk q (us k q (by omega) hq)
    · by_cases c2 : k = n
      · rw [c2, fup_at, fup_ne _ c1]
        exact fun q hq hq2 => hk q (us j q (by omega) hq2) hq
      · rw [fup_ne _ c1, fup_ne _ c2]; exact a2 j k (by omega) (by omega) hne
  · rw [fup_ne _ (by omega), fup_ne _ (by omega), fup_ne _ (by omega), fup_ne _ (by omega)]
    by_cases c : k = n
    · rw [c, fup_at] at hq
      have hq0 : M q = none := Classical.byContradiction (fun g => hk q g hq)
      exact ⟨Classical.byContradiction (fun g => h0 q g hq0), fun e => h14 10 (by decide) (by decide) (by rw [← e]; exact hq0), fun e => h14 11 (by decide) (by decide) (by rw [← e]; exact hq0), fun e => h14 12 (by decide) (by decide) (by rw [← e]; exact hq0), fun e => h14 13 (by decide) (by decide) (by rw [← e]; exact hq0)⟩
    · rw [fup_ne _ c] at hq; exact a3 k q (by omega) hq
theorem room_a {n k X z rs : Nat} (h1 : n + (k + 262218) + X ≤ rs) (h2 : n + k + X = z) : 253952 + z ≤ ((rs - 7) - 8259) := by
  have h3 : z + 262218 ≤ rs := by omega
  have h4 : 253952 + z + 8266 ≤ rs := by
    rw [show 253952 + z + 8266 = z + 262218 by omega]
    exact h3
  rw [Nat.sub_sub]
  exact Nat.le_sub_of_add_le h4
theorem room_b {n k Z z rc : Nat} (h1 : n + (k + 10) + Z ≤ rc) (h2 : n + k + Z = z) : 5 + z ≤ ((rc - 1) - 4) := by omega
section R3
variable {G : jg} {d : Nat} {Q : jq} {rc rs : Nat} {M : mheap}
theorem AK.start {f w vv pv dd cm cv jE jV : Nat} {A : List Int32 → Nat → List Int32 → Nat → Prop} (h : FB M f w vv pv dd (((List.replicate 4096 (0 : Int32)).set 1 (nI 1)).set 2 (nI 1)) 3 (.int (nI 0)) (List.replicate 4096 (0 : Int32)) 0 (nI 0) (nI 0) (List.replicate 64 (0 : Int32)) (nI 0)) (hA : A (((List.replicate 4096 (0 : Int32)).set 1 (nI 1)).set 2 (nI 1)) 3 (List.replicate 4096 (0 : Int32)) 0) (h1 : cm = 4096 * 2 ^ jE) (h2 : cm < 16777216) (h3 : cv = 4096 * 2 ^ jV) (h4 : cv < 16777216) : AK M f cm cv (2 * cm - 8192 + (2 * cv - 8192)) (jE + jV) A := by
  obtain ⟨r1, r2, r3⟩ := ri_start
  refine ⟨w, vv, pv, dd, ((List.replicate 4096 (0 : Int32)).set 1 (nI 1)).set 2 (nI 1), 3, _, List.replicate 4096 (0 : Int32), 0, _, _, List.replicate 64 (0 : Int32), _, jE, jV, h, ⟨by rw [r3]; decide, r2, Nat.le_refl _, r1, Nat.zero_le _, List.length_replicate⟩, hA, by rw [r3]; exact h1, h2, by rw [r3]; decide, by rw [List.length_replicate]; exact h3, h4, by rw [List.length_replicate]; decide, ?_, rfl⟩
  rw [r3, List.length_replicate]
  rfl
theorem r_init {r X Z : Nat} (hG : kG G) (hr : M r = some (.inl nR, [.int (nI (0)), .null, .null, .null])) (hrc : 99 + Z ≤ rc) (hrs : 6300456 + X ≤ rs) (k : ∀ (M' : mheap) (F : Nat → Nat) (rc' rs' : Nat), F 9 = r → RT M' F (nI 0) sg0 X Z rc' rs' → (∀ q, M q ≠ none → q ≠ r → M' q = M q ∧ ¬ OWN M' F q) → Q (.returned none) M' rc' rs') : jj G kR_init (d + 6) Q rc rs 0 (jj_ent [.ref r] 2) [] M := by
  show jj G kR_init (d + 6) Q rc rs 0 [some (.ref r), none] [] M
  refine jj_aload_n (pc := 0) kR_init_d0 rfl ?_
  refine jj_objInit (pc := 1) kR_init_d1 (koR_obj hG) (ko_inst hG) (ko_code hG) rfl (Nat.le_of_ble_eq_true rfl) ?_
  show jj G kR_init (d + 6) Q rc rs 4 [some (.ref r), none] [] M
  refine jj_aload_n (pc := 4) kR_init_d4 rfl ?_
  refine jj_new (pc := 5) kR_init_d5 (knR_RF hG) (by omega) (show 7 ≤ _ by omega) (fun f hf => ?_)
  refine jn_gen (fun M110 hM111 => ?_)
  have ne_f_r : f ≠ r := fun e => by have q := hr; rw [← e, hf] at q; cases q
  have h112 : M110 r = some (.inl nR, [.int (nI (0)), .null, .null, .null]) := by rw [hM111, jj_up_ne _ _ (Ne.symm ne_f_r)]; exact hr
  have hn_f : M110 f = some (.inl nRF, [.null, .null, .int (nI (0)), .int (nI (0)), .int (nI (0)), .null, .int (nI (0))]) := by rw [hM111]; exact jj_up_at _ _ _
  show jj G kR_init (d + 6) Q (rc - 1) (rs - 7) 8 [some (.ref r), none] [.ref f, .ref r] M110
  refine jj_dup (pc := 8) kR_init_d8 rfl ?_
  refine jj_callI (pc := 9) (b := f) (As := []) kR_init_d9 (kvR_RF_init hG) rfl rfl rfl (Nat.le_of_ble_eq_true rfl) (Nat.le_of_ble_eq_true rfl) (jj_bare0 rfl) ?_
  refine rf_init hG hn_f (by omega) (by omega) (fun Mf w vv pv dd hnn hFB fw => ?_)
  have u1 : ∀ x, M x ≠ none → M110 x = M x := fun x hx => by rw [hM111, jj_up_ne _ _ (fun e => hx (by rw [e]; exact hf))]
  have nu : ∀ x, M110 x ≠ none → x ≠ w ∧ x ≠ vv ∧ x ≠ pv ∧ x ≠ dd := fun x hx => ⟨fun e => hx (by rw [e]; exact hnn.1), fun e => hx (by rw [e]; exact hnn.2.1), fun e => hx (by rw [e]; exact hnn.2.2.1), fun e => hx (by rw [e]; exact hnn.2.2.2)⟩
  have u2 : ∀ x, M x ≠ none → Mf x = M x := fun x hx => by
    have h1 := u1 x hx
    have h2 := nu x (by rw [h1]; exact hx)
    rw [fw x (fun e => hx (by rw [e]; exact hf)) h2.1 h2.2.1 h2.2.2.1 h2.2.2.2]; exact h1
  have ff : ∀ q, FO Mf f q → M q = none := fun q hq => Classical.byContradiction (fun h => by
    have h1 := u1 q h
    have h2 := nu q (by rw [h1]; exact h)
    rcases hFB.own.mp hq with e | e | e | e | e
    · exact h (by rw [e]; exact hf)
    · exact h2.1 e
    · exact h2.2.2.2 e
    · exact h2.2.1 e
    · exact h2.2.2.1 e)
  have hAf : AK Mf f (cmF 0) (cvF 0) (2 * cmF 0 - 8192 + (2 * cvF 0 - 8192)) (9 + 1) (SA sg0 0) := AK.start hFB (Or.inl rfl) rfl (by decide) rfl (by decide)
  have hr2 := (u2 r (by rw [hr]; exact (fun e => (by cases e)))).trans hr
  have ne_f_r2 : f ≠ r := ne_f_r
  show jj G kR_init (d + 6) Q ((rc - 1) - 4) ((rs - 7) - 8259) 12 [some (.ref r), none] [.ref f, .ref r] Mf
  refine jj_putF (pc := 12) kR_init_d12 (kpR_f hG) rfl hr2 (by rfl) rfl ?_
  refine jn_gen (fun M113 hM114 => ?_)
  have h115 : M113 f = some (.inl nRF, [.ref w, .ref vv, .int (nI (0)), .int (nI (0)), .int (nI (0)), .ref pv, .int (nI (0))]) := by rw [hM114, jj_up_ne _ _ ne_f_r2]; exact hFB.1.1
  have h116 : M113 r = some (.inl nR, [.int (nI (0)), .ref f, .null, .null]) := by rw [hM114]; exact jj_up_at _ _ _
  refine jj_aload_n (pc := 15) kR_init_d15 rfl ?_
  refine jj_new (pc := 16) kR_init_d16 (knR_RO hG) (by omega) (show 6 ≤ _ by omega) (fun o ho0 => ?_)
  refine jn_gen (fun M117 hM118 => ?_)
  have ne_o_r : o ≠ r := fun e => by have q := h116; rw [← e, ho0] at q; cases q
  have h119 : M117 r = some (.inl nR, [.int (nI (0)), .ref f, .null, .null]) := by rw [hM118, jj_up_ne _ _ (Ne.symm ne_o_r)]; exact h116
  have ne_o_f : o ≠ f := fun e => by have q := h115; rw [← e, ho0] at q; cases q
  have h120 : M117 f = some (.inl nRF, [.ref w, .ref vv, .int (nI (0)), .int (nI (0)), .int (nI (0)), .ref pv, .int (nI (0))]) := by rw [hM118, jj_up_ne _ _ (Ne.symm ne_o_f)]; exact h115
  have hn_o : M117 o = some (.inl nRO, [.null, .null, .null, .null, .int (nI (0)), .int (nI (0))]) := by rw [hM118]; exact jj_up_at _ _ _
  show jj G kR_init (d + 6) Q (((rc - 1) - 4) - 1) (((rs - 7) - 8259) - 6) 19 [some (.ref r), none] [.ref o, .ref r] M117
  refine jj_dup (pc := 19) kR_init_d19 rfl ?_
  refine jj_aload_n (pc := 20) kR_init_d20 rfl ?_
  refine jj_getf (pc := 21) kR_init_d21 (kfR_f hG) h119 rfl ?_
  refine jj_callI (pc := 24) (b := o) (As := [.ref f]) kR_init_d24 (kvR_RO_init hG) rfl rfl rfl (Nat.le_of_ble_eq_true rfl) (Nat.le_of_ble_eq_true rfl) (jj_bare0 rfl) ?_
  refine ro_init hG hn_o h120 (by omega) (by omega) (fun Mo ca ra hnc ho hca hra nca fo => ?_)
  have ur3 : ∀ x, Mf x ≠ none → x ≠ r → M117 x = Mf x := fun x hx hr9 => by
    have h1 : M113 x = Mf x := by rw [hM114, jj_up_ne _ _ hr9]
    rw [hM118, jj_up_ne _ _ (fun e => hx (by rw [← h1, e]; exact ho0)), h1]
  have u3 : ∀ x, M117 x ≠ none → x ≠ o → Mo x = M117 x := fun x hx hxo => fo x hxo (fun e => hx (by rw [e]; exact hnc.1)) (fun e => hx (by rw [e]; exact hnc.2))
  have hr4 := (u3 r (by rw [h119]; exact (fun e => (by cases e))) (Ne.symm ne_o_r)).trans h119
  have hf4 := (u3 f (by rw [h120]; exact (fun e => (by cases e))) (Ne.symm ne_o_f)).trans h120
  have ne_ca_r : ca ≠ r := fun e => by have q := hnc.1; rw [e, h119] at q; cases q
  have ne_ra_r : ra ≠ r := fun e => by have q := hnc.2; rw [e, h119] at q; cases q
  have ne_ca_f : ca ≠ f := fun e => by have q := hnc.1; rw [e, h120] at q; cases q
  have ne_ra_f : ra ≠ f := fun e => by have q := hnc.2; rw [e, h120] at q; cases q
  have ne_ca_o : ca ≠ o := fun e => by have q := hnc.1; rw [e, hn_o] at q; cases q
  have ne_ra_o : ra ≠ o := fun e => by have q := hnc.2; rw [e, hn_o] at q; cases q
  show jj G kR_init (d + 6) Q ((((rc - 1) - 4) - 1) - 2) ((((rs - 7) - 8259) - 6) - 128) 27 [some (.ref r), none] [.ref o, .ref r] Mo
  refine jj_putF (pc := 27) kR_init_d27 (kpR_forms hG) rfl hr4 (by rfl) rfl ?_
  refine jn_gen (fun M121 hM122 => ?_)
  have h123 : M121 f = some (.inl nRF, [.ref w, .ref vv, .int (nI (0)), .int (nI (0)), .int (nI (0)), .ref pv, .int (nI (0))]) := by rw [hM122, jj_up_ne _ _ ne_f_r2]; exact hf4
  have h124 : M121 o = some (.inl nRO, [.ref f, .ref w, .ref ca, .ref ra, .int (nI (0)), .int (nI (0))]) := by rw [hM122, jj_up_ne _ _ ne_o_r]; exact ho
  have h125 : M121 ca = some (.inr 0, (List.replicate 64 (0 : Int32)).map .int) := by rw [hM122, jj_up_ne _ _ ne_ca_r]; exact hca
  have h126 : M121 ra = some (.inr 0, (List.replicate 64 (0 : Int32)).map .int) := by rw [hM122, jj_up_ne _ _ ne_ra_r]; exact hra
  have h127 : M121 r = some (.inl nR, [.int (nI (0)), .ref f, .ref o, .null]) := by rw [hM122]; exact jj_up_at _ _ _
  refine jj_aload_n (pc := 30) kR_init_d30 rfl ?_
  refine jn_bipush (pc := 31) 8 kR_init_d31 (by decide) ?_
  refine jj_anew (pc := 33) (j := 5) (n := 8) kR_init_d33 (kG_t hG rfl) (knR_arrRF hG).1 (knR_arrRF hG).2 rfl (by decide) (by omega) (by omega) (fun st hst0 => ?_)
  refine jn_gen (fun M128 hM129 => ?_)
  have ne_st_r : st ≠ r := fun e => by have q := h127; rw [← e, hst0] at q; cases q
  have h130 : M128 r = some (.inl nR, [.int (nI (0)), .ref f, .ref o, .null]) := by rw [hM129, jj_up_ne _ _ (Ne.symm ne_st_r)]; exact h127
  have ne_st_f : st ≠ f := fun e => by have q := h123; rw [← e, hst0] at q; cases q
  have h131 : M128 f = some (.inl nRF, [.ref w, .ref vv, .int (nI (0)), .int (nI (0)), .int (nI (0)), .ref pv, .int (nI (0))]) := by rw [hM129, jj_up_ne _ _ (Ne.symm ne_st_f)]; exact h123
  have ne_st_o : st ≠ o := fun e => by have q := h124; rw [← e, hst0] at q; cases q
  have h132 : M128 o = some (.inl nRO, [.ref f, .ref w, .ref ca, .ref ra, .int (nI (0)), .int (nI (0))]) := by rw [hM129, jj_up_ne _ _ (Ne.symm ne_st_o)]; exact h124
  have ne_st_ca : st ≠ ca := fun e => by have q := h125; rw [← e, hst0] at q; cases q
  have h133 : M128 ca = some (.inr 0, (List.replicate 64 (0 : Int32)).map .int) := by rw [hM129, jj_up_ne _ _ (Ne.symm ne_st_ca)]; exact h125
  have ne_st_ra : st ≠ ra := fun e => by have q := h126; rw [← e, hst0] at q; cases q
  have h134 : M128 ra = some (.inr 0, (List.replicate 64 (0 : Int32)).map .int) := by rw [hM129, jj_up_ne _ _ (Ne.symm ne_st_ra)]; exact h126
  have hn_st : M128 st = some (.inr 5, List.replicate 8 .null) := by rw [hM129, jj_up_at]
  show jj G kR_init (d + 6) Q (((((rc - 1) - 4) - 1) - 2) - 1) (((((rs - 7) - 8259) - 6) - 128) - 8) 36 [some (.ref r), none] [.ref st, .ref r] M128
  refine jj_putF (pc := 36) kR_init_d36 (kpR_store hG) rfl h130 (by rfl) rfl ?_
  refine jn_gen (fun M135 hM136 => ?_)
  have h137 : M135 f = some (.inl nRF, [.ref w, .ref vv, .int (nI (0)), .int (nI (0)), .int (nI (0)), .ref pv, .int (nI (0))]) := by rw [hM136, jj_up_ne _ _ ne_f_r2]; exact h131
  have h138 : M135 o = some (.inl nRO, [.ref f, .ref w, .ref ca, .ref ra, .int (nI (0)), .int (nI (0))]) := by rw [hM136, jj_up_ne _ _ ne_o_r]; exact h132
  have h139 : M135 ca = some (.inr 0, (List.replicate 64 (0 : Int32)).map .int) := by rw [hM136, jj_up_ne _ _ ne_ca_r]; exact h133
  have h140 : M135 ra = some (.inr 0, (List.replicate 64 (0 : Int32)).map .int) := by rw [hM136, jj_up_ne _ _ ne_ra_r]; exact h134
  have h141 : M135 st = some (.inr 5, List.replicate 8 .null) := by rw [hM136, jj_up_ne _ _ ne_st_r]; exact hn_st
  have h142 : M135 r = some (.inl nR, [.int (nI (0)), .ref f, .ref o, .ref st]) := by rw [hM136]; exact jj_up_at _ _ _
  refine jn_iconst (pc := 39) 0 kR_init_d39 (by decide) ?_
  refine jj_istore_n (pc := 40) kR_init_d40 (Nat.le_of_ble_eq_true rfl) ?_
  show jj G kR_init (d + 6) Q (((((rc - 1) - 4) - 1) - 2) - 1) (((((rs - 7) - 8259) - 6) - 128) - 8) 41 [some (.ref r), some (.int (nI (0)))] [] M135
  have uo : ∀ x, Mo x ≠ none → x ≠ r → M135 x = Mo x := fun x hx hr9 => by
    have h1 : M121 x = Mo x := by rw [hM122, jj_up_ne _ _ hr9]
    rw [hM136, jj_up_ne _ _ hr9, hM129, jj_up_ne _ _ (fun e => hx (by rw [← h1, e]; exact hst0)), h1]
  have ufo : ∀ x, Mf x ≠ none → x ≠ r → x ≠ o := fun x hx hr9 e => by
    have h1 : M113 x = Mf x := by rw [hM114, jj_up_ne _ _ hr9]
    exact hx (by rw [← h1, e]; exact ho0)
  have uf : ∀ x, Mf x ≠ none → x ≠ r → M135 x = Mf x := fun x hx hr9 => by
    have h1 := ur3 x hx hr9
    have h2 := u3 x (by rw [h1]; exact hx) (ufo x hx hr9)
    rw [uo x (by rw [h2, h1]; exact hx) hr9, h2, h1]
  have mr : M r ≠ none := by rw [hr]; exact (fun e => (by cases e))
  have nfr : ∀ q, FO Mf f q → q ≠ r := fun q hq e => mr (by rw [← e]; exact ff q hq)
  have hA0 := hAf.eq (M' := M135) (fun q hq => uf q (hAf.has hq) (nfr q hq))
  have us0 : ∀ x, M x ≠ none → x ≠ r → M135 x = M x := fun x hx hr9 => (uf x (by rw [u2 x hx]; exact hx) hr9).trans (u2 x hx)
  obtain ⟨F, eF⟩ : ∃ F, (fun n => if n = 0 then f else if n = 9 then r else if n = 10 then o else if n = 11 then st else if n = 12 then ca else ra) = F := ⟨_, rfl⟩
  have F0 : F 0 = f := by rw [← eF]; rfl
  have F9 : F 9 = r := by rw [← eF]; rfl
  have F10 : F 10 = o := by rw [← eF]; rfl
  have F11 : F 11 = st := by rw [← eF]; rfl
  have F12 : F 12 = ca := by rw [← eF]; rfl
  have F13 : F 13 = ra := by rw [← eF]; rfl
  have fo_o : ∀ q, FO M135 f q → (M q = none ∧ q ≠ o ∧ q ≠ st ∧ q ≠ ca ∧ q ≠ ra) := fun q hq => by
    have hq1 := (hA0.2 q).mp hq
    have hq2 := hAf.has hq1
    have hq3 := nfr q hq1
    have h3 := ur3 q hq2 hq3
    have h4 : M117 q ≠ none := by rw [h3]; exact hq2
    have h5 := u3 q h4 (ufo q hq2 hq3)
    have h6 : M121 q = Mo q := by rw [hM122, jj_up_ne _ _ hq3]
    exact ⟨ff q hq1, ufo q hq2 hq3, fun e => hq2 (by rw [← h3, ← h5, ← h6, e]; exact hst0), fun e => h4 (by rw [e]; exact hnc.1), fun e => h4 (by rw [e]; exact hnc.2)⟩
  have IN0 : INR M M135 F 1 (fun _ => 2 * cmF 0 - 8192 + (2 * cvF 0 - 8192)) (fun _ => 9 + 1) := by
    refine ⟨fun k hk => ?_, fun j k hj hk hne => absurd (show j = k by omega) hne, fun k q hk hq => ?_⟩
    · have ek : k = 0 := by omega
      rw [ek, F0]; exact hA0.1
    · have ek : k = 0 := by omega
      rw [ek, F0] at hq
      rw [F10, F11, F12, F13]
      exact fo_o q hq
  obtain ⟨rcq, erc⟩ : ∃ r, (((((rc - 1) - 4) - 1) - 2) - 1) = r := ⟨_, rfl⟩
  obtain ⟨rsq, ers⟩ : ∃ r, (((((rs - 7) - 8259) - 6) - 128) - 8) = r := ⟨_, rfl⟩
  rw [erc, ers]
  have hrq : 10 + 80 + Z ≤ rcq := by omega
  have hsq : 4194304 + 8 * 262218 + X ≤ rsq := by omega
  have no_o : ∀ q, M q ≠ none → q ≠ r → q ≠ o := fun q hq hqr => ufo q (by rw [u2 q hq]; exact hq) hqr
  have no_ca : ∀ q, M q ≠ none → q ≠ r → q ≠ ca := fun q hq hqr e => by
    have h1 := u2 q hq
    have h3 := ur3 q (by rw [h1]; exact hq) hqr
    exact hq (by rw [← h1, ← h3, e]; exact hnc.1)
  have no_ra : ∀ q, M q ≠ none → q ≠ r → q ≠ ra := fun q hq hqr e => by
    have h1 := u2 q hq
    have h3 := ur3 q (by rw [h1]; exact hq) hqr
    exact hq (by rw [← h1, ← h3, e]; exact hnc.2)
  have no_st : ∀ q, M q ≠ none → q ≠ r → q ≠ st := fun q hq hqr e => by
    have h1 := u2 q hq
    have h2 : Mf q ≠ none := by rw [h1]; exact hq
    have h3 := ur3 q h2 hqr
    have h5 := u3 q (by rw [h3]; exact h2) (ufo q h2 hqr)
    have h6 : M121 q = Mo q := by rw [hM122, jj_up_ne _ _ hqr]
    exact h2 (by rw [← h3, ← h5, ← h6, e]; exact hst0)
  have loop : ∀ mu i, 8 = i + mu → ∀ (M9 : mheap) (F9x pt9 zt9 : Nat → Nat) (rc9 rs9 : Nat), (F9x 0 = f ∧ F9x 9 = r ∧ F9x 10 = o ∧ F9x 11 = st ∧ F9x 12 = ca ∧ F9x 13 = ra) → M9 r = some (.inl nR, [.int (nI (0)), .ref f, .ref o, .ref st]) → M9 f = some (.inl nRF, [.ref w, .ref vv, .int (nI (0)), .int (nI (0)), .int (nI (0)), .ref pv, .int (nI (0))]) → M9 o = some (.inl nRO, [.ref f, .ref w, .ref ca, .ref ra, .int (nI (0)), .int (nI (0))]) → M9 ca = some (.inr 0, (List.replicate 64 (0 : Int32)).map .int) → M9 ra = some (.inr 0, (List.replicate 64 (0 : Int32)).map .int) → M9 st = some (.inr 5, (List.range 8).map (fun l => if l < i then Value.ref (F9x (l + 1)) else .null)) → INR M M9 F9x (i + 1) pt9 zt9 → (∀ x, M x ≠ none → x ≠ r → M9 x = M x) → nsum pt9 (i + 1) + mu * 262218 + X ≤ rs9 → nsum zt9 (i + 1) + mu * 10 + Z ≤ rc9 → jj G kR_init (d + 6) Q rc9 rs9 41 [some (.ref r), some (.int (nI (i)))] [] M9 := by
    intro mu
    induction mu with
    | zero =>
      intro i hi6 M9 F9x pt9 zt9 rc9 rs9 hF hm9 hf9 ho9 hca9 hra9 hst9 I9 f9 s9 c9
      have ei : i = 8 := by omega
      subst ei
      refine jj_iload_n (pc := 41) kR_init_d41 rfl ?_
      refine jn_bipush (pc := 42) 8 kR_init_d42 (by decide) ?_
      refine jn_icmp_ge (pc := 44) (tgt := 73) kR_init_d44 (by decide) (by omega) (by omega) (fun _ => ?_) (fun c => by exfalso; omega)
      obtain ⟨e0, e9, e10, e11, e12, e13⟩ := hF
      have q14 : ∀ k, 9 ≤ k → k < 14 → (k = 9 ∨ k = 10 ∨ k = 11 ∨ k = 12 ∨ k = 13) := fun k h1 h2 => by omega
      have nfo : ∀ j k, j < 9 → 9 ≤ k → k < 14 → ¬ FO M9 (F9x j) (F9x k) := fun j k hj k1 k2 hq => by
        obtain ⟨h1, h2, h3, h4, h5⟩ := I9.2.2 j _ hj hq
        rcases q14 k k1 k2 with e | e | e | e | e
        · rw [e, e9] at h1; exact mr h1
        · rw [e] at h2; exact h2 rfl
        · rw [e] at h3; exact h3 rfl
        · rw [e] at h4; exact h4 rfl
        · rw [e] at h5; exact h5 rfl
      have hRP : RPX M9 F9x (nI 0) 9 pt9 zt9 (SA sg0) := by
        refine ⟨by rw [e9, e0, e10, e11]; exact hm9, ?_, fun k k1 k2 => ?_, fun k k1 _ => I9.1 k k1, I9.2.1, nfo⟩
        · rw [e11, hst9]
          exact congrArg some (congrArg (Prod.mk _) (List.map_congr_left (fun l hl => if_pos (List.mem_range.mp hl))))
        · rcases q14 k k1 k2 with e | e | e | e | e
          · rw [e, e9, hm9]; exact (fun e => (by cases e))
          · rw [e, e10, ho9]; exact (fun e => (by cases e))
          · rw [e, e11, hst9]; exact (fun e => (by cases e))
          · rw [e, e12, hca9]; exact (fun e => (by cases e))
          · rw [e, e13, hra9]; exact (fun e => (by cases e))
      have hRT : RT M9 F9x (nI 0) sg0 X Z rc9 rs9 := ⟨pt9, zt9, w, _, List.replicate 64 (0 : Int32), List.replicate 64 (0 : Int32), nI 0, nI 0, hRP, by rw [e0]; exact hf9, ⟨by rw [e10, e0, e12, e13]; exact ho9, by rw [e12]; exact hca9, by rw [e13]; exact hra9, by rw [e12, e13]; exact nca, nfo 0 10 (by decide) (by decide) (by decide), nfo 0 12 (by decide) (by decide) (by decide), nfo 0 13 (by decide) (by decide) (by decide)⟩, List.length_replicate, List.length_replicate, by omega, by omega⟩
      exact jj_vret (pc := 73) kR_init_d73 rfl (k M9 F9x _ _ e9 hRT (fun q hq hqr => ⟨f9 q hq hqr, by
                rintro (⟨k, k1, k2, e⟩ | ⟨k, k1, g⟩)
                · rcases q14 k k1 k2 with c | c | c | c | c
                  · rw [c, e9] at e; exact hqr e
                  · rw [c, e10] at e; exact no_o q hq hqr e
                  · rw [c, e11] at e; exact no_st q hq hqr e
                  · rw [c, e12] at e; exact no_ca q hq hqr e
                  · rw [c, e13] at e; exact no_ra q hq hqr e
                · exact hq (I9.2.2 k q k1 g).1⟩))
    | succ mu ih =>
      intro i hi6 M9 F9x pt9 zt9 rc9 rs9 hF hm9 hf9 ho9 hca9 hra9 hst9 I9 f9 s9 c9
      obtain ⟨e0, e9, e10, e11, e12, e13⟩ := id hF
      rw [Nat.succ_mul] at s9 c9
      refine jj_iload_n (pc := 41) kR_init_d41 rfl ?_
      refine jn_bipush (pc := 42) 8 kR_init_d42 (by decide) ?_
      refine jn_icmp_ge (pc := 44) (tgt := 73) kR_init_d44 (by decide) (by omega) (by omega) (fun c => by exfalso; omega) (fun _ => ?_)
      refine jj_aload_n (pc := 47) kR_init_d47 rfl ?_
      refine jj_getf (pc := 48) kR_init_d48 (kfR_store hG) hm9 rfl ?_
      refine jj_iload_n (pc := 51) kR_init_d51 rfl ?_
      refine jj_new (pc := 52) kR_init_d52 (knR_RF hG) (by omega) (show 7 ≤ _ by omega) (fun a ha => ?_)
      refine jn_gen (fun M143 hM144 => ?_)
      have ne_a_r : a ≠ r := fun e => by have q := hm9; rw [← e, ha] at q; cases q
      have h145 : M143 r = some (.inl nR, [.int (nI (0)), .ref f, .ref o, .ref st]) := by rw [hM144, jj_up_ne _ _ (Ne.symm ne_a_r)]; exact hm9
      have hn_a : M143 a = some (.inl nRF, [.null, .null, .int (nI (0)), .int (nI (0)), .int (nI (0)), .null, .int (nI (0))]) := by rw [hM144]; exact jj_up_at _ _ _
      show jj G kR_init (d + 6) Q (rc9 - 1) (rs9 - 7) 55 [some (.ref r), some (.int (nI (i)))] [.ref a, .int (nI (i)), .ref st] M143
      refine jj_dup (pc := 55) kR_init_d55 rfl ?_
      refine jj_callI (pc := 56) (b := a) (As := []) kR_init_d56 (kvR_RF_init hG) rfl rfl rfl (Nat.le_of_ble_eq_true rfl) (Nat.le_of_ble_eq_true rfl) (jj_bare0 rfl) ?_
      refine rf_init hG hn_a (by omega) (by omega) (fun Mg wg vg pg dg hng hFg fg => ?_)
      have v1 : ∀ x, M9 x ≠ none → M143 x = M9 x := fun x hx => by rw [hM144, jj_up_ne _ _ (fun e => hx (by rw [e]; exact ha))]
      have nv : ∀ x, M143 x ≠ none → x ≠ wg ∧ x ≠ vg ∧ x ≠ pg ∧ x ≠ dg := fun x hx => ⟨fun e => hx (by rw [e]; exact hng.1), fun e => hx (by rw [e]; exact hng.2.1), fun e => hx (by rw [e]; exact hng.2.2.1), fun e => hx (by rw [e]; exact hng.2.2.2)⟩
      have v2 : ∀ x, M9 x ≠ none → Mg x = M9 x ∧ ¬ FO Mg a x := fun x hx => by
        have h1 := v1 x hx
        have h2 := nv x (by rw [h1]; exact hx)
        have h3 : x ≠ a := fun e => hx (by rw [e]; exact ha)
        refine ⟨(fg x h3 h2.1 h2.2.1 h2.2.2.1 h2.2.2.2).trans h1, fun hq => ?_⟩
        rcases hFg.own.mp hq with e | e | e | e | e
        · exact h3 e
        · exact h2.1 e
        · exact h2.2.2.2 e
        · exact h2.2.1 e
        · exact h2.2.2.1 e
      have hstg := (v2 st (by rw [hst9]; exact (fun e => (by cases e)))).1.trans hst9
      have hrg := (v2 r (by rw [hm9]; exact (fun e => (by cases e)))).1.trans hm9
      show jj G kR_init (d + 6) Q ((rc9 - 1) - 4) ((rs9 - 7) - 8259) 59 [some (.ref r), some (.int (nI (i)))] [.ref a, .int (nI (i)), .ref st] Mg
      refine jj_aast (pc := 59) (i := i) kR_init_d59 (kG_cl hG rfl) (kG_t hG rfl) hstg hFg.1.1 rfl (by rw [List.length_map, List.length_range]; decide) (by rw [List.length_map, List.length_range]; omega) ?_
      refine jn_gen (fun Md eMd => ?_)
      have kd : ∀ q, q ≠ st → Md q = Mg q := fun q h => by rw [eMd, jj_up_ne _ _ h]
      have nrs : r ≠ st := fun e => by have q := hm9; rw [e, hst9] at q; cases q
      have hrd := (kd r nrs).trans hrg
      obtain ⟨Fn, eFn⟩ : ∃ g, fup F9x (i + 1) a = g := ⟨_, rfl⟩
      have Fn0 : ∀ l, l ≠ i + 1 → Fn l = F9x l := fun l hl => by rw [← eFn, fup_ne _ hl]
      have Fna : Fn (i + 1) = a := by rw [← eFn, fup_at]
      have hsd : Md st = some (.inr 5, (List.range 8).map (fun l => if l < (i + 1) then Value.ref (Fn (l + 1)) else .null)) := by
        rw [eMd, jj_up_at]
        refine congrArg some (congrArg (Prod.mk _) (range_set ?_ (fun y hy1 hy => ?_)))
        · (try dsimp only); rw [if_pos (by omega), Fna]
        · (try dsimp only)
          by_cases c1 : y < i
          · rw [if_pos c1, if_pos (by omega), Fn0 _ (by omega)]
          · rw [if_neg c1, if_neg (by omega)]
      have hAg : AK Mg a (cmF (i + 1)) (cvF (i + 1)) (2 * cmF (i + 1) - 8192 + (2 * cvF (i + 1) - 8192)) (5 + 0) (fun _ _ _ _ => True) := AK.start hFg trivial (by unfold cmF; rw [if_neg (by omega)]) (by unfold cmF; rw [if_neg (by omega)]; decide) (by unfold cvF; rw [if_neg (by omega)]) (by unfold cvF; rw [if_neg (by omega)]; decide)
      have hsu : M9 st ≠ none := by rw [hst9]; exact (fun e => (by cases e))
      have hAd := hAg.eq (M' := Md) (fun q hq => kd q (fun e => (v2 st hsu).2 (by rw [← e]; exact hq)))
      have hcm : cmF (i + 1) = 131072 := by unfold cmF; rw [if_neg (by omega)]
      have hcv : cvF (i + 1) = 4096 := by unfold cvF; rw [if_neg (by omega)]
      show jj G kR_init (d + 6) Q ((rc9 - 1) - 4) ((rs9 - 7) - 8259) 60 [some (.ref r), some (.int (nI (i)))] [] Md
      refine jj_aload_n (pc := 60) kR_init_d60 rfl ?_
      refine jj_iload_n (pc := 61) kR_init_d61 rfl ?_
      refine jn_iconst (pc := 62) 1 kR_init_d62 (by decide) ?_
      refine jn_iconst (pc := 63) 1 kR_init_d63 (by decide) ?_
      have A5 := hAd.1
      rw [hcm, hcv, show 2 * 131072 - 8192 + (2 * 4096 - 8192) = 253952 from rfl, show 5 + 0 = 5 from rfl] at A5
      obtain ⟨nsp, hnsp⟩ : ∃ z, nsum pt9 (i + 1) + mu * 262218 + X = z := ⟨_, rfl⟩
      obtain ⟨nsz, hnsz⟩ : ∃ z, nsum zt9 (i + 1) + mu * 10 + Z = z := ⟨_, rfl⟩
      have hrm1 : 253952 + nsp ≤ ((rs9 - 7) - 8259) := room_a s9 hnsp
      have hrm2 : 5 + nsz ≤ ((rc9 - 1) - 4) := room_b c9 hnsz
      obtain ⟨u, ug, pu, du, E, TE, v3, Vg, tg, upg, lowg, Pg, rkg, X2, Z2, hBu, hSu, hXu, k3, k4, k5, k6, _⟩ := A5.opn (X' := nsp) (Z' := nsz) (rc := ((rc9 - 1) - 4)) (rs := ((rs9 - 7) - 8259)) hrm1 hrm2
      have hL8 : ((List.range 8).map (fun l => if l < i + 1 then Value.ref (Fn (l + 1)) else .null))[i]? = some (.ref a) := by
        rw [List.getElem?_map, List.getElem?_range (by omega)]
        show some (if i < i + 1 then Value.ref (Fn (i + 1)) else .null) = _
        rw [if_pos (by omega), Fna]
      refine jj_callV (pc := 64) (b := r) (As := [.int (nI (i)), .int (nI (1)), .int (nI (1))]) kR_init_d64 (kvR_R_empty hG) (kG_cl hG rfl) rfl hrd rfl rfl rfl (Nat.le_of_ble_eq_true rfl) (Nat.le_of_ble_eq_true rfl) (jj_bare0 rfl) ?_
      refine rm_empty_raw (R := 1) (c := 1) (k := i) (f := a) hG hrd hsd (by rw [List.length_map, List.length_range]; decide) hL8 (by omega) hBu.1 hSu hXu k5 k4 k3 (by decide) (by decide) (by decide) (by decide) (fun M8 vg8 E8 TE8 Vg8 up8 low8 X8 Z8 v8 rc8 rs8 hC8 hS8 hX8 t8 h18 hl8 hF8 hm8 => ?_)
      obtain ⟨p8, z8, hA8, hp8, hz8⟩ := AK.close (A := SA sg0 (i + 1)) hC8 hS8 hX8 t8 h18 hl8 k6 (Or.inr hm8)
      have w1 : ∀ q, M9 q ≠ none → q ≠ st → M8 q = M9 q := fun q hq hqs => by
        obtain ⟨g1, g2⟩ := v2 q hq
        have g3 := kd q hqs
        have g4 : ¬ FO Md a q := fun h => g2 ((hAd.2 q).mp h)
        exact ((hF8 q (by rw [g3, g1]; exact hq) g4).1.trans g3).trans g1
      have w2 : ∀ q, M9 q ≠ none → ¬ FO M8 a q := fun q hq => by
        obtain ⟨g1, g2⟩ := v2 q hq
        have g4 : ¬ FO Md a q := fun h => g2 ((hAd.2 q).mp h)
        refine (hF8 q ?_ g4).2
        by_cases c : q = st
        · rw [c, hsd]; exact (fun e => (by cases e))
        · rw [kd q c, g1]; exact hq
      have w3 : M8 st = Md st := (hF8 st (by rw [hsd]; exact (fun e => (by cases e))) (fun h => (v2 st hsu).2 ((hAd.2 st).mp h))).1
      have w4 : ∀ k q, k < i + 1 → FO M9 (F9x k) q → M8 q = M9 q := fun k q hk hq => w1 q ((I9.1 k hk).has hq) (by have := (I9.2.2 k q hk hq).2.2.1; rw [e11] at this; exact this)
      have n1 : r ≠ st := nrs
      have n2 : f ≠ st := fun e => by have q := hf9; rw [e, hst9] at q; cases q
      have n3 : o ≠ st := fun e => by have q := ho9; rw [e, hst9] at q; cases q
      have n4 : ca ≠ st := fun e => by have q := hca9; rw [e, hst9] at q; cases q
      have n5 : ra ≠ st := fun e => by have q := hra9; rw [e, hst9] at q; cases q
      have U : ∀ {q : Nat} {c : mcell}, M9 q = some c → q ≠ st → M8 q = some c := fun {q c} h1 h2 => (w1 q (by rw [h1]; exact (fun e => (by cases e))) h2).trans h1
      have I8 := I9.add (M' := M8) (a := a) (p := p8) (z := z8) (by omega) (fun q hq => by
        by_cases c : q = r
        · rw [c, hm9]; exact (fun e => (by cases e))
        · rw [f9 q hq c]; exact hq) (fun k k1 k2 => by
        rcases (show k = 9 ∨ k = 10 ∨ k = 11 ∨ k = 12 ∨ k = 13 by omega) with e | e | e | e | e
        · rw [e, e9, hm9]; exact (fun e => (by cases e))
        · rw [e, e10, ho9]; exact (fun e => (by cases e))
        · rw [e, e11, hst9]; exact (fun e => (by cases e))
        · rw [e, e12, hca9]; exact (fun e => (by cases e))
        · rw [e, e13, hra9]; exact (fun e => (by cases e))) w2 w4 (by rw [hcm, hcv]; exact hA8)
      rw [eFn] at I8
      have hr8 := U hm9 n1
      show jj G kR_init (d + 6) Q rc8 rs8 67 [some (.ref r), some (.int (nI (i)))] [] M8
      refine jn_iinc (pc := 67) (i + 1) kR_init_d67 rfl (nI_1 _) ?_
      refine jj_goto (pc := 70) (tgt := 41) kR_init_d70 (by decide) ?_
      show jj G kR_init (d + 6) Q rc8 rs8 41 [some (.ref r), some (.int (nI (i + 1)))] [] M8
      refine ih (i + 1) (by omega) M8 Fn _ _ rc8 rs8 ⟨(Fn0 _ (by omega)).trans e0, (Fn0 _ (by omega)).trans e9, (Fn0 _ (by omega)).trans e10, (Fn0 _ (by omega)).trans e11, (Fn0 _ (by omega)).trans e12, (Fn0 _ (by omega)).trans e13⟩ hr8 (U hf9 n2) (U ho9 n3) (U hca9 n4) (U hra9 n5) (w3.trans hsd) I8 (fun q hq hqr => ?_) (by rw [nsum_fup]; omega) (by rw [nsum_fup]; omega)
      have g0 := f9 q hq hqr
      exact (w1 q (by rw [g0]; exact hq) (no_st q hq hqr)).trans g0
  refine loop 8 0 (by omega) M135 F _ _ rcq rsq ⟨F0, F9, F10, F11, F12, F13⟩ h142 h137 h138 h139 h140 ?_ IN0 us0 ?_ ?_
  · rw [h141, rep_range (f := fun l => if l < 0 then Value.ref (F (l + 1)) else .null) (fun l => if_neg (Nat.not_lt_zero l))]
  · show 0 + (2 * cmF 0 - 8192 + (2 * cvF 0 - 8192)) + 8 * 262218 + X ≤ rsq
    rw [show 2 * cmF 0 - 8192 + (2 * cvF 0 - 8192) = 4194304 from rfl]
    omega
  · show 0 + (9 + 1) + 8 * 10 + Z ≤ rcq
    omega
end R3
