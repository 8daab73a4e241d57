/-! ===== Fractions.echelon (printed by wip/gen/rf14.py) ===== -/
theorem at_div {n i j : Nat} (h : j < n) : (i * n + j) / n = i ∧ (i * n + j) % n = j := by
  have h1 : (i * n + j) % n = j := by rw [Nat.add_comm, Nat.add_mul_mod_self_right]; exact Nat.mod_eq_of_lt h
  have h2 : (i * n + j) / n = i := by rw [Nat.add_comm, Nat.add_mul_div_right _ _ (by omega), Nat.div_eq_of_lt h]; omega
  exact ⟨h2, h1⟩
theorem at_back {m n k : Nat} (h : k < m * n) : k / n < m ∧ k % n < n ∧ k / n * n + k % n = k := by
  have hn : 0 < n := Nat.pos_of_ne_zero (fun e => by rw [e, Nat.mul_zero] at h; omega)
  exact ⟨(Nat.div_lt_iff_lt_mul hn).mpr h, Nat.mod_lt k hn, Nat.div_add_mod' k n⟩
theorem gj_cells {A : qmat} {q : Nat → Rat} {m n r p c : Nat} (h : ∀ i, i < m → ∀ j, j < n → A i j = q (i * n + j)) (hr : r < m) (hp : p < m) (hc : c < n) {i j : Nat} (hi : i < m) (hj : j < n) : gj A r p c i j = gj (fun i k => q (i * n + k)) r p c i j := by
  by_cases e : i = r
  · subst e
    rw [gj_r, gj_r, h p hp j hj, h p hp c hc]
  · rw [gj_o _ e, gj_o _ e, h p hp j hj, h p hp c hc, h _ (by split <;> omega) j hj, h _ (by split <;> omega) c hc]
/-- what elimination needs: sizes of all cells and factors on the way -/
def ESZ (W : qmat) (wt : Nat → Rat) (m n s : Nat) : Prop := ∀ (A' : qmat) (c rk : Nat) (x g : Nat → Nat), GI W wt A' m n rk x g → gjinv A' m c rk g → c ≤ n → (∀ i j, i < m → j < n → ZB s (A' i j).num ∧ ZB s ((A' i j).den : Int)) ∧ (c < n → ∀ o p, o < m → rk ≤ p → p < m → A' p c ≠ 0 → ZB s (A' o c / A' p c).num ∧ ZB s ((A' o c / A' p c).den : Int))
theorem ZB.of_le {s b : Nat} {z : Int} (h : z.natAbs ≤ b) (hb : b < 32768 ^ s) : ZB s z := Nat.lt_of_le_of_lt h hb
theorem ESZ.of {W : qmat} {wt : Nat → Rat} {m n s b wb K : Nat} (hW : ∀ i, i < m → ∀ j, j < n → zle b (W i j)) (hw : ∀ i, i < m → zle wb (wt i) ∧ wt i ≠ 0) (hK : K = min m n) (hb : 1 ≤ b) (hwb : 1 ≤ wb) (hs : (K * b) ^ K * wb < 32768 ^ s) : ESZ W wt m n s := by
  intro A' c rk x g h hg hc
  refine ⟨fun i j hi hj => ?_, fun hcn o p ho hp hpm h0 => ?_⟩
  · obtain ⟨h1, h2⟩ := h.size hg hc hW hw hK hb hwb hi hj
    exact ⟨ZB.of_le h1 hs, ZB.of_le (by omega) hs⟩
  · obtain ⟨h1, h2⟩ := h.factor hg hcn hW hw hK hb hwb ho hp hpm h0
    exact ⟨ZB.of_le h1 hs, ZB.of_le (by omega) hs⟩
/-- an invariant of elimination, and the sizes that it gives -/
def EJ (J : qmat → Nat → (Nat → Nat) → Prop) (m n s : Nat) : Prop := (∀ (A' : qmat) (c rk p : Nat) (g : Nat → Nat), J A' rk g → gjinv A' m c rk g → c < n → rk ≤ p → p < m → A' p c ≠ 0 → J (gj A' rk p c) (rk + 1) (fun l => if l = rk then c else g l)) ∧ ∀ (A' : qmat) (c rk : Nat) (g : Nat → Nat), J A' rk g → gjinv A' m c rk g → c ≤ n → (∀ i j, i < m → j < n → ZB s (A' i j).num ∧ ZB s ((A' i j).den : Int)) ∧ (c < n → ∀ o p, o < m → rk ≤ p → p < m → A' p c ≠ 0 → ZB s (A' o c / A' p c).num ∧ ZB s ((A' o c / A' p c).den : Int))
theorem EJ.ofESZ {W : qmat} {wt : Nat → Rat} {m n s : Nat} (h : ESZ W wt m n s) (hw : ∀ i, i < m → wt i ≠ 0) : EJ (fun A' rk g => ∃ x, GI W wt A' m n rk x g) m n s := by
  refine ⟨fun A' c rk p g ⟨x, hx⟩ hg hc hp hpm h0 => ⟨_, hx.step hw hp hpm hc h0⟩, fun A' c rk g ⟨x, hx⟩ hg hc => h A' c rk x g hx hg hc⟩
section RF14
variable {G : jg} {d : Nat} {Q : jq} {rc rs : Nat} {M : mheap} {f w vv pv : Nat} {v2 : Value} {D V P : List Int32} {t : Nat} {up low rk : Int32}
/-- what holds behind echelon -/
def ECK (Q : jq) (M : mheap) (f w pv : Nat) (D V P : List Int32) (b nu m n first cm cv X' Z' E : Nat) (A : qmat) (J : qmat → Nat → (Nat → Nat) → Prop) : Prop := ∀ M' vv' D' T' V' P' up' low' rk' g A' q' X1 Z1 v2' rc' rs', FC M' f w vv' pv V' (b + 2 + 2 * (m * n)) up' low' P' (nI rk') → RS M' w D' T' v2' cm X1 Z1 rc' rs' → FXB cv V' X1 Z1 X' Z' → nu ≤ T' → T' ≤ E → (∀ i, i < nu → D'.getD i 0 = D.getD i 0) → (∀ i, i < b → V'.getD i 0 = V.getD i 0) → b + 2 + 2 * (m * n) ≤ V'.length → FF M M' f → MX D' T' V' (b + 2 + 2 * (m * n)) b m n 0 q' → (∀ i, i < m → ∀ j, j < n → A' i j = q' (i * n + j)) → gjinv A' m first rk' g → J A' rk' g → rowsIn A' m A m n → rowsIn A m A' m n → P'.length = P.length → (∀ i, i < rk' → P'.getD i 0 = nI (g i)) → Q (.returned (some (.int (nI b)))) M' rc' rs'
theorem rf_echelon2 {b nu m n fi T s Sz E cm cv X Z X' Z' : Nat} {q : Nat → Rat} {A : qmat} {J : qmat → Nat → (Nat → Nat) → Prop} {B : Nat → Nat} (hG : kG G) (hC : FC M f w vv pv V (t) up low P rk) (hS : RS M w D T v2 cm X Z rc rs) (hX : FXB cv V X Z X' Z') (htV : t ≤ V.length) (h1 : RI D nu 1 1) (hnu : 3 ≤ nu) (hnT : nu ≤ T) (hb : MX D T V (t) b m n 0 q) (hA : ∀ i, i < m → ∀ j, j < n → A i j = q (i * n + j)) (hm : m < 64) (hn : n < 1024) (hfi : fi ≤ n) (hP : P.length = 64) (ht0 : t = b + 2 + 2 * (m * n)) (hsz : EJ J m n s) (hJ0 : J A 0 (fun i => i)) (hBs : BQ B s n (m * n)) (hSz : B (m * n) = Sz) (hs2 : 3 * s + 1 ≤ 9000) (hE : E = nu + Sz) (hTE : T ≤ E) (ht : b + 4 + 4 * (m * n) ≤ cv) (hT : E + Sz + 20000 + 100 * s + 500 ≤ cm)
    (K : ECK Q M f w pv D V P b nu m n fi cm cv X' Z' E A J) : jj G kRF_echelon (d + 11) Q rc rs 0 (jj_ent [.ref f, .int (nI b), .int (nI nu), .int (nI fi)] 7) [] M := by
  have hcap := hX.cap
  have hcapD := hS.2.1.cap
  have hmn : m * n < 64 * 1024 := Nat.mul_lt_mul_of_lt_of_le hm (by omega) (by decide)
  unfold ECK at K
  rw [← ht0] at K
  have loop : ∀ mu c, fi = c + mu → ∀ (o6 : Option Value) (rkn : Nat) (g : Nat → Nat) (A9 : qmat) (q9 : Nat → Rat) (M9 : mheap) (vv : Nat) (D9 : List Int32) (T9 : Nat) (V9 P9 : List Int32) (up9 low9 : Int32) (X9 Z9 : Nat) (v9 : Value) (rc9 rs9 : Nat), FC M9 f w vv pv V9 (t) up9 low9 P9 (nI rkn) → RS M9 w D9 T9 v9 cm X9 Z9 rc9 rs9 → FXB cv V9 X9 Z9 X' Z' → nu ≤ T9 → T9 ≤ E → (∀ i, i < nu → D9.getD i 0 = D.getD i 0) → (∀ i, i < b → V9.getD i 0 = V.getD i 0) → t ≤ V9.length → FF M M9 f → MX D9 T9 V9 (t) b m n 0 q9 → (∀ i, i < m → ∀ j, j < n → A9 i j = q9 (i * n + j)) → gjinv A9 m c rkn g → J A9 rkn g → rowsIn A9 m A m n → rowsIn A m A9 m n → P9.length = P.length → (∀ i, i < rkn → P9.getD i 0 = nI (g i)) → jj G kRF_echelon (d + 11) Q rc9 rs9 11 [some (.ref f), some (.int (nI (b))), some (.int (nI (nu))), some (.int (nI (fi))), some (.int (nI (b))), some (.int (nI (c))), (o6)] [] M9 := by
    intro mu
    induction mu with
    | zero =>
      intro c hk o6 rkn g A9 q9 M9 vv D9 T9 V9 P9 up9 low9 X9 Z9 v9 rc9 rs9 hC9 hS9 hX9 t9 u9 ho9 hV9 hl9 hF9 hb9 hA9 hg9 hI9 hr9 hq9 hP9 hp9
      have e9 : fi = c := by omega
      subst e9
      refine jj_iload (pc := 11) kRF_echelon_d11 rfl ?_
      refine jj_iload_n (pc := 13) kRF_echelon_d13 rfl ?_
      refine jn_icmp_ge (pc := 14) (tgt := 132) kRF_echelon_d14 (by decide) (by omega) (by omega) (fun _ => ?_) (fun c => by exfalso; omega)
      refine jj_iload (pc := 132) kRF_echelon_d132 rfl ?_
      exact jj_iret (pc := 134) kRF_echelon_d134 rfl (by rfl) (K M9 vv D9 T9 V9 P9 up9 low9 rkn g A9 q9 X9 Z9 v9 rc9 rs9 hC9 hS9 hX9 t9 u9 ho9 hV9 hl9 hF9 hb9 hA9 hg9 hI9 hr9 hq9 hP9 hp9)
    | succ mu ih =>
      intro c hk o6 rkn g A9 q9 M9 vv D9 T9 V9 P9 up9 low9 X9 Z9 v9 rc9 rs9 hC9 hS9 hX9 t9 u9 ho9 hV9 hl9 hF9 hb9 hA9 hg9 hI9 hr9 hq9 hP9 hp9
      obtain ⟨hb1, hb2, hb3, hb4⟩ := id hb9
      have hcap9 := hX9.cap
      have hrk := hg9.1
      have hcap9D := hS9.2.1.cap
      have hTD9 := hS9.2.2.1
      have hz9 := hS9.2.2.2.1
      refine jj_iload (pc := 11) kRF_echelon_d11 rfl ?_
      refine jj_iload_n (pc := 13) kRF_echelon_d13 rfl ?_
      refine jn_icmp_ge (pc := 14) (tgt := 132) kRF_echelon_d14 (by decide) (by omega) (by omega) (fun c => by exfalso; omega) (fun _ => ?_)
      refine jj_aload_n (pc := 17) kRF_echelon_d17 rfl ?_
      refine jj_getf (pc := 18) kRF_echelon_d18 (kfRF_rank hG) hC9.1 rfl ?_
      refine jj_aload_n (pc := 21) kRF_echelon_d21 rfl ?_
      refine jj_iload (pc := 22) kRF_echelon_d22 rfl ?_
      refine jj_callV (pc := 24) (b := f) (As := [.int (nI (b))]) kRF_echelon_d24 (kvRF_RF_rows hG) (kG_cl hG rfl) rfl hC9.1 rfl rfl rfl (Nat.le_of_ble_eq_true rfl) (Nat.le_of_ble_eq_true rfl) (jj_bare0 rfl) ?_
      refine rf_rows hG hC9 (by omega) (by omega) ?_
      show jj G kRF_echelon (d + 11) Q rc9 rs9 27 [some (.ref f), some (.int (nI (b))), some (.int (nI (nu))), some (.int (nI (fi))), some (.int (nI (b))), some (.int (nI (c))), (o6)] [.int (V9.getD b 0), .int (nI (rkn))] M9
      refine jn_top (.int (nI (m))) (by rw [hb2]) ?_
      refine jn_icmp_ge (pc := 27) (tgt := 132) kRF_echelon_d27 (by decide) (by omega) (by omega) (fun c1 => ?_) (fun c1 => ?_)
      · skip
        have e9 : rkn = m := by omega
        refine jj_iload (pc := 132) kRF_echelon_d132 rfl ?_
        exact jj_iret (pc := 134) kRF_echelon_d134 rfl (by rfl) (K M9 vv D9 T9 V9 P9 up9 low9 rkn g A9 q9 X9 Z9 v9 rc9 rs9 hC9 hS9 hX9 t9 u9 ho9 hV9 hl9 hF9 hb9 hA9 (by rw [e9] at hg9 ⊢; exact gjinv_full hg9 (by omega)) hI9 hr9 hq9 hP9 hp9)
      · skip
        refine jj_aload_n (pc := 30) kRF_echelon_d30 rfl ?_
        refine jj_getf (pc := 31) kRF_echelon_d31 (kfRF_rank hG) hC9.1 rfl ?_
        refine jj_istore (pc := 34) kRF_echelon_d34 (Nat.le_of_ble_eq_true rfl) ?_
        have inner : ∀ mu2 p, m = p + mu2 → rkn ≤ p → (∀ i, rkn ≤ i → i < p → A9 i c = 0) → jj G kRF_echelon (d + 11) Q rc9 rs9 36 [some (.ref f), some (.int (nI (b))), some (.int (nI (nu))), some (.int (nI (fi))), some (.int (nI (b))), some (.int (nI (c))), some (.int (nI (p)))] [] M9 := by
          intro mu2
          induction mu2 with
          | zero =>
            intro p hp hrp h0
            have e9 : m = p := by omega
            subst e9
            refine jj_iload (pc := 36) kRF_echelon_d36 rfl ?_
            refine jj_aload_n (pc := 38) kRF_echelon_d38 rfl ?_
            refine jj_iload (pc := 39) kRF_echelon_d39 rfl ?_
            refine jj_callV (pc := 41) (b := f) (As := [.int (nI (b))]) kRF_echelon_d41 (kvRF_RF_rows hG) (kG_cl hG rfl) rfl hC9.1 rfl rfl rfl (Nat.le_of_ble_eq_true rfl) (Nat.le_of_ble_eq_true rfl) (jj_bare0 rfl) ?_
            refine rf_rows hG hC9 (by omega) (by omega) ?_
            show jj G kRF_echelon (d + 11) Q rc9 rs9 44 [some (.ref f), some (.int (nI (b))), some (.int (nI (nu))), some (.int (nI (fi))), some (.int (nI (b))), some (.int (nI (c))), some (.int (nI (m)))] [.int (V9.getD b 0), .int (nI (m))] M9
            refine jn_top (.int (nI (m))) (by rw [hb2]) ?_
            refine jn_icmp_ge (pc := 44) (tgt := 74) kRF_echelon_d44 (by decide) (by omega) (by omega) (fun _ => ?_) (fun c => by exfalso; omega)
            refine jj_iload (pc := 74) kRF_echelon_d74 rfl ?_
            refine jj_aload_n (pc := 76) kRF_echelon_d76 rfl ?_
            refine jj_iload (pc := 77) kRF_echelon_d77 rfl ?_
            refine jj_callV (pc := 79) (b := f) (As := [.int (nI (b))]) kRF_echelon_d79 (kvRF_RF_rows hG) (kG_cl hG rfl) rfl hC9.1 rfl rfl rfl (Nat.le_of_ble_eq_true rfl) (Nat.le_of_ble_eq_true rfl) (jj_bare0 rfl) ?_
            refine rf_rows hG hC9 (by omega) (by omega) ?_
            show jj G kRF_echelon (d + 11) Q rc9 rs9 82 [some (.ref f), some (.int (nI (b))), some (.int (nI (nu))), some (.int (nI (fi))), some (.int (nI (b))), some (.int (nI (c))), some (.int (nI (m)))] [.int (V9.getD b 0), .int (nI (m))] M9
            refine jn_top (.int (nI (m))) (by rw [hb2]) ?_
            refine jn_icmp_ne (pc := 82) (tgt := 88) kRF_echelon_d82 (by decide) (by omega) (by omega) (fun c => by exfalso; omega) (fun _ => ?_)
            refine jj_goto (pc := 85) (tgt := 126) kRF_echelon_d85 (by decide) ?_
            refine jn_iinc (pc := 126) (c + 1) kRF_echelon_d126 rfl (nI_1 _) ?_
            refine jj_goto (pc := 129) (tgt := 11) kRF_echelon_d129 (by decide) ?_
            show jj G kRF_echelon (d + 11) Q rc9 rs9 11 [some (.ref f), some (.int (nI (b))), some (.int (nI (nu))), some (.int (nI (fi))), some (.int (nI (b))), some (.int (nI (c + 1))), some (.int (nI (m)))] [] M9
            exact ih (c + 1) (by omega) _ rkn g A9 q9 M9 vv D9 T9 V9 P9 up9 low9 X9 Z9 v9 rc9 rs9 hC9 hS9 hX9 t9 u9 ho9 hV9 hl9 hF9 hb9 hA9 (gjinv_none hg9 h0) hI9 hr9 hq9 hP9 hp9
          | succ mu2 ih2 =>
            intro p hp hrp h0
            obtain ⟨pn, hpn⟩ : ∃ pn, p * n = pn := ⟨_, rfl⟩
            obtain ⟨ix, hix⟩ : ∃ ix, pn + c = ix := ⟨_, rfl⟩
            have hil : ix < m * n := by rw [← hix, ← hpn]; exact cell_lt (by omega) (by omega)
            obtain ⟨pp, lp, a1, a2, a3, -⟩ := hb4 ix hil
            have hpc : A9 p c = q9 ix := by rw [hA9 p (by omega) c (by omega), hpn, hix]
            have hpl := a3.1.lt
            refine jj_iload (pc := 36) kRF_echelon_d36 rfl ?_
            refine jj_aload_n (pc := 38) kRF_echelon_d38 rfl ?_
            refine jj_iload (pc := 39) kRF_echelon_d39 rfl ?_
            refine jj_callV (pc := 41) (b := f) (As := [.int (nI (b))]) kRF_echelon_d41 (kvRF_RF_rows hG) (kG_cl hG rfl) rfl hC9.1 rfl rfl rfl (Nat.le_of_ble_eq_true rfl) (Nat.le_of_ble_eq_true rfl) (jj_bare0 rfl) ?_
            refine rf_rows hG hC9 (by omega) (by omega) ?_
            show jj G kRF_echelon (d + 11) Q rc9 rs9 44 [some (.ref f), some (.int (nI (b))), some (.int (nI (nu))), some (.int (nI (fi))), some (.int (nI (b))), some (.int (nI (c))), some (.int (nI (p)))] [.int (V9.getD b 0), .int (nI (p))] M9
            refine jn_top (.int (nI (m))) (by rw [hb2]) ?_
            refine jn_icmp_ge (pc := 44) (tgt := 74) kRF_echelon_d44 (by decide) (by omega) (by omega) (fun c => by exfalso; omega) (fun _ => ?_)
            refine jj_aload_n (pc := 47) kRF_echelon_d47 rfl ?_
            refine jj_iload (pc := 48) kRF_echelon_d48 rfl ?_
            refine jj_iload (pc := 50) kRF_echelon_d50 rfl ?_
            refine jj_aload_n (pc := 52) kRF_echelon_d52 rfl ?_
            refine jj_iload (pc := 53) kRF_echelon_d53 rfl ?_
            refine jj_callV (pc := 55) (b := f) (As := [.int (nI (b))]) kRF_echelon_d55 (kvRF_RF_columns hG) (kG_cl hG rfl) rfl hC9.1 rfl rfl rfl (Nat.le_of_ble_eq_true rfl) (Nat.le_of_ble_eq_true rfl) (jj_bare0 rfl) ?_
            refine rf_columns hG hC9 (by omega) (by omega) ?_
            show jj G kRF_echelon (d + 11) Q rc9 rs9 58 [some (.ref f), some (.int (nI (b))), some (.int (nI (nu))), some (.int (nI (fi))), some (.int (nI (b))), some (.int (nI (c))), some (.int (nI (p)))] [.int (V9.getD (b + 1) 0), .int (nI (p)), .int (nI (b)), .ref f] M9
            refine jn_top (.int (nI (n))) (by rw [hb3]) ?_
            refine jn_imul (pc := 58) (pn) kRF_echelon_d58 hpn ?_
            refine jj_iload (pc := 59) kRF_echelon_d59 rfl ?_
            refine jn_iadd (pc := 61) (ix) kRF_echelon_d61 hix ?_
            refine jj_callV (pc := 62) (b := f) (As := [.int (nI (b)), .int (nI (ix))]) kRF_echelon_d62 (kvRF_RF_upper hG) (kG_cl hG rfl) rfl hC9.1 rfl rfl rfl (Nat.le_of_ble_eq_true rfl) (Nat.le_of_ble_eq_true rfl) (jj_bare0 rfl) ?_
            refine rf_upper hG hC9 (by omega) (by omega) ?_
            show jj G kRF_echelon (d + 11) Q rc9 rs9 65 [some (.ref f), some (.int (nI (b))), some (.int (nI (nu))), some (.int (nI (fi))), some (.int (nI (b))), some (.int (nI (c))), some (.int (nI (p)))] [.int (V9.getD (b + 2 + 2 * ix) 0)] M9
            refine jn_top (.int (nI (pp))) (by rw [a1]) ?_
            refine jn_if_ne (pc := 65) (tgt := 74) kRF_echelon_d65 (by decide) (by omega) (fun c2 => ?_) (fun c2 => ?_)
            · skip
              clear ih2
              have hn0 : A9 p c ≠ 0 := fun e => by have h9 := a3.1; rw [← hpc, e] at h9; have := RI.p0 h9; omega
              have hgI := hsz.1 _ _ _ _ _ hI9 hg9 (by omega) hrp (by omega) hn0
              have hgj := gjinv_step hg9 hrp (by omega) hn0
              obtain ⟨z1, z2⟩ := hsz.2 _ _ _ _ hI9 hg9 (by omega)
              obtain ⟨z3, -⟩ := hsz.2 _ _ _ _ hgI hgj (by omega)
              have z2' := z2 (by omega)
              have hce : ∀ i j, i < m → j < n → gj A9 rkn p c i j = gj (fun i k => q9 (i * n + k)) rkn p c i j := fun i j hi hj => gj_cells hA9 (by omega) (by omega) (by omega) hi hj
              refine jj_iload (pc := 74) kRF_echelon_d74 rfl ?_
              refine jj_aload_n (pc := 76) kRF_echelon_d76 rfl ?_
              refine jj_iload (pc := 77) kRF_echelon_d77 rfl ?_
              refine jj_callV (pc := 79) (b := f) (As := [.int (nI (b))]) kRF_echelon_d79 (kvRF_RF_rows hG) (kG_cl hG rfl) rfl hC9.1 rfl rfl rfl (Nat.le_of_ble_eq_true rfl) (Nat.le_of_ble_eq_true rfl) (jj_bare0 rfl) ?_
              refine rf_rows hG hC9 (by omega) (by omega) ?_
              show jj G kRF_echelon (d + 11) Q rc9 rs9 82 [some (.ref f), some (.int (nI (b))), some (.int (nI (nu))), some (.int (nI (fi))), some (.int (nI (b))), some (.int (nI (c))), some (.int (nI (p)))] [.int (V9.getD b 0), .int (nI (p))] M9
              refine jn_top (.int (nI (m))) (by rw [hb2]) ?_
              refine jn_icmp_ne (pc := 82) (tgt := 88) kRF_echelon_d82 (by decide) (by omega) (by omega) (fun _ => ?_) (fun c => by exfalso; omega)
              refine jj_aload_n (pc := 88) kRF_echelon_d88 rfl ?_
              refine jj_iload (pc := 89) kRF_echelon_d89 rfl ?_
              refine jj_iload_n (pc := 91) kRF_echelon_d91 rfl ?_
              refine jj_aload_n (pc := 92) kRF_echelon_d92 rfl ?_
              refine jj_getf (pc := 93) kRF_echelon_d93 (kfRF_rank hG) hC9.1 rfl ?_
              refine jj_iload (pc := 96) kRF_echelon_d96 rfl ?_
              refine jj_iload (pc := 98) kRF_echelon_d98 rfl ?_
              refine jj_callV (pc := 100) (b := f) (As := [.int (nI (b)), .int (nI (nu)), .int (nI (rkn)), .int (nI (p)), .int (nI (c))]) kRF_echelon_d100 (kvRF_RF_cleared hG) (kG_cl hG rfl) rfl hC9.1 rfl rfl rfl (Nat.le_of_ble_eq_true rfl) (Nat.le_of_ble_eq_true rfl) (jj_bare0 rfl) ?_
              refine rf_cleared (lob := 0) (q := q9) (m := m) (n := n) (s := s) (Sz := Sz) (B := B) hG hC9 hS9 hX9 hl9 (h1.congr t9 ho9) (by omega) hb9 (by omega) hn (by omega) (by omega) (by omega) (by rw [hpn, hix, ← hpc]; exact hn0) (fun k hk => by
                  obtain ⟨k1, k2, k3⟩ := at_back hk
                  have := z1 _ _ k1 k2
                  rw [hA9 _ k1 _ k2, k3] at this
                  exact this) (fun i hi hne => by
                  have := z2' (clo rkn p i) p (clo_lt (by omega) (by omega) hi) hrp (by omega) hn0
                  rw [hA9 _ (clo_lt (by omega) (by omega) hi) c (by omega), hA9 p (by omega) c (by omega)] at this
                  exact this) (fun k hk => by
                  obtain ⟨k1, k2, k3⟩ := at_back hk
                  have := z3 _ _ k1 k2
                  rw [hce _ _ k1 k2] at this
                  exact this) hBs hSz hs2 (by omega) (by omega) (h1.congr (Nat.le_refl _) ho9) hnu t9 (fun M5 vv D5 T5 V5 up5 low5 X5 Z5 v5 rc5 rs5 hC5 hS5 hX5 t5 u5 ho5 hv5 hl5 hF5 hm5 => ?_)
              show jj G kRF_echelon (d + 11) Q rc5 rs5 103 [some (.ref f), some (.int (nI (b))), some (.int (nI (nu))), some (.int (nI (fi))), some (.int (nI (b))), some (.int (nI (c))), some (.int (nI (p)))] [.int (nI (b))] M5
              have hF6 := hF9.trans hF5
              have hcap5 := hX5.cap
              rw [← ht0] at hC5 hm5 hl5
              refine jj_istore (pc := 103) kRF_echelon_d103 (Nat.le_of_ble_eq_true rfl) ?_
              refine jj_aload_n (pc := 105) kRF_echelon_d105 rfl ?_
              refine jj_getf (pc := 106) kRF_echelon_d106 (kfRF_pivots hG) hC5.1 rfl ?_
              refine jj_aload_n (pc := 109) kRF_echelon_d109 rfl ?_
              refine jj_getf (pc := 110) kRF_echelon_d110 (kfRF_rank hG) hC5.1 rfl ?_
              refine jj_iload (pc := 113) kRF_echelon_d113 rfl ?_
              refine jn_iast (pc := 115) kRF_echelon_d115 (kG_t hG rfl) hC5.2.2.1 (by omega) (by omega) ?_
              refine jn_gen (fun M101 hM102 => ?_)
              have hC103 : FC M101 f w vv pv V5 (t) (up5) (low5) ((P9).set (rkn) ((nI (c)))) (nI (rkn)) := by rw [hM102]; exact hC5.putp
              have hF103 : FF M M101 f := by rw [hM102]; exact hF6.trans (FF.putp hC5)
              have hS103 : RS M101 w D5 (T5) v5 cm X5 Z5 rc5 rs5 := by rw [hM102]; exact hS5.other hC5.2.2.2.2.2.2
              refine jj_aload_n (pc := 116) kRF_echelon_d116 rfl ?_
              refine jj_dup (pc := 117) kRF_echelon_d117 rfl ?_
              refine jj_getf (pc := 118) kRF_echelon_d118 (kfRF_rank hG) hC103.1 rfl ?_
              refine jn_iconst (pc := 121) 1 kRF_echelon_d121 (by decide) ?_
              refine jn_iadd (pc := 122) (rkn + 1) kRF_echelon_d122 (by omega) ?_
              refine jj_putf (pc := 123) kRF_echelon_d123 (kpRF_rank hG) hC103.1 (by rfl) rfl ?_
              refine jn_gen (fun M104 hM105 => ?_)
              have hC106 : FC M104 f w vv pv V5 (t) (up5) (low5) ((P9).set (rkn) ((nI (c)))) (nI (rkn + 1)) := by rw [hM105]; exact hC103.putf
              have hF106 : FF M M104 f := by rw [hM105]; exact hF103.trans (FF.putf hC103)
              have hS106 : RS M104 w D5 (T5) v5 cm X5 Z5 rc5 rs5 := by rw [hM105]; exact hS103.other hC103.2.2.2.2.1
              refine jn_iinc (pc := 126) (c + 1) kRF_echelon_d126 rfl (nI_1 _) ?_
              refine jj_goto (pc := 129) (tgt := 11) kRF_echelon_d129 (by decide) ?_
              show jj G kRF_echelon (d + 11) Q rc5 rs5 11 [some (.ref f), some (.int (nI (b))), some (.int (nI (nu))), some (.int (nI (fi))), some (.int (nI (b))), some (.int (nI (c + 1))), some (.int (nI (p)))] [] M104
              refine ih (c + 1) (by omega) _ (rkn + 1) (fun l => if l = rkn then c else g l) (gj A9 rkn p c) (fun k => gj (fun i k => q9 (i * n + k)) rkn p c (k / n) (k % n)) M104 vv D5 T5 V5 _ up5 low5 X5 Z5 v5 rc5 rs5 hC106 hS106 hX5 (by omega) (by omega) (fun i hi => by rw [ho5 i (by omega), ho9 i hi]) (fun i hi => by rw [hv5 i (by omega), hV9 i hi]) (by omega) hF106 (hm5.congr (Nat.le_refl _) (fun _ _ => rfl) (Nat.le_refl _) (fun _ _ => rfl) (Nat.zero_le _)) (fun i hi j hj => ?_) hgj hgI (rowsIn_trans (gj_in (by omega) (by omega)) hr9) (rowsIn_trans hq9 (gj_back (by omega) (by omega) hn0)) (by rw [List.length_set]; exact hP9) (fun i hi => ?_)
              · obtain ⟨e1, e2⟩ := at_div (i := i) hj
                try dsimp only
                rw [e1, e2]
                exact hce i j hi hj
              · by_cases e : i = rkn
                · rw [if_pos e, e]
                  exact gd_set_eq (by omega)
                · rw [if_neg e, gd_set_ne (by omega)]
                  exact hp9 i (by omega)
            · skip
              have hz0 : A9 p c = 0 := by rw [hpc]; exact Rat.num_eq_zero.mp (by subst c2; exact a3.1.z0 hz9 (by omega))
              refine jn_iinc (pc := 68) (p + 1) kRF_echelon_d68 rfl (nI_1 _) ?_
              refine jj_goto (pc := 71) (tgt := 36) kRF_echelon_d71 (by decide) ?_
              show jj G kRF_echelon (d + 11) Q rc9 rs9 36 [some (.ref f), some (.int (nI (b))), some (.int (nI (nu))), some (.int (nI (fi))), some (.int (nI (b))), some (.int (nI (c))), some (.int (nI (p + 1)))] [] M9
              exact ih2 (p + 1) (by omega) (by omega) (fun i h2 h3 => by
                  by_cases e : i = p
                  · rw [e]; exact hz0
                  · exact h0 i h2 (by omega))
        exact inner (m - rkn) rkn (by omega) (Nat.le_refl _) (fun i h2 h3 => by omega)
  show jj G kRF_echelon (d + 11) Q rc rs 0 [some (.ref f), some (.int (nI (b))), some (.int (nI (nu))), some (.int (nI (fi))), none, none, none] [] M
  refine jj_iload_n (pc := 0) kRF_echelon_d0 rfl ?_
  refine jj_istore (pc := 1) kRF_echelon_d1 (Nat.le_of_ble_eq_true rfl) ?_
  refine jj_aload_n (pc := 3) kRF_echelon_d3 rfl ?_
  refine jn_iconst (pc := 4) 0 kRF_echelon_d4 (by decide) ?_
  refine jj_putf (pc := 5) kRF_echelon_d5 (kpRF_rank hG) hC.1 (by rfl) rfl ?_
  refine jn_gen (fun M107 hM108 => ?_)
  have hC109 : FC M107 f w vv pv V (t) (up) (low) P (nI (0)) := by rw [hM108]; exact hC.putf
  have hF109 : FF M M107 f := by rw [hM108]; exact (FF.refl M f).trans (FF.putf hC)
  have hS109 : RS M107 w D (T) v2 cm X Z rc rs := by rw [hM108]; exact hS.other hC.2.2.2.2.1
  refine jn_iconst (pc := 8) 0 kRF_echelon_d8 (by decide) ?_
  refine jj_istore (pc := 9) kRF_echelon_d9 (Nat.le_of_ble_eq_true rfl) ?_
  show jj G kRF_echelon (d + 11) Q rc rs 11 [some (.ref f), some (.int (nI (b))), some (.int (nI (nu))), some (.int (nI (fi))), some (.int (nI (b))), some (.int (nI (0))), none] [] M107
  exact loop fi 0 (by omega) none 0 (fun i => i) A q M107 vv D T V P up low X Z v2 rc rs hC109 hS109 hX hnT hTE (fun _ _ => rfl) (fun _ _ => rfl) htV hF109 hb hA (gjinv_start A m _) hJ0 rowsIn_refl rowsIn_refl rfl (fun i hi => by omega)
theorem rf_echelon {b nu m n fi T s S E cm cv X Z X' Z' : Nat} {q : Nat → Rat} {A : qmat} {J : qmat → Nat → (Nat → Nat) → Prop} (hG : kG G) (hC : FC M f w vv pv V (t) up low P rk) (hS : RS M w D T v2 cm X Z rc rs) (hX : FXB cv V X Z X' Z') (htV : t ≤ V.length) (h1 : RI D nu 1 1) (hnu : 3 ≤ nu) (hnT : nu ≤ T) (hb : MX D T V (t) b m n 0 q) (hA : ∀ i, i < m → ∀ j, j < n → A i j = q (i * n + j)) (hm : m < 64) (hn : n < 1024) (hfi : fi ≤ n) (hP : P.length = 64) (ht0 : t = b + 2 + 2 * (m * n)) (hsz : EJ J m n s) (hJ0 : J A 0 (fun i => i)) (hs : S = 4 * s + 4) (hs2 : 3 * s + 1 ≤ 9000) (hE : E = nu + m * n * S) (hTE : T ≤ E) (ht : b + 4 + 4 * (m * n) ≤ cv) (hT : E + m * n * S + 20000 + 100 * s + 500 ≤ cm)
    (K : ECK Q M f w pv D V P b nu m n fi cm cv X' Z' E A J) : jj G kRF_echelon (d + 11) Q rc rs 0 (jj_ent [.ref f, .int (nI b), .int (nI nu), .int (nI fi)] 7) [] M :=
  rf_echelon2 (s := s) (Sz := m * n * S) (B := fun k => k * (4 * s + 4)) hG hC hS hX htV h1 hnu hnT hb hA hm hn hfi hP ht0 hsz hJ0 (BQ.all s n (m * n)) (by rw [hs]) hs2 hE hTE ht hT K
end RF14
