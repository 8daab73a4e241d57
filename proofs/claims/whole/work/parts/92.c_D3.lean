/-! ===== Divider: divideByMore (printed by wip/gen/rD3.py) ===== -/
theorem lwn_add (H : List Int32) (j a : Nat) : ∀ b, lwn H j (a + b) = lwn H j a + lwn H (j + a) b * BB ^ a
  | 0 => by show lwn H j a = lwn H j a + 0 * _; rw [Nat.zero_mul]; rfl
  | b + 1 => by
    show lwn H j (a + b) + lu (H.getD (j + (a + b)) 0) * BB ^ (a + b) = lwn H j a + (lwn H (j + a) b + lu (H.getD (j + a + b) 0) * BB ^ b) * BB ^ a
    rw [lwn_add H j a b, Nat.add_mul, Nat.mul_assoc, ← Nat.pow_add, Nat.add_comm b a, Nat.add_assoc, Nat.add_assoc j a b]
theorem norm_facts {B L : List Int32} {n1 s v : Nat} (hv : lnat B (n1 + 1) = v) (hb : lu (B.getD n1 0) ≠ 0) (hs : s + bl (lu (B.getD n1 0)) = 32) (hL : lnat L (n1 + 1 + 1) = v * 2 ^ s) : lnat L (n1 + 1) = v * 2 ^ s ∧ 2147483648 ≤ lu (L.getD n1 0) ∧ BB ^ n1 * 2 ^ s ≤ v * 2 ^ s := by
  obtain ⟨a1, a2, a3⟩ := bl_spec hb
  have h1 := lnat_lt B n1
  have hv' : lnat B n1 + lu (B.getD n1 0) * BB ^ n1 = v := hv
  generalize lu (B.getD n1 0) = t at *
  have hS : 0 < 2 ^ s := Nat.pow_pos (by decide)
  have hP : 0 < BB ^ n1 := Nat.pow_pos (by decide)
  have e1 : 2 ^ bl t * 2 ^ s = 4294967296 := by rw [← Nat.pow_add, show bl t + s = 32 by omega]
  have e2 : 2 ^ (bl t - 1) * 2 ^ s = 2147483648 := by rw [← Nat.pow_add, show bl t - 1 + s = 31 by omega]
  have b1 : (t + 1) * BB ^ n1 ≤ 2 ^ bl t * BB ^ n1 := Nat.mul_le_mul_right _ a2
  have b2 : v < 2 ^ bl t * BB ^ n1 := by rw [Nat.succ_mul] at b1; omega
  have b3 : v * 2 ^ s < BB ^ n1 * 4294967296 := by
    have := Nat.mul_lt_mul_of_pos_right b2 hS
    rw [Nat.mul_right_comm, e1, Nat.mul_comm 4294967296] at this
    exact this
  have c1 : 2 ^ (bl t - 1) * BB ^ n1 ≤ v := Nat.le_trans (Nat.mul_le_mul_right _ a1) (by omega)
  have c2 : 2147483648 * BB ^ n1 ≤ v * 2 ^ s := by
    have := Nat.mul_le_mul_right (2 ^ s) c1
    rw [Nat.mul_right_comm, e2] at this
    exact this
  have d1 : lnat L (n1 + 1) = v * 2 ^ s := by
    have q : lnat L (n1 + 1) + lu (L.getD (n1 + 1) 0) * BB ^ (n1 + 1) = v * 2 ^ s := hL
    rcases Nat.eq_zero_or_pos (lu (L.getD (n1 + 1) 0)) with g | g
    · rw [g, Nat.zero_mul] at q; exact q
    · exfalso
      have := Nat.mul_le_mul_right (BB ^ (n1 + 1)) g
      rw [Nat.succ_mul, Nat.zero_mul, Nat.zero_add, Nat.pow_succ] at this
      rw [Nat.pow_succ] at q
      have b3' : v * 2 ^ s < BB ^ n1 * BB := b3
      omega
  refine ⟨d1, ?_, ?_⟩
  · have q : lnat L n1 + lu (L.getD n1 0) * BB ^ n1 = v * 2 ^ s := d1
    have h2 := lnat_lt L n1
    have h3 : 2147483648 * BB ^ n1 < (lu (L.getD n1 0) + 1) * BB ^ n1 := by rw [Nat.succ_mul (lu (L.getD n1 0))]; omega
    have := Nat.lt_of_mul_lt_mul_right h3
    omega
  · have h4 : 1 * BB ^ n1 ≤ t * BB ^ n1 := Nat.mul_le_mul_right _ (by omega)
    exact Nat.mul_le_mul_right _ (by omega)
theorem start_lt {H : List Int32} {e n1 s U D : Nat} (hU : lnat H (e + 1 + (n1 + 1)) = U) (hu : U < BB ^ (n1 + 1 + e) * 2 ^ s) (hD : BB ^ n1 * 2 ^ s ≤ D) : lwn H (e + 1) (n1 + 1) < D := by
  rw [lwn_split] at hU
  have e1 : BB ^ (n1 + 1 + e) * 2 ^ s = BB ^ n1 * 2 ^ s * BB ^ (e + 1) := by rw [show n1 + 1 + e = n1 + (e + 1) by omega, Nat.pow_add, Nat.mul_right_comm]
  have h1 : BB ^ n1 * 2 ^ s * BB ^ (e + 1) ≤ D * BB ^ (e + 1) := Nat.mul_le_mul_right _ hD
  rw [e1] at hu
  exact Nat.lt_of_mul_lt_mul_right (a := BB ^ (e + 1)) (by omega)
theorem top_le {H L : List Int32} {m n1 D : Nat} (h : lwn H m (n1 + 1) < D) (hD : lnat L (n1 + 1) = D) : lu (H.getD (m + n1) 0) ≤ lu (L.getD n1 0) := by
  have h1 : lwn H m n1 + lu (H.getD (m + n1) 0) * BB ^ n1 < D := h
  have h2 : lnat L n1 + lu (L.getD n1 0) * BB ^ n1 = D := hD
  have h3 := lnat_lt L n1
  have h4 : lu (H.getD (m + n1) 0) * BB ^ n1 < (lu (L.getD n1 0) + 1) * BB ^ n1 := by rw [Nat.succ_mul (lu (L.getD n1 0))]; omega
  have := Nat.lt_of_mul_lt_mul_right h4
  omega
theorem win_lt {H : List Int32} {m n D : Nat} (h : lwn H (m + 1) n < D) : lwn H m (n + 1) < D * BB := by
  rw [lwn_succ]
  have h1 := lu_lt (H.getD m 0)
  have h2 : (lwn H (m + 1) n + 1) * BB ≤ D * BB := Nat.mul_le_mul_right _ h
  rw [Nat.succ_mul (lwn H (m + 1) n)] at h2
  have h3 : BB = 4294967296 := rfl
  omega
theorem est_ok {W D p V2 U3 lw ld P : Nat} (hW : W = lw + U3 * P) (hlw : lw < P) (hD : D = ld + V2 * P) (hld : ld < P) (hV : 4294967296 ≤ V2) (hp : p < 4294967296) (h1 : p * V2 ≤ U3) (h2 : p = 4294967295 ∨ U3 < (p + 1) * V2) (hb : W < D * BB) : W / D ≤ p ∧ p ≤ W / D + 1 := by
  have h0 : 1 * P ≤ V2 * P := Nat.mul_le_mul_right _ (by omega)
  have hD0 : 0 < D := by omega
  constructor
  · rcases h2 with g | g
    · have : W / D < 4294967296 := (Nat.div_lt_iff_lt_mul hD0).mpr (by rw [Nat.mul_comm]; exact hb)
      omega
    · have a1 : (U3 + 1) * P ≤ (p + 1) * V2 * P := Nat.mul_le_mul_right _ g
      have a2 : (p + 1) * (V2 * P) ≤ (p + 1) * D := Nat.mul_le_mul_left _ (by omega)
      rw [Nat.succ_mul] at a1
      rw [← Nat.mul_assoc] at a2
      have : W / D < p + 1 := (Nat.div_lt_iff_lt_mul hD0).mpr (by omega)
      omega
  · have a1 : p * D = p * ld + p * (V2 * P) := by rw [hD, Nat.mul_add]
    have a2 : p * ld ≤ p * P := Nat.mul_le_mul_left _ (by omega)
    have a3 : p * V2 * P ≤ U3 * P := Nat.mul_le_mul_right _ h1
    have a4 : p * P ≤ V2 * P := Nat.mul_le_mul_right _ (by omega)
    rw [Nat.mul_assoc] at a3
    have a5 : (p - 1) * D ≤ W := by
      rcases Nat.eq_zero_or_pos p with e | e
      · rw [e]; show (0 - 1) * D ≤ W; rw [Nat.zero_sub, Nat.zero_mul]; exact Nat.zero_le _
      · have a6 : p * D = (p - 1) * D + D := by rw [← Nat.succ_mul]; congr 1; omega
        omega
    have := (Nat.le_div_iff_mul_le hD0).mpr a5
    omega
theorem dv_zero {W D p W' : Nat} (hD : 0 < D) (h : W' + p * D = W) (hl : W / D ≤ p) : p = W / D ∧ W' = W % D := by
  have h1 : p ≤ W / D := (Nat.le_div_iff_mul_le hD).mpr (by omega)
  have h2 : p = W / D := by omega
  have h3 := Nat.mod_add_div' W D
  rw [h2] at h
  exact ⟨h2, by omega⟩
theorem dv_one {W D p W' Z : Nat} (hD : 0 < D) (hZ : D ≤ Z) (h : W' + p * D = W + Z) (hW : W' < Z) (hl : W / D ≤ p) (hu : p ≤ W / D + 1) : p = W / D + 1 ∧ (W' + D) % Z = W % D := by
  have h3 := Nat.mod_add_div' W D
  have h4 := Nat.mod_lt W hD
  have h2 : p = W / D + 1 := by
    rcases (show p = W / D ∨ p = W / D + 1 by omega) with e | e
    · exfalso; rw [e] at h; omega
    · exact e
  rw [h2, Nat.succ_mul] at h
  refine ⟨h2, ?_⟩
  rw [show W' + D = W % D + Z by omega, Nat.add_mod_right, Nat.mod_eq_of_lt (by omega)]
theorem dv_next {U X0 W D k Pm : Nat} (h : U = X0 + W * Pm + k * D * (Pm * BB)) : U = X0 + W % D * Pm + (W / D + k * BB) * D * Pm := by
  have h3 := Nat.mod_add_div' W D
  have h4 : W * Pm = W % D * Pm + W / D * D * Pm := by rw [← Nat.add_mul, h3]
  rw [h, h4, Nat.add_mul (W / D), Nat.add_mul, Nat.mul_right_comm k BB D, Nat.mul_assoc (k * D) BB Pm, Nat.mul_comm BB Pm]
  omega
theorem rem_step {X s i bo : Nat} (hs : s < 32) (hb : bo = X / BB ^ i % 18446744073709551616) : X / 2 ^ s % BB ^ i + bo / 2 ^ s % BB * BB ^ i = X / 2 ^ s % BB ^ (i + 1) := by
  rw [Nat.mod_pow_succ, Nat.mul_comm (BB ^ i)]
  congr 2
  rw [hb, Nat.div_div_eq_div_mul X, Nat.mul_comm (2 ^ s), ← Nat.div_div_eq_div_mul]
  generalize X / BB ^ i = Y
  rw [show (18446744073709551616 : Nat) = 2 ^ s * 2 ^ (64 - s) by rw [← Nat.pow_add, show s + (64 - s) = 64 by omega], Nat.mod_mul_right_div_self]
  exact Nat.mod_mod_of_dvd _ ⟨2 ^ (32 - s), by rw [show BB = 2 ^ 32 from rfl, ← Nat.pow_add]; congr 1; omega⟩
theorem rem_end {u v q X s : Nat} (h : u * 2 ^ s = X + q * (v * 2 ^ s)) (hX : X < v * 2 ^ s) : u / v = q ∧ u % v = X / 2 ^ s := by
  have hS : 0 < 2 ^ s := Nat.pow_pos (by decide)
  rw [← Nat.mul_assoc] at h
  have h1 : q * v ≤ u := Nat.le_of_mul_le_mul_right (show q * v * 2 ^ s ≤ u * 2 ^ s by omega) hS
  obtain ⟨r, hr⟩ : ∃ r, u = r + q * v := ⟨u - q * v, by omega⟩
  rw [hr, Nat.add_mul] at h
  have hX' : X = r * 2 ^ s := by omega
  rw [hX'] at hX
  have hrv : r < v := Nat.lt_of_mul_lt_mul_right hX
  rw [hX', Nat.mul_div_cancel _ hS, hr, Nat.add_mul_div_right _ _ (by omega), Nat.div_eq_of_lt hrv, Nat.zero_add, Nat.add_mul_mod_self_right, Nat.mod_eq_of_lt hrv]
  exact ⟨rfl, rfl⟩
theorem dig_two {H : List Int32} {n i : Nat} (hi : i + 1 < n) : lu (H.getD i 0) + lu (H.getD (i + 1) 0) * 4294967296 = lnat H n / BB ^ i % 18446744073709551616 := by
  rw [lnat_dig (show i < n by omega), lnat_dig hi, Nat.pow_succ, ← Nat.div_div_eq_div_mul]
  generalize lnat H n / BB ^ i = Y
  show Y % 4294967296 + Y / 4294967296 % 4294967296 * 4294967296 = _
  omega
theorem dig_top {H : List Int32} {n i : Nat} (hi : i + 1 = n) : lu (H.getD i 0) + 0 * 4294967296 = lnat H n / BB ^ i % 18446744073709551616 := by
  have h1 := lnat_lt H n
  rw [lnat_dig (show i < n by omega)]
  have h2 : lnat H n / BB ^ i < BB := (Nat.div_lt_iff_lt_mul (Nat.pow_pos (by decide))).mpr (by rw [← Nat.pow_succ', show i.succ = n from hi]; exact h1)
  generalize lnat H n / BB ^ i = Y at *
  have h3 : Y < 4294967296 := h2
  show Y % 4294967296 + 0 = _
  omega
theorem two_limbs (L : List Int32) (n : Nat) : lnat L (n + 2) = lnat L n + (lu (L.getD (n + 1) 0) * BB + lu (L.getD n 0)) * BB ^ n := by
  show lnat L n + lu (L.getD n 0) * BB ^ n + lu (L.getD (n + 1) 0) * BB ^ (n + 1) = _
  rw [Nat.add_mul, Nat.mul_assoc, ← Nat.pow_succ', Nat.add_assoc, Nat.add_comm (lu (L.getD n 0) * BB ^ n)]
theorem no_top {H : List Int32} {m n D x : Nat} (h : lwn H m (n + 1) = x) (hx : x < D) (hD : D < BB ^ n) : lwn H m n = x := by
  have q : lwn H m n + lu (H.getD (m + n) 0) * BB ^ n = x := h
  rcases Nat.eq_zero_or_pos (lu (H.getD (m + n) 0)) with g | g
  · rw [g, Nat.zero_mul] at q; exact q
  · exfalso
    have := Nat.mul_le_mul_right (BB ^ n) g
    rw [Nat.succ_mul, Nat.zero_mul, Nat.zero_add] at this
    omega
theorem lwn_none (H : List Int32) (j : Nat) : lwn H j 0 = 0 := rfl
theorem main_step {T H H' : List Int32} {U D W m n e : Nat} (hm : m < e) (hT : m < T.length) (hq : W / D < BB) (hw : lwn H' m n = W % D) (hH : ∀ i, i < m → H'.getD i 0 = H.getD i 0) (hW : lwn H m (n + 1) = W) (h : U = lnat H (m + 1 + n) + lwn T (m + 1) (e - (m + 1)) * D * BB ^ (m + 1)) : U = lnat H' (m + n) + lwn (T.set m (nI (W / D))) m (e - m) * D * BB ^ m := by
  rw [show e - m = e - (m + 1) + 1 by omega, lwn_succ, gd_set_eq hT, lu_nI' hq, lwn_congr (E := T) (fun i hi => gd_set_ne (by omega)), lwn_split H', hw, lnat_congr (E := H) hH]
  refine dv_next ?_
  rw [h, show m + 1 + n = m + (n + 1) by omega, lwn_split H, hW, Nat.pow_succ]
theorem CW.kept {M M' : mheap} {wa la cap : Nat → Nat} {N : Nat} {V : Nat → Int} (h : CW M wa la cap N V) (hf : ∀ p, p < N → M' (wa p) = M (wa p) ∧ M' (la p) = M (la p)) : CW M' wa la cap N V := by
  intro p hp
  obtain ⟨D, c, h1, h2, h3⟩ := h p hp
  exact ⟨D, c, (hf p hp).1.trans h1, (hf p hp).2.trans h2, h3⟩
/-- the divider's two results before they are trimmed -/
def DR (M M' : mheap) (wa la cap : Nat → Nat) (q r hi lo : Nat) (V : Nat → Int) (x y : Nat) : Prop := (∃ (T : List Int32) (c : Nat), M' (wa q) = some (.inl nW, [.ref (la q), .int (nI c), .int (sg (V q))]) ∧ M' (la q) = some (.inr 0, T.map .int) ∧ T.length = cap q ∧ c ≤ T.length ∧ lnat T c = x) ∧ (∃ (T : List Int32) (c : Nat), M' (wa r) = some (.inl nW, [.ref (la r), .int (nI c), .int (sg (V r))]) ∧ M' (la r) = some (.inr 0, T.map .int) ∧ T.length = cap r ∧ c ≤ T.length ∧ lnat T c = y) ∧ (∃ H : List Int32, M' hi = some (.inr 0, H.map .int) ∧ H.length = 253) ∧ (∃ L : List Int32, M' lo = some (.inr 0, L.map .int) ∧ L.length = 253) ∧ ∀ a, a ≠ wa q → a ≠ la q → a ≠ wa r → a ≠ la r → a ≠ hi → a ≠ lo → M' a = M a
section D3
variable {G : jg} {d : Nat} {Q : jq} {rc rs : Nat} {M : mheap} {wa la cap : Nat → Nat} {N : Nat} {V : Nat → Int}
theorem d_moreF {dv aq ar lr hi lo n2 s cr : Nat} {sr : Int32} {H R : List Int32} {o1 o2 o5 o6 o7 : Option Value} (hG : kG G) (hD : M dv = some (.inl nD, [.ref aq, .ref ar, .ref hi, .ref lo])) (hH : M hi = some (.inr 0, H.map .int)) (hR1 : M ar = some (.inl nW, [.ref lr, .int (nI (cr)), .int sr])) (hR2 : M lr = some (.inr 0, R.map .int)) (lH : H.length = 253) (lR : R.length < 2000) (hnR : n2 + 2 ≤ R.length) (hnH : n2 + 2 ≤ 252) (hs32 : s < 32) (nlr : lr ≠ hi) (k : ∀ (M' : mheap) (R' : List Int32), M' ar = some (.inl nW, [.ref lr, .int (nI (n2 + 2)), .int sr]) → M' lr = some (.inr 0, R'.map .int) → R'.length = R.length → lnat R' (n2 + 2) = lnat H (n2 + 2) / 2 ^ s → (∀ x, x ≠ ar → x ≠ lr → M' x = M x) → Q (.returned none) M' rc rs) : jj G kD_divideByMore (d + 1) Q rc rs 164 [some (.ref dv), (o1), (o2), some (.int (nI (n2 + 2))), some (.int (nI (s))), (o5), (o6), (o7)] [] M := by
  have ndr : dv ≠ ar := fun e => by have q9 := hD; rw [e, hR1] at q9; cases q9
  have hdr : dv ≠ lr := fun e => by have q9 := hD; rw [e, hR2] at q9; cases q9
  have hha : hi ≠ ar := fun e => by have q9 := hH; rw [e, hR1] at q9; cases q9
  obtain ⟨X, hX⟩ : ∃ X, lnat H (n2 + 2) = X := ⟨_, rfl⟩
  rw [hX] at k
  show jj G kD_divideByMore (d + 1) Q rc rs 164 [some (.ref dv), (o1), (o2), some (.int (nI (n2 + 2))), some (.int (nI (s))), (o5), (o6), (o7)] [] M
  refine jj_aload_n (pc := 164) kD_divideByMore_d164 rfl ?_
  refine jj_getf (pc := 165) kD_divideByMore_d165 (kfD_remainder hG) hD rfl ?_
  refine jj_iload_n (pc := 168) kD_divideByMore_d168 rfl ?_
  refine jj_callV (pc := 169) (b := ar) (As := [.int (nI (n2 + 2))]) kD_divideByMore_d169 (kvD_W_needRoom hG) (kG_cl hG rfl) rfl hR1 rfl rfl rfl (Nat.le_of_ble_eq_true rfl) (Nat.le_of_ble_eq_true rfl) (jj_bare0 rfl) ?_
  refine w_needRoom hG hR1 hR2 (by omega) (by omega) ?_
  show jj G kD_divideByMore (d + 1) Q rc rs 172 [some (.ref dv), (o1), (o2), some (.int (nI (n2 + 2))), some (.int (nI (s))), (o5), (o6), (o7)] [] M
  refine jj_aload_n (pc := 172) kD_divideByMore_d172 rfl ?_
  refine jj_getf (pc := 173) kD_divideByMore_d173 (kfD_remainder hG) hD rfl ?_
  refine jj_iload_n (pc := 176) kD_divideByMore_d176 rfl ?_
  refine jj_putf (pc := 177) kD_divideByMore_d177 (kpD_W_count hG) hR1 (by rfl) rfl ?_
  refine jn_gen (fun M101 hM102 => ?_)
  have h103 : M101 dv = some (.inl nD, [.ref aq, .ref ar, .ref hi, .ref lo]) := by rw [hM102, jj_up_ne _ _ ndr]; exact hD
  have h104 : M101 hi = some (.inr 0, (H).map .int) := by rw [hM102, jj_up_ne _ _ (fun e => by have q1 := hH; rw [e, hR1] at q1; cases q1)]; exact hH
  have h105 : M101 lr = some (.inr 0, (R).map .int) := by rw [hM102, jj_up_ne _ _ (fun e => by have q1 := hR2; rw [e, hR1] at q1; cases q1)]; exact hR2
  have h106 : M101 ar = some (.inl nW, [.ref lr, .int (nI (n2 + 2)), .int (sr)]) := by rw [hM102]; exact jj_up_at _ _ _
  refine jn_iconst (pc := 180) 0 kD_divideByMore_d180 (by decide) ?_
  refine jj_istore (pc := 181) kD_divideByMore_d181 (Nat.le_of_ble_eq_true rfl) ?_
  show jj G kD_divideByMore (d + 1) Q rc rs 183 [some (.ref dv), (o1), (o2), some (.int (nI (n2 + 2))), some (.int (nI (s))), some (.int (nI (0))), (o6), (o7)] [] M101
  have last : ∀ mu i, n2 + 2 = i + mu → ∀ (M7 : mheap) (R7 : List Int32) (p6 p7 : Option Value), M7 ar = some (.inl nW, [.ref lr, .int (nI (n2 + 2)), .int sr]) → M7 lr = some (.inr 0, R7.map .int) → R7.length = R.length → (∀ x, x ≠ ar → x ≠ lr → M7 x = M x) → lnat R7 i = X / 2 ^ s % BB ^ i → jj G kD_divideByMore (d + 1) Q rc rs 183 [some (.ref dv), (o1), (o2), some (.int (nI (n2 + 2))), some (.int (nI (s))), some (.int (nI (i))), (p6), (p7)] [] M7 := by
    intro mu
    induction mu with
    | zero =>
      intro i hk M7 R7 p6 p7 h75 h76 l7 f7 v7
      have e9 : n2 + 2 = i := by omega
      subst e9
      have h7d := (f7 dv ndr hdr).trans hD
      have h73 := (f7 hi hha (Ne.symm nlr)).trans hH
      refine jj_iload (pc := 183) kD_divideByMore_d183 rfl ?_
      refine jj_iload_n (pc := 185) kD_divideByMore_d185 rfl ?_
      refine jn_icmp_ge (pc := 186) (tgt := 251) kD_divideByMore_d186 (by decide) (by omega) (by omega) (fun _ => ?_) (fun c => by exfalso; omega)
      have hXB : X < BB ^ (n2 + 2) := by rw [← hX]; exact lnat_lt H _
      rw [Nat.mod_eq_of_lt (Nat.lt_of_le_of_lt (Nat.div_le_self _ _) hXB)] at v7
      exact jj_vret (pc := 251) kD_divideByMore_d251 rfl (k M7 R7 h75 h76 l7 v7 f7)
    | succ mu ih =>
      intro i hk M7 R7 p6 p7 h75 h76 l7 f7 v7
      have h7d := (f7 dv ndr hdr).trans hD
      have h73 := (f7 hi hha (Ne.symm nlr)).trans hH
      have hli := lu_lt (H.getD i 0)
      refine jj_iload (pc := 183) kD_divideByMore_d183 rfl ?_
      refine jj_iload_n (pc := 185) kD_divideByMore_d185 rfl ?_
      refine jn_icmp_ge (pc := 186) (tgt := 251) kD_divideByMore_d186 (by decide) (by omega) (by omega) (fun c => by exfalso; omega) (fun _ => ?_)
      refine jj_aload_n (pc := 189) kD_divideByMore_d189 rfl ?_
      refine jj_getf (pc := 190) kD_divideByMore_d190 (kfD_high hG) h7d rfl ?_
      refine jj_iload (pc := 193) kD_divideByMore_d193 rfl ?_
      refine jn_iald (pc := 195) (v := (H.getD i 0)) kD_divideByMore_d195 (kG_t hG rfl) h73 (by omega) (by omega) (rfl) ?_
      refine jj_i2l (pc := 196) kD_divideByMore_d196 ?_
      refine jj_ldc2 (pc := 197) kD_divideByMore_d197 (kcD_4294967295 hG) ?_
      refine jn_top (.long (lN (4294967295))) (rfl) ?_
      refine jj_land (pc := 200) kD_divideByMore_d200 ?_
      refine jn_top (.long (lN (lu (H.getD i 0)))) (by rw [lu_mask]) ?_
      refine jj_iload (pc := 201) kD_divideByMore_d201 rfl ?_
      refine jn_iconst (pc := 203) 1 kD_divideByMore_d203 (by decide) ?_
      refine jn_iadd (pc := 204) (i + 1) kD_divideByMore_d204 (by omega) ?_
      refine jj_iload_n (pc := 205) kD_divideByMore_d205 rfl ?_
      have k226 : ∀ gh, lu (H.getD i 0) + gh * 4294967296 = X / BB ^ i % 18446744073709551616 → jj G kD_divideByMore (d + 1) Q rc rs 226 [some (.ref dv), (o1), (o2), some (.int (nI (n2 + 2))), some (.int (nI (s))), some (.int (nI (i))), (p6), (p7)] [.long (lN (gh * 2 ^ 32)), .long (lN (lu (H.getD i 0)))] M7 := by
        intro gh hgh
        obtain ⟨bo, hbo⟩ : ∃ bo, lu (H.getD i 0) + gh * 4294967296 = bo := ⟨_, rfl⟩
        rw [hbo] at hgh
        have hbl : bo < 18446744073709551616 := by rw [hgh]; exact Nat.mod_lt _ (by decide)
        show jj G kD_divideByMore (d + 1) Q rc rs 226 [some (.ref dv), (o1), (o2), some (.int (nI (n2 + 2))), some (.int (nI (s))), some (.int (nI (i))), (p6), (p7)] [.long (lN (gh * 2 ^ 32)), .long (lN (lu (H.getD i 0)))] M7
        refine jj_lor (pc := 226) kD_divideByMore_d226 ?_
        refine jn_top (.long (lN (bo))) (by rw [lN_or (k := 32) hli]; rw [← hbo]) ?_
        refine jj_lstore (pc := 227) kD_divideByMore_d227 (Nat.le_of_ble_eq_true rfl) ?_
        show jj G kD_divideByMore (d + 1) Q rc rs 229 [some (.ref dv), (o1), (o2), some (.int (nI (n2 + 2))), some (.int (nI (s))), some (.int (nI (i))), some (.long (lN (bo))), none] [] M7
        refine jj_aload_n (pc := 229) kD_divideByMore_d229 rfl ?_
        refine jj_getf (pc := 230) kD_divideByMore_d230 (kfD_remainder hG) h7d rfl ?_
        refine jj_getf (pc := 233) kD_divideByMore_d233 (kfD_W_limbs hG) h75 rfl ?_
        refine jj_iload (pc := 236) kD_divideByMore_d236 rfl ?_
        refine jj_lload (pc := 238) kD_divideByMore_d238 rfl ?_
        refine jj_iload (pc := 240) kD_divideByMore_d240 rfl ?_
        refine jj_lushr (pc := 242) kD_divideByMore_d242 ?_
        refine jn_top (.long (lN (bo / 2 ^ s))) (by rw [lN_shr (by omega) (by omega)]) ?_
        refine jj_l2i (pc := 243) kD_divideByMore_d243 ?_
        refine jn_top (.int (nI (bo / 2 ^ s))) (by rw [lN_i]) ?_
        refine jn_iast (pc := 244) kD_divideByMore_d244 (kG_t hG rfl) h76 (by omega) (by omega) ?_
        refine jn_gen (fun M107 hM108 => ?_)
        have h109 : M107 dv = some (.inl nD, [.ref aq, .ref ar, .ref hi, .ref lo]) := by rw [hM108, jj_up_ne _ _ (fun e => by have q1 := h7d; rw [e, h76] at q1; cases q1)]; exact h7d
        have h110 : M107 hi = some (.inr 0, (H).map .int) := by rw [hM108, jj_up_ne _ _ (Ne.symm nlr)]; exact h73
        have h111 : M107 ar = some (.inl nW, [.ref lr, .int (nI (n2 + 2)), .int (sr)]) := by rw [hM108, jj_up_ne _ _ (fun e => by have q1 := h75; rw [e, h76] at q1; cases q1)]; exact h75
        have h112 : M107 lr = some (.inr 0, ((R7).set (i) ((nI (bo / 2 ^ s)))).map .int) := by rw [hM108]; exact jj_up_at _ _ _
        refine jn_iinc (pc := 245) (i + 1) kD_divideByMore_d245 rfl (nI_1 _) ?_
        refine jj_goto (pc := 248) (tgt := 183) kD_divideByMore_d248 (by decide) ?_
        show jj G kD_divideByMore (d + 1) Q rc rs 183 [some (.ref dv), (o1), (o2), some (.int (nI (n2 + 2))), some (.int (nI (s))), some (.int (nI (i + 1))), some (.long (lN (bo))), none] [] M107
        refine ih (i + 1) (by omega) M107 _ _ _ h111 h112 (by rw [List.length_set]; exact l7) (fun x h1 h2 => by rw [hM108, jj_up_ne _ _ h2]; exact f7 x h1 h2) ?_
        rw [lnat_step (by omega), v7]
        exact rem_step hs32 hgh
      refine jn_icmp_ge (pc := 206) (tgt := 225) kD_divideByMore_d206 (by decide) (by omega) (by omega) (fun c5 => ?_) (fun c5 => ?_)
      · skip
        refine jj_lconst (pc := 225) (v := lN 0) kD_divideByMore_d225 (by decide) ?_
        refine jn_top (.long (lN (0 * 2 ^ 32))) (by rw [Nat.zero_mul]) ?_
        exact k226 0 (by rw [← hX]; exact dig_top (by omega))
      · skip
        refine jj_aload_n (pc := 209) kD_divideByMore_d209 rfl ?_
        refine jj_getf (pc := 210) kD_divideByMore_d210 (kfD_high hG) h7d rfl ?_
        refine jj_iload (pc := 213) kD_divideByMore_d213 rfl ?_
        refine jn_iconst (pc := 215) 1 kD_divideByMore_d215 (by decide) ?_
        refine jn_iadd (pc := 216) (i + 1) kD_divideByMore_d216 (by omega) ?_
        refine jn_iald (pc := 217) (v := (H.getD (i + 1) 0)) kD_divideByMore_d217 (kG_t hG rfl) h73 (by omega) (by omega) (rfl) ?_
        refine jj_i2l (pc := 218) kD_divideByMore_d218 ?_
        refine jn_bipush (pc := 219) 32 kD_divideByMore_d219 (by decide) ?_
        refine jj_lshl (pc := 221) kD_divideByMore_d221 ?_
        refine jn_top (.long (lN (lu (H.getD (i + 1) 0) * 2 ^ 32))) (by rw [lx_shl2 (by decide) (by decide)]) ?_
        refine jj_goto (pc := 222) (tgt := 226) kD_divideByMore_d222 (by decide) ?_
        show jj G kD_divideByMore (d + 1) Q rc rs 226 [some (.ref dv), (o1), (o2), some (.int (nI (n2 + 2))), some (.int (nI (s))), some (.int (nI (i))), (p6), (p7)] [.long (lN (lu (H.getD (i + 1) 0) * 2 ^ 32)), .long (lN (lu (H.getD i 0)))] M7
        exact k226 (lu (H.getD (i + 1) 0)) (by rw [← hX]; exact dig_two (by omega))
  exact last (n2 + 2) 0 (by omega) M101 R _ _ h106 h105 rfl (fun x h1 h2 => by rw [hM102, jj_up_ne _ _ h1]) (by rw [Nat.pow_zero, Nat.mod_one]; rfl)
theorem d_moreS {dv aq lq ar hi lo n2 s cq m dD W : Nat} {sq : Int32} {H L T : List Int32} {o1 o2 o6 o7 : Option Value} (hG : kG G) (hD : M dv = some (.inl nD, [.ref aq, .ref ar, .ref hi, .ref lo])) (hQ1 : M aq = some (.inl nW, [.ref lq, .int (nI (cq)), .int sq])) (hQ2 : M lq = some (.inr 0, T.map .int)) (hH : M hi = some (.inr 0, H.map .int)) (hL : M lo = some (.inr 0, L.map .int)) (lT : T.length < 2000) (lH : H.length = 253) (lL : L.length = 253) (nlq : lq ≠ hi) (nll : lq ≠ lo) (hne : lo ≠ hi) (hmT : m < T.length) (hmH : m + (n2 + 2) < 253) (hdL : lnat L (n2 + 2) = dD) (hNb : 2147483648 ≤ lu (L.getD (n2 + 1) 0)) (hdB : dD < BB ^ (n2 + 2)) (w9 : lwn H (m + 1) (n2 + 2) < dD) (hW : lwn H m (n2 + 2 + 1) = W) (k : ∀ (M' : mheap) (H' : List Int32), W / dD < BB → M' hi = some (.inr 0, H'.map .int) → M' lq = some (.inr 0, (T.set m (nI (W / dD))).map .int) → H'.length = 253 → (∀ i, i < m → H'.getD i 0 = H.getD i 0) → lwn H' m (n2 + 2) = W % dD → (∀ x, x ≠ hi → x ≠ lq → M' x = M x) → jj G kD_divideByMore (d + 1) Q rc rs 79 [some (.ref dv), (o1), (o2), some (.int (nI (n2 + 2))), some (.int (nI (s))), some (.int (zI (((m : Nat) : Int) - 1))), some (.long (lN (W / dD))), none] [] M') : jj G kD_divideByMore (d + 1) Q rc rs 84 [some (.ref dv), (o1), (o2), some (.int (nI (n2 + 2))), some (.int (nI (s))), some (.int (nI (m))), (o6), (o7)] [] M := by
  have hdh : dv ≠ hi := fun e => by have q9 := hD; rw [e, hH] at q9; cases q9
  have hah : aq ≠ hi := fun e => by have q9 := hQ1; rw [e, hH] at q9; cases q9
  have ndq : dv ≠ aq := fun e => by have q9 := hD; rw [e, hQ1] at q9; cases q9
  have hwl9 := win_lt w9
  have htl := top_le (n1 := n2 + 1) w9 hdL
  rw [show m + 1 + (n2 + 1) = m + n2 + 2 by omega] at htl
  rw [hW] at hwl9
  have hW3 : W = lwn H m n2 + lwn H (m + n2) 3 * BB ^ n2 := by rw [← hW, ← lwn_add]
  have hD3 : dD = lnat L n2 + (lu (L.getD (n2 + 1) 0) * BB + lu (L.getD n2 0)) * BB ^ n2 := by rw [← hdL]; exact two_limbs L n2
  have ll1 := lu_lt (L.getD (n2 + 1) 0)
  have ll2 := lu_lt (L.getD n2 0)
  have hD0 : 0 < dD := by omega
  have hqd : W / dD < 4294967296 := (Nat.div_lt_iff_lt_mul hD0).mpr (by rw [Nat.mul_comm]; exact hwl9)
  have hmd := Nat.mod_lt W hD0
  have k145 : ∀ (M8 : mheap) (H8 : List Int32), M8 hi = some (.inr 0, H8.map .int) → H8.length = 253 → (∀ i, i < m ∨ m + (n2 + 2) < i → H8.getD i 0 = H.getD i 0) → lwn H8 m (n2 + 2 + 1) = W % dD → (∀ x, x ≠ hi → M8 x = M x) → jj G kD_divideByMore (d + 1) Q rc rs 145 [some (.ref dv), (o1), (o2), some (.int (nI (n2 + 2))), some (.int (nI (s))), some (.int (nI (m))), some (.long (lN (W / dD))), none] [] M8 := by
    intro M8 H8 h83 l83 q8 w8 f8
    have h8d := (f8 dv hdh).trans hD
    have h81 := (f8 aq hah).trans hQ1
    have h82 := (f8 lq nlq).trans hQ2
    show jj G kD_divideByMore (d + 1) Q rc rs 145 [some (.ref dv), (o1), (o2), some (.int (nI (n2 + 2))), some (.int (nI (s))), some (.int (nI (m))), some (.long (lN (W / dD))), none] [] M8
    refine jj_aload_n (pc := 145) kD_divideByMore_d145 rfl ?_
    refine jj_getf (pc := 146) kD_divideByMore_d146 (kfD_quotient hG) h8d rfl ?_
    refine jj_getf (pc := 149) kD_divideByMore_d149 (kfD_W_limbs hG) h81 rfl ?_
    refine jj_iload (pc := 152) kD_divideByMore_d152 rfl ?_
    refine jj_lload (pc := 154) kD_divideByMore_d154 rfl ?_
    refine jj_l2i (pc := 156) kD_divideByMore_d156 ?_
    refine jn_top (.int (nI (W / dD))) (by rw [lN_i]) ?_
    refine jn_iast (pc := 157) kD_divideByMore_d157 (kG_t hG rfl) h82 (by omega) (by omega) ?_
    refine jn_gen (fun M113 hM114 => ?_)
    have h115 : M113 dv = some (.inl nD, [.ref aq, .ref ar, .ref hi, .ref lo]) := by rw [hM114, jj_up_ne _ _ (fun e => by have q1 := h8d; rw [e, h82] at q1; cases q1)]; exact h8d
    have h116 : M113 aq = some (.inl nW, [.ref lq, .int (nI (cq)), .int (sq)]) := by rw [hM114, jj_up_ne _ _ (fun e => by have q1 := h81; rw [e, h82] at q1; cases q1)]; exact h81
    have h117 : M113 hi = some (.inr 0, (H8).map .int) := by rw [hM114, jj_up_ne _ _ (Ne.symm nlq)]; exact h83
    have h118 : M113 lq = some (.inr 0, ((T).set (m) ((nI (W / dD)))).map .int) := by rw [hM114]; exact jj_up_at _ _ _
    refine jz_iinc (pc := 158) (((m : Nat) : Int) - 1) kD_divideByMore_d158 rfl ((zI_nat _).symm) (by omega) ?_
    refine jj_goto (pc := 161) (tgt := 79) kD_divideByMore_d161 (by decide) ?_
    show jj G kD_divideByMore (d + 1) Q rc rs 79 [some (.ref dv), (o1), (o2), some (.int (nI (n2 + 2))), some (.int (nI (s))), some (.int (zI (((m : Nat) : Int) - 1))), some (.long (lN (W / dD))), none] [] M113
    exact k M113 H8 hqd h117 h118 l83 (fun i hi => q8 i (Or.inl hi)) (no_top w8 hmd hdB) (fun x h1 h2 => by rw [hM114, jj_up_ne _ _ h2]; exact f8 x h1)
  refine jj_aload_n (pc := 84) kD_divideByMore_d84 rfl ?_
  refine jj_iload (pc := 85) kD_divideByMore_d85 rfl ?_
  refine jj_iload_n (pc := 87) kD_divideByMore_d87 rfl ?_
  refine jn_iadd (pc := 88) (m + n2 + 2) kD_divideByMore_d88 (by omega) ?_
  refine jj_aload_n (pc := 89) kD_divideByMore_d89 rfl ?_
  refine jj_getf (pc := 90) kD_divideByMore_d90 (kfD_low hG) hD rfl ?_
  refine jj_iload_n (pc := 93) kD_divideByMore_d93 rfl ?_
  refine jn_iconst (pc := 94) 1 kD_divideByMore_d94 (by decide) ?_
  refine jn_isub (pc := 95) (n2 + 1) kD_divideByMore_d95 (by omega) ?_
  refine jn_iald (pc := 96) (v := (L.getD (n2 + 1) 0)) kD_divideByMore_d96 (kG_t hG rfl) hL (by omega) (by omega) (rfl) ?_
  refine jj_i2l (pc := 97) kD_divideByMore_d97 ?_
  refine jj_ldc2 (pc := 98) kD_divideByMore_d98 (kcD_4294967295 hG) ?_
  refine jn_top (.long (lN (4294967295))) (rfl) ?_
  refine jj_land (pc := 101) kD_divideByMore_d101 ?_
  refine jn_top (.long (lN (lu (L.getD (n2 + 1) 0)))) (by rw [lu_mask]) ?_
  refine jj_aload_n (pc := 102) kD_divideByMore_d102 rfl ?_
  refine jj_getf (pc := 103) kD_divideByMore_d103 (kfD_low hG) hD rfl ?_
  refine jj_iload_n (pc := 106) kD_divideByMore_d106 rfl ?_
  refine jn_iconst (pc := 107) 2 kD_divideByMore_d107 (by decide) ?_
  refine jn_isub (pc := 108) (n2) kD_divideByMore_d108 (by omega) ?_
  refine jn_iald (pc := 109) (v := (L.getD n2 0)) kD_divideByMore_d109 (kG_t hG rfl) hL (by omega) (by omega) (rfl) ?_
  refine jj_i2l (pc := 110) kD_divideByMore_d110 ?_
  refine jj_ldc2 (pc := 111) kD_divideByMore_d111 (kcD_4294967295 hG) ?_
  refine jn_top (.long (lN (4294967295))) (rfl) ?_
  refine jj_land (pc := 114) kD_divideByMore_d114 ?_
  refine jn_top (.long (lN (lu (L.getD n2 0)))) (by rw [lu_mask]) ?_
  refine jj_callV (pc := 115) (b := dv) (As := [.int (nI (m + n2 + 2)), .long (lN (lu (L.getD (n2 + 1) 0))), .long (lN (lu (L.getD n2 0)))]) kD_divideByMore_d115 (kvD_D_estimate hG) (kG_cl hG rfl) rfl hD rfl rfl rfl (Nat.le_of_ble_eq_true rfl) (Nat.le_of_ble_eq_true rfl) (jj_bare0 rfl) ?_
  refine d_estimate (t := m + n2) hG hD hH (by omega) (by omega) hNb ll1 ll2 htl (fun p hp hp1 hp2 => ?_)
  show jj G kD_divideByMore (d + 1) Q rc rs 118 [some (.ref dv), (o1), (o2), some (.int (nI (n2 + 2))), some (.int (nI (s))), some (.int (nI (m))), (o6), (o7)] [.long (lN (p))] M
  obtain ⟨ho1, ho2⟩ := est_ok hW3 (lwn_lt H m n2) hD3 (lnat_lt L n2) (by show 4294967296 ≤ _ * 4294967296 + _; omega) hp hp1 hp2 hwl9
  refine jj_lstore (pc := 118) kD_divideByMore_d118 (Nat.le_of_ble_eq_true rfl) ?_
  show jj G kD_divideByMore (d + 1) Q rc rs 120 [some (.ref dv), (o1), (o2), some (.int (nI (n2 + 2))), some (.int (nI (s))), some (.int (nI (m))), some (.long (lN (p))), none] [] M
  refine jj_aload_n (pc := 120) kD_divideByMore_d120 rfl ?_
  refine jj_lload (pc := 121) kD_divideByMore_d121 rfl ?_
  refine jj_iload (pc := 123) kD_divideByMore_d123 rfl ?_
  refine jj_iload_n (pc := 125) kD_divideByMore_d125 rfl ?_
  refine jj_callV (pc := 126) (b := dv) (As := [.long (lN (p)), .int (nI (m)), .int (nI (n2 + 2))]) kD_divideByMore_d126 (kvD_D_takeAway hG) (kG_cl hG rfl) rfl hD rfl rfl rfl (Nat.le_of_ble_eq_true rfl) (Nat.le_of_ble_eq_true rfl) (jj_bare0 rfl) ?_
  refine d_takeAway hG hD hH hL hne (by omega) (by omega) hp (by omega) (by omega) (fun M6 H6 b6 h63 l63 q6 hb6 w6 f6 => ?_)
  show jj G kD_divideByMore (d + 1) Q rc rs 129 [some (.ref dv), (o1), (o2), some (.int (nI (n2 + 2))), some (.int (nI (s))), some (.int (nI (m))), some (.long (lN (p))), none] [.int (nI (b6))] M6
  rw [hdL, hW] at w6
  have hlt6 := lwn_lt H6 m (n2 + 2 + 1)
  refine jn_if_eq (pc := 129) (tgt := 145) kD_divideByMore_d129 (by decide) (by omega) (fun c6 => ?_) (fun c6 => ?_)
  · skip
    rw [c6, Nat.zero_mul, Nat.add_zero] at w6
    obtain ⟨z1, z2⟩ := dv_zero hD0 w6 ho1
    rw [z1]
    exact k145 M6 H6 h63 (l63.trans lH) q6 z2 f6
  · skip
    rw [show b6 = 1 by omega, Nat.one_mul] at w6
    obtain ⟨z1, z2⟩ := dv_one hD0 (Nat.le_trans (Nat.le_of_lt hdB) (Nat.pow_le_pow_right (by decide) (by omega))) w6 hlt6 ho1 ho2
    have h6d := (f6 dv hdh).trans hD
    have h64 := (f6 lo hne).trans hL
    refine jj_aload_n (pc := 132) kD_divideByMore_d132 rfl ?_
    refine jj_iload (pc := 133) kD_divideByMore_d133 rfl ?_
    refine jj_iload_n (pc := 135) kD_divideByMore_d135 rfl ?_
    refine jj_callV (pc := 136) (b := dv) (As := [.int (nI (m)), .int (nI (n2 + 2))]) kD_divideByMore_d136 (kvD_D_giveBack hG) (kG_cl hG rfl) rfl h6d rfl rfl rfl (Nat.le_of_ble_eq_true rfl) (Nat.le_of_ble_eq_true rfl) (jj_bare0 rfl) ?_
    refine d_giveBack hG h6d h63 h64 hne (by omega) (by omega) (by omega) (by omega) (fun M5 H5 h53 l53 q5 w5 f5 => ?_)
    show jj G kD_divideByMore (d + 1) Q rc rs 139 [some (.ref dv), (o1), (o2), some (.int (nI (n2 + 2))), some (.int (nI (s))), some (.int (nI (m))), some (.long (lN (p))), none] [] M5
    rw [hdL] at w5
    refine jj_lload (pc := 139) kD_divideByMore_d139 rfl ?_
    refine jj_lconst (pc := 141) (v := lN 1) kD_divideByMore_d141 (by decide) ?_
    refine jj_lsub (pc := 142) kD_divideByMore_d142 ?_
    refine jn_top (.long (lN (W / dD))) (by rw [z1, lN_subN (c := W / dD) rfl]) ?_
    refine jj_lstore (pc := 143) kD_divideByMore_d143 (Nat.le_of_ble_eq_true rfl) ?_
    show jj G kD_divideByMore (d + 1) Q rc rs 145 [some (.ref dv), (o1), (o2), some (.int (nI (n2 + 2))), some (.int (nI (s))), some (.int (nI (m))), some (.long (lN (W / dD))), none] [] M5
    show jj G kD_divideByMore (d + 1) Q rc rs 145 [some (.ref dv), (o1), (o2), some (.int (nI (n2 + 2))), some (.int (nI (s))), some (.int (nI (m))), some (.long (lN (W / dD))), none] [] M5
    exact k145 M5 H5 h53 (l53.trans (l63.trans lH)) (fun i hi => (q5 i hi).trans (q6 i hi)) (w5.trans z2) (fun x hx => (f5 x hx).trans (f6 x hx))
theorem d_moreL {dv aq lq ar lr hi lo n2 s e cr dD u0 v0 : Nat} {sq sr : Int32} {H L T R : List Int32} {o1 o2 o6 o7 : Option Value} (hG : kG G) (hD : M dv = some (.inl nD, [.ref aq, .ref ar, .ref hi, .ref lo])) (hQ1 : M aq = some (.inl nW, [.ref lq, .int (nI (e + 1)), .int sq])) (hQ2 : M lq = some (.inr 0, T.map .int)) (hR1 : M ar = some (.inl nW, [.ref lr, .int (nI (cr)), .int sr])) (hR2 : M lr = some (.inr 0, R.map .int)) (hH : M hi = some (.inr 0, H.map .int)) (hL : M lo = some (.inr 0, L.map .int)) (lT : T.length < 2000) (lR : R.length < 2000) (lH : H.length = 253) (lL : L.length = 253) (naq : aq ≠ ar) (nqr : lq ≠ lr) (nlq : lq ≠ hi) (nll : lq ≠ lo) (nlr : lr ≠ hi) (nlrl : lr ≠ lo) (hne : lo ≠ hi) (heT : e + 1 ≤ T.length) (hnR : n2 + 2 ≤ R.length) (hmH : e + (n2 + 2) < 253) (hs32 : s < 32) (hdL : lnat L (n2 + 2) = dD) (hNb : 2147483648 ≤ lu (L.getD (n2 + 1) 0)) (hdB : dD < BB ^ (n2 + 2)) (hst : lwn H (e + 1) (n2 + 2) < dD) (hdD : v0 * 2 ^ s = dD) (hu0 : u0 * 2 ^ s = lnat H (e + 1 + (n2 + 2))) (k : ∀ (M' : mheap) (T' R' H' : List Int32), M' aq = some (.inl nW, [.ref lq, .int (nI (e + 1)), .int sq]) → M' lq = some (.inr 0, T'.map .int) → T'.length = T.length → lnat T' (e + 1) = u0 / v0 → M' ar = some (.inl nW, [.ref lr, .int (nI (n2 + 2)), .int sr]) → M' lr = some (.inr 0, R'.map .int) → R'.length = R.length → lnat R' (n2 + 2) = u0 % v0 → M' hi = some (.inr 0, H'.map .int) → H'.length = 253 → (∀ x, x ≠ aq → x ≠ lq → x ≠ ar → x ≠ lr → x ≠ hi → M' x = M x) → Q (.returned none) M' rc rs) : jj G kD_divideByMore (d + 1) Q rc rs 79 [some (.ref dv), (o1), (o2), some (.int (nI (n2 + 2))), some (.int (nI (s))), some (.int (nI (e))), (o6), (o7)] [] M := by
  have hdh : dv ≠ hi := fun e => by have q9 := hD; rw [e, hH] at q9; cases q9
  have hdq : dv ≠ lq := fun e => by have q9 := hD; rw [e, hQ2] at q9; cases q9
  have hah : aq ≠ hi := fun e => by have q9 := hQ1; rw [e, hH] at q9; cases q9
  have hal : aq ≠ lq := fun e => by have q9 := hQ1; rw [e, hQ2] at q9; cases q9
  have halr : aq ≠ lr := fun e => by have q9 := hQ1; rw [e, hR2] at q9; cases q9
  have harq : ar ≠ lq := fun e => by have q9 := hR1; rw [e, hQ2] at q9; cases q9
  have harh : ar ≠ hi := fun e => by have q9 := hR1; rw [e, hH] at q9; cases q9
  have halo : aq ≠ lo := fun e => by have q9 := hQ1; rw [e, hL] at q9; cases q9
  have ndq : dv ≠ aq := fun e => by have q9 := hD; rw [e, hQ1] at q9; cases q9
  have ndr : dv ≠ ar := fun e => by have q9 := hD; rw [e, hR1] at q9; cases q9
  have hD0 : 0 < dD := by omega
  have fin : ∀ (o5 : Option Value) (M9 : mheap) (T9 H9 : List Int32) (o6 o7 : Option Value), M9 aq = some (.inl nW, [.ref lq, .int (nI (e + 1)), .int sq]) → M9 lq = some (.inr 0, T9.map .int) → T9.length = T.length → M9 hi = some (.inr 0, H9.map .int) → H9.length = 253 → (∀ x, x ≠ aq → x ≠ lq → x ≠ hi → M9 x = M x) → u0 * 2 ^ s = lnat H9 (0 + (n2 + 2)) + lwn T9 0 (e + 1 - 0) * dD * BB ^ 0 → lwn H9 0 (n2 + 2) < dD → jj G kD_divideByMore (d + 1) Q rc rs 164 [some (.ref dv), (o1), (o2), some (.int (nI (n2 + 2))), some (.int (nI (s))), (o5), (o6), (o7)] [] M9 := by
    intro o5 M9 T9 H9 o6 o7 h91 h92 l92 h93 l93 f9 v9 w9
    have h9d := (f9 dv ndq hdq hdh).trans hD
    have h94 := (f9 lo (Ne.symm halo) (Ne.symm nll) hne).trans hL
    rw [Nat.zero_add, lwn_0, Nat.pow_zero, Nat.mul_one, Nat.sub_zero] at v9
    rw [lwn_0] at w9
    rw [← hdD] at v9 w9
    obtain ⟨r1, r2⟩ := rem_end v9 w9
    have h95 := (f9 ar (Ne.symm naq) harq harh).trans hR1
    have h96 := (f9 lr (Ne.symm halr) (Ne.symm nqr) nlr).trans hR2
    refine d_moreF hG h9d h93 h95 h96 l93 lR hnR (by omega) hs32 nlr (fun M7 R7 h75 h76 l7 v7 f7 => ?_)
    rw [← r2] at v7
    have h71 := (f7 aq naq halr).trans h91
    have h72 := (f7 lq (Ne.symm harq) nqr).trans h92
    have h73 := (f7 hi (Ne.symm harh) (Ne.symm nlr)).trans h93
    exact k M7 T9 R7 H9 h71 h72 l92 r1.symm h75 h76 l7 v7 h73 l93 (fun a a1 a2 a3 a4 a5 => (f7 a a3 a4).trans (f9 a a1 a2 a5))
  have loop : ∀ m, m ≤ e + 1 → ∀ (M9 : mheap) (T9 H9 : List Int32) (o6 o7 : Option Value), M9 aq = some (.inl nW, [.ref lq, .int (nI (e + 1)), .int sq]) → M9 lq = some (.inr 0, T9.map .int) → T9.length = T.length → M9 hi = some (.inr 0, H9.map .int) → H9.length = 253 → (∀ x, x ≠ aq → x ≠ lq → x ≠ hi → M9 x = M x) → u0 * 2 ^ s = lnat H9 (m + (n2 + 2)) + lwn T9 m (e + 1 - m) * dD * BB ^ m → lwn H9 m (n2 + 2) < dD → jj G kD_divideByMore (d + 1) Q rc rs 79 [some (.ref dv), (o1), (o2), some (.int (nI (n2 + 2))), some (.int (nI (s))), some (.int (zI (((m : Nat) : Int) - 1))), (o6), (o7)] [] M9 := by
    intro m
    induction m with
    | zero =>
      intro hm M9 T9 H9 o6 o7 h91 h92 l92 h93 l93 f9 v9 w9
      have h9d := (f9 dv ndq hdq hdh).trans hD
      have h94 := (f9 lo (Ne.symm halo) (Ne.symm nll) hne).trans hL
      show jj G kD_divideByMore (d + 1) Q rc rs 79 [some (.ref dv), (o1), (o2), some (.int (nI (n2 + 2))), some (.int (nI (s))), some (.int (zI (-1))), (o6), (o7)] [] M9
      refine jj_iload (pc := 79) kD_divideByMore_d79 rfl ?_
      refine jz_if_lt (pc := 81) (tgt := 164) (a := -1) kD_divideByMore_d81 (by decide) rfl (by omega) (by omega) (fun _ => ?_) (fun c => by exfalso; omega)
      exact fin _ M9 T9 H9 o6 o7 h91 h92 l92 h93 l93 f9 v9 w9
    | succ m ih =>
      intro hm M9 T9 H9 o6 o7 h91 h92 l92 h93 l93 f9 v9 w9
      have h9d := (f9 dv ndq hdq hdh).trans hD
      have h94 := (f9 lo (Ne.symm halo) (Ne.symm nll) hne).trans hL
      obtain ⟨W, hW⟩ : ∃ W, lwn H9 m (n2 + 2 + 1) = W := ⟨_, rfl⟩
      refine jj_eq (L' := [some (.ref dv), (o1), (o2), some (.int (nI (n2 + 2))), some (.int (nI (s))), some (.int (nI (m))), (o6), (o7)]) rfl (by rw [show ((m + 1 : Nat) : Int) - 1 = (m : Int) by omega, zI_nat]) rfl rfl ?_
      show jj G kD_divideByMore (d + 1) Q rc rs 79 [some (.ref dv), (o1), (o2), some (.int (nI (n2 + 2))), some (.int (nI (s))), some (.int (nI (m))), (o6), (o7)] [] M9
      refine jj_iload (pc := 79) kD_divideByMore_d79 rfl ?_
      refine jz_if_lt (pc := 81) (tgt := 164) (a := ((m : Nat) : Int)) kD_divideByMore_d81 (by decide) (zI_nat _).symm (by omega) (by omega) (fun c => by exfalso; omega) (fun _ => ?_)
      refine d_moreS hG h9d h91 h92 h93 h94 (by omega) l93 lL nlq nll hne (by omega) (by omega) hdL hNb hdB w9 hW (fun M8 H8 hqd h83 h82 l83 q8 w8' f8 => ?_)
      have h81 := (f8 aq hah hal).trans h91
      refine ih (by omega) M8 _ H8 _ _ h81 h82 (by rw [List.length_set]; exact l92) h83 l83 (fun x h1 h2 h3 => (f8 x h3 h2).trans (f9 x h1 h2 h3)) ?_ (by rw [w8']; exact Nat.mod_lt W hD0)
      exact main_step (by omega) (by omega) hqd w8' q8 hW v9
  have hgo := loop (e + 1) (Nat.le_refl _) M T H o6 o7 hQ1 hQ2 rfl hH lH (fun x h1 h2 h3 => rfl) (by rw [Nat.sub_self, lwn_none, Nat.zero_mul, Nat.zero_mul, Nat.add_zero]; exact hu0) hst
  rw [show ((e + 1 : Nat) : Int) - 1 = (e : Int) by omega, zI_nat] at hgo
  exact hgo
theorem d_more {dv hi lo q r u v : Nat} {H0 L0 : List Int32} (hG : kG G) (hI : CI wa la cap N) (hc : CW M wa la cap N V) (hD : M dv = some (.inl nD, [.ref (wa q), .ref (wa r), .ref hi, .ref lo])) (hH0 : M hi = some (.inr 0, H0.map .int)) (hL0 : M lo = some (.inr 0, L0.map .int)) (hH0l : H0.length = 253) (hL0l : L0.length = 253) (hne : lo ≠ hi) (hpl : ∀ p, p < N → la p ≠ hi ∧ la p ≠ lo) (hq : q < N) (hr : r < N) (hu : u < N) (hv : v < N) (hqr : q ≠ r) (hqu : q ≠ u) (hqv : q ≠ v) (hru : r ≠ u) (hrv : r ≠ v) (h252 : lc (V u) ≤ 252) (hcq : lc (V u) ≤ cap q) (hcr : lc (V u) ≤ cap r) (hv2 : 2 ≤ lc (V v)) (huv : lc (V v) ≤ lc (V u)) (k : ∀ M', DR M M' wa la cap q r hi lo V ((V u).natAbs / (V v).natAbs) ((V u).natAbs % (V v).natAbs) → Q (.returned none) M' rc rs) : jj G kD_divideByMore (d + 1) Q rc rs 0 (jj_ent [.ref dv, .ref (wa u), .ref (wa v)] 8) [] M := by
  obtain ⟨T, cq, hT1, hT2, hT3, hT4⟩ := hc q hq
  obtain ⟨R, cr, hR1, hR2, hR3, hR4⟩ := hc r hr
  obtain ⟨A, cu, hA1, hA2, hA3, hA4⟩ := hc u hu
  obtain ⟨B, cv, hB1, hB2, hB3, hB4⟩ := hc v hv
  have hcu := hA4.cnt
  have hcv := hB4.cnt
  obtain ⟨n2, hn2⟩ : ∃ n2, cv = n2 + 2 := ⟨cv - 2, by omega⟩
  obtain ⟨e, he⟩ : ∃ e, cu = n2 + e + 2 := ⟨cu - (n2 + 2), by omega⟩
  rw [← hcu, he] at h252 hcq hcr huv
  clear hcu hcv
  subst hn2 he
  have lT := hI.2.2 q hq
  have lR := hI.2.2 r hr
  have lA := hI.2.2 u hu
  have lB := hI.2.2 v hv
  have bA := hA4.1
  have bB := hB4.1
  have nqr : wa q ≠ wa r := fun h => hqr (hI.1 q r hq hr h)
  have nlqr : la q ≠ la r := fun h => hqr (hI.2.1 q r hq hr h)
  have nqu : wa q ≠ wa u := fun h => hqu (hI.1 q u hq hu h)
  have nlqu : la q ≠ la u := fun h => hqu (hI.2.1 q u hq hu h)
  have nqv : wa q ≠ wa v := fun h => hqv (hI.1 q v hq hv h)
  have nlqv : la q ≠ la v := fun h => hqv (hI.2.1 q v hq hv h)
  have nru : wa r ≠ wa u := fun h => hru (hI.1 r u hr hu h)
  have nlru : la r ≠ la u := fun h => hru (hI.2.1 r u hr hu h)
  have nrv : wa r ≠ wa v := fun h => hrv (hI.1 r v hr hv h)
  have nlrv : la r ≠ la v := fun h => hrv (hI.2.1 r v hr hv h)
  have ndq : dv ≠ wa q := fun e => by have q9 := hD; rw [e, hT1] at q9; cases q9
  have ndr : dv ≠ wa r := fun e => by have q9 := hD; rw [e, hR1] at q9; cases q9
  have hwh : ∀ p, p < N → wa p ≠ hi := fun p hp e => by obtain ⟨D9, c9, h91, _⟩ := hc p hp; rw [e, hH0] at h91; cases h91
  have hwl : ∀ p, p < N → wa p ≠ lo := fun p hp e => by obtain ⟨D9, c9, h91, _⟩ := hc p hp; rw [e, hL0] at h91; cases h91
  have hdh : dv ≠ hi := fun e => by have q9 := hD; rw [e, hH0] at q9; cases q9
  have hdl : dv ≠ lo := fun e => by have q9 := hD; rw [e, hL0] at q9; cases q9
  have hdq : dv ≠ la q := fun e => by have q9 := hD; rw [e, hT2] at q9; cases q9
  have hdr : dv ≠ la r := fun e => by have q9 := hD; rw [e, hR2] at q9; cases q9
  have ht0 : lu (B.getD (n2 + 1) 0) ≠ 0 := fun g => hB4.2.2 (by omega) (lu_eq0.mp g)
  obtain ⟨s, hs⟩ : ∃ s, s + bl (lu (B.getD (n2 + 1) 0)) = 32 := by
    obtain ⟨a1, a2, a3⟩ := bl_spec ht0
    have h4 := lu_lt (B.getD (n2 + 1) 0)
    refine ⟨32 - bl (lu (B.getD (n2 + 1) 0)), ?_⟩
    rcases Nat.lt_or_ge 32 (bl (lu (B.getD (n2 + 1) 0))) with g | g
    · have : 2 ^ 32 ≤ 2 ^ (bl (lu (B.getD (n2 + 1) 0)) - 1) := Nat.pow_le_pow_right (by decide) (by omega)
      omega
    · omega
  have hs32 : s < 32 := by
    obtain ⟨a1, a2, a3⟩ := bl_spec ht0
    omega
  show jj G kD_divideByMore (d + 1) Q rc rs 0 [some (.ref dv), some (.ref (wa u)), some (.ref (wa v)), none, none, none, none, none] [] M
  refine jj_aload_n (pc := 0) kD_divideByMore_d0 rfl ?_
  refine jj_getf (pc := 1) kD_divideByMore_d1 (kfD_W_count hG) hB1 rfl ?_
  refine jj_istore_n (pc := 4) kD_divideByMore_d4 (Nat.le_of_ble_eq_true rfl) ?_
  show jj G kD_divideByMore (d + 1) Q rc rs 5 [some (.ref dv), some (.ref (wa u)), some (.ref (wa v)), some (.int (nI (n2 + 2))), none, none, none, none] [] M
  refine jn_bipush (pc := 5) 32 kD_divideByMore_d5 (by decide) ?_
  refine jj_aload_n (pc := 7) kD_divideByMore_d7 rfl ?_
  refine jj_getf (pc := 8) kD_divideByMore_d8 (kfD_W_limbs hG) hB1 rfl ?_
  refine jj_iload_n (pc := 11) kD_divideByMore_d11 rfl ?_
  refine jn_iconst (pc := 12) 1 kD_divideByMore_d12 (by decide) ?_
  refine jn_isub (pc := 13) (n2 + 1) kD_divideByMore_d13 (by omega) ?_
  refine jn_iald (pc := 14) (v := (B.getD (n2 + 1) 0)) kD_divideByMore_d14 (kG_t hG rfl) hB2 (by omega) (by omega) (rfl) ?_
  refine jj_callS (pc := 15) (As := [.int (B.getD (n2 + 1) 0)]) kD_divideByMore_d15 (kvD_W_bitsOf hG) rfl rfl rfl (Nat.le_of_ble_eq_true rfl) (Nat.le_of_ble_eq_true rfl) (jj_bare0 rfl) ?_
  refine w_bitsOf ?_
  show jj G kD_divideByMore (d + 1) Q rc rs 18 [some (.ref dv), some (.ref (wa u)), some (.ref (wa v)), some (.int (nI (n2 + 2))), none, none, none, none] [.int (nI (bl (lu (B.getD (n2 + 1) 0)))), .int (nI (32))] M
  refine jn_isub (pc := 18) (s) kD_divideByMore_d18 (by omega) ?_
  refine jj_istore (pc := 19) kD_divideByMore_d19 (Nat.le_of_ble_eq_true rfl) ?_
  show jj G kD_divideByMore (d + 1) Q rc rs 21 [some (.ref dv), some (.ref (wa u)), some (.ref (wa v)), some (.int (nI (n2 + 2))), some (.int (nI (s))), none, none, none] [] M
  refine jj_aload_n (pc := 21) kD_divideByMore_d21 rfl ?_
  refine jj_aload_n (pc := 22) kD_divideByMore_d22 rfl ?_
  refine jj_getf (pc := 23) kD_divideByMore_d23 (kfD_high hG) hD rfl ?_
  refine jj_iload (pc := 26) kD_divideByMore_d26 rfl ?_
  refine jj_callS (pc := 28) (As := [.ref (wa u), .ref hi, .int (nI (s))]) kD_divideByMore_d28 (kvD_D_shiftUp hG) rfl rfl rfl (Nat.le_of_ble_eq_true rfl) (Nat.le_of_ble_eq_true rfl) (jj_bare0 rfl) ?_
  refine d_shiftUp hG hI hc hu hH0 (by omega) (hpl u hu).1 hs32 (by rw [← hA4.cnt]; omega) (fun M1 H hH hHl hHv hf1 => ?_)
  show jj G kD_divideByMore (d + 1) Q rc rs 31 [some (.ref dv), some (.ref (wa u)), some (.ref (wa v)), some (.int (nI (n2 + 2))), some (.int (nI (s))), none, none, none] [] M1
  have hc1 : CW M1 wa la cap N V := hc.kept (fun p hp => ⟨hf1 _ (hwh p hp), hf1 _ (hpl p hp).1⟩)
  have hL1 : M1 lo = some (.inr 0, L0.map .int) := (hf1 _ hne).trans hL0
  have hD1 := (hf1 dv hdh).trans hD
  refine jj_aload_n (pc := 31) kD_divideByMore_d31 rfl ?_
  refine jj_aload_n (pc := 32) kD_divideByMore_d32 rfl ?_
  refine jj_getf (pc := 33) kD_divideByMore_d33 (kfD_low hG) hD1 rfl ?_
  refine jj_iload (pc := 36) kD_divideByMore_d36 rfl ?_
  refine jj_callS (pc := 38) (As := [.ref (wa v), .ref lo, .int (nI (s))]) kD_divideByMore_d38 (kvD_D_shiftUp hG) rfl rfl rfl (Nat.le_of_ble_eq_true rfl) (Nat.le_of_ble_eq_true rfl) (jj_bare0 rfl) ?_
  refine d_shiftUp hG hI hc1 hv hL1 (by omega) (hpl v hv).2 hs32 (by rw [← hB4.cnt]; omega) (fun M2 L hL hLl hLv hf2 => ?_)
  show jj G kD_divideByMore (d + 1) Q rc rs 41 [some (.ref dv), some (.ref (wa u)), some (.ref (wa v)), some (.int (nI (n2 + 2))), some (.int (nI (s))), none, none, none] [] M2
  have hf : ∀ x, x ≠ hi → x ≠ lo → M2 x = M x := fun x h1 h2 => (hf2 x h2).trans (hf1 x h1)
  have hH2 : M2 hi = some (.inr 0, H.map .int) := (hf2 _ (Ne.symm hne)).trans hH
  rw [← hA4.cnt, ← hA4.2.1] at hHv
  rw [← hB4.cnt, ← hB4.2.1] at hLv
  obtain ⟨dD, hdD⟩ : ∃ dD, lnat B (n2 + 2) * 2 ^ s = dD := ⟨_, rfl⟩
  obtain ⟨hNa, hNb, hNc⟩ := norm_facts (n1 := n2 + 1) rfl ht0 hs hLv
  have hNa' : lnat L (n2 + 2) = dD := hNa.trans hdD
  have hst : lwn H (e + 1) (n2 + 2) < dD := start_lt (n1 := n2 + 1) (U := lnat A (n2 + e + 2) * 2 ^ s) (s := s) (by rw [← hHv]; congr 1; omega) (Nat.mul_lt_mul_of_pos_right (by rw [show n2 + 1 + 1 + e = n2 + e + 2 by omega]; exact lnat_lt A _) (Nat.pow_pos (by decide))) (by rw [← hdD]; exact hNc)
  have hdB : dD < BB ^ (n2 + 2) := by rw [← hNa']; exact lnat_lt L _
  have hD0 : 0 < dD := by omega
  have g2d := (hf dv hdh hdl).trans hD
  have g2q := (hf (wa q) (hwh q hq) (hwl q hq)).trans hT1
  have g2Q := (hf (la q) (hpl q hq).1 (hpl q hq).2).trans hT2
  have g2r := (hf (wa r) (hwh r hr) (hwl r hr)).trans hR1
  have g2R := (hf (la r) (hpl r hr).1 (hpl r hr).2).trans hR2
  have g2u := (hf (wa u) (hwh u hu) (hwl u hu)).trans hA1
  refine jj_aload_n (pc := 41) kD_divideByMore_d41 rfl ?_
  refine jj_getf (pc := 42) kD_divideByMore_d42 (kfD_quotient hG) g2d rfl ?_
  refine jj_aload_n (pc := 45) kD_divideByMore_d45 rfl ?_
  refine jj_getf (pc := 46) kD_divideByMore_d46 (kfD_W_count hG) g2u rfl ?_
  refine jj_iload_n (pc := 49) kD_divideByMore_d49 rfl ?_
  refine jn_isub (pc := 50) (e) kD_divideByMore_d50 (by omega) ?_
  refine jn_iconst (pc := 51) 1 kD_divideByMore_d51 (by decide) ?_
  refine jn_iadd (pc := 52) (e + 1) kD_divideByMore_d52 (by omega) ?_
  refine jj_callV (pc := 53) (b := (wa q)) (As := [.int (nI (e + 1))]) kD_divideByMore_d53 (kvD_W_needRoom hG) (kG_cl hG rfl) rfl g2q rfl rfl rfl (Nat.le_of_ble_eq_true rfl) (Nat.le_of_ble_eq_true rfl) (jj_bare0 rfl) ?_
  refine w_needRoom hG g2q g2Q (by omega) (by omega) ?_
  show jj G kD_divideByMore (d + 1) Q rc rs 56 [some (.ref dv), some (.ref (wa u)), some (.ref (wa v)), some (.int (nI (n2 + 2))), some (.int (nI (s))), none, none, none] [] M2
  refine jj_aload_n (pc := 56) kD_divideByMore_d56 rfl ?_
  refine jj_getf (pc := 57) kD_divideByMore_d57 (kfD_quotient hG) g2d rfl ?_
  refine jj_aload_n (pc := 60) kD_divideByMore_d60 rfl ?_
  refine jj_getf (pc := 61) kD_divideByMore_d61 (kfD_W_count hG) g2u rfl ?_
  refine jj_iload_n (pc := 64) kD_divideByMore_d64 rfl ?_
  refine jn_isub (pc := 65) (e) kD_divideByMore_d65 (by omega) ?_
  refine jn_iconst (pc := 66) 1 kD_divideByMore_d66 (by decide) ?_
  refine jn_iadd (pc := 67) (e + 1) kD_divideByMore_d67 (by omega) ?_
  refine jj_putf (pc := 68) kD_divideByMore_d68 (kpD_W_count hG) g2q (by rfl) rfl ?_
  refine jn_gen (fun M119 hM120 => ?_)
  have h121 : M119 dv = some (.inl nD, [.ref (wa q), .ref (wa r), .ref hi, .ref lo]) := by rw [hM120, jj_up_ne _ _ ndq]; exact g2d
  have h122 : M119 (la q) = some (.inr 0, (T).map .int) := by rw [hM120, jj_up_ne _ _ (fun e => by have q1 := g2Q; rw [e, g2q] at q1; cases q1)]; exact g2Q
  have h123 : M119 (wa u) = some (.inl nW, [.ref (la u), .int (nI (n2 + e + 2)), .int (sg (V u))]) := by rw [hM120, jj_up_ne _ _ (Ne.symm nqu)]; exact g2u
  have h124 : M119 (wa q) = some (.inl nW, [.ref (la q), .int (nI (e + 1)), .int (sg (V q))]) := by rw [hM120]; exact jj_up_at _ _ _
  refine jj_aload_n (pc := 71) kD_divideByMore_d71 rfl ?_
  refine jj_getf (pc := 72) kD_divideByMore_d72 (kfD_W_count hG) h123 rfl ?_
  refine jj_iload_n (pc := 75) kD_divideByMore_d75 rfl ?_
  refine jn_isub (pc := 76) (e) kD_divideByMore_d76 (by omega) ?_
  refine jj_istore (pc := 77) kD_divideByMore_d77 (Nat.le_of_ble_eq_true rfl) ?_
  show jj G kD_divideByMore (d + 1) Q rc rs 79 [some (.ref dv), some (.ref (wa u)), some (.ref (wa v)), some (.int (nI (n2 + 2))), some (.int (nI (s))), some (.int (nI (e))), none, none] [] M119
  show jj G kD_divideByMore (d + 1) Q rc rs 79 [some (.ref dv), some (.ref (wa u)), some (.ref (wa v)), some (.int (nI (n2 + 2))), some (.int (nI (s))), some (.int (nI (e))), none, none] [] M119
  have m3 : ∀ x, x ≠ wa q → M119 x = M2 x := fun x h => by rw [hM120, jj_up_ne _ _ h]
  refine d_moreL hG h121 h124 h122 ((m3 (wa r) (Ne.symm nqr)).trans g2r) ((m3 (la r) (fun e => by have q9 := hR2; rw [e, hT1] at q9; cases q9)).trans g2R) ((m3 hi (Ne.symm (hwh q hq))).trans hH2) ((m3 lo (Ne.symm (hwl q hq))).trans hL) (by omega) (by omega) (hHl.trans hH0l) (hLl.trans hL0l) nqr nlqr (hpl q hq).1 (hpl q hq).2 (hpl r hr).1 (hpl r hr).2 hne (by omega) (by omega) (by omega) hs32 hNa' hNb hdB hst hdD (by rw [← hHv]; congr 1; omega) (fun M' T' R' H' k1 k2 k3 k4 k5 k6 k7 k8 k9 k10 k11 => ?_)
  rw [hA4.2.1, hB4.2.1] at k4 k8
  exact k M' ⟨⟨T', e + 1, k1, k2, k3.trans hT3, by omega, k4⟩, ⟨R', n2 + 2, k5, k6, k7.trans hR3, by omega, k8⟩, ⟨H', k9, k10⟩, ⟨L, (k11 lo (Ne.symm (hwl q hq)) (Ne.symm (hpl q hq).2) (Ne.symm (hwl r hr)) (Ne.symm (hpl r hr).2) hne).trans ((m3 lo (Ne.symm (hwl q hq))).trans hL), hLl.trans hL0l⟩, fun a a1 a2 a3 a4 a5 a6 => (k11 a a1 a2 a3 a4 a5).trans ((m3 a a1).trans (hf a a5 a6))⟩
end D3
