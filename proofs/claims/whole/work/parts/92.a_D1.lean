/-! ===== Divider: shiftUp, takeAway, giveBack, estimate (printed by wip/gen/rD1.py) ===== -/
theorem lN_subN {a b c : Nat} (h : a = c + b) : lN a - lN b = lN c := by rw [h, ← lN_add, Int64.add_sub_cancel]
/-- what n limbs from j on mean -/
def lwn (H : List Int32) (j : Nat) : Nat → Nat
  | 0 => 0
  | n + 1 => lwn H j n + lu (H.getD (j + n) 0) * BB ^ n
theorem lwn_0 (H : List Int32) : ∀ n, lwn H 0 n = lnat H n
  | 0 => rfl
  | n + 1 => by
    show lwn H 0 n + lu (H.getD (0 + n) 0) * _ = lnat H n + lu (H.getD n 0) * _
    rw [lwn_0 H n, Nat.zero_add]
theorem lwn_congr {D E : List Int32} {j : Nat} : ∀ {n : Nat}, (∀ i, i < n → D.getD (j + i) 0 = E.getD (j + i) 0) → lwn D j n = lwn E j n
  | 0, _ => rfl
  | n + 1, h => by
    show lwn D j n + _ = lwn E j n + _
    rw [lwn_congr (fun i hi => h i (by omega)), h n (by omega)]
theorem lwn_step {D : List Int32} {j n v : Nat} (hn : j + n < D.length) : lwn (D.set (j + n) (nI v)) j (n + 1) = lwn D j n + v % BB * BB ^ n := by
  show lwn (D.set (j + n) (nI v)) j n + lu ((D.set (j + n) (nI v)).getD (j + n) 0) * _ = _
  rw [lwn_congr (E := D) (fun i hi => gd_set_ne (by omega)), gd_set_eq hn, lu_nI]
theorem lwn_split (H : List Int32) (j : Nat) : ∀ n, lnat H (j + n) = lnat H j + lwn H j n * BB ^ j
  | 0 => by show lnat H j = lnat H j + 0 * _; rw [Nat.zero_mul]; rfl
  | n + 1 => by
    show lnat H (j + n) + lu (H.getD (j + n) 0) * BB ^ (j + n) = lnat H j + (lwn H j n + lu (H.getD (j + n) 0) * BB ^ n) * BB ^ j
    rw [lwn_split H j n, Nat.add_mul, Nat.mul_assoc, ← Nat.pow_add, Nat.add_comm n j, Nat.add_assoc]
theorem lwn_succ (H : List Int32) (j : Nat) : ∀ n, lwn H j (n + 1) = lu (H.getD j 0) + lwn H (j + 1) n * BB
  | 0 => by
    show 0 + lu (H.getD (j + 0) 0) * BB ^ 0 = _ + 0 * BB
    rw [Nat.pow_zero, Nat.mul_one, Nat.zero_mul, Nat.zero_add]
    rfl
  | n + 1 => by
    have e := lwn_succ H j n
    show lwn H j (n + 1) + lu (H.getD (j + (n + 1)) 0) * BB ^ (n + 1) = _ + (lwn H (j + 1) n + lu (H.getD (j + 1 + n) 0) * BB ^ n) * BB
    rw [e, Nat.add_mul, Nat.mul_assoc _ (BB ^ n), ← Nat.pow_succ, show j + (n + 1) = j + 1 + n by omega, Nat.add_assoc]
theorem lwn_lt (H : List Int32) (j : Nat) : ∀ n, lwn H j n < BB ^ n
  | 0 => Nat.zero_lt_one
  | n + 1 => by
    have h1 := lwn_lt H j n
    have h2 := lu_lt (H.getD (j + n) 0)
    have h3 : lu (H.getD (j + n) 0) * BB ^ n ≤ 4294967295 * BB ^ n := Nat.mul_le_mul_right _ (by omega)
    have h4 : BB ^ (n + 1) = 4294967296 * BB ^ n := by rw [Nat.pow_succ, Nat.mul_comm]
    show lwn H j n + _ < _
    rw [h4]
    generalize BB ^ n = W at *
    generalize lu (H.getD (j + n) 0) * W = Y at *
    omega
theorem up_bound {a s cy : Nat} (ha : a < 4294967296) (hs : s < 32) (hc : cy < 2 ^ s) : cy + a * 2 ^ s < 4294967296 * 2 ^ s ∧ cy + a * 2 ^ s < 18446744073709551616 := by
  have h1 : 2 ^ s ≤ 2 ^ 31 := Nat.pow_le_pow_right (by decide) (by omega)
  have h2 : a * 2 ^ s ≤ 4294967295 * 2 ^ s := Nat.mul_le_mul_right _ (by omega)
  rw [show (2 : Nat) ^ 31 = 2147483648 from rfl] at h1
  omega
/-- the trial limb: what the loop keeps -/
def estI (p r a b N h0 : Nat) : Prop := r + p * a = N ∧ p < 4294967296 ∧ (p = 4294967295 ∨ N * BB + h0 < (p + 1) * (a * BB + b))
theorem estI.ok {p r a b N h0 : Nat} (h : estI p r a b N h0) (ht : p * b ≤ r * BB + h0) : p * (a * BB + b) ≤ N * BB + h0 := by
  rw [← h.1, Nat.mul_add, Nat.add_mul, Nat.mul_assoc p a]
  omega
theorem estI.no {p r a b N h0 : Nat} (h : estI p r a b N h0) (ht : r * BB + h0 < p * b) : 0 < p ∧ estI (p - 1) (r + a) a b N h0 := by
  have h0' : 0 < p := Nat.pos_of_ne_zero (fun e => by rw [e, Nat.zero_mul] at ht; omega)
  have e1 : p * a = (p - 1) * a + a := by rw [← Nat.succ_mul]; congr 1; omega
  refine ⟨h0', by have := h.1; omega, by have := h.2.1; omega, Or.inr ?_⟩
  rw [show p - 1 + 1 = p by omega, ← h.1, Nat.mul_add, Nat.add_mul, Nat.mul_assoc p a, Nat.add_comm (r * BB), Nat.add_assoc]
  exact Nat.add_lt_add_left ht _
theorem estI.start {h2 h1 a b h0 nb : Nat} (hn : h2 * BB + h1 = nb) (ha : h2 < a) (hB : h1 < 4294967296) (h0l : h0 < 4294967296) (hal : a < 4294967296) : estI (nb / a) (nb % a) a b nb h0 := by
  have h0' : 0 < a := by omega
  refine ⟨Nat.mod_add_div' .., ?_, Or.inr ?_⟩
  · rw [Nat.div_lt_iff_lt_mul h0', ← hn]
    have : (h2 + 1) * 4294967296 ≤ a * 4294967296 := Nat.mul_le_mul_right _ (by omega)
    show h2 * 4294967296 + h1 < _
    omega
  · have e1 := Nat.lt_mul_div_succ nb h0'
    rw [Nat.mul_comm] at e1
    have e2 : (nb + 1) * BB ≤ (nb / a + 1) * a * BB := Nat.mul_le_mul_right _ e1
    rw [Nat.mul_add, ← Nat.mul_assoc]
    have e3 : (nb + 1) * BB = nb * BB + 4294967296 := by rw [Nat.add_mul, Nat.one_mul]
    clear hn
    omega
theorem estI.start2 {h2 h1 a b h0 nb : Nat} (hn : h2 * BB + h1 = nb) (ha : h2 = a) : estI 4294967295 (h1 + a) a b nb h0 := by
  refine ⟨?_, by decide, Or.inl rfl⟩
  rw [← hn, ha]
  show _ = a * 4294967296 + h1
  omega
theorem est_wide {p r b h0 : Nat} (hp : p < 4294967296) (hb : b < 4294967296) (hr : 4294967296 ≤ r) : p * b ≤ r * BB + h0 := by
  have h1 : p * b ≤ 4294967295 * 4294967295 := Nat.mul_le_mul (by omega) (by omega)
  have h2 : 4294967296 * 4294967296 ≤ r * BB := Nat.mul_le_mul_right _ hr
  omega
theorem half_div {x a : Nat} (ha : 0 < a) : ∃ r, x = r + x / 2 / a * 2 * a ∧ r < 2 * a ∧ (r < a → x / a = x / 2 / a * 2 ∧ x % a = r) ∧ (a ≤ r → x / a = x / 2 / a * 2 + 1 ∧ x % a = r - a) := by
  have e1 := Nat.mod_add_div' (x / 2) a
  have e2 := Nat.mod_lt (x / 2) ha
  generalize x / 2 / a = q at *
  generalize x / 2 % a = r at *
  have e3 : q * 2 * a = 2 * (q * a) := by rw [Nat.mul_right_comm, Nat.mul_comm]
  have hx : x = (2 * r + x % 2) + q * 2 * a := by omega
  have one : ∀ {k t : Nat}, x = t + k * a → t < a → x / a = k ∧ x % a = t := fun {k t} h1 h2 => by
    rw [h1, Nat.add_mul_div_right _ _ ha, Nat.div_eq_of_lt h2, Nat.zero_add, Nat.add_mul_mod_self_right, Nat.mod_eq_of_lt h2]
    exact ⟨rfl, rfl⟩
  exact ⟨2 * r + x % 2, hx, by omega, fun h => one hx h, fun h => one (by rw [Nat.add_mul]; omega) (by omega)⟩
theorem lN_mask (n : Nat) : lN n &&& lN 4294967295 = lN (n % BB) := by
  apply Int64.toBitVec_inj.mp
  rw [Int64.toBitVec_and, lN_bv, lN_bv, lN_bv]
  apply BitVec.eq_of_toNat_eq
  rw [BitVec.toNat_and, BitVec.toNat_ofNat, BitVec.toNat_ofNat, BitVec.toNat_ofNat, show (4294967295 : Nat) % 2 ^ 64 = 2 ^ 32 - 1 from rfl, Nat.and_two_pow_sub_one_eq_mod]
  show n % 18446744073709551616 % 4294967296 = n % 4294967296 % 18446744073709551616
  omega
theorem lN_flip {x : Nat} (h : x < 18446744073709551616) : (lN x + (-9223372036854775808)).toInt = (x : Int) - 9223372036854775808 := by
  rw [← lZ_nat, show (-9223372036854775808 : Int64) = lZ (-9223372036854775808) from rfl, lZ_add, lZ_toInt (by omega) (by omega)]
  omega
theorem dv_step {x y b cy W p l u e s b' : Nat} (h : x + p * y = u + (b + cy) * W) (hs : cy + p * l = s) {h0 : Nat} (hd : e + s % BB + b = h0 + b' * BB) : x + e * W + p * (y + l * W) = u + h0 * W + (b' + s / BB) * (W * BB) := by
  have e1 : (e + s % BB + b) * W = (h0 + b' * BB) * W := by rw [hd]
  have e2 : s / BB * (W * BB) + s % BB * W = s * W := by rw [← Nat.mul_assoc, Nat.mul_right_comm, ← Nat.add_mul, Nat.div_add_mod' s BB]
  have e3 : s * W = cy * W + p * (l * W) := by rw [← hs, Nat.add_mul, Nat.mul_assoc]
  rw [Nat.add_mul, Nat.add_mul, Nat.add_mul, Nat.mul_assoc b' BB W, Nat.mul_comm BB W] at e1
  rw [Nat.mul_add, Nat.add_mul b' _ (W * BB)]
  rw [Nat.add_mul] at h
  omega
theorem dv_last {x y b cy W p u e b' h0 : Nat} (h : x + p * y = u + (b + cy) * W) (hd : e + cy + b = h0 + b' * BB) : x + e * W + p * y = u + h0 * W + b' * (W * BB) := by
  have e1 : (e + cy + b) * W = (h0 + b' * BB) * W := by rw [hd]
  rw [Nat.add_mul, Nat.add_mul, Nat.add_mul, Nat.mul_assoc b' BB W, Nat.mul_comm BB W] at e1
  rw [Nat.add_mul] at h
  omega
section D1
variable {G : jg} {d : Nat} {Q : jq} {rc rs : Nat} {M : mheap} {wa la cap : Nat → Nat} {N : Nat} {V : Nat → Int}
theorem d_shiftUp {u b s : Nat} {B : List Int32} (hG : kG G) (hI : CI wa la cap N) (hc : CW M wa la cap N V) (hu : u < N) (hb : M b = some (.inr 0, B.map .int)) (hB : B.length < 2 ^ 31) (hnb : la u ≠ b) (hs : s < 32) (hr : lc (V u) + 1 ≤ B.length) (k : ∀ (M' : mheap) (B' : List Int32), M' b = some (.inr 0, B'.map .int) → B'.length = B.length → lnat B' (lc (V u) + 1) = (V u).natAbs * 2 ^ s → (∀ q, q ≠ b → M' q = M q) → Q (.returned none) M' rc rs) : jj G kD_shiftUp d Q rc rs 0 (jj_ent [.ref (wa u), .ref b, .int (nI s)] 6) [] M := by
  obtain ⟨A, n, hA1, hA2, hA3, hA4⟩ := hc u hu
  obtain ⟨au, eau⟩ : ∃ au, wa u = au := ⟨_, rfl⟩
  obtain ⟨lp, elp⟩ : ∃ lp, la u = lp := ⟨_, rfl⟩
  have hcapu := hI.2.2 u hu
  have hleA := hA4.1
  rw [eau, elp] at hA1
  rw [elp] at hA2
  have hcn := hA4.cnt
  rw [← hcn] at hr k
  rw [elp] at hnb
  rw [← hA4.2.1] at k
  rw [eau]
  show jj G kD_shiftUp (d) Q rc rs 0 [some (.ref au), some (.ref b), some (.int (nI (s))), none, none, none] [] M
  refine jj_lconst (pc := 0) (v := lN 0) kD_shiftUp_d0 (by decide) ?_
  refine jj_lstore_n (pc := 1) kD_shiftUp_d1 (Nat.le_of_ble_eq_true rfl) ?_
  refine jn_iconst (pc := 2) 0 kD_shiftUp_d2 (by decide) ?_
  refine jj_istore (pc := 3) kD_shiftUp_d3 (Nat.le_of_ble_eq_true rfl) ?_
  show jj G kD_shiftUp (d) Q rc rs 5 [some (.ref au), some (.ref b), some (.int (nI (s))), some (.long (lN (0))), none, some (.int (nI (0)))] [] M
  have loop : ∀ mu i, n = i + mu → ∀ (cy : Nat) (M9 : mheap) (B9 : List Int32), M9 b = some (.inr 0, B9.map .int) → B9.length = B.length → cy < 2 ^ s → lnat B9 i + cy * BB ^ i = lnat A i * 2 ^ s → (∀ q, q ≠ b → M9 q = M q) → jj G kD_shiftUp (d) Q rc rs 5 [some (.ref au), some (.ref b), some (.int (nI (s))), some (.long (lN (cy))), none, some (.int (nI (i)))] [] M9 := by
    intro mu
    induction mu with
    | zero =>
      intro i hk cy M9 B9 h93 l9 hcy v9 f9
      have e9 : n = i := by omega
      subst e9
      have h91 : M9 au = some (.inl nW, [.ref lp, .int (nI n), .int (sg (V u))]) := by rw [f9 _ (fun e => by have q9 := hA1; rw [e, hb] at q9; cases q9)]; exact hA1
      have h92 : M9 lp = some (.inr 0, A.map .int) := by rw [f9 _ hnb]; exact hA2
      refine jj_iload (pc := 5) kD_shiftUp_d5 rfl ?_
      refine jj_aload_n (pc := 7) kD_shiftUp_d7 rfl ?_
      refine jj_getf (pc := 8) kD_shiftUp_d8 (kfD_W_count hG) h91 rfl ?_
      refine jn_icmp_ge (pc := 11) (tgt := 48) kD_shiftUp_d11 (by decide) (by omega) (by omega) (fun _ => ?_) (fun c => by exfalso; omega)
      refine jj_aload_n (pc := 48) kD_shiftUp_d48 rfl ?_
      refine jj_aload_n (pc := 49) kD_shiftUp_d49 rfl ?_
      refine jj_getf (pc := 50) kD_shiftUp_d50 (kfD_W_count hG) h91 rfl ?_
      refine jj_lload_n (pc := 53) kD_shiftUp_d53 rfl ?_
      refine jj_l2i (pc := 54) kD_shiftUp_d54 ?_
      refine jn_top (.int (nI (cy))) (by rw [lN_i]) ?_
      refine jn_iast (pc := 55) kD_shiftUp_d55 (kG_t hG rfl) h93 (by omega) (by omega) ?_
      refine jn_gen (fun M101 hM102 => ?_)
      have h103 : M101 au = some (.inl nW, [.ref lp, .int (nI (n)), .int (sg (V u))]) := by rw [hM102, jj_up_ne _ _ (fun e => by have q1 := h91; rw [e, h93] at q1; cases q1)]; exact h91
      have h104 : M101 lp = some (.inr 0, (A).map .int) := by rw [hM102, jj_up_ne _ _ hnb]; exact h92
      have h105 : M101 b = some (.inr 0, ((B9).set (n) ((nI (cy)))).map .int) := by rw [hM102]; exact jj_up_at _ _ _
      have hc31 : cy < 4294967296 := Nat.lt_of_lt_of_le hcy (Nat.pow_le_pow_right (n := 2) (by decide) (show s ≤ 32 by omega))
      exact jj_vret (pc := 56) kD_shiftUp_d56 rfl (k M101 _ h105 (by rw [List.length_set]; exact l9) (by rw [lnat_step (by omega), Nat.mod_eq_of_lt (show cy < BB from hc31)]; exact v9) (fun q hq => by rw [hM102, jj_up_ne _ _ hq]; exact f9 q hq))
    | succ mu ih =>
      intro i hk cy M9 B9 h93 l9 hcy v9 f9
      have ha := lu_lt (A.getD i 0)
      obtain ⟨hu1, hu2⟩ := up_bound ha hs hcy
      have h91 : M9 au = some (.inl nW, [.ref lp, .int (nI n), .int (sg (V u))]) := by rw [f9 _ (fun e => by have q9 := hA1; rw [e, hb] at q9; cases q9)]; exact hA1
      have h92 : M9 lp = some (.inr 0, A.map .int) := by rw [f9 _ hnb]; exact hA2
      refine jj_iload (pc := 5) kD_shiftUp_d5 rfl ?_
      refine jj_aload_n (pc := 7) kD_shiftUp_d7 rfl ?_
      refine jj_getf (pc := 8) kD_shiftUp_d8 (kfD_W_count hG) h91 rfl ?_
      refine jn_icmp_ge (pc := 11) (tgt := 48) kD_shiftUp_d11 (by decide) (by omega) (by omega) (fun c => by exfalso; omega) (fun _ => ?_)
      refine jj_lload_n (pc := 14) kD_shiftUp_d14 rfl ?_
      refine jj_aload_n (pc := 15) kD_shiftUp_d15 rfl ?_
      refine jj_getf (pc := 16) kD_shiftUp_d16 (kfD_W_limbs hG) h91 rfl ?_
      refine jj_iload (pc := 19) kD_shiftUp_d19 rfl ?_
      refine jn_iald (pc := 21) (v := (A.getD i 0)) kD_shiftUp_d21 (kG_t hG rfl) h92 (by omega) (by omega) (rfl) ?_
      refine jj_i2l (pc := 22) kD_shiftUp_d22 ?_
      refine jj_ldc2 (pc := 23) kD_shiftUp_d23 (kcD_4294967295 hG) ?_
      refine jn_top (.long (lN (4294967295))) (rfl) ?_
      refine jj_land (pc := 26) kD_shiftUp_d26 ?_
      refine jn_top (.long (lN (lu (A.getD i 0)))) (by rw [lu_mask]) ?_
      refine jj_iload_n (pc := 27) kD_shiftUp_d27 rfl ?_
      refine jj_lshl (pc := 28) kD_shiftUp_d28 ?_
      refine jn_top (.long (lN (lu (A.getD i 0) * 2 ^ s))) (by rw [lN_shl (by omega)]) ?_
      obtain ⟨sm, hsm⟩ : ∃ sm, cy + lu (A.getD i 0) * 2 ^ s = sm := ⟨_, rfl⟩
      rw [hsm] at hu1 hu2
      refine jj_lor (pc := 29) kD_shiftUp_d29 ?_
      refine jn_top (.long (lN (sm))) (by rw [lN_or hcy, hsm]) ?_
      refine jj_lstore_n (pc := 30) kD_shiftUp_d30 (Nat.le_of_ble_eq_true rfl) ?_
      refine jj_aload_n (pc := 31) kD_shiftUp_d31 rfl ?_
      refine jj_iload (pc := 32) kD_shiftUp_d32 rfl ?_
      refine jj_lload_n (pc := 34) kD_shiftUp_d34 rfl ?_
      refine jj_l2i (pc := 35) kD_shiftUp_d35 ?_
      refine jn_top (.int (nI (sm))) (by rw [lN_i]) ?_
      refine jn_iast (pc := 36) kD_shiftUp_d36 (kG_t hG rfl) h93 (by omega) (by omega) ?_
      refine jn_gen (fun M106 hM107 => ?_)
      have h108 : M106 au = some (.inl nW, [.ref lp, .int (nI (n)), .int (sg (V u))]) := by rw [hM107, jj_up_ne _ _ (fun e => by have q1 := h91; rw [e, h93] at q1; cases q1)]; exact h91
      have h109 : M106 lp = some (.inr 0, (A).map .int) := by rw [hM107, jj_up_ne _ _ hnb]; exact h92
      have h110 : M106 b = some (.inr 0, ((B9).set (i) ((nI (sm)))).map .int) := by rw [hM107]; exact jj_up_at _ _ _
      refine jj_lload_n (pc := 37) kD_shiftUp_d37 rfl ?_
      refine jn_bipush (pc := 38) 32 kD_shiftUp_d38 (by decide) ?_
      refine jj_lushr (pc := 40) kD_shiftUp_d40 ?_
      refine jn_top (.long (lN (sm / BB))) (by rw [lN_shr32 (by omega)]) ?_
      refine jj_lstore_n (pc := 41) kD_shiftUp_d41 (Nat.le_of_ble_eq_true rfl) ?_
      refine jn_iinc (pc := 42) (i + 1) kD_shiftUp_d42 rfl (nI_1 _) ?_
      refine jj_goto (pc := 45) (tgt := 5) kD_shiftUp_d45 (by decide) ?_
      show jj G kD_shiftUp (d) Q rc rs 5 [some (.ref au), some (.ref b), some (.int (nI (s))), some (.long (lN (sm / BB))), none, some (.int (nI (i + 1)))] [] M106
      have hcs := carry_step (u := lu (A.getD i 0) * 2 ^ s) (v := 0) v9 (show cy + lu (A.getD i 0) * 2 ^ s + 0 = sm from hsm)
      refine ih (i + 1) (by omega) (sm / BB) M106 _ h110 (by rw [List.length_set]; exact l9) ((Nat.div_lt_iff_lt_mul (by decide)).mpr (by rw [Nat.mul_comm]; exact hu1)) ?_ (fun q hq => by rw [hM107, jj_up_ne _ _ hq]; exact f9 q hq)
      rw [lnat_step (by omega), Nat.pow_succ, hcs, Nat.zero_mul]
      show _ = (lnat A i + lu (A.getD i 0) * BB ^ i) * 2 ^ s
      rw [Nat.add_mul, Nat.mul_right_comm]
      rfl
  exact loop n 0 (by omega) 0 M B hb rfl (Nat.pow_pos (by decide)) (by show 0 + 0 * _ = 0 * _; rw [Nat.zero_mul, Nat.zero_mul]) (fun _ _ => rfl)
theorem d_takeAway {dv qa ra hi lo p j n : Nat} {H L : List Int32} (hG : kG G) (hD : M dv = some (.inl nD, [.ref qa, .ref ra, .ref hi, .ref lo])) (hH : M hi = some (.inr 0, H.map .int)) (hL : M lo = some (.inr 0, L.map .int)) (hne : lo ≠ hi) (hHl : H.length < 2 ^ 31) (hLl : L.length < 2 ^ 31) (hp : p < 4294967296) (hj : j + n < H.length) (hn : n ≤ L.length) (k : ∀ (M' : mheap) (H' : List Int32) (b : Nat), M' hi = some (.inr 0, H'.map .int) → H'.length = H.length → (∀ i, i < j ∨ j + n < i → H'.getD i 0 = H.getD i 0) → b ≤ 1 → lwn H' j (n + 1) + p * lnat L n = lwn H j (n + 1) + b * BB ^ (n + 1) → (∀ q, q ≠ hi → M' q = M q) → Q (.returned (some (.int (nI b)))) M' rc rs) : jj G kD_takeAway d Q rc rs 0 (jj_ent [.ref dv, .long (lN p), .int (nI j), .int (nI n)] 10) [] M := by
  show jj G kD_takeAway (d) Q rc rs 0 [some (.ref dv), some (.long (lN (p))), none, some (.int (nI (j))), some (.int (nI (n))), none, none, none, none, none] [] M
  refine jj_lconst (pc := 0) (v := lN 0) kD_takeAway_d0 (by decide) ?_
  refine jj_lstore (pc := 1) kD_takeAway_d1 (Nat.le_of_ble_eq_true rfl) ?_
  refine jj_lconst (pc := 3) (v := lN 0) kD_takeAway_d3 (by decide) ?_
  refine jj_lstore (pc := 4) kD_takeAway_d4 (Nat.le_of_ble_eq_true rfl) ?_
  refine jn_iconst (pc := 6) 0 kD_takeAway_d6 (by decide) ?_
  refine jj_istore (pc := 7) kD_takeAway_d7 (Nat.le_of_ble_eq_true rfl) ?_
  show jj G kD_takeAway (d) Q rc rs 9 [some (.ref dv), some (.long (lN (p))), none, some (.int (nI (j))), some (.int (nI (n))), some (.long (lN (0))), none, some (.long (lZ (-((0 : Nat) : Int)))), none, some (.int (nI (0)))] [] M
  have loop : ∀ mu i, n = i + mu → ∀ (cy bw : Nat) (M9 : mheap) (H9 : List Int32), M9 hi = some (.inr 0, H9.map .int) → H9.length = H.length → (∀ h, h < j ∨ j + i ≤ h → H9.getD h 0 = H.getD h 0) → bw ≤ 1 → cy < 4294967296 → lwn H9 j i + p * lnat L i = lwn H j i + (bw + cy) * BB ^ i → (∀ q, q ≠ hi → M9 q = M q) → jj G kD_takeAway (d) Q rc rs 9 [some (.ref dv), some (.long (lN (p))), none, some (.int (nI (j))), some (.int (nI (n))), some (.long (lN (cy))), none, some (.long (lZ (-(bw : Int)))), none, some (.int (nI (i)))] [] M9 := by
    intro mu
    induction mu with
    | zero =>
      intro i hk cy bw M9 H9 h92 l9 q9 hbw hcy v9 f9
      have e9 : n = i := by omega
      subst e9
      have h91 : M9 dv = some (.inl nD, [.ref qa, .ref ra, .ref hi, .ref lo]) := by rw [f9 _ (fun e => by have q9 := hD; rw [e, hH] at q9; cases q9)]; exact hD
      have h93 : M9 lo = some (.inr 0, L.map .int) := by rw [f9 _ hne]; exact hL
      have hx := lu_lt (H.getD (j + n) 0)
      obtain ⟨ed, b2, d1, d2, d3, d4, d5⟩ := sub_dig (x := lu (H.getD (j + n) 0)) (y := cy) (b := bw) hx hcy hbw
      obtain ⟨dd, hdd⟩ : ∃ dd : Int, -(bw : Int) + ((lu (H.getD (j + n) 0) : Int) - (cy : Int)) = dd := ⟨_, rfl⟩
      rw [hdd] at d3 d4
      refine jj_iload (pc := 9) kD_takeAway_d9 rfl ?_
      refine jj_iload (pc := 11) kD_takeAway_d11 rfl ?_
      refine jn_icmp_ge (pc := 13) (tgt := 93) kD_takeAway_d13 (by decide) (by omega) (by omega) (fun _ => ?_) (fun c => by exfalso; omega)
      refine jj_lload (pc := 93) kD_takeAway_d93 rfl ?_
      refine jj_aload_n (pc := 95) kD_takeAway_d95 rfl ?_
      refine jj_getf (pc := 96) kD_takeAway_d96 (kfD_high hG) h91 rfl ?_
      refine jj_iload_n (pc := 99) kD_takeAway_d99 rfl ?_
      refine jj_iload (pc := 100) kD_takeAway_d100 rfl ?_
      refine jn_iadd (pc := 102) (j + n) kD_takeAway_d102 (by omega) ?_
      refine jn_iald (pc := 103) (v := (H.getD (j + n) 0)) kD_takeAway_d103 (kG_t hG rfl) h92 (by omega) (by omega) (q9 _ (Or.inr (Nat.le_refl _))) ?_
      refine jj_i2l (pc := 104) kD_takeAway_d104 ?_
      refine jj_ldc2 (pc := 105) kD_takeAway_d105 (kcD_4294967295 hG) ?_
      refine jn_top (.long (lN (4294967295))) (rfl) ?_
      refine jj_land (pc := 108) kD_takeAway_d108 ?_
      refine jn_top (.long (lN (lu (H.getD (j + n) 0)))) (by rw [lu_mask]) ?_
      refine jj_lload (pc := 109) kD_takeAway_d109 rfl ?_
      refine jj_lsub (pc := 111) kD_takeAway_d111 ?_
      refine jn_top (.long (lZ ((lu (H.getD (j + n) 0) : Int) - (cy : Int)))) (by rw [← lZ_nat, ← lZ_nat, lZ_sub]) ?_
      refine jj_ladd (pc := 112) kD_takeAway_d112 ?_
      refine jn_top (.long (lZ dd)) (by rw [lZ_add, hdd]) ?_
      refine jj_lstore (pc := 113) kD_takeAway_d113 (Nat.le_of_ble_eq_true rfl) ?_
      refine jj_aload_n (pc := 115) kD_takeAway_d115 rfl ?_
      refine jj_getf (pc := 116) kD_takeAway_d116 (kfD_high hG) h91 rfl ?_
      refine jj_iload_n (pc := 119) kD_takeAway_d119 rfl ?_
      refine jj_iload (pc := 120) kD_takeAway_d120 rfl ?_
      refine jn_iadd (pc := 122) (j + n) kD_takeAway_d122 (by omega) ?_
      refine jj_lload (pc := 123) kD_takeAway_d123 rfl ?_
      refine jj_l2i (pc := 125) kD_takeAway_d125 ?_
      refine jn_top (.int (nI (ed))) (by rw [lZ_i, lu_zI d3]) ?_
      refine jn_iast (pc := 126) kD_takeAway_d126 (kG_t hG rfl) h92 (by omega) (by omega) ?_
      refine jn_gen (fun M111 hM112 => ?_)
      have h113 : M111 dv = some (.inl nD, [.ref qa, .ref ra, .ref hi, .ref lo]) := by rw [hM112, jj_up_ne _ _ (fun e => by have q1 := h91; rw [e, h92] at q1; cases q1)]; exact h91
      have h114 : M111 lo = some (.inr 0, (L).map .int) := by rw [hM112, jj_up_ne _ _ hne]; exact h93
      have h115 : M111 hi = some (.inr 0, ((H9).set (j + n) ((nI (ed)))).map .int) := by rw [hM112]; exact jj_up_at _ _ _
      refine jj_lload (pc := 127) kD_takeAway_d127 rfl ?_
      refine jj_lconst (pc := 129) (v := lN 0) kD_takeAway_d129 (by decide) ?_
      refine jj_lcmp (pc := 130) kD_takeAway_d130 ?_
      have hK := k M111 _ b2 h115 (by rw [List.length_set]; exact l9) (fun i hi => by rw [gd_set_ne (by omega)]; exact q9 i (by omega)) d2 (by
        rw [lwn_step (by omega), Nat.mod_eq_of_lt (show ed < BB from d1), Nat.pow_succ, dv_last v9 d5]
        rfl) (fun q hq => by rw [hM112, jj_up_ne _ _ hq]; exact f9 q hq)
      have hd0 : (lZ dd).toInt = dd := lZ_toInt (by omega) (by omega)
      refine jj_if_ge (pc := 131) (tgt := 138) kD_takeAway_d131 (by decide) (fun c => ?_) (fun c => ?_)
      · skip
        rw [lg_cmp_ge, Int64.le_iff_toInt_le, hd0, show (lN 0).toInt = 0 from rfl] at c
        rw [show b2 = 0 by omega] at hK
        refine jn_iconst (pc := 138) 0 kD_takeAway_d138 (by decide) ?_
        exact jj_iret (pc := 139) kD_takeAway_d139 rfl (by rfl) hK
      · skip
        rw [lg_cmp_ge, Int64.le_iff_toInt_le, hd0, show (lN 0).toInt = 0 from rfl] at c
        rw [show b2 = 1 by omega] at hK
        refine jn_iconst (pc := 134) 1 kD_takeAway_d134 (by decide) ?_
        refine jj_goto (pc := 135) (tgt := 139) kD_takeAway_d135 (by decide) ?_
        exact jj_iret (pc := 139) kD_takeAway_d139 rfl (by rfl) hK
    | succ mu ih =>
      intro i hk cy bw M9 H9 h92 l9 q9 hbw hcy v9 f9
      have h91 : M9 dv = some (.inl nD, [.ref qa, .ref ra, .ref hi, .ref lo]) := by rw [f9 _ (fun e => by have q9 := hD; rw [e, hH] at q9; cases q9)]; exact hD
      have h93 : M9 lo = some (.inr 0, L.map .int) := by rw [f9 _ hne]; exact hL
      have ha := lu_lt (L.getD i 0)
      have hx := lu_lt (H.getD (j + i) 0)
      have hsb := big_sum (t := 0) hcy hp ha (by decide)
      obtain ⟨sm, hsm⟩ : ∃ sm, cy + p * lu (L.getD i 0) = sm := ⟨_, rfl⟩
      rw [Nat.add_zero, hsm] at hsb
      obtain ⟨ed, b2, d1, d2, d3, d4, d5⟩ := sub_dig (x := lu (H.getD (j + i) 0)) (y := sm % BB) (b := bw) hx (Nat.mod_lt _ (by decide)) hbw
      obtain ⟨dd, hdd⟩ : ∃ dd : Int, -(bw : Int) + ((lu (H.getD (j + i) 0) : Int) - ((sm % BB : Nat) : Int)) = dd := ⟨_, rfl⟩
      rw [hdd] at d3 d4
      refine jj_iload (pc := 9) kD_takeAway_d9 rfl ?_
      refine jj_iload (pc := 11) kD_takeAway_d11 rfl ?_
      refine jn_icmp_ge (pc := 13) (tgt := 93) kD_takeAway_d13 (by decide) (by omega) (by omega) (fun c => by exfalso; omega) (fun _ => ?_)
      refine jj_lload (pc := 16) kD_takeAway_d16 rfl ?_
      refine jj_lload_n (pc := 18) kD_takeAway_d18 rfl ?_
      refine jj_aload_n (pc := 19) kD_takeAway_d19 rfl ?_
      refine jj_getf (pc := 20) kD_takeAway_d20 (kfD_low hG) h91 rfl ?_
      refine jj_iload (pc := 23) kD_takeAway_d23 rfl ?_
      refine jn_iald (pc := 25) (v := (L.getD i 0)) kD_takeAway_d25 (kG_t hG rfl) h93 hLl (by omega) (rfl) ?_
      refine jj_i2l (pc := 26) kD_takeAway_d26 ?_
      refine jj_ldc2 (pc := 27) kD_takeAway_d27 (kcD_4294967295 hG) ?_
      refine jn_top (.long (lN (4294967295))) (rfl) ?_
      refine jj_land (pc := 30) kD_takeAway_d30 ?_
      refine jn_top (.long (lN (lu (L.getD i 0)))) (by rw [lu_mask]) ?_
      refine jj_lmul (pc := 31) kD_takeAway_d31 ?_
      refine jn_top (.long (lN (p * lu (L.getD i 0)))) (by rw [lN_mul]) ?_
      refine jj_ladd (pc := 32) kD_takeAway_d32 ?_
      refine jn_top (.long (lN (sm))) (by rw [lN_add, hsm]) ?_
      refine jj_lstore (pc := 33) kD_takeAway_d33 (Nat.le_of_ble_eq_true rfl) ?_
      refine jj_lload (pc := 35) kD_takeAway_d35 rfl ?_
      refine jj_aload_n (pc := 37) kD_takeAway_d37 rfl ?_
      refine jj_getf (pc := 38) kD_takeAway_d38 (kfD_high hG) h91 rfl ?_
      refine jj_iload_n (pc := 41) kD_takeAway_d41 rfl ?_
      refine jj_iload (pc := 42) kD_takeAway_d42 rfl ?_
      refine jn_iadd (pc := 44) (j + i) kD_takeAway_d44 (by omega) ?_
      refine jn_iald (pc := 45) (v := (H.getD (j + i) 0)) kD_takeAway_d45 (kG_t hG rfl) h92 (by omega) (by omega) (q9 _ (Or.inr (Nat.le_refl _))) ?_
      refine jj_i2l (pc := 46) kD_takeAway_d46 ?_
      refine jj_ldc2 (pc := 47) kD_takeAway_d47 (kcD_4294967295 hG) ?_
      refine jn_top (.long (lN (4294967295))) (rfl) ?_
      refine jj_land (pc := 50) kD_takeAway_d50 ?_
      refine jn_top (.long (lN (lu (H.getD (j + i) 0)))) (by rw [lu_mask]) ?_
      refine jj_lload (pc := 51) kD_takeAway_d51 rfl ?_
      refine jj_ldc2 (pc := 53) kD_takeAway_d53 (kcD_4294967295 hG) ?_
      refine jn_top (.long (lN (4294967295))) (rfl) ?_
      refine jj_land (pc := 56) kD_takeAway_d56 ?_
      refine jn_top (.long (lN (sm % BB))) (by rw [lN_mask]) ?_
      refine jj_lsub (pc := 57) kD_takeAway_d57 ?_
      refine jn_top (.long (lZ ((lu (H.getD (j + i) 0) : Int) - ((sm % BB : Nat) : Int)))) (by rw [← lZ_nat, ← lZ_nat, lZ_sub]) ?_
      refine jj_ladd (pc := 58) kD_takeAway_d58 ?_
      refine jn_top (.long (lZ dd)) (by rw [lZ_add, hdd]) ?_
      refine jj_lstore (pc := 59) kD_takeAway_d59 (Nat.le_of_ble_eq_true rfl) ?_
      refine jj_aload_n (pc := 61) kD_takeAway_d61 rfl ?_
      refine jj_getf (pc := 62) kD_takeAway_d62 (kfD_high hG) h91 rfl ?_
      refine jj_iload_n (pc := 65) kD_takeAway_d65 rfl ?_
      refine jj_iload (pc := 66) kD_takeAway_d66 rfl ?_
      refine jn_iadd (pc := 68) (j + i) kD_takeAway_d68 (by omega) ?_
      refine jj_lload (pc := 69) kD_takeAway_d69 rfl ?_
      refine jj_l2i (pc := 71) kD_takeAway_d71 ?_
      refine jn_top (.int (nI (ed))) (by rw [lZ_i, lu_zI d3]) ?_
      refine jn_iast (pc := 72) kD_takeAway_d72 (kG_t hG rfl) h92 (by omega) (by omega) ?_
      refine jn_gen (fun M116 hM117 => ?_)
      have h118 : M116 dv = some (.inl nD, [.ref qa, .ref ra, .ref hi, .ref lo]) := by rw [hM117, jj_up_ne _ _ (fun e => by have q1 := h91; rw [e, h92] at q1; cases q1)]; exact h91
      have h119 : M116 lo = some (.inr 0, (L).map .int) := by rw [hM117, jj_up_ne _ _ hne]; exact h93
      have h120 : M116 hi = some (.inr 0, ((H9).set (j + i) ((nI (ed)))).map .int) := by rw [hM117]; exact jj_up_at _ _ _
      refine jj_lload (pc := 73) kD_takeAway_d73 rfl ?_
      refine jn_bipush (pc := 75) 32 kD_takeAway_d75 (by decide) ?_
      refine jj_lushr (pc := 77) kD_takeAway_d77 ?_
      refine jn_top (.long (lN (sm / BB))) (by rw [lN_shr32 (by omega)]) ?_
      refine jj_lstore (pc := 78) kD_takeAway_d78 (Nat.le_of_ble_eq_true rfl) ?_
      refine jj_lload (pc := 80) kD_takeAway_d80 rfl ?_
      refine jn_bipush (pc := 82) 32 kD_takeAway_d82 (by decide) ?_
      refine jj_lshr (pc := 84) kD_takeAway_d84 ?_
      refine jn_top (.long (lZ (-(b2 : Int)))) (by rw [lZ_shr32 (by omega) (by omega), d4]) ?_
      refine jj_lstore (pc := 85) kD_takeAway_d85 (Nat.le_of_ble_eq_true rfl) ?_
      refine jn_iinc (pc := 87) (i + 1) kD_takeAway_d87 rfl (nI_1 _) ?_
      refine jj_goto (pc := 90) (tgt := 9) kD_takeAway_d90 (by decide) ?_
      show jj G kD_takeAway (d) Q rc rs 9 [some (.ref dv), some (.long (lN (p))), none, some (.int (nI (j))), some (.int (nI (n))), some (.long (lN (sm / BB))), none, some (.long (lZ (-(b2 : Int)))), none, some (.int (nI (i + 1)))] [] M116
      refine ih (i + 1) (by omega) (sm / BB) b2 M116 _ h120 (by rw [List.length_set]; exact l9) (fun h hh => by rw [gd_set_ne (by omega)]; exact q9 h (by omega)) d2 ((Nat.div_lt_iff_lt_mul (by decide)).mpr hsb) ?_ (fun q hq => by rw [hM117, jj_up_ne _ _ hq]; exact f9 q hq)
      rw [lwn_step (by omega), Nat.mod_eq_of_lt (show ed < BB from d1), Nat.pow_succ]
      exact dv_step v9 hsm d5
  exact loop n 0 (by omega) 0 0 M H hH rfl (fun _ _ => rfl) (by decide) (by decide) (by show 0 + p * 0 = 0 + (0 + 0) * _; rw [Nat.mul_zero, Nat.zero_mul]) (fun _ _ => rfl)
theorem d_giveBack {dv qa ra hi lo j n : Nat} {H L : List Int32} (hG : kG G) (hD : M dv = some (.inl nD, [.ref qa, .ref ra, .ref hi, .ref lo])) (hH : M hi = some (.inr 0, H.map .int)) (hL : M lo = some (.inr 0, L.map .int)) (hne : lo ≠ hi) (hHl : H.length < 2 ^ 31) (hLl : L.length < 2 ^ 31) (hj : j + n < H.length) (hn : n ≤ L.length) (k : ∀ (M' : mheap) (H' : List Int32), M' hi = some (.inr 0, H'.map .int) → H'.length = H.length → (∀ i, i < j ∨ j + n < i → H'.getD i 0 = H.getD i 0) → lwn H' j (n + 1) = (lwn H j (n + 1) + lnat L n) % BB ^ (n + 1) → (∀ q, q ≠ hi → M' q = M q) → Q (.returned none) M' rc rs) : jj G kD_giveBack d Q rc rs 0 (jj_ent [.ref dv, .int (nI j), .int (nI n)] 6) [] M := by
  show jj G kD_giveBack (d) Q rc rs 0 [some (.ref dv), some (.int (nI (j))), some (.int (nI (n))), none, none, none] [] M
  refine jj_lconst (pc := 0) (v := lN 0) kD_giveBack_d0 (by decide) ?_
  refine jj_lstore_n (pc := 1) kD_giveBack_d1 (Nat.le_of_ble_eq_true rfl) ?_
  refine jn_iconst (pc := 2) 0 kD_giveBack_d2 (by decide) ?_
  refine jj_istore (pc := 3) kD_giveBack_d3 (Nat.le_of_ble_eq_true rfl) ?_
  show jj G kD_giveBack (d) Q rc rs 5 [some (.ref dv), some (.int (nI (j))), some (.int (nI (n))), some (.long (lN (0))), none, some (.int (nI (0)))] [] M
  have loop : ∀ mu i, n = i + mu → ∀ (cy : Nat) (M9 : mheap) (H9 : List Int32), M9 hi = some (.inr 0, H9.map .int) → H9.length = H.length → (∀ h, h < j ∨ j + i ≤ h → H9.getD h 0 = H.getD h 0) → cy ≤ 1 → lwn H9 j i + cy * BB ^ i = lwn H j i + lnat L i → (∀ q, q ≠ hi → M9 q = M q) → jj G kD_giveBack (d) Q rc rs 5 [some (.ref dv), some (.int (nI (j))), some (.int (nI (n))), some (.long (lN (cy))), none, some (.int (nI (i)))] [] M9 := by
    intro mu
    induction mu with
    | zero =>
      intro i hk cy M9 H9 h92 l9 q9 hcy v9 f9
      have e9 : n = i := by omega
      subst e9
      have h91 : M9 dv = some (.inl nD, [.ref qa, .ref ra, .ref hi, .ref lo]) := by rw [f9 _ (fun e => by have q9 := hD; rw [e, hH] at q9; cases q9)]; exact hD
      have h93 : M9 lo = some (.inr 0, L.map .int) := by rw [f9 _ hne]; exact hL
      obtain ⟨sm, hsm⟩ : ∃ sm, lu (H.getD (j + n) 0) + cy = sm := ⟨_, rfl⟩
      refine jj_iload (pc := 5) kD_giveBack_d5 rfl ?_
      refine jj_iload_n (pc := 7) kD_giveBack_d7 rfl ?_
      refine jn_icmp_ge (pc := 8) (tgt := 63) kD_giveBack_d8 (by decide) (by omega) (by omega) (fun _ => ?_) (fun c => by exfalso; omega)
      refine jj_aload_n (pc := 63) kD_giveBack_d63 rfl ?_
      refine jj_getf (pc := 64) kD_giveBack_d64 (kfD_high hG) h91 rfl ?_
      refine jj_iload_n (pc := 67) kD_giveBack_d67 rfl ?_
      refine jj_iload_n (pc := 68) kD_giveBack_d68 rfl ?_
      refine jn_iadd (pc := 69) (j + n) kD_giveBack_d69 (by omega) ?_
      refine jj_dup2 (pc := 70) kD_giveBack_d70 rfl rfl ?_
      refine jn_iald (pc := 71) (v := (H.getD (j + n) 0)) kD_giveBack_d71 (kG_t hG rfl) h92 (by omega) (by omega) (q9 _ (Or.inr (Nat.le_refl _))) ?_
      refine jj_lload_n (pc := 72) kD_giveBack_d72 rfl ?_
      refine jj_l2i (pc := 73) kD_giveBack_d73 ?_
      refine jn_top (.int (nI (cy))) (by rw [lN_i]) ?_
      refine jj_iadd (pc := 74) kD_giveBack_d74 ?_
      refine jn_top (.int (nI (sm))) (by rw [← nI_lu (H.getD (j + n) 0), nI_add, hsm]) ?_
      refine jn_iast (pc := 75) kD_giveBack_d75 (kG_t hG rfl) h92 (by omega) (by omega) ?_
      refine jn_gen (fun M121 hM122 => ?_)
      have h123 : M121 dv = some (.inl nD, [.ref qa, .ref ra, .ref hi, .ref lo]) := by rw [hM122, jj_up_ne _ _ (fun e => by have q1 := h91; rw [e, h92] at q1; cases q1)]; exact h91
      have h124 : M121 lo = some (.inr 0, (L).map .int) := by rw [hM122, jj_up_ne _ _ hne]; exact h93
      have h125 : M121 hi = some (.inr 0, ((H9).set (j + n) ((nI (sm)))).map .int) := by rw [hM122]; exact jj_up_at _ _ _
      have hcs := carry_step (u := lu (H.getD (j + n) 0)) (v := 0) v9 (show cy + lu (H.getD (j + n) 0) + 0 = sm by omega)
      have hlt := lwn_lt (H9.set (j + n) (nI sm)) j (n + 1)
      exact jj_vret (pc := 76) kD_giveBack_d76 rfl (k M121 _ h125 (by rw [List.length_set]; exact l9) (fun i hi => by rw [gd_set_ne (by omega)]; exact q9 i (by omega)) (by
        rw [← Nat.mod_eq_of_lt hlt, lwn_step (by omega)]
        show _ = (lwn H j n + lu (H.getD (j + n) 0) * BB ^ n + lnat L n) % _
        rw [Nat.zero_mul, Nat.add_zero] at hcs
        rw [show lwn H j n + lu (H.getD (j + n) 0) * BB ^ n + lnat L n = lwn H j n + lnat L n + lu (H.getD (j + n) 0) * BB ^ n by omega, ← hcs, Nat.pow_succ, Nat.add_mul_mod_self_right]) (fun q hq => by rw [hM122, jj_up_ne _ _ hq]; exact f9 q hq))
    | succ mu ih =>
      intro i hk cy M9 H9 h92 l9 q9 hcy v9 f9
      have h91 : M9 dv = some (.inl nD, [.ref qa, .ref ra, .ref hi, .ref lo]) := by rw [f9 _ (fun e => by have q9 := hD; rw [e, hH] at q9; cases q9)]; exact hD
      have h93 : M9 lo = some (.inr 0, L.map .int) := by rw [f9 _ hne]; exact hL
      have ha := lu_lt (L.getD i 0)
      have hx := lu_lt (H.getD (j + i) 0)
      obtain ⟨sm, hsm⟩ : ∃ sm, cy + (lu (H.getD (j + i) 0) + lu (L.getD i 0)) = sm := ⟨_, rfl⟩
      refine jj_iload (pc := 5) kD_giveBack_d5 rfl ?_
      refine jj_iload_n (pc := 7) kD_giveBack_d7 rfl ?_
      refine jn_icmp_ge (pc := 8) (tgt := 63) kD_giveBack_d8 (by decide) (by omega) (by omega) (fun c => by exfalso; omega) (fun _ => ?_)
      refine jj_lload_n (pc := 11) kD_giveBack_d11 rfl ?_
      refine jj_aload_n (pc := 12) kD_giveBack_d12 rfl ?_
      refine jj_getf (pc := 13) kD_giveBack_d13 (kfD_high hG) h91 rfl ?_
      refine jj_iload_n (pc := 16) kD_giveBack_d16 rfl ?_
      refine jj_iload (pc := 17) kD_giveBack_d17 rfl ?_
      refine jn_iadd (pc := 19) (j + i) kD_giveBack_d19 (by omega) ?_
      refine jn_iald (pc := 20) (v := (H.getD (j + i) 0)) kD_giveBack_d20 (kG_t hG rfl) h92 (by omega) (by omega) (q9 _ (Or.inr (Nat.le_refl _))) ?_
      refine jj_i2l (pc := 21) kD_giveBack_d21 ?_
      refine jj_ldc2 (pc := 22) kD_giveBack_d22 (kcD_4294967295 hG) ?_
      refine jn_top (.long (lN (4294967295))) (rfl) ?_
      refine jj_land (pc := 25) kD_giveBack_d25 ?_
      refine jn_top (.long (lN (lu (H.getD (j + i) 0)))) (by rw [lu_mask]) ?_
      refine jj_aload_n (pc := 26) kD_giveBack_d26 rfl ?_
      refine jj_getf (pc := 27) kD_giveBack_d27 (kfD_low hG) h91 rfl ?_
      refine jj_iload (pc := 30) kD_giveBack_d30 rfl ?_
      refine jn_iald (pc := 32) (v := (L.getD i 0)) kD_giveBack_d32 (kG_t hG rfl) h93 hLl (by omega) (rfl) ?_
      refine jj_i2l (pc := 33) kD_giveBack_d33 ?_
      refine jj_ldc2 (pc := 34) kD_giveBack_d34 (kcD_4294967295 hG) ?_
      refine jn_top (.long (lN (4294967295))) (rfl) ?_
      refine jj_land (pc := 37) kD_giveBack_d37 ?_
      refine jn_top (.long (lN (lu (L.getD i 0)))) (by rw [lu_mask]) ?_
      refine jj_ladd (pc := 38) kD_giveBack_d38 ?_
      refine jn_top (.long (lN (lu (H.getD (j + i) 0) + lu (L.getD i 0)))) (by rw [lN_add]) ?_
      refine jj_ladd (pc := 39) kD_giveBack_d39 ?_
      refine jn_top (.long (lN (sm))) (by rw [lN_add, hsm]) ?_
      refine jj_lstore_n (pc := 40) kD_giveBack_d40 (Nat.le_of_ble_eq_true rfl) ?_
      refine jj_aload_n (pc := 41) kD_giveBack_d41 rfl ?_
      refine jj_getf (pc := 42) kD_giveBack_d42 (kfD_high hG) h91 rfl ?_
      refine jj_iload_n (pc := 45) kD_giveBack_d45 rfl ?_
      refine jj_iload (pc := 46) kD_giveBack_d46 rfl ?_
      refine jn_iadd (pc := 48) (j + i) kD_giveBack_d48 (by omega) ?_
      refine jj_lload_n (pc := 49) kD_giveBack_d49 rfl ?_
      refine jj_l2i (pc := 50) kD_giveBack_d50 ?_
      refine jn_top (.int (nI (sm))) (by rw [lN_i]) ?_
      refine jn_iast (pc := 51) kD_giveBack_d51 (kG_t hG rfl) h92 (by omega) (by omega) ?_
      refine jn_gen (fun M126 hM127 => ?_)
      have h128 : M126 dv = some (.inl nD, [.ref qa, .ref ra, .ref hi, .ref lo]) := by rw [hM127, jj_up_ne _ _ (fun e => by have q1 := h91; rw [e, h92] at q1; cases q1)]; exact h91
      have h129 : M126 lo = some (.inr 0, (L).map .int) := by rw [hM127, jj_up_ne _ _ hne]; exact h93
      have h130 : M126 hi = some (.inr 0, ((H9).set (j + i) ((nI (sm)))).map .int) := by rw [hM127]; exact jj_up_at _ _ _
      refine jj_lload_n (pc := 52) kD_giveBack_d52 rfl ?_
      refine jn_bipush (pc := 53) 32 kD_giveBack_d53 (by decide) ?_
      refine jj_lushr (pc := 55) kD_giveBack_d55 ?_
      refine jn_top (.long (lN (sm / BB))) (by rw [lN_shr32 (by omega)]) ?_
      refine jj_lstore_n (pc := 56) kD_giveBack_d56 (Nat.le_of_ble_eq_true rfl) ?_
      refine jn_iinc (pc := 57) (i + 1) kD_giveBack_d57 rfl (nI_1 _) ?_
      refine jj_goto (pc := 60) (tgt := 5) kD_giveBack_d60 (by decide) ?_
      show jj G kD_giveBack (d) Q rc rs 5 [some (.ref dv), some (.int (nI (j))), some (.int (nI (n))), some (.long (lN (sm / BB))), none, some (.int (nI (i + 1)))] [] M126
      have hcs := carry_step (u := lu (H.getD (j + i) 0)) (v := lu (L.getD i 0)) v9 (show cy + lu (H.getD (j + i) 0) + lu (L.getD i 0) = sm by omega)
      refine ih (i + 1) (by omega) (sm / BB) M126 _ h130 (by rw [List.length_set]; exact l9) (fun h hh => by rw [gd_set_ne (by omega)]; exact q9 h (by omega)) (by show sm / 4294967296 ≤ 1; omega) ?_ (fun q hq => by rw [hM127, jj_up_ne _ _ hq]; exact f9 q hq)
      rw [lwn_step (by omega), Nat.pow_succ, hcs]
      show _ = (lwn H j i + lu (H.getD (j + i) 0) * BB ^ i) + (lnat L i + lu (L.getD i 0) * BB ^ i)
      omega
  exact loop n 0 (by omega) 0 M H hH rfl (fun _ _ => rfl) (by decide) (by show 0 + 0 * _ = 0 + 0; rw [Nat.zero_mul]) (fun _ _ => rfl)
theorem d_estimate {dv qa ra hi lo t a b : Nat} {H : List Int32} (hG : kG G) (hD : M dv = some (.inl nD, [.ref qa, .ref ra, .ref hi, .ref lo])) (hH : M hi = some (.inr 0, H.map .int)) (hHl : H.length < 2 ^ 31) (ht : t + 2 < H.length) (ha1 : 2147483648 ≤ a) (ha2 : a < 4294967296) (hb : b < 4294967296) (hle : lu (H.getD (t + 2) 0) ≤ a) (k : ∀ p, p < 4294967296 → p * (a * BB + b) ≤ lwn H t 3 → (p = 4294967295 ∨ lwn H t 3 < (p + 1) * (a * BB + b)) → Q (.returned (some (.long (lN p)))) M rc rs) : jj G kD_estimate d Q rc rs 0 (jj_ent [.ref dv, .int (nI (t + 2)), .long (lN a), .long (lN b)] 15) [] M := by
  obtain ⟨h2, e2⟩ : ∃ h2, lu (H.getD (t + 2) 0) = h2 := ⟨_, rfl⟩
  obtain ⟨h1, e1⟩ : ∃ h1, lu (H.getD (t + 1) 0) = h1 := ⟨_, rfl⟩
  obtain ⟨h0, e0⟩ : ∃ h0, lu (H.getD t 0) = h0 := ⟨_, rfl⟩
  have l2 := lu_lt (H.getD (t + 2) 0)
  have l1 := lu_lt (H.getD (t + 1) 0)
  have l0 := lu_lt (H.getD t 0)
  rw [e2] at l2 hle
  rw [e1] at l1
  rw [e0] at l0
  obtain ⟨nb, hnb⟩ : ∃ nb, h2 * 4294967296 + h1 = nb := ⟨_, rfl⟩
  have hw : lwn H t 3 = nb * BB + h0 := by
    rw [lwn_succ, lwn_succ, lwn_succ, e0, e1, show t + 1 + 1 = t + 2 from rfl, e2]
    show h0 + (h1 + (h2 + 0 * 4294967296) * 4294967296) * 4294967296 = nb * 4294967296 + h0
    omega
  rw [hw] at k
  have hnl : nb < 18446744073709551616 := by omega
  show jj G kD_estimate (d) Q rc rs 0 [some (.ref dv), some (.int (nI (t + 2))), some (.long (lN (a))), none, some (.long (lN (b))), none, none, none, none, none, none, none, none, none, none] [] M
  refine jj_aload_n (pc := 0) kD_estimate_d0 rfl ?_
  refine jj_getf (pc := 1) kD_estimate_d1 (kfD_high hG) hD rfl ?_
  refine jj_iload_n (pc := 4) kD_estimate_d4 rfl ?_
  refine jn_iald (pc := 5) (v := (H.getD (t + 2) 0)) kD_estimate_d5 (kG_t hG rfl) hH hHl (by omega) (rfl) ?_
  refine jj_i2l (pc := 6) kD_estimate_d6 ?_
  refine jn_bipush (pc := 7) 32 kD_estimate_d7 (by decide) ?_
  refine jj_lshl (pc := 9) kD_estimate_d9 ?_
  refine jn_top (.long (lN (h2 * 2 ^ 32))) (by rw [lx_shl2 (by decide) (by decide), e2]) ?_
  refine jj_aload_n (pc := 10) kD_estimate_d10 rfl ?_
  refine jj_getf (pc := 11) kD_estimate_d11 (kfD_high hG) hD rfl ?_
  refine jj_iload_n (pc := 14) kD_estimate_d14 rfl ?_
  refine jn_iconst (pc := 15) 1 kD_estimate_d15 (by decide) ?_
  refine jn_isub (pc := 16) (t + 1) kD_estimate_d16 (by omega) ?_
  refine jn_iald (pc := 17) (v := (H.getD (t + 1) 0)) kD_estimate_d17 (kG_t hG rfl) hH hHl (by omega) (rfl) ?_
  refine jj_i2l (pc := 18) kD_estimate_d18 ?_
  refine jj_ldc2 (pc := 19) kD_estimate_d19 (kcD_4294967295 hG) ?_
  refine jn_top (.long (lN (4294967295))) (rfl) ?_
  refine jj_land (pc := 22) kD_estimate_d22 ?_
  refine jn_top (.long (lN (lu (H.getD (t + 1) 0)))) (by rw [lu_mask]) ?_
  refine jn_top (.long (lN (h1))) (by rw [e1]) ?_
  refine jj_lor (pc := 23) kD_estimate_d23 ?_
  refine jn_top (.long (lN (nb))) (by rw [lN_or' (k := 32) l1]; rw [← hnb]) ?_
  refine jj_lstore (pc := 24) kD_estimate_d24 (Nat.le_of_ble_eq_true rfl) ?_
  show jj G kD_estimate (d) Q rc rs 26 [some (.ref dv), some (.int (nI (t + 2))), some (.long (lN (a))), none, some (.long (lN (b))), none, some (.long (lN (nb))), none, none, none, none, none, none, none, none] [] M
  refine jj_ldc2 (pc := 26) kD_estimate_d26 (kcD_4294967295 hG) ?_
  refine jn_top (.long (lN (4294967295))) (rfl) ?_
  refine jj_lstore (pc := 29) kD_estimate_d29 (Nat.le_of_ble_eq_true rfl) ?_
  show jj G kD_estimate (d) Q rc rs 31 [some (.ref dv), some (.int (nI (t + 2))), some (.long (lN (a))), none, some (.long (lN (b))), none, some (.long (lN (nb))), none, some (.long (lN (4294967295))), none, none, none, none, none, none] [] M
  refine jj_aload_n (pc := 31) kD_estimate_d31 rfl ?_
  refine jj_getf (pc := 32) kD_estimate_d32 (kfD_high hG) hD rfl ?_
  refine jj_iload_n (pc := 35) kD_estimate_d35 rfl ?_
  refine jn_iconst (pc := 36) 1 kD_estimate_d36 (by decide) ?_
  refine jn_isub (pc := 37) (t + 1) kD_estimate_d37 (by omega) ?_
  refine jn_iald (pc := 38) (v := (H.getD (t + 1) 0)) kD_estimate_d38 (kG_t hG rfl) hH hHl (by omega) (rfl) ?_
  refine jj_i2l (pc := 39) kD_estimate_d39 ?_
  refine jj_ldc2 (pc := 40) kD_estimate_d40 (kcD_4294967295 hG) ?_
  refine jn_top (.long (lN (4294967295))) (rfl) ?_
  refine jj_land (pc := 43) kD_estimate_d43 ?_
  refine jn_top (.long (lN (lu (H.getD (t + 1) 0)))) (by rw [lu_mask]) ?_
  refine jn_top (.long (lN (h1))) (by rw [e1]) ?_
  refine jj_lload_n (pc := 44) kD_estimate_d44 rfl ?_
  refine jj_ladd (pc := 45) kD_estimate_d45 ?_
  refine jn_top (.long (lN (h1 + a))) (by rw [lN_add]) ?_
  refine jj_lstore (pc := 46) kD_estimate_d46 (Nat.le_of_ble_eq_true rfl) ?_
  show jj G kD_estimate (d) Q rc rs 48 [some (.ref dv), some (.int (nI (t + 2))), some (.long (lN (a))), none, some (.long (lN (b))), none, some (.long (lN (nb))), none, some (.long (lN (4294967295))), none, some (.long (lN (h1 + a))), none, none, none, none] [] M
  refine jj_aload_n (pc := 48) kD_estimate_d48 rfl ?_
  refine jj_getf (pc := 49) kD_estimate_d49 (kfD_high hG) hD rfl ?_
  refine jj_iload_n (pc := 52) kD_estimate_d52 rfl ?_
  refine jn_iald (pc := 53) (v := (H.getD (t + 2) 0)) kD_estimate_d53 (kG_t hG rfl) hH hHl (by omega) (rfl) ?_
  refine jj_i2l (pc := 54) kD_estimate_d54 ?_
  refine jj_ldc2 (pc := 55) kD_estimate_d55 (kcD_4294967295 hG) ?_
  refine jn_top (.long (lN (4294967295))) (rfl) ?_
  refine jj_land (pc := 58) kD_estimate_d58 ?_
  refine jn_top (.long (lN (lu (H.getD (t + 2) 0)))) (by rw [lu_mask]) ?_
  refine jn_top (.long (lN (h2))) (by rw [e2]) ?_
  refine jj_lload_n (pc := 59) kD_estimate_d59 rfl ?_
  refine jj_lcmp (pc := 60) kD_estimate_d60 ?_
  have fin : ∀ (i p r : Nat) (o13 o14 : Option Value), estI p r a b nb h0 → p * b ≤ r * BB + h0 → jj G kD_estimate (d) Q rc rs 181 [some (.ref dv), some (.int (nI (t + 2))), some (.long (lN (a))), none, some (.long (lN (b))), none, some (.long (lN (nb))), none, some (.long (lN (p))), none, some (.long (lN (r))), none, some (.int (nI (i))), (o13), (o14)] [] M := by
    intro i p r o13 o14 hE ht9
    refine jj_lload (pc := 181) kD_estimate_d181 rfl ?_
    exact jj_lret (pc := 183) kD_estimate_d183 rfl (k p hE.2.1 (hE.ok ht9) hE.2.2)
  have loop : ∀ mu i, 2 = i + mu → ∀ (p r : Nat) (o13 o14 : Option Value), estI p r a b nb h0 → i * a ≤ r → r < 8589934592 + i * 4294967296 → jj G kD_estimate (d) Q rc rs 105 [some (.ref dv), some (.int (nI (t + 2))), some (.long (lN (a))), none, some (.long (lN (b))), none, some (.long (lN (nb))), none, some (.long (lN (p))), none, some (.long (lN (r))), none, some (.int (nI (i))), (o13), (o14)] [] M := by
    intro mu
    induction mu with
    | zero =>
      intro i hk p r o13 o14 hE hr1 hr2
      have e9 : i = 2 := by omega
      subst e9
      refine jj_iload (pc := 105) kD_estimate_d105 rfl ?_
      refine jn_iconst (pc := 107) 2 kD_estimate_d107 (by decide) ?_
      refine jn_icmp_ge (pc := 108) (tgt := 181) kD_estimate_d108 (by decide) (by omega) (by omega) (fun _ => ?_) (fun c => by exfalso; omega)
      exact fin 2 p r o13 o14 hE (est_wide hE.2.1 hb (by omega))
    | succ mu ih =>
      intro i hk p r o13 o14 hE hr1 hr2
      have hi1 : i ≤ 1 := by omega
      have hia : i * 4294967296 ≤ 1 * 4294967296 := Nat.mul_le_mul_right _ hi1
      refine jj_iload (pc := 105) kD_estimate_d105 rfl ?_
      refine jn_iconst (pc := 107) 2 kD_estimate_d107 (by decide) ?_
      refine jn_icmp_ge (pc := 108) (tgt := 181) kD_estimate_d108 (by decide) (by omega) (by omega) (fun c => by exfalso; omega) (fun _ => ?_)
      refine jj_lload (pc := 111) kD_estimate_d111 rfl ?_
      refine jj_ldc2 (pc := 113) kD_estimate_d113 (kcD_4294967295 hG) ?_
      refine jn_top (.long (lN (4294967295))) (rfl) ?_
      refine jj_lcmp (pc := 116) kD_estimate_d116 ?_
      refine jj_if_gt (pc := 117) (tgt := 181) kD_estimate_d117 (by decide) (fun c => ?_) (fun c => ?_)
      · skip
        rw [lg_cmp_gt, Int64.lt_iff_toInt_lt, lN_big (by omega), lN_big (by omega)] at c
        exact fin i p r o13 o14 hE (est_wide hE.2.1 hb (by omega))
      · skip
        rw [lg_cmp_gt, Int64.lt_iff_toInt_lt, lN_big (by omega), lN_big (by omega)] at c
        have hrl : r < 4294967296 := by omega
        have hpl := hE.2.1
        refine jj_lload (pc := 120) kD_estimate_d120 rfl ?_
        refine jn_bipush (pc := 122) 32 kD_estimate_d122 (by decide) ?_
        refine jj_lshl (pc := 124) kD_estimate_d124 ?_
        refine jn_top (.long (lN (r * 2 ^ 32))) (by rw [lN_shl (by omega)]) ?_
        refine jj_aload_n (pc := 125) kD_estimate_d125 rfl ?_
        refine jj_getf (pc := 126) kD_estimate_d126 (kfD_high hG) hD rfl ?_
        refine jj_iload_n (pc := 129) kD_estimate_d129 rfl ?_
        refine jn_iconst (pc := 130) 2 kD_estimate_d130 (by decide) ?_
        refine jn_isub (pc := 131) (t) kD_estimate_d131 (by omega) ?_
        refine jn_iald (pc := 132) (v := (H.getD (t) 0)) kD_estimate_d132 (kG_t hG rfl) hH hHl (by omega) (rfl) ?_
        refine jj_i2l (pc := 133) kD_estimate_d133 ?_
        refine jj_ldc2 (pc := 134) kD_estimate_d134 (kcD_4294967295 hG) ?_
        refine jn_top (.long (lN (4294967295))) (rfl) ?_
        refine jj_land (pc := 137) kD_estimate_d137 ?_
        refine jn_top (.long (lN (lu (H.getD t 0)))) (by rw [lu_mask]) ?_
        refine jn_top (.long (lN (h0))) (by rw [e0]) ?_
        obtain ⟨bh, hbh⟩ : ∃ bh, r * BB + h0 = bh := ⟨_, rfl⟩
        refine jj_lor (pc := 138) kD_estimate_d138 ?_
        refine jn_top (.long (lN (bh))) (by rw [lN_or' (k := 32) l0]; rw [← hbh]) ?_
        refine jj_lstore (pc := 139) kD_estimate_d139 (Nat.le_of_ble_eq_true rfl) ?_
        show jj G kD_estimate (d) Q rc rs 141 [some (.ref dv), some (.int (nI (t + 2))), some (.long (lN (a))), none, some (.long (lN (b))), none, some (.long (lN (nb))), none, some (.long (lN (p))), none, some (.long (lN (r))), none, some (.int (nI (i))), some (.long (lN (bh))), none] [] M
        refine jj_lload (pc := 141) kD_estimate_d141 rfl ?_
        refine jj_lload (pc := 143) kD_estimate_d143 rfl ?_
        refine jj_lmul (pc := 145) kD_estimate_d145 ?_
        refine jn_top (.long (lN (p * b))) (by rw [lN_mul]) ?_
        refine jj_ldc2 (pc := 146) kD_estimate_d146 (kcD_9223372036854775808 hG) ?_
        refine jj_ladd (pc := 149) kD_estimate_d149 ?_
        refine jj_lload (pc := 150) kD_estimate_d150 rfl ?_
        refine jj_ldc2 (pc := 152) kD_estimate_d152 (kcD_9223372036854775808 hG) ?_
        refine jj_ladd (pc := 155) kD_estimate_d155 ?_
        refine jj_lcmp (pc := 156) kD_estimate_d156 ?_
        have hpb : p * b ≤ 4294967295 * 4294967295 := Nat.mul_le_mul (by omega) (by omega)
        have hrb : r * BB ≤ 4294967295 * 4294967296 := Nat.mul_le_mul_right _ (by omega)
        refine jj_if_gt (pc := 157) (tgt := 163) kD_estimate_d157 (by decide) (fun c2 => ?_) (fun c2 => ?_)
        · skip
          rw [lg_cmp_gt, Int64.lt_iff_toInt_lt, lN_flip (by omega), lN_flip (by omega)] at c2
          obtain ⟨hp0, hE2⟩ := hE.no (by omega)
          refine jj_lload (pc := 163) kD_estimate_d163 rfl ?_
          refine jj_lconst (pc := 165) (v := lN 1) kD_estimate_d165 (by decide) ?_
          refine jj_lsub (pc := 166) kD_estimate_d166 ?_
          refine jn_top (.long (lN (p - 1))) (by rw [lN_subN (c := p - 1) (by omega)]) ?_
          refine jj_lstore (pc := 167) kD_estimate_d167 (Nat.le_of_ble_eq_true rfl) ?_
          show jj G kD_estimate (d) Q rc rs 169 [some (.ref dv), some (.int (nI (t + 2))), some (.long (lN (a))), none, some (.long (lN (b))), none, some (.long (lN (nb))), none, some (.long (lN (p - 1))), none, some (.long (lN (r))), none, some (.int (nI (i))), some (.long (lN (bh))), none] [] M
          refine jj_lload (pc := 169) kD_estimate_d169 rfl ?_
          refine jj_lload_n (pc := 171) kD_estimate_d171 rfl ?_
          refine jj_ladd (pc := 172) kD_estimate_d172 ?_
          refine jn_top (.long (lN (r + a))) (by rw [lN_add]) ?_
          refine jj_lstore (pc := 173) kD_estimate_d173 (Nat.le_of_ble_eq_true rfl) ?_
          show jj G kD_estimate (d) Q rc rs 175 [some (.ref dv), some (.int (nI (t + 2))), some (.long (lN (a))), none, some (.long (lN (b))), none, some (.long (lN (nb))), none, some (.long (lN (p - 1))), none, some (.long (lN (r + a))), none, some (.int (nI (i))), some (.long (lN (bh))), none] [] M
          refine jn_iinc (pc := 175) (i + 1) kD_estimate_d175 rfl (nI_1 _) ?_
          refine jj_goto (pc := 178) (tgt := 105) kD_estimate_d178 (by decide) ?_
          show jj G kD_estimate (d) Q rc rs 105 [some (.ref dv), some (.int (nI (t + 2))), some (.long (lN (a))), none, some (.long (lN (b))), none, some (.long (lN (nb))), none, some (.long (lN (p - 1))), none, some (.long (lN (r + a))), none, some (.int (nI (i + 1))), some (.long (lN (bh))), none] [] M
          exact ih (i + 1) (by omega) (p - 1) (r + a) _ _ hE2 (by rw [Nat.succ_mul]; omega) (by rw [Nat.succ_mul i]; omega)
        · skip
          rw [lg_cmp_gt, Int64.lt_iff_toInt_lt, lN_flip (by omega), lN_flip (by omega)] at c2
          refine jj_goto (pc := 160) (tgt := 181) kD_estimate_d160 (by decide) ?_
          exact fin i p r _ _ hE (by omega)
  refine jj_if_ge (pc := 61) (tgt := 102) kD_estimate_d61 (by decide) (fun c => ?_) (fun c => ?_)
  · skip
    rw [lg_cmp_ge, Int64.le_iff_toInt_le, lN_big (by omega), lN_big (by omega)] at c
    have hE := estI.start2 (b := b) (h0 := h0) hnb (show h2 = a by omega)
    refine jn_iconst (pc := 102) 0 kD_estimate_d102 (by decide) ?_
    refine jj_istore (pc := 103) kD_estimate_d103 (Nat.le_of_ble_eq_true rfl) ?_
    show jj G kD_estimate (d) Q rc rs 105 [some (.ref dv), some (.int (nI (t + 2))), some (.long (lN (a))), none, some (.long (lN (b))), none, some (.long (lN (nb))), none, some (.long (lN (4294967295))), none, some (.long (lN (h1 + a))), none, some (.int (nI (0))), none, none] [] M
    show jj G kD_estimate (d) Q rc rs 105 [some (.ref dv), some (.int (nI (t + 2))), some (.long (lN (a))), none, some (.long (lN (b))), none, some (.long (lN (nb))), none, some (.long (lN (4294967295))), none, some (.long (lN (h1 + a))), none, some (.int (nI (0))), none, none] [] M
    exact loop 2 0 (by omega) (4294967295) (h1 + a) none none hE (by omega) (by omega)
  · skip
    rw [lg_cmp_ge, Int64.le_iff_toInt_le, lN_big (by omega), lN_big (by omega)] at c
    have hE := estI.start (b := b) (h0 := h0) hnb (show h2 < a by omega) l1 l0 ha2
    obtain ⟨rr, d1, d2, d3, d4⟩ := half_div (x := nb) (a := a) (by omega)
    obtain ⟨qq, hqq⟩ : ∃ qq, nb / 2 / a = qq := ⟨_, rfl⟩
    rw [hqq] at d1 d3 d4
    refine jj_lload (pc := 64) kD_estimate_d64 rfl ?_
    refine jn_iconst (pc := 66) 1 kD_estimate_d66 (by decide) ?_
    refine jj_lushr (pc := 67) kD_estimate_d67 ?_
    refine jn_top (.long (lN (nb / 2))) (by rw [lN_shr (by omega) (by omega), show (2 : Nat) ^ 1 = 2 from rfl]) ?_
    refine jj_lload_n (pc := 68) kD_estimate_d68 rfl ?_
    refine jj_ldiv (pc := 69) kD_estimate_d69 (lN_ne (by omega) (by omega)) ?_
    refine jn_top (.long (lN (qq))) (by rw [lN_divN (by omega) (by omega), hqq]) ?_
    refine jn_iconst (pc := 70) 1 kD_estimate_d70 (by decide) ?_
    refine jj_lshl (pc := 71) kD_estimate_d71 ?_
    refine jn_top (.long (lN (qq * 2))) (by rw [lN_shl (by omega), show (2 : Nat) ^ 1 = 2 from rfl]) ?_
    refine jj_lstore (pc := 72) kD_estimate_d72 (Nat.le_of_ble_eq_true rfl) ?_
    show jj G kD_estimate (d) Q rc rs 74 [some (.ref dv), some (.int (nI (t + 2))), some (.long (lN (a))), none, some (.long (lN (b))), none, some (.long (lN (nb))), none, some (.long (lN (qq * 2))), none, some (.long (lN (h1 + a))), none, none, none, none] [] M
    refine jj_lload (pc := 74) kD_estimate_d74 rfl ?_
    refine jj_lload (pc := 76) kD_estimate_d76 rfl ?_
    refine jj_lload_n (pc := 78) kD_estimate_d78 rfl ?_
    refine jj_lmul (pc := 79) kD_estimate_d79 ?_
    refine jn_top (.long (lN (qq * 2 * a))) (by rw [lN_mul]) ?_
    refine jj_lsub (pc := 80) kD_estimate_d80 ?_
    refine jn_top (.long (lN (rr))) (by rw [lN_subN d1]) ?_
    refine jj_lstore (pc := 81) kD_estimate_d81 (Nat.le_of_ble_eq_true rfl) ?_
    show jj G kD_estimate (d) Q rc rs 83 [some (.ref dv), some (.int (nI (t + 2))), some (.long (lN (a))), none, some (.long (lN (b))), none, some (.long (lN (nb))), none, some (.long (lN (qq * 2))), none, some (.long (lN (rr))), none, none, none, none] [] M
    refine jj_lload (pc := 83) kD_estimate_d83 rfl ?_
    refine jj_lload_n (pc := 85) kD_estimate_d85 rfl ?_
    refine jj_lcmp (pc := 86) kD_estimate_d86 ?_
    refine jj_if_lt (pc := 87) (tgt := 102) kD_estimate_d87 (by decide) (fun c2 => ?_) (fun c2 => ?_)
    · skip
      rw [lg_cmp_lt, Int64.lt_iff_toInt_lt, lN_big (by omega), lN_big (by omega)] at c2
      obtain ⟨g1, g2⟩ := d3 (by omega)
      rw [g1, g2] at hE
      refine jn_iconst (pc := 102) 0 kD_estimate_d102 (by decide) ?_
      refine jj_istore (pc := 103) kD_estimate_d103 (Nat.le_of_ble_eq_true rfl) ?_
      show jj G kD_estimate (d) Q rc rs 105 [some (.ref dv), some (.int (nI (t + 2))), some (.long (lN (a))), none, some (.long (lN (b))), none, some (.long (lN (nb))), none, some (.long (lN (qq * 2))), none, some (.long (lN (rr))), none, some (.int (nI (0))), none, none] [] M
      show jj G kD_estimate (d) Q rc rs 105 [some (.ref dv), some (.int (nI (t + 2))), some (.long (lN (a))), none, some (.long (lN (b))), none, some (.long (lN (nb))), none, some (.long (lN (qq * 2))), none, some (.long (lN (rr))), none, some (.int (nI (0))), none, none] [] M
      exact loop 2 0 (by omega) (qq * 2) (rr) none none hE (by omega) (by omega)
    · skip
      rw [lg_cmp_lt, Int64.lt_iff_toInt_lt, lN_big (by omega), lN_big (by omega)] at c2
      obtain ⟨g1, g2⟩ := d4 (by omega)
      rw [g1, g2] at hE
      refine jj_lload (pc := 90) kD_estimate_d90 rfl ?_
      refine jj_lload_n (pc := 92) kD_estimate_d92 rfl ?_
      refine jj_lsub (pc := 93) kD_estimate_d93 ?_
      refine jn_top (.long (lN (rr - a))) (by rw [lN_subN (c := rr - a) (by omega)]) ?_
      refine jj_lstore (pc := 94) kD_estimate_d94 (Nat.le_of_ble_eq_true rfl) ?_
      show jj G kD_estimate (d) Q rc rs 96 [some (.ref dv), some (.int (nI (t + 2))), some (.long (lN (a))), none, some (.long (lN (b))), none, some (.long (lN (nb))), none, some (.long (lN (qq * 2))), none, some (.long (lN (rr - a))), none, none, none, none] [] M
      refine jj_lload (pc := 96) kD_estimate_d96 rfl ?_
      refine jj_lconst (pc := 98) (v := lN 1) kD_estimate_d98 (by decide) ?_
      refine jj_ladd (pc := 99) kD_estimate_d99 ?_
      refine jn_top (.long (lN (qq * 2 + 1))) (by rw [lN_add]) ?_
      refine jj_lstore (pc := 100) kD_estimate_d100 (Nat.le_of_ble_eq_true rfl) ?_
      show jj G kD_estimate (d) Q rc rs 102 [some (.ref dv), some (.int (nI (t + 2))), some (.long (lN (a))), none, some (.long (lN (b))), none, some (.long (lN (nb))), none, some (.long (lN (qq * 2 + 1))), none, some (.long (lN (rr - a))), none, none, none, none] [] M
      refine jn_iconst (pc := 102) 0 kD_estimate_d102 (by decide) ?_
      refine jj_istore (pc := 103) kD_estimate_d103 (Nat.le_of_ble_eq_true rfl) ?_
      show jj G kD_estimate (d) Q rc rs 105 [some (.ref dv), some (.int (nI (t + 2))), some (.long (lN (a))), none, some (.long (lN (b))), none, some (.long (lN (nb))), none, some (.long (lN (qq * 2 + 1))), none, some (.long (lN (rr - a))), none, some (.int (nI (0))), none, none] [] M
      show jj G kD_estimate (d) Q rc rs 105 [some (.ref dv), some (.int (nI (t + 2))), some (.long (lN (a))), none, some (.long (lN (b))), none, some (.long (lN (nb))), none, some (.long (lN (qq * 2 + 1))), none, some (.long (lN (rr - a))), none, some (.int (nI (0))), none, none] [] M
      exact loop 2 0 (by omega) (qq * 2 + 1) (rr - a) none none hE (by omega) (by omega)
end D1
