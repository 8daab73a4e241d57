/-! ===== two results of one call agree (wip/gen/mxX.py) ===== -/
theorem rowsZ_same {A B : imat} {m n : Nat} (h : ∀ i, i < m → ∀ j, j < n → A i j = B i j) : rowsZ A m B m n := fun i hi => by
  obtain ⟨c, hc⟩ := rowsZ_refl (A := B) (r := m) (n := n) i hi
  exact ⟨c, fun j hj => (h i hi j hj).trans (hc j hj)⟩
theorem nI_nneg {n : Nat} (h : n < 2 ^ 31) : ¬ nI n < 0 := Int32.not_lt.mpr (nI_le (Nat.zero_le n) h)
theorem qsum_mulr {f : Nat → Rat} {c : Rat} {n : Nat} : qsum f n * c = qsum (fun i => f i * c) n := by
  rw [Rat.mul_comm, qsum_mul]
  exact qsum_congr (fun i _ => Rat.mul_comm _ _)
theorem qsum_skp {f : Nat → Rat} {c : Nat} : ∀ {n : Nat}, c < n + 1 → qsum f (n + 1) = f c + qsum (fun l => f (skp c l)) n
  | 0, h => by
    rw [show c = 0 by omega]
    show (0 : Rat) + f 0 = f 0 + 0
    grind
  | n + 1, h => by
    by_cases e : c = n + 1
    · have e1 : qsum (fun l => f (skp c l)) (n + 1) = qsum f (n + 1) := qsum_congr (fun l hl => by
        show f (skp c l) = f l
        rw [show skp c l = l from if_pos (by omega)])
      rw [e1, e]
      show qsum f (n + 1) + f (n + 1) = _
      exact Rat.add_comm _ _
    · have ih := qsum_skp (f := f) (c := c) (n := n) (by omega)
      show qsum f (n + 1) + f (n + 1) = f c + (qsum (fun l => f (skp c l)) n + f (skp c n))
      rw [ih, show skp c n = n + 1 from if_neg (by omega), Rat.add_assoc]
section DET
variable {σ σ1 σ2 : rst} {cd cd' v v' : Nat}
theorem fin1_det {k full R c : Nat} {q : Nat → Rat} (h1 : fin1 σ k full R c q cd σ1) (h2 : fin1 σ k full R c q cd' σ2) : cd = cd' ∧ σ1 = σ2 := by
  rcases h1 with ⟨a1, a2, a3⟩ | ⟨a1, a2, a3⟩ <;> rcases h2 with ⟨b1, b2, b3⟩ | ⟨b1, b2, b3⟩
  · exact ⟨a2.trans b2.symm, a3.trans b3.symm⟩
  · exact absurd a1 b1
  · exact absurd b1 a1
  · exact ⟨a2.trans b2.symm, a3.trans b3.symm⟩
theorem fin2_det {k full R c a : Nat} {q : Nat → Rat} (h1 : fin2 σ k full R c q a cd v σ1) (h2 : fin2 σ k full R c q a cd' v' σ2) : cd = cd' ∧ v = v' ∧ σ1 = σ2 := by
  rcases h1 with ⟨a1, a2, a3, a4⟩ | ⟨a1, a2, a3, a4⟩ <;> rcases h2 with ⟨b1, b2, b3, b4⟩ | ⟨b1, b2, b3, b4⟩
  · exact ⟨a2.trans b2.symm, a3.trans b3.symm, a4.trans b4.symm⟩
  · exact absurd a1 b1
  · exact absurd b1 a1
  · exact ⟨a2.trans b2.symm, a3.trans b3.symm, a4.trans b4.symm⟩
theorem reg_uniq {x : Int32} {k i : Nat} (hk : k < 8) (hi : i < 8) (h1 : x = nI k) (h2 : x = nI i) : k = i := nI_inj (by omega) (by omega) (h1.symm.trans h2)
theorem nI_uniq {x : Int32} {k i : Nat} (hk : k ≤ 16) (hi : i ≤ 16) (h1 : x = nI k) (h2 : x = nI i) : k = i := nI_inj (by omega) (by omega) (h1.symm.trans h2)
theorem mcut_eq {E E' : qmat} {r n : Nat} (hn : 1 ≤ n) (h : ∀ i, i < r → ∀ j, j < n → E i j = E' i j) : mcut E r n = mcut E' r n := by
  funext t
  unfold mcut
  by_cases c : t / n < r
  · rw [if_pos c, if_pos c, h _ c _ (Nat.mod_lt t hn)]
  · rw [if_neg c, if_neg c]
theorem zcut_eq {E E' : imat} {r n : Nat} (hn : 1 ≤ n) (h : ∀ i, i < r → ∀ j, j < n → E i j = E' i j) : zcut E r n = zcut E' r n := by
  funext t
  unfold zcut
  by_cases c : t / n < r
  · rw [if_pos c, if_pos c, h _ c _ (Nat.mod_lt t hn)]
  · rw [if_neg c, if_neg c]
theorem semMake_det {x y z : Int32} (h1 : semMake σ x y z cd σ1) (h2 : semMake σ x y z cd' σ2) : cd = cd' ∧ σ1 = σ2 := by
  rcases h1 with ⟨a1, a2, a3⟩ | ⟨k, hk, ek, a⟩ <;> rcases h2 with ⟨b1, b2, b3⟩ | ⟨k', hk', ek', b⟩
  · exact ⟨a2.trans b2.symm, a3.trans b3.symm⟩
  · exact absurd ⟨k', hk', ek'⟩ a1
  · exact absurd ⟨k, hk, ek⟩ b1
  · have e := reg_uniq hk hk' ek ek'
    subst e
    rcases a with ⟨a1, a2, a3⟩ | ⟨R, c, r1, r2, r3, c1, c2, c3, a2, a3⟩ <;> rcases b with ⟨b1, b2, b3⟩ | ⟨R', c', r1', r2', r3', c1', c2', c3', b2, b3⟩
    · exact ⟨a2.trans b2.symm, a3.trans b3.symm⟩
    · exact absurd ⟨⟨R', r1', r2', r3'⟩, c', c1', c2', c3'⟩ a1
    · exact absurd ⟨⟨R, r1, r2, r3⟩, c, c1, c2, c3⟩ b1
    · have e1 := nI_uniq r2 r2' r3 r3'
      have e2 := nI_uniq c2 c2' c3 c3'
      subst e1 e2
      exact ⟨a2.trans b2.symm, a3.trans b3.symm⟩
theorem semUnit_det {x y : Int32} (h1 : semUnit σ x y cd σ1) (h2 : semUnit σ x y cd' σ2) : cd = cd' ∧ σ1 = σ2 := by
  rcases h1 with ⟨a1, a2, a3⟩ | ⟨k, hk, ek, a⟩ <;> rcases h2 with ⟨b1, b2, b3⟩ | ⟨k', hk', ek', b⟩
  · exact ⟨a2.trans b2.symm, a3.trans b3.symm⟩
  · exact absurd ⟨k', hk', ek'⟩ a1
  · exact absurd ⟨k, hk, ek⟩ b1
  · have e := reg_uniq hk hk' ek ek'
    subst e
    rcases a with ⟨a1, a2, a3⟩ | ⟨R, r1, r2, r3, a⟩ <;> rcases b with ⟨b1, b2, b3⟩ | ⟨R', r1', r2', r3', b⟩
    · exact ⟨a2.trans b2.symm, a3.trans b3.symm⟩
    · exact absurd ⟨R', r1', r2', r3'⟩ a1
    · exact absurd ⟨R, r1, r2, r3⟩ b1
    · have e1 := nI_uniq r2 r2' r3 r3'
      subst e1
      exact fin1_det a b
theorem cel_uniq {x y z : Int32} (hL : LG σ) {k i j k' i' j' : Nat} (hk : k < 8) (ek : x = nI k) (hi : i < σ.1 k) (ei : y = nI i) (hj : j < σ.2.1 k) (ej : z = nI j) (hk' : k' < 8) (ek' : x = nI k') (hi' : i' < σ.1 k') (ei' : y = nI i') (hj' : j' < σ.2.1 k') (ej' : z = nI j') : k = k' ∧ i = i' ∧ j = j' := by
  have e := reg_uniq hk hk' ek ek'
  subst e
  have l := (hL k hk).2.2
  have l1 := l.1
  have l2 := l.2.1
  exact ⟨rfl, nI_uniq (by omega) (by omega) ei ei', nI_uniq (by omega) (by omega) ej ej'⟩
theorem semSet_det {x y z : Int32} {u l : Int64} (hL : LG σ) (h1 : semSet σ x y z u l cd σ1) (h2 : semSet σ x y z u l cd' σ2) : cd = cd' ∧ σ1 = σ2 := by
  rcases h1 with ⟨a1, a2, a3⟩ | ⟨k, i, j, hk, ek, hi, ei, hj, ej, a⟩ <;> rcases h2 with ⟨b1, b2, b3⟩ | ⟨k', i', j', hk', ek', hi', ei', hj', ej', b⟩
  · exact ⟨a2.trans b2.symm, a3.trans b3.symm⟩
  · exact absurd ⟨k', i', j', hk', ek', hi', ei', hj', ej'⟩ a1
  · exact absurd ⟨k, i, j, hk, ek, hi, ei, hj, ej⟩ b1
  · obtain ⟨e1, e2, e3⟩ := cel_uniq hL hk ek hi ei hj ej hk' ek' hi' ei' hj' ej'
    subst e1 e2 e3
    rcases a with ⟨a1, a2, a3⟩ | ⟨a1, a⟩ <;> rcases b with ⟨b1, b2, b3⟩ | ⟨b1, b⟩
    · exact ⟨a2.trans b2.symm, a3.trans b3.symm⟩
    · exact absurd a1 b1
    · exact absurd b1 a1
    · exact fin1_det a b
theorem semTurn_det {x y : Int32} (h1 : semTurn σ x y cd σ1) (h2 : semTurn σ x y cd' σ2) : cd = cd' ∧ σ1 = σ2 := by
  rcases h1 with ⟨a1, a2, a3⟩ | ⟨k, i, hk, ek, hi, ei, a⟩ <;> rcases h2 with ⟨b1, b2, b3⟩ | ⟨k', i', hk', ek', hi', ei', b⟩
  · exact ⟨a2.trans b2.symm, a3.trans b3.symm⟩
  · exact absurd ⟨⟨k', hk', ek'⟩, ⟨i', hi', ei'⟩⟩ a1
  · exact absurd ⟨⟨k, hk, ek⟩, ⟨i, hi, ei⟩⟩ b1
  · have e_k := reg_uniq hk hk' ek ek'
    subst e_k
    have e_i := reg_uniq hi hi' ei ei'
    subst e_i
    exact fin1_det a b
theorem semAdd_det {x y z b0 : Int32} (h1 : semAdd σ x y z b0 cd σ1) (h2 : semAdd σ x y z b0 cd' σ2) : cd = cd' ∧ σ1 = σ2 := by
  rcases h1 with ⟨a1, a2, a3⟩ | ⟨k, i, j, hk, ek, hi, ei, hj, ej, a⟩ <;> rcases h2 with ⟨b1, b2, b3⟩ | ⟨k', i', j', hk', ek', hi', ei', hj', ej', b⟩
  · exact ⟨a2.trans b2.symm, a3.trans b3.symm⟩
  · exact absurd ⟨⟨k', hk', ek'⟩, ⟨i', hi', ei'⟩, ⟨j', hj', ej'⟩⟩ a1
  · exact absurd ⟨⟨k, hk, ek⟩, ⟨i, hi, ei⟩, ⟨j, hj, ej⟩⟩ b1
  · have e_k := reg_uniq hk hk' ek ek'
    subst e_k
    have e_i := reg_uniq hi hi' ei ei'
    subst e_i
    have e_j := reg_uniq hj hj' ej ej'
    subst e_j
    rcases a with ⟨a1, a2, a3⟩ | ⟨p1, p2, a⟩ <;> rcases b with ⟨b1, b2, b3⟩ | ⟨q1, q2, b⟩
    · exact ⟨a2.trans b2.symm, a3.trans b3.symm⟩
    · exact absurd ⟨q1, q2⟩ a1
    · exact absurd ⟨p1, p2⟩ b1
    · exact fin1_det a b
theorem semMul_det {x y z : Int32} (h1 : semMul σ x y z cd σ1) (h2 : semMul σ x y z cd' σ2) : cd = cd' ∧ σ1 = σ2 := by
  rcases h1 with ⟨a1, a2, a3⟩ | ⟨k, i, j, hk, ek, hi, ei, hj, ej, a⟩ <;> rcases h2 with ⟨b1, b2, b3⟩ | ⟨k', i', j', hk', ek', hi', ei', hj', ej', b⟩
  · exact ⟨a2.trans b2.symm, a3.trans b3.symm⟩
  · exact absurd ⟨⟨k', hk', ek'⟩, ⟨i', hi', ei'⟩, ⟨j', hj', ej'⟩⟩ a1
  · exact absurd ⟨⟨k, hk, ek⟩, ⟨i, hi, ei⟩, ⟨j, hj, ej⟩⟩ b1
  · have e_k := reg_uniq hk hk' ek ek'
    subst e_k
    have e_i := reg_uniq hi hi' ei ei'
    subst e_i
    have e_j := reg_uniq hj hj' ej ej'
    subst e_j
    rcases a with ⟨a1, a2, a3⟩ | ⟨p1, a⟩ <;> rcases b with ⟨b1, b2, b3⟩ | ⟨q1, b⟩
    · exact ⟨a2.trans b2.symm, a3.trans b3.symm⟩
    · exact absurd q1 a1
    · exact absurd p1 b1
    · exact fin1_det a b
theorem semBeside_det {x y z : Int32} (h1 : semBeside σ x y z cd σ1) (h2 : semBeside σ x y z cd' σ2) : cd = cd' ∧ σ1 = σ2 := by
  rcases h1 with ⟨a1, a2, a3⟩ | ⟨k, i, j, hk, ek, hi, ei, hj, ej, a⟩ <;> rcases h2 with ⟨b1, b2, b3⟩ | ⟨k', i', j', hk', ek', hi', ei', hj', ej', b⟩
  · exact ⟨a2.trans b2.symm, a3.trans b3.symm⟩
  · exact absurd ⟨⟨k', hk', ek'⟩, ⟨i', hi', ei'⟩, ⟨j', hj', ej'⟩⟩ a1
  · exact absurd ⟨⟨k, hk, ek⟩, ⟨i, hi, ei⟩, ⟨j, hj, ej⟩⟩ b1
  · have e_k := reg_uniq hk hk' ek ek'
    subst e_k
    have e_i := reg_uniq hi hi' ei ei'
    subst e_i
    have e_j := reg_uniq hj hj' ej ej'
    subst e_j
    rcases a with ⟨a1, a2, a3⟩ | ⟨p1, a⟩ <;> rcases b with ⟨b1, b2, b3⟩ | ⟨q1, b⟩
    · exact ⟨a2.trans b2.symm, a3.trans b3.symm⟩
    · exact absurd q1 a1
    · exact absurd p1 b1
    · exact fin1_det a b
theorem semDet_det {x y : Int32} (h1 : semDet σ x y cd σ1) (h2 : semDet σ x y cd' σ2) : cd = cd' ∧ σ1 = σ2 := by
  rcases h1 with ⟨a1, a2, a3⟩ | ⟨k, i, hk, ek, hi, ei, a⟩ <;> rcases h2 with ⟨b1, b2, b3⟩ | ⟨k', i', hk', ek', hi', ei', b⟩
  · exact ⟨a2.trans b2.symm, a3.trans b3.symm⟩
  · exact absurd ⟨⟨k', hk', ek'⟩, ⟨i', hi', ei'⟩⟩ a1
  · exact absurd ⟨⟨k, hk, ek⟩, ⟨i, hi, ei⟩⟩ b1
  · have e_k := reg_uniq hk hk' ek ek'
    subst e_k
    have e_i := reg_uniq hi hi' ei ei'
    subst e_i
    rcases a with ⟨a1, a2, a3⟩ | ⟨p1, a⟩ <;> rcases b with ⟨b1, b2, b3⟩ | ⟨q1, b⟩
    · exact ⟨a2.trans b2.symm, a3.trans b3.symm⟩
    · exact absurd q1 a1
    · exact absurd p1 b1
    · rcases a with ⟨a1, a2, a3⟩ | ⟨p1, a⟩ <;> rcases b with ⟨b1, b2, b3⟩ | ⟨q1, b⟩
      · exact ⟨a2.trans b2.symm, a3.trans b3.symm⟩
      · exact absurd a1 q1
      · exact absurd b1 p1
      · exact fin1_det a b
theorem semEch_det {x y : Int32} (hL : LG σ) (h1 : semEch σ x y cd v σ1) (h2 : semEch σ x y cd' v' σ2) : cd = cd' ∧ v = v' ∧ σ1 = σ2 := by
  rcases h1 with ⟨a1, a2, a3, a4⟩ | ⟨k, i, hk, ek, hi, ei, a⟩ <;> rcases h2 with ⟨b1, b2, b3, b4⟩ | ⟨k', i', hk', ek', hi', ei', b⟩
  · exact ⟨a2.trans b2.symm, a3.trans b3.symm, a4.trans b4.symm⟩
  · exact absurd ⟨⟨k', hk', ek'⟩, ⟨i', hi', ei'⟩⟩ a1
  · exact absurd ⟨⟨k, hk, ek⟩, ⟨i, hi, ei⟩⟩ b1
  · have e_k := reg_uniq hk hk' ek ek'
    subst e_k
    have e_i := reg_uniq hi hi' ei ei'
    subst e_i
    have l2 := (hL i hi).2.1
    rcases a with ⟨a1, a2, a3, a4⟩ | ⟨p1, a⟩ <;> rcases b with ⟨b1, b2, b3, b4⟩ | ⟨q1, b⟩
    · exact ⟨a2.trans b2.symm, a3.trans b3.symm, a4.trans b4.symm⟩
    · exact absurd a1 q1
    · exact absurd b1 p1
    · obtain ⟨E, rk, p, r1, r2, r3, r4, a⟩ := a
      obtain ⟨E', rk', p', s1, s2, s3, s4, b⟩ := b
      obtain ⟨e1, e2, e3⟩ := rref_unique r1 s1 (rowsIn_trans r2 s3) (rowsIn_trans s2 r3)
      subst e1
      rw [mcut_eq (E := E') (E' := E) l2 (fun i hi j hj => (e3 i hi j hj).symm)] at b
      exact fin2_det a b
theorem semKer_det {x y : Int32} (hL : LG σ) (h1 : semKer σ x y cd v σ1) (h2 : semKer σ x y cd' v' σ2) : cd = cd' ∧ v = v' ∧ σ1 = σ2 := by
  rcases h1 with ⟨a1, a2, a3, a4⟩ | ⟨k, i, hk, ek, hi, ei, a⟩ <;> rcases h2 with ⟨b1, b2, b3, b4⟩ | ⟨k', i', hk', ek', hi', ei', b⟩
  · exact ⟨a2.trans b2.symm, a3.trans b3.symm, a4.trans b4.symm⟩
  · exact absurd ⟨⟨k', hk', ek'⟩, ⟨i', hi', ei'⟩⟩ a1
  · exact absurd ⟨⟨k, hk, ek⟩, ⟨i, hi, ei⟩⟩ b1
  · have e_k := reg_uniq hk hk' ek ek'
    subst e_k
    have e_i := reg_uniq hi hi' ei ei'
    subst e_i
    have l2 := (hL i hi).2.1
    rcases a with ⟨a1, a2, a3, a4⟩ | ⟨p1, a⟩ <;> rcases b with ⟨b1, b2, b3, b4⟩ | ⟨q1, b⟩
    · exact ⟨a2.trans b2.symm, a3.trans b3.symm, a4.trans b4.symm⟩
    · exact absurd a1 q1
    · exact absurd b1 p1
    · rcases a with ⟨a1, a2, a3, a4⟩ | ⟨K, f, p, f1, f2, r, a⟩ <;> rcases b with ⟨b1, b2, b3, b4⟩ | ⟨K', f', p', f1', f2', s, b⟩
      · exact ⟨a2.trans b2.symm, a3.trans b3.symm, a4.trans b4.symm⟩
      · exact absurd (a1 _ (s.2.1 0 f1') _ (s.1.1 0 f1')) (by rw [s.1.2.2.2.1 0 f1']; decide)
      · exact absurd (b1 _ (r.2.1 0 f1) _ (r.1.1 0 f1)) (by rw [r.1.2.2.2.1 0 f1]; decide)
      · obtain ⟨e1, e2, e3⟩ := rref_unique r.1 s.1 (fun i hi => s.2.2 _ (r.2.1 i hi)) (fun i hi => r.2.2 _ (s.2.1 i hi))
        subst e1
        rw [mcut_eq (E := K') (E' := K) l2 (fun i hi j hj => (e3 i hi j hj).symm)] at b
        exact fin2_det a b
/-- a solution that is 0 off the pivots -/
theorem piv_uniq {A B E X Y : qmat} {m n nb rk : Nat} {p : Nat → Nat} (hE : rref E n rk p) (h1 : rowsIn E rk A m n) (hX : solves A B X m n nb) (hY : solves A B Y m n nb) (oX : onPiv X n nb rk p) (oY : onPiv Y n nb rk p) : ∀ i, i < n → ∀ j, j < nb → X i j = Y i j := by
  intro i hi j hj
  by_cases c : ∃ k, k < rk ∧ p k = i
  · obtain ⟨k, hk, ek⟩ := c
    -- row k of E on X - Y
    obtain ⟨u, hu⟩ := h1 k hk
    have ex : ∀ Z : qmat, solves A B Z m n nb → qsum (fun l => E k l * Z l j) n = qsum (fun a => u a * B a j) m := fun Z hZ => by
      have e1 : qsum (fun l => E k l * Z l j) n = qsum (fun l => qsum (fun a => u a * (A a l * Z l j)) m) n := qsum_congr (fun l hl => by
        rw [hu l hl, qsum_mulr]
        exact qsum_congr (fun a _ => by grind))
      rw [e1, qsum_comm]
      exact qsum_congr (fun a ha => by
        rw [hZ a ha j hj, qsum_mul])
    have only : ∀ Z : qmat, onPiv Z n nb rk p → qsum (fun l => E k l * Z l j) n = Z i j := fun Z oZ => by
      rw [qsum_one (k := i) hi (fun l hl hne => ?_)]
      · rw [← ek, hE.2.2.2.1 k hk]; grind
      · by_cases c2 : ∃ k', k' < rk ∧ p k' = l
        · obtain ⟨k', hk', el⟩ := c2
          have hkk : k' ≠ k := fun e => hne (by rw [← el, e, ek])
          rw [← el, hE.2.2.2.2 k k' hk hk' (fun e => hkk e.symm)]
          grind
        · rw [oZ l hl (fun k' hk' e => c2 ⟨k', hk', e⟩) j hj]
          grind
    rw [← only X oX, ← only Y oY, ex X hX, ex Y hY]
  · rw [oX i hi (fun k hk e => c ⟨k, hk, e⟩) j hj, oY i hi (fun k hk e => c ⟨k, hk, e⟩) j hj]
/-- the right inverse of a square matrix -/
theorem inv_uniq {A X Y : qmat} {n : Nat} (hX : solves A (fun a b => if a = b then (1 : Rat) else 0) X n n n) (hY : solves A (fun a b => if a = b then (1 : Rat) else 0) Y n n n) : ∀ i, i < n → ∀ j, j < n → X i j = Y i j := by
  intro c hc j hj
  cases n with
  | zero => omega
  | succ n =>
    refine Classical.byContradiction (fun hne => ?_)
    obtain ⟨z, hz⟩ : ∃ z : Nat → Rat, ∀ k, z k = X k j - Y k j := ⟨fun k => X k j - Y k j, fun _ => rfl⟩
    have hz0 : z c ≠ 0 := fun e => hne (by have := hz c; grind)
    have hk : ∀ i, i < n + 1 → qsum (fun k => A i k * z k) (n + 1) = 0 := fun i hi => by
      have e1 : qsum (fun k => A i k * z k) (n + 1) = qsum (fun k => A i k * X k j + (-1) * (A i k * Y k j)) (n + 1) := qsum_congr (fun k _ => by rw [hz k]; grind)
      rw [e1, qsum_add, ← qsum_mul, ← hX i hi j hj, ← hY i hi j hj]
      grind
    have hcol : ∀ a, a < n + 1 → A a c = qsum (fun l => (-(z (skp c l)) / z c) * A a (skp c l)) n := fun a ha => by
      have h1 := hk a ha
      rw [qsum_skp hc] at h1
      have e2 : qsum (fun l => (-(z (skp c l)) / z c) * A a (skp c l)) n = (-1 / z c) * qsum (fun l => A a (skp c l) * z (skp c l)) n := by
        rw [qsum_mul]
        exact qsum_congr (fun l _ => by grind)
      rw [e2]
      grind
    have hr : rowsIn (fun b a => if b = a then (1 : Rat) else 0) (n + 1) (fun l a => A a (skp c l)) n (n + 1) := fun b hb => by
      refine ⟨fun l => X (skp c l) b + X c b * (-(z (skp c l)) / z c), fun a ha => ?_⟩
      have h1 := hX a ha b hb
      rw [qsum_skp hc, hcol a ha] at h1
      have e3 : (if b = a then (1 : Rat) else 0) = if a = b then 1 else 0 := by
        by_cases g : a = b
        · rw [if_pos g, if_pos g.symm]
        · rw [if_neg g, if_neg (fun e => g e.symm)]
      show (if b = a then (1 : Rat) else 0) = _
      rw [e3]
      refine h1.trans ?_
      rw [qsum_mulr, ← qsum_add]
      exact qsum_congr (fun l _ => by grind)
    have := minor_le (k := n + 1) (x := fun i => i) (y := fun i => i) hr (fun i hi => hi) (fun i hi => hi) (by
      rw [det_tri (fun i _ j hji => if_neg (by omega))]
      exact qprod_ne (fun i _ => by rw [if_pos rfl]; decide))
    omega
theorem semSolve_det {x y z : Int32} (hL : LG σ) (h1 : semSolve σ x y z cd v σ1) (h2 : semSolve σ x y z cd' v' σ2) : cd = cd' ∧ v = v' ∧ σ1 = σ2 := by
  rcases h1 with ⟨a1, a2, a3, a4⟩ | ⟨k, i, j, hk, ek, hi, ei, hj, ej, a⟩ <;> rcases h2 with ⟨b1, b2, b3, b4⟩ | ⟨k', i', j', hk', ek', hi', ei', hj', ej', b⟩
  · exact ⟨a2.trans b2.symm, a3.trans b3.symm, a4.trans b4.symm⟩
  · exact absurd ⟨⟨k', hk', ek'⟩, ⟨i', hi', ei'⟩, ⟨j', hj', ej'⟩⟩ a1
  · exact absurd ⟨⟨k, hk, ek⟩, ⟨i, hi, ei⟩, ⟨j, hj, ej⟩⟩ b1
  · have e_k := reg_uniq hk hk' ek ek'
    subst e_k
    have e_i := reg_uniq hi hi' ei ei'
    subst e_i
    have e_j := reg_uniq hj hj' ej ej'
    subst e_j
    have l2 := (hL j hj).2.1
    rcases a with ⟨a1, a2, a3, a4⟩ | ⟨p1, a⟩ <;> rcases b with ⟨b1, b2, b3, b4⟩ | ⟨q1, b⟩
    · exact ⟨a2.trans b2.symm, a3.trans b3.symm, a4.trans b4.symm⟩
    · exact absurd q1 a1
    · exact absurd p1 b1
    · rcases a with ⟨a1, a2, a3, a4⟩ | ⟨p1, a⟩ <;> rcases b with ⟨b1, b2, b3, b4⟩ | ⟨q1, b⟩
      · exact ⟨a2.trans b2.symm, a3.trans b3.symm, a4.trans b4.symm⟩
      · exact absurd a1 q1
      · exact absurd b1 p1
      · rcases a with ⟨a1, a2, a3, a4⟩ | ⟨E, rk, p, X, r1, r2, r3, r4, r5, a⟩ <;> rcases b with ⟨b1, b2, b3, b4⟩ | ⟨E', rk', p', X', s1, s2, s3, s4, s5, b⟩
        · exact ⟨a2.trans b2.symm, a3.trans b3.symm, a4.trans b4.symm⟩
        · exact absurd s4 (a1 _)
        · exact absurd r4 (b1 _)
        · obtain ⟨e1, e2, e3⟩ := rref_unique r1 s1 (rowsIn_trans r2 s3) (rowsIn_trans s2 r3)
          subst e1
          rw [mcut_eq (E := X') (E' := X) l2 (piv_uniq r1 r2 s4 r4 (fun i' h1' h2' => s5 i' h1' (fun k' hk' e => h2' k' hk' ((e2 k' hk').trans e))) r5)] at b
          exact fin2_det a b
theorem semInv_det {x y : Int32} (hL : LG σ) (h1 : semInv σ x y cd v σ1) (h2 : semInv σ x y cd' v' σ2) : cd = cd' ∧ v = v' ∧ σ1 = σ2 := by
  rcases h1 with ⟨a1, a2, a3, a4⟩ | ⟨k, i, hk, ek, hi, ei, a⟩ <;> rcases h2 with ⟨b1, b2, b3, b4⟩ | ⟨k', i', hk', ek', hi', ei', b⟩
  · exact ⟨a2.trans b2.symm, a3.trans b3.symm, a4.trans b4.symm⟩
  · exact absurd ⟨⟨k', hk', ek'⟩, ⟨i', hi', ei'⟩⟩ a1
  · exact absurd ⟨⟨k, hk, ek⟩, ⟨i, hi, ei⟩⟩ b1
  · have e_k := reg_uniq hk hk' ek ek'
    subst e_k
    have e_i := reg_uniq hi hi' ei ei'
    subst e_i
    have l2 := (hL i hi).1
    rcases a with ⟨a1, a2, a3, a4⟩ | ⟨p1, a⟩ <;> rcases b with ⟨b1, b2, b3, b4⟩ | ⟨q1, b⟩
    · exact ⟨a2.trans b2.symm, a3.trans b3.symm, a4.trans b4.symm⟩
    · exact absurd q1 a1
    · exact absurd p1 b1
    · rcases a with ⟨a1, a2, a3, a4⟩ | ⟨p1, a⟩ <;> rcases b with ⟨b1, b2, b3, b4⟩ | ⟨q1, b⟩
      · exact ⟨a2.trans b2.symm, a3.trans b3.symm, a4.trans b4.symm⟩
      · exact absurd a1 q1
      · exact absurd b1 p1
      · rcases a with ⟨a1, a2, a3, a4⟩ | ⟨X, r4, a⟩ <;> rcases b with ⟨b1, b2, b3, b4⟩ | ⟨X', s4, b⟩
        · exact ⟨a2.trans b2.symm, a3.trans b3.symm, a4.trans b4.symm⟩
        · exact absurd s4 (a1 _)
        · exact absurd r4 (b1 _)
        · rw [mcut_eq (E := X') (E' := X) l2 (inv_uniq s4 r4)] at b
          exact fin2_det a b
theorem semHerm_det {x y : Int32} (hL : LG σ) (h1 : semHerm σ x y cd v σ1) (h2 : semHerm σ x y cd' v' σ2) : cd = cd' ∧ v = v' ∧ σ1 = σ2 := by
  rcases h1 with ⟨a1, a2, a3, a4⟩ | ⟨k, i, hk, ek, hi, ei, a⟩ <;> rcases h2 with ⟨b1, b2, b3, b4⟩ | ⟨k', i', hk', ek', hi', ei', b⟩
  · exact ⟨a2.trans b2.symm, a3.trans b3.symm, a4.trans b4.symm⟩
  · exact absurd ⟨⟨k', hk', ek'⟩, ⟨i', hi', ei'⟩⟩ a1
  · exact absurd ⟨⟨k, hk, ek⟩, ⟨i, hi, ei⟩⟩ b1
  · have e_k := reg_uniq hk hk' ek ek'
    subst e_k
    have e_i := reg_uniq hi hi' ei ei'
    subst e_i
    have l2 := (hL i hi).2.1
    rcases a with ⟨a1, a2, a3, a4⟩ | ⟨p1, a⟩ <;> rcases b with ⟨b1, b2, b3, b4⟩ | ⟨q1, b⟩
    · exact ⟨a2.trans b2.symm, a3.trans b3.symm, a4.trans b4.symm⟩
    · exact absurd q1 a1
    · exact absurd p1 b1
    · rcases a with ⟨a1, a2, a3, a4⟩ | ⟨p1, a⟩ <;> rcases b with ⟨b1, b2, b3, b4⟩ | ⟨q1, b⟩
      · exact ⟨a2.trans b2.symm, a3.trans b3.symm, a4.trans b4.symm⟩
      · exact absurd a1 q1
      · exact absurd b1 p1
      · obtain ⟨Bz, H, rk, p, r0, r1, r2, r3, r4, a⟩ := a
        obtain ⟨Bz', H', rk', p', s0, s1, s2, s3, s4, b⟩ := b
        have eB : ∀ a b, a < σ.1 i → b < σ.2.1 i → Bz a b = Bz' a b := fun a b ha hb => Rat.intCast_inj.mp ((r0 a b ha hb).symm.trans (s0 a b ha hb))
        have t1 : rowsZ Bz (σ.1 i) Bz' (σ.1 i) (σ.2.1 i) := rowsZ_same (fun a ha b hb => eB a b ha hb)
        have t2 : rowsZ Bz' (σ.1 i) Bz (σ.1 i) (σ.2.1 i) := rowsZ_same (fun a ha b hb => (eB a b ha hb).symm)
        obtain ⟨e1, e2, e3⟩ := herm_unique r1 s1 (rowsZ_trans r2 (rowsZ_trans t1 s3)) (rowsZ_trans s2 (rowsZ_trans t2 r3))
        subst e1
        rw [zcut_eq (E := H') (E' := H) l2 (fun i hi j hj => (e3 i hi j hj).symm)] at b
        exact fin2_det a b
theorem semSmith_det {x y : Int32} (hL : LG σ) (h1 : semSmith σ x y cd v σ1) (h2 : semSmith σ x y cd' v' σ2) : cd = cd' ∧ v = v' ∧ σ1 = σ2 := by
  rcases h1 with ⟨a1, a2, a3, a4⟩ | ⟨k, i, hk, ek, hi, ei, a⟩ <;> rcases h2 with ⟨b1, b2, b3, b4⟩ | ⟨k', i', hk', ek', hi', ei', b⟩
  · exact ⟨a2.trans b2.symm, a3.trans b3.symm, a4.trans b4.symm⟩
  · exact absurd ⟨⟨k', hk', ek'⟩, ⟨i', hi', ei'⟩⟩ a1
  · exact absurd ⟨⟨k, hk, ek⟩, ⟨i, hi, ei⟩⟩ b1
  · have e_k := reg_uniq hk hk' ek ek'
    subst e_k
    have e_i := reg_uniq hi hi' ei ei'
    subst e_i
    have l2 := (hL i hi).2.1
    rcases a with ⟨a1, a2, a3, a4⟩ | ⟨p1, a⟩ <;> rcases b with ⟨b1, b2, b3, b4⟩ | ⟨q1, b⟩
    · exact ⟨a2.trans b2.symm, a3.trans b3.symm, a4.trans b4.symm⟩
    · exact absurd q1 a1
    · exact absurd p1 b1
    · rcases a with ⟨a1, a2, a3, a4⟩ | ⟨p1, a⟩ <;> rcases b with ⟨b1, b2, b3, b4⟩ | ⟨q1, b⟩
      · exact ⟨a2.trans b2.symm, a3.trans b3.symm, a4.trans b4.symm⟩
      · exact absurd a1 q1
      · exact absurd b1 p1
      · obtain ⟨Bz, s, rk, r0, r1, r2, r3, r4, r5, a⟩ := a
        obtain ⟨Bz', s', rk', s0, s1, s2, s3, s4, s5, b⟩ := b
        have eB : ∀ a b, a < σ.1 i → b < σ.2.1 i → Bz a b = Bz' a b := fun a b ha hb => Rat.intCast_inj.mp ((r0 a b ha hb).symm.trans (s0 a b ha hb))
        have s3' : eqvZ (fun a b => if a = b then s' a else 0) Bz (σ.1 i) (σ.2.1 i) := ⟨madeZ_congr s3.1 (fun _ _ _ _ => rfl) (fun a ha b hb => (eB a b ha hb).symm), madeZ_congr s3.2 (fun a ha b hb => eB a b ha hb) (fun _ _ _ _ => rfl)⟩
        have es := smith_same r1 s1 r2 s2 r3 s3'
        have er : rk = rk' := by
          rcases Nat.lt_trichotomy rk rk' with c | c | c
          · have h1 := (r4 rk (by omega)).mpr (Nat.le_refl _)
            rw [es rk (by omega) (by omega)] at h1
            have := (s4 rk (by omega)).mp h1
            omega
          · exact c
          · have h1 := (s4 rk' (by omega)).mpr (Nat.le_refl _)
            rw [← es rk' (by omega) (by omega)] at h1
            have := (r4 rk' (by omega)).mp h1
            omega
        subst er
        have eq : (fun t => if t / σ.2.1 i = t % σ.2.1 i ∧ t / σ.2.1 i < σ.1 i then (s' (t / σ.2.1 i) : Rat) else 0) = (fun t => if t / σ.2.1 i = t % σ.2.1 i ∧ t / σ.2.1 i < σ.1 i then (s (t / σ.2.1 i) : Rat) else 0) := by
          funext t
          by_cases c : t / σ.2.1 i = t % σ.2.1 i ∧ t / σ.2.1 i < σ.1 i
          · rw [if_pos c, if_pos c, es _ c.2 (by rw [c.1]; exact Nat.mod_lt t l2)]
          · rw [if_neg c, if_neg c]
        rw [eq] at b
        exact fin2_det a b
theorem semPart_det {x y i k j l : Int32} (hL : LG σ) (h1 : semPart σ x y i k j l cd σ1) (h2 : semPart σ x y i k j l cd' σ2) : cd = cd' ∧ σ1 = σ2 := by
  rcases h1 with ⟨a1, a2, a3⟩ | ⟨n, a, i1, k1, j1, l1, hn, en, ha, ea, hi, ei, hk, ek, hj, ej, hl, el, A⟩ <;> rcases h2 with ⟨b1, b2, b3⟩ | ⟨n', a', i1', k1', j1', l1', hn', en', ha', ea', hi', ei', hk', ek', hj', ej', hl', el', B⟩
  · exact ⟨a2.trans b2.symm, a3.trans b3.symm⟩
  · exact absurd ⟨⟨n', hn', en'⟩, ⟨a', i1', j1', ha', ea', hi', ei', hj', ej'⟩, ⟨a', k1', l1', ha', ea', hk', ek', hl', el'⟩⟩ a1
  · exact absurd ⟨⟨n, hn, en⟩, ⟨a, i1, j1, ha, ea, hi, ei, hj, ej⟩, ⟨a, k1, l1, ha, ea, hk, ek, hl, el⟩⟩ b1
  · have e0 := reg_uniq hn hn' en en'
    obtain ⟨e1, e2, e3⟩ := cel_uniq hL ha ea hi ei hj ej ha' ea' hi' ei' hj' ej'
    obtain ⟨-, e4, e5⟩ := cel_uniq hL ha ea hk ek hl el ha' ea' hk' ek' hl' el'
    subst e0 e1 e2 e3 e4 e5
    rcases A with ⟨a1, a2, a3⟩ | ⟨p1, p2, A⟩ <;> rcases B with ⟨b1, b2, b3⟩ | ⟨q1, q2, B⟩
    · exact ⟨a2.trans b2.symm, a3.trans b3.symm⟩
    · exact absurd ⟨q1, q2⟩ a1
    · exact absurd ⟨p1, p2⟩ b1
    · exact fin1_det A B
theorem semSize_det {x b0 : Int32} (h1 : semSize σ x b0 cd v) (h2 : semSize σ x b0 cd' v') : cd = cd' ∧ v = v' := by
  rcases h1 with ⟨a1, a2, a3⟩ | ⟨k, hk, ek, a2, a3⟩ <;> rcases h2 with ⟨b1, b2, b3⟩ | ⟨k', hk', ek', b2, b3⟩
  · exact ⟨a2.trans b2.symm, a3.trans b3.symm⟩
  · exact absurd ⟨k', hk', ek'⟩ a1
  · exact absurd ⟨k, hk, ek⟩ b1
  · have e := reg_uniq hk hk' ek ek'
    subst e
    exact ⟨a2.trans b2.symm, a3.trans b3.symm⟩
theorem semSame_det {x y : Int32} (h1 : semSame σ x y cd v) (h2 : semSame σ x y cd' v') : cd = cd' ∧ v = v' := by
  rcases h1 with ⟨a1, a2, a3⟩ | ⟨k, i, hk, ek, hi, ei, a2, a3, a4⟩ <;> rcases h2 with ⟨b1, b2, b3⟩ | ⟨k', i', hk', ek', hi', ei', b2, b3, b4⟩
  · exact ⟨a2.trans b2.symm, a3.trans b3.symm⟩
  · exact absurd ⟨⟨k', hk', ek'⟩, i', hi', ei'⟩ a1
  · exact absurd ⟨⟨k, hk, ek⟩, i, hi, ei⟩ b1
  · have e := reg_uniq hk hk' ek ek'
    have e' := reg_uniq hi hi' ei ei'
    subst e e'
    refine ⟨a2.trans b2.symm, ?_⟩
    have := a4.trans b4.symm
    omega
theorem semSign_det {x y z : Int32} {v v' : Int32} (hL : LG σ) (h1 : semSign σ x y z cd v) (h2 : semSign σ x y z cd' v') : cd = cd' ∧ v = v' := by
  rcases h1 with ⟨a1, a2, a3⟩ | ⟨k, i, j, hk, ek, hi, ei, hj, ej, a2, a3⟩ <;> rcases h2 with ⟨b1, b2, b3⟩ | ⟨k', i', j', hk', ek', hi', ei', hj', ej', b2, b3⟩
  · exact ⟨a2.trans b2.symm, a3.trans b3.symm⟩
  · exact absurd ⟨k', i', j', hk', ek', hi', ei', hj', ej'⟩ a1
  · exact absurd ⟨k, i, j, hk, ek, hi, ei, hj, ej⟩ b1
  · obtain ⟨e1, e2, e3⟩ := cel_uniq hL hk ek hi ei hj ej hk' ek' hi' ei' hj' ej'
    subst e1 e2 e3
    exact ⟨a2.trans b2.symm, a3.trans b3.symm⟩
theorem semLen_det {x y z b0 : Int32} (hL : LG σ) (h1 : semLen σ x y z b0 cd v) (h2 : semLen σ x y z b0 cd' v') : cd = cd' ∧ v = v' := by
  rcases h1 with ⟨a1, a2, a3⟩ | ⟨k, i, j, hk, ek, hi, ei, hj, ej, a2, a3⟩ <;> rcases h2 with ⟨b1, b2, b3⟩ | ⟨k', i', j', hk', ek', hi', ei', hj', ej', b2, b3⟩
  · exact ⟨a2.trans b2.symm, a3.trans b3.symm⟩
  · exact absurd ⟨k', i', j', hk', ek', hi', ei', hj', ej'⟩ a1
  · exact absurd ⟨k, i, j, hk, ek, hi, ei, hj, ej⟩ b1
  · obtain ⟨e1, e2, e3⟩ := cel_uniq hL hk ek hi ei hj ej hk' ek' hi' ei' hj' ej'
    subst e1 e2 e3
    exact ⟨a2.trans b2.symm, a3.trans b3.symm⟩
theorem semLimb_det {x y z b0 l : Int32} {v v' : Int32} (hL : LG σ) (h1 : semLimb σ x y z b0 l cd v) (h2 : semLimb σ x y z b0 l cd' v') : cd = cd' ∧ v = v' := by
  rcases h1 with ⟨a1, a2, a3⟩ | ⟨k, i, j, n, hk, ek, hi, ei, hj, ej, hn, en, a2, a3⟩ <;> rcases h2 with ⟨b1, b2, b3⟩ | ⟨k', i', j', n', hk', ek', hi', ei', hj', ej', hn', en', b2, b3⟩
  · exact ⟨a2.trans b2.symm, a3.trans b3.symm⟩
  · exact absurd ⟨⟨k', i', j', hk', ek', hi', ei', hj', ej'⟩, by rw [en']; exact nI_nneg hn'⟩ a1
  · exact absurd ⟨⟨k, i, j, hk, ek, hi, ei, hj, ej⟩, by rw [en]; exact nI_nneg hn⟩ b1
  · obtain ⟨e1, e2, e3⟩ := cel_uniq hL hk ek hi ei hj ej hk' ek' hi' ei' hj' ej'
    have e4 := nI_inj hn hn' (en.symm.trans en')
    subst e1 e2 e3 e4
    exact ⟨a2.trans b2.symm, a3.trans b3.symm⟩
end DET
