def mOkH (H : Nat → Int32) (J T : Nat) : Prop := (∃ x, x < 6 ∧ H (J + 4) = nI x) ∧ (∃ y, y < T ∧ H (J + 5) = nI y) ∧ ∃ d, 0 < d ∧ d < 100 ∧ H (J + 6) = nI d
def mOkT (A H : Nat → Int32) (t T : Nat) : Prop := ∃ m, m ≤ 8 ∧ A (7 * t + 3) = nI m ∧ (∃ p, p ≤ 9 ∧ A (7 * t + 2) = nI p) ∧ (∃ g, g ≤ 9 ∧ A (7 * t + 1) = nI g) ∧ A (7 * t + 2) ≤ A (7 * t + 1) ∧ ∀ j, j < m → mOkH H (9 * (8 * t + j)) T
def mOkR (R : Nat → Int32) (K T : Nat) : Prop := (∃ t, t < T ∧ R (K + 1) = nI t) ∧ ∃ p, p ≤ 8 ∧ R (K + 4) = nI p ∧ ∀ i, i ≤ p → ∃ w, w < 16 ∧ R (K + 5 + i) = nI w
def mOkN (S : Nat → Int32) (n : Nat) : Prop := (∃ x, x < 88 ∧ S (15 * n + 2) = nI x) ∧ ∃ p, p ≤ 8 ∧ S (15 * n + 4) = nI p ∧ ∀ i, i ≤ p → ∃ w, w < 16 ∧ S (15 * n + 6 + i) = nI w
/-- a courtyard as the reference keeps it -/
def mOk (u : MS) (T W z : Nat) : Prop := u.1 3 = nI T ∧ T ≤ 16 ∧ u.1 6 = nI W ∧ W ≤ 60 ∧ u.1 12 = nI z ∧ z ≤ 200 ∧ (∃ q, 5 ≤ q ∧ q ≤ 500 ∧ u.1 2 = nI q) ∧ (∀ t, t < T → mOkT (u.2 0) (u.2 1) t T) ∧ (∀ k, k < W → mOkR (u.2 2) (14 * k) T) ∧ ∀ n, n < z → mOkN (u.2 3) n
theorem mOk.W {u : MS} {T W z : Nat} (o : mOk u T W z) : mW u T := ⟨o.1, o.2.1, fun t ht => by obtain ⟨m, h1, h2, -⟩ := o.2.2.2.2.2.2.2.1 t ht; exact ⟨m, h1, h2⟩⟩
theorem mOk.hour {u : MS} {T W z : Nat} (o : mOk u T W z) : ¬ u.1 2 = 0 := by
  obtain ⟨q, h1, h2, h3⟩ := o.2.2.2.2.2.2.1
  rw [h3]
  exact fun e => absurd ((nI_eq (a := q) (b := 0) (by omega) (by omega)).mp e) (by omega)
theorem mOkR.cg {R R' : Nat → Int32} {K K' T : Nat} (h : ∀ i, i < 14 → R' (K' + i) = R (K + i)) (o : mOkR R K T) : mOkR R' K' T := by
  obtain ⟨⟨t, h1, h2⟩, p, h3, h4, h5⟩ := o
  refine ⟨⟨t, h1, (h 1 (by omega)).trans h2⟩, p, h3, (h 4 (by omega)).trans h4, fun i hi => ?_⟩
  obtain ⟨w, h6, h7⟩ := h5 i hi
  exact ⟨w, h6, by rw [Nat.add_assoc, h (5 + i) (by omega), ← Nat.add_assoc]; exact h7⟩
theorem mOkN.cg {S S' : Nat → Int32} {n : Nat} (h : ∀ i, i < 15 → S' (15 * n + i) = S (15 * n + i)) (o : mOkN S n) : mOkN S' n := by
  obtain ⟨⟨x, h1, h2⟩, p, h3, h4, h5⟩ := o
  refine ⟨⟨x, h1, (h 2 (by omega)).trans h2⟩, p, h3, (h 4 (by omega)).trans h4, fun i hi => ?_⟩
  obtain ⟨w, h6, h7⟩ := h5 i hi
  exact ⟨w, h6, by rw [Nat.add_assoc, h (6 + i) (by omega), ← Nat.add_assoc]; exact h7⟩
theorem mOkH.cg {H H' : Nat → Int32} {J J' T : Nat} (h4 : H' (J' + 4) = H (J + 4)) (h5 : H' (J' + 5) = H (J + 5)) (h6 : H' (J' + 6) = H (J + 6)) (o : mOkH H J T) : mOkH H' J' T := by
  obtain ⟨⟨x, a1, a2⟩, ⟨y, b1, b2⟩, d, c1, c2, c3⟩ := o
  exact ⟨⟨x, a1, h4.trans a2⟩, ⟨y, b1, h5.trans b2⟩, d, c1, c2, h6.trans c3⟩
theorem mOkH.more {H : Nat → Int32} {J T T' : Nat} (h : T ≤ T') (o : mOkH H J T) : mOkH H J T' := by
  obtain ⟨a, ⟨y, b1, b2⟩, c⟩ := o
  exact ⟨a, ⟨y, Nat.lt_of_lt_of_le b1 h, b2⟩, c⟩
theorem mOkR.more {R : Nat → Int32} {K T T' : Nat} (h : T ≤ T') (o : mOkR R K T) : mOkR R K T' := by
  obtain ⟨⟨y, b1, b2⟩, c⟩ := o
  exact ⟨⟨y, Nat.lt_of_lt_of_le b1 h, b2⟩, c⟩
theorem mOkT.cg {A A' H H' : Nat → Int32} {t T : Nat} (h1 : A' (7 * t + 1) = A (7 * t + 1)) (h2 : A' (7 * t + 2) = A (7 * t + 2)) (h3 : A' (7 * t + 3) = A (7 * t + 3)) (hH : ∀ j, j < 8 → mOkH H (9 * (8 * t + j)) T → mOkH H' (9 * (8 * t + j)) T) (o : mOkT A H t T) : mOkT A' H' t T := by
  obtain ⟨m, a1, a2, ⟨p, b1, b2⟩, ⟨g, c1, c2⟩, le, d⟩ := o
  exact ⟨m, a1, h3.trans a2, ⟨p, b1, h2.trans b2⟩, ⟨g, c1, h1.trans c2⟩, by rw [h1, h2]; exact le, fun j hj => hH j (by omega) (d j hj)⟩
/-- of the table only what is not looked at has changed -/
theorem mOk.tab {u v : MS} {T W z : Nat} (o : mOk u T W z) (h3 : v.1 3 = u.1 3) (h6 : v.1 6 = u.1 6) (h12 : v.1 12 = u.1 12) (h2 : v.1 2 = u.1 2) (hA : ∀ t, t < T → mOkT (u.2 0) (u.2 1) t T → mOkT (v.2 0) (v.2 1) t T) (hR : v.2 2 = u.2 2) (hS : v.2 3 = u.2 3) : mOk v T W z := by
  obtain ⟨a1, a2, a3, a4, a5, a6, ⟨q, q1, q2, q3⟩, a8, a9, a10⟩ := o
  exact ⟨h3.trans a1, a2, h6.trans a3, a4, h12.trans a5, a6, ⟨q, q1, q2, h2.trans q3⟩, fun t ht => hA t ht (a8 t ht), fun k hk => by rw [hR]; exact a9 k hk, fun n hn => by rw [hS]; exact a10 n hn⟩
/-- how many of the rings that wait are due -/
def mDue (R : Nat → Int32) (c : Int32) : Nat → Nat
  | 0 => 0
  | W + 1 => mDue R c W + if R (14 * W) = c then 1 else 0
theorem mDue_le {R : Nat → Int32} {c : Int32} : ∀ W, mDue R c W ≤ W
  | 0 => Nat.le_refl 0
  | W + 1 => by
    unfold mDue
    have := mDue_le (R := R) (c := c) W
    split <;> omega
theorem mDue_cg {R R' : Nat → Int32} {c : Int32} : ∀ W, (∀ k, k < W → R' (14 * k) = R (14 * k)) → mDue R' c W = mDue R c W
  | 0, _ => rfl
  | W + 1, h => by
    unfold mDue
    rw [mDue_cg W (fun k hk => h k (by omega)), h W (by omega)]
theorem mDue_ins {R R' : Nat → Int32} {c : Int32} {K : Nat} : ∀ W, K ≤ W → (∀ k, k < K → R' (14 * k) = R (14 * k)) → R' (14 * K) ≠ c → (∀ k, K ≤ k → k < W → R' (14 * (k + 1)) = R (14 * k)) → mDue R' c (W + 1) = mDue R c W
  | 0, hK, h1, h2, _ => by
    have : K = 0 := by omega
    subst this
    unfold mDue mDue
    rw [if_neg h2]
  | W + 1, hK, h1, h2, h3 => by
    by_cases e : K = W + 1
    · subst e
      show mDue R' c (W + 1) + (if R' (14 * (W + 1)) = c then 1 else 0) = _
      rw [if_neg h2, mDue_cg (W + 1) h1]
      rfl
    · show mDue R' c (W + 1) + (if R' (14 * (W + 1)) = c then 1 else 0) = mDue R c W + (if R (14 * W) = c then 1 else 0)
      rw [mDue_ins W (by omega) h1 h2 (fun k a b => h3 k a (by omega)), h3 W (by omega) (by omega)]
theorem mDue_rem {R R' : Nat → Int32} {c : Int32} : ∀ W, (∀ k, k < W → R' (14 * k) = R (14 * (k + 1))) → mDue R c (W + 1) = mDue R' c W + if R 0 = c then 1 else 0
  | 0, _ => by
    show 0 + (if R (14 * 0) = c then 1 else 0) = 0 + _
    rfl
  | W + 1, h => by
    show mDue R c (W + 1) + (if R (14 * (W + 1)) = c then 1 else 0) = (mDue R' c W + (if R' (14 * W) = c then 1 else 0)) + _
    rw [mDue_rem W (fun k hk => h k (by omega)), h W (by omega)]
    omega
theorem gX88 (x : Int32) : 0 ≤ x ^^^ nI 88 ↔ 0 ≤ x := by
  have key : ∀ y : Int32, 0 ≤ y ↔ y.toBitVec.msb = false := fun y => by
    rw [Int32.le_iff_toInt_le, Int32.toInt_zero, BitVec.msb_eq_toInt]
    show 0 ≤ y.toBitVec.toInt ↔ _
    simp
  rw [key, key, Int32.toBitVec_xor, BitVec.msb_xor]
  rw [show (nI 88).toBitVec.msb = false by decide, Bool.xor_false]
theorem gFm_rem (a m : Int32) : (a - a / m * m).toInt = a.toInt.tmod m.toInt := by
  rw [irem_eq_mod]
  exact Int32.toInt_mod a m
theorem gFm88 (x : Int32) : ∃ y, y < 88 ∧ gFm x (nI 88) = nI y := by
  have e88 : (nI 88).toInt = 88 := by decide
  have hr := gFm_rem x (nI 88)
  rw [e88] at hr
  have b1 := Int.lt_tmod_of_pos x.toInt (b := 88) (by decide)
  have b2 := Int.tmod_lt_of_pos x.toInt (b := 88) (by decide)
  have mk : ∀ w : Int32, 0 ≤ w.toInt → w.toInt < 88 → ∃ y, y < 88 ∧ w = nI y := fun w h1 h2 => ⟨w.toInt.toNat, by omega, by
    refine Int32.toInt_inj.mp ?_
    rw [nI_toInt (by omega)]
    omega⟩
  unfold gFm
  by_cases c : 0 ≤ x ^^^ nI 88
  · rw [if_pos c]
    have c' := (gX88 x).mp c
    rw [Int32.le_iff_toInt_le, Int32.toInt_zero] at c'
    refine mk _ ?_ (by omega)
    rw [hr]
    exact Int.tmod_nonneg 88 c'
  · rw [if_neg c]
    by_cases c2 : x - x / nI 88 * nI 88 = 0
    · rw [if_pos c2]
      exact ⟨0, by omega, c2⟩
    · rw [if_neg c2]
      have c' : ¬ 0 ≤ x := fun z => c ((gX88 x).mpr z)
      rw [Int32.le_iff_toInt_le, Int32.toInt_zero] at c'
      have hneg : x.toInt.tmod 88 ≤ 0 := by
        have := Int.tmod_nonneg (a := -x.toInt) 88 (by omega)
        rw [Int.neg_tmod] at this
        omega
      have hne : x.toInt.tmod 88 ≠ 0 := fun z => c2 (Int32.toInt_inj.mp (by rw [hr, z]; rfl))
      have hs : (x - x / nI 88 * nI 88 + nI 88).toInt = x.toInt.tmod 88 + 88 := by
        rw [Int32.toInt_add, hr, e88]
        rw [Int.bmod_def]
        omega
      exact mk _ (by omega) (by omega)
theorem mSing_ok {u : MS} {T W z t : Nat} (l : Int32) (o : mOk u T W z) (hd : mOkR (u.2 4) 0 T) : ∃ z', z ≤ z' ∧ mOk (mSing u t l) T W z' := by
  obtain ⟨a1, a2, a3, a4, a5, a6, a7, a8, a9, a10⟩ := o
  have hA : ∀ t', t' < T → mOkT ((mSing0 u t).2 0) (u.2 1) t' T := fun t' ht' => mOkT.cg (pk_un (by omega)) (pk_un (by omega)) (pk_un (by omega)) (fun _ _ o => o) (a8 t' ht')
  unfold mSing
  by_cases c : u.1 12 = nI 200
  · rw [if_pos c]
    exact ⟨z, Nat.le_refl _, a1, a2, a3, a4, a5, a6, a7, hA, a9, a10⟩
  · rw [if_neg c, a5, mCl (by omega)]
    have hz : z ≠ 200 := fun e => c (by rw [a5, e])
    refine ⟨z + 1, by omega, a1, a2, a3, a4, rfl, by omega, a7, hA, a9, fun n hn => ?_⟩
    by_cases e : n = z
    · subst e
      obtain ⟨-, p, p1, p2, p3⟩ := hd
      refine ⟨?_, p, p1, ?_, fun i hi => ?_⟩
      · obtain ⟨x, x1, x2⟩ := gFm88 ((mSing0 u t).2 0 (7 * t + 0) + u.2 4 3)
        refine ⟨x, x1, ?_⟩
        show va_cpy _ (va_cpy _ _ 0 (15 * n) 6) 5 (15 * n + 6) 9 (15 * n + 2) = nI x
        rw [pk_cpy_out (by omega), pk_cpy_in (by omega) (by omega), show 0 + (15 * n + 2 - 15 * n) = 2 by omega]
        exact x2
      · show va_cpy _ (va_cpy _ _ 0 (15 * n) 6) 5 (15 * n + 6) 9 (15 * n + 4) = nI p
        rw [pk_cpy_out (by omega), pk_cpy_in (by omega) (by omega), show 0 + (15 * n + 4 - 15 * n) = 4 by omega]
        exact p2
      · obtain ⟨w, w1, w2⟩ := p3 i hi
        refine ⟨w, w1, ?_⟩
        show va_cpy _ (va_cpy _ _ 0 (15 * n) 6) 5 (15 * n + 6) 9 (15 * n + 6 + i) = nI w
        rw [pk_cpy_in (by omega) (by omega), show 5 + (15 * n + 6 + i - (15 * n + 6)) = 0 + 5 + i by omega]
        exact w2
    · refine mOkN.cg (fun i hi => ?_) (a10 n (by omega))
      show va_cpy _ (va_cpy _ _ 0 (15 * z) 6) 5 (15 * z + 6) 9 (15 * n + i) = _
      rw [pk_cpy_out (by omega), pk_cpy_out (by omega)]

