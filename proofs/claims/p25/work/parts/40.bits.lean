/-! sets of tenants as bits -/
abbrev bt (s : Int32) (i : Nat) : Bool := s.toBitVec.getLsbD i
theorem bt_or (s x : Int32) (i : Nat) : bt (s ||| x) i = (bt s i || bt x i) := by
  show (s ||| x).toBitVec.getLsbD i = _
  rw [Int32.toBitVec_or, BitVec.getLsbD_or]
theorem bt_and (s x : Int32) (i : Nat) : bt (s &&& x) i = (bt s i && bt x i) := by
  show (s &&& x).toBitVec.getLsbD i = _
  rw [Int32.toBitVec_and, BitVec.getLsbD_and]
theorem bt_0 (i : Nat) : bt 0 i = false := by
  show (0 : Int32).toBitVec.getLsbD i = false
  rw [Int32.toBitVec_zero]
  exact BitVec.getLsbD_zero
theorem bt_ext {s x : Int32} (h : ∀ i, i < 32 → bt s i = bt x i) : s = x := Int32.toBitVec_inj.mp (BitVec.eq_of_getLsbD_eq (fun i hi => h i hi))
theorem bt_bit {a i : Nat} (ha : a < 17) (hi : i < 32) : bt (mBit (nI a)) i = decide (i = a) := by
  have key : ∀ a : Fin 17, ∀ i : Fin 32, bt (mBit (nI a.val)) i.val = decide (i.val = a.val) := by
    unfold mBit
    decide +kernel
  exact key ⟨a, ha⟩ ⟨i, hi⟩
theorem bt_all {T i : Nat} (hT : T < 17) (hi : i < 32) : bt (mAll T) i = decide (i < T) := by
  have key : ∀ T : Fin 17, ∀ i : Fin 32, bt (mAll T.val) i.val = decide (i.val < T.val) := by
    unfold mAll mBit
    decide +kernel
  exact key ⟨T, hT⟩ ⟨i, hi⟩
/-- whom a set of tenants reaches at once lies among the tenants -/
theorem mRung_lt {H : Nat → Int32} {J T t i : Nat} (hT : T ≤ 16) (hok : mOkH H J T) (hi : i < 32) (h : bt (mRung H J T t) i = true) : i < T := by
  obtain ⟨-, ⟨y, hy, ey⟩, -⟩ := hok
  unfold mRung at h
  split at h
  · rw [ey, bt_bit (by omega) hi] at h
    have := of_decide_eq_true h
    omega
  · split at h
    · rw [bt_and, bt_all (by omega) hi, Bool.and_eq_true] at h
      exact of_decide_eq_true h.2
    · split at h
      · rw [bt_and, bt_all (by omega) hi, Bool.and_eq_true] at h
        exact of_decide_eq_true h.1
      · rw [bt_0] at h
        cases h
theorem mNx_lt {H : Nat → Int32} {T t i : Nat} (hT : T ≤ 16) (hi : i < 32) : ∀ m, (∀ j, j < m → mOkH H (9 * (8 * t + j)) T) → bt (mNx H T t m) i = true → i < T
  | 0, _, h => by
    have : bt (mNx H T t 0) i = false := bt_0 i
    rw [this] at h
    cases h
  | m + 1, ho, h => by
    rw [mNx, bt_or, Bool.or_eq_true] at h
    rcases h with h | h
    · exact mNx_lt hT hi m (fun j hj => ho j (by omega)) h
    · exact mRung_lt hT (ho m (by omega)) hi h
theorem mNext_lt {u : MS} {T W z t i : Nat} (o : mOk u T W z) (ht : t < T) (hi : i < 32) (h : bt (mNext u T t) i = true) : i < T := by
  obtain ⟨m, m1, m2, -, -, -, hok⟩ := o.2.2.2.2.2.2.2.1 t ht
  unfold mNext at h
  rw [mMany_of m1 m2] at h
  exact mNx_lt o.2.1 hi m hok h
theorem mIsIn_bt {s : Int32} {t : Nat} (ht : t < 16) : mIsIn s t ↔ bt s t = true := by
  have e : nI t &&& 31 = nI t := by
    have key : ∀ t : Fin 16, nI t.val &&& 31 = nI t.val := by decide +kernel
    exact key ⟨t, ht⟩
  unfold mIsIn
  rw [e, ← Int32.toBitVec_inj, Int32.toBitVec_and, show (nI 1).toBitVec = 1#32 by decide, BitVec.and_one_eq_setWidth_ofBool_getLsbD]
  have e2 : (s >>> nI t).toBitVec.getLsbD 0 = s.toBitVec.getLsbD t := by
    have e3 : (nI t).toBitVec.smod 32 = BitVec.ofNat 32 t := by
      have key : ∀ t : Fin 16, (nI t.val).toBitVec.smod 32 = BitVec.ofNat 32 t.val := by decide +kernel
      exact key ⟨t, ht⟩
    rw [Int32.toBitVec_shiftRight, e3, BitVec.sshiftRight_eq', BitVec.getLsbD_sshiftRight]
    rw [BitVec.toNat_ofNat, Nat.mod_eq_of_lt (show t < 2 ^ 32 by omega), Nat.add_zero]
    simp only [show ¬ (32 ≤ 0) by omega, decide_false, Bool.not_false, Bool.true_and, show t < 32 by omega, if_true]
  rw [e2]
  show _ ↔ s.toBitVec.getLsbD t = true
  cases s.toBitVec.getLsbD t <;> decide
/-- a bit of the union of those that the members of a set ring at -/
theorem mNo_bt {u : MS} {T : Nat} {s : Int32} (i : Nat) : ∀ n, n ≤ 16 → (bt (mNo u T s n) i = true ↔ ∃ t, t < n ∧ bt s t = true ∧ bt (mNext u T t) i = true)
  | 0, _ => by
    constructor
    · intro h
      have : bt (mNo u T s 0) i = false := bt_0 i
      rw [this] at h
      cases h
    · rintro ⟨t, h, -⟩
      exact absurd h (Nat.not_lt_zero t)
  | n + 1, hn => by
    have ih := mNo_bt (u := u) (T := T) (s := s) i n (by omega)
    rw [mNo]
    by_cases c : mIsIn s n
    · rw [if_pos c, bt_or, Bool.or_eq_true, ih]
      constructor
      · rintro (⟨t, h1, h2⟩ | h)
        · exact ⟨t, by omega, h2⟩
        · exact ⟨n, by omega, (mIsIn_bt (by omega)).mp c, h⟩
      · rintro ⟨t, h1, h2, h3⟩
        by_cases e : t = n
        · subst e
          exact Or.inr h3
        · exact Or.inl ⟨t, by omega, h2, h3⟩
    · rw [if_neg c, ih]
      constructor
      · rintro ⟨t, h1, h2⟩
        exact ⟨t, by omega, h2⟩
      · rintro ⟨t, h1, h2, h3⟩
        by_cases e : t = n
        · subst e
          exact absurd ((mIsIn_bt (by omega)).mpr h2) c
        · exact ⟨t, by omega, h2, h3⟩

