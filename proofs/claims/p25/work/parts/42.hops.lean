theorem mIs0 {s : Int32} {t : Nat} (ht : t < 16) : s >>> (nI t &&& 31) &&& nI 1 = 0 ↔ ¬ bt s t = true := by
  have h1 := mIsIn_bt (s := s) ht
  unfold mIsIn at h1
  rw [← h1]
  have hv : s >>> (nI t &&& 31) &&& nI 1 = 0 ∨ s >>> (nI t &&& 31) &&& nI 1 = nI 1 := by
    rw [← Int32.toBitVec_inj, ← Int32.toBitVec_inj, Int32.toBitVec_and, show (nI 1).toBitVec = 1#32 by decide, BitVec.and_one_eq_setWidth_ofBool_getLsbD]
    cases (s >>> (nI t &&& 31)).toBitVec.getLsbD 0 <;> decide
  rcases hv with e | e
  · rw [e]
    exact ⟨fun _ => by decide, fun _ => rfl⟩
  · rw [e]
    exact ⟨fun z9 => absurd z9 (by decide), fun z9 => absurd rfl z9⟩
/-- at whom a tenant rings in just so many hops -/
def mEx (u : MS) (T : Nat) (s : Int32) : Nat → Int32
  | 0 => s
  | k + 1 => mNo u T (mEx u T s k) T
theorem mEx_bt {u : MS} {T : Nat} (hT : T ≤ 16) (s : Int32) (i : Nat) : ∀ k, bt (mReachL u T s k) i = true ↔ ∃ j, j ≤ k ∧ bt (mEx u T s j) i = true := by
  intro k
  induction k generalizing i with
  | zero => exact ⟨fun h => ⟨0, Nat.le_refl 0, h⟩, fun ⟨j, hj, h⟩ => by
      have : j = 0 := by omega
      subst this
      exact h⟩
  | succ k ih =>
    rw [mReachL, bt_or, Bool.or_eq_true, ih i, mNo_bt i T hT]
    constructor
    · rintro (⟨j, h1, h2⟩ | ⟨t, h1, h2, h3⟩)
      · exact ⟨j, by omega, h2⟩
      · obtain ⟨j, h4, h5⟩ := (ih t).mp h2
        exact ⟨j + 1, by omega, (mNo_bt i T hT).mpr ⟨t, h1, h5, h3⟩⟩
    · rintro ⟨j, h1, h2⟩
      cases j with
      | zero => exact Or.inl ⟨0, by omega, h2⟩
      | succ j =>
        obtain ⟨t, h3, h4, h5⟩ := (mNo_bt i T hT).mp h2
        exact Or.inr ⟨t, h3, (ih t).mpr ⟨j, by omega, h4⟩, h5⟩
def kHop (u : MS) (T : Nat) (s : Int32) (b : Nat) : Nat → Nat → Int32
  | 0, _ => -1
  | r + 1, m => if mIsIn (mEx u T s (m - 1)) b then nI m else kHop u T s b r (m + 1)
theorem kHop_at {u : MS} {T : Nat} {s : Int32} {b k0 : Nat} (h1 : ∀ j, j < k0 → ¬ mIsIn (mEx u T s j) b) (h2 : mIsIn (mEx u T s k0) b) : ∀ r m, 1 ≤ m → m - 1 ≤ k0 → k0 < m - 1 + r → kHop u T s b r m = nI (k0 + 1)
  | 0, m, _, a1, a2 => by omega
  | r + 1, m, hm, a1, a2 => by
    rw [kHop]
    by_cases e : m - 1 = k0
    · rw [e, if_pos h2, show m = k0 + 1 by omega]
    · rw [if_neg (h1 (m - 1) (by omega))]
      exact kHop_at h1 h2 r (m + 1) (by omega) (by omega) (by omega)
theorem kHop_no {u : MS} {T : Nat} {s : Int32} {b : Nat} : ∀ r m, (∀ j, j < m - 1 + r → ¬ mIsIn (mEx u T s j) b) → 1 ≤ m → kHop u T s b r m = -1
  | 0, m, _, _ => rfl
  | r + 1, m, h, hm => by
    rw [kHop, if_neg (h (m - 1) (by omega))]
    exact kHop_no r (m + 1) (fun j hj => h j (by omega)) (by omega)
theorem mHop_at {u : MS} {T : Nat} {s : Int32} {b k0 : Nat} (hb : b < 16) (h1 : ∀ j, j < k0 → ¬ bt (mReachL u T s j) b = true) (h2 : bt (mReachL u T s k0) b = true) : ∀ r m, 1 ≤ m → m - 1 ≤ k0 → k0 < m - 1 + r → mHopL u T (nI b) r m (mReachL u T s (m - 1)) = nI (k0 + 1)
  | 0, m, _, a1, a2 => by omega
  | r + 1, m, hm, a1, a2 => by
    rw [mHopL]
    by_cases e : m - 1 = k0
    · rw [e, if_neg (fun z9 => (mIs0 hb).mp z9 h2), show m = k0 + 1 by omega]
    · rw [if_pos ((mIs0 hb).mpr (h1 (m - 1) (by omega)))]
      have := mHop_at hb h1 h2 r (m + 1) (by omega) (by omega) (by omega)
      rw [show m + 1 - 1 = (m - 1) + 1 by omega] at this
      exact this
theorem mHop_no {u : MS} {T : Nat} {s : Int32} {b : Nat} (hb : b < 16) : ∀ r m, (∀ j, j < m - 1 + r → ¬ bt (mReachL u T s j) b = true) → 1 ≤ m → mHopL u T (nI b) r m (mReachL u T s (m - 1)) = -1
  | 0, m, _, _ => rfl
  | r + 1, m, h, hm => by
    rw [mHopL, if_pos ((mIs0 hb).mpr (h (m - 1) (by omega)))]
    have := mHop_no hb r (m + 1) (fun j hj => h j (by omega)) (by omega)
    rw [show m + 1 - 1 = (m - 1) + 1 by omega] at this
    exact this
/-- both ways to count the hops -/
theorem mHop_eq {u : MS} {T W z b : Nat} (o : mOk u T W z) (hb : b < T) (s : Int32) : mHopL u T (nI b) T 1 s = kHop u T s b 16 1 := by
  have hT := o.2.1
  have hb16 : b < 16 := by omega
  by_cases c : ∃ k, k < 16 ∧ bt (mEx u T s k) b = true
  · have hl : ∃ k0, k0 < 16 ∧ bt (mEx u T s k0) b = true ∧ ∀ j, j < k0 → ¬ bt (mEx u T s j) b = true := by
      obtain ⟨k, hk, h⟩ := c
      induction k using Nat.strongRecOn with
      | _ k ih =>
        by_cases d : ∃ j, j < k ∧ bt (mEx u T s j) b = true
        · obtain ⟨j, h1, h2⟩ := d
          exact ih j h1 (by omega) h2
        · exact ⟨k, hk, h, fun j hj hh => d ⟨j, hj, hh⟩⟩
    obtain ⟨k0, hk, h2, h1⟩ := hl
    have r1 : ∀ j, j < k0 → ¬ bt (mReachL u T s j) b = true := fun j hj hh => by
      obtain ⟨i, hi, hx⟩ := (mEx_bt hT s b j).mp hh
      exact h1 i (by omega) hx
    have r2 : bt (mReachL u T s k0) b = true := (mEx_bt hT s b k0).mpr ⟨k0, Nat.le_refl _, h2⟩
    have hkT : k0 < T := by
      apply Classical.byContradiction
      intro hn
      have st := mReach_stay (mReach_all o s (k := T - 1) (by omega)) (k0 - (T - 1))
      rw [show T - 1 + (k0 - (T - 1)) = k0 by omega] at st
      rw [st] at r2
      exact r1 (T - 1) (by omega) r2
    rw [kHop_at (fun j hj hh => h1 j hj ((mIsIn_bt hb16).mp hh)) ((mIsIn_bt hb16).mpr h2) 16 1 (by omega) (by omega) (by omega)]
    exact mHop_at hb16 r1 r2 T 1 (by omega) (by omega) (by omega)
  · rw [kHop_no 16 1 (fun j hj hh => c ⟨j, by omega, (mIsIn_bt hb16).mp hh⟩) (by omega)]
    refine mHop_no hb16 T 1 (fun j hj hh => ?_) (by omega)
    obtain ⟨i, hi, hx⟩ := (mEx_bt hT s b j).mp hh
    exact c ⟨i, by omega, hx⟩

