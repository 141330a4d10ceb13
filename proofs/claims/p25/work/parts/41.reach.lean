def bc (s : Int32) : Nat → Nat
  | 0 => 0
  | t + 1 => bc s t + if bt s t = true then 1 else 0
theorem bc_le (s : Int32) : ∀ n, bc s n ≤ n
  | 0 => Nat.le_refl 0
  | n + 1 => by
    have := bc_le s n
    unfold bc
    split <;> omega
theorem bc_mono {s x : Int32} (h : ∀ i, bt s i = true → bt x i = true) : ∀ n, bc s n ≤ bc x n
  | 0 => Nat.le_refl 0
  | n + 1 => by
    have ih := bc_mono h n
    unfold bc
    by_cases c : bt s n = true
    · rw [if_pos c, if_pos (h n c)]
      omega
    · rw [if_neg c]
      split <;> omega
theorem bc_lt {s x : Int32} (h : ∀ i, bt s i = true → bt x i = true) {i : Nat} (hx : bt x i = true) (hs : ¬ bt s i = true) : ∀ n, i < n → bc s n < bc x n
  | 0, hi => absurd hi (Nat.not_lt_zero i)
  | n + 1, hi => by
    by_cases e : i = n
    · subst e
      have := bc_mono h i
      unfold bc
      rw [if_neg hs, if_pos hx]
      omega
    · have ih := bc_lt h hx hs n (by omega)
      unfold bc
      by_cases c : bt s n = true
      · rw [if_pos c, if_pos (h n c)]
        omega
      · rw [if_neg c]
        split <;> omega
theorem bc_0 {s : Int32} : ∀ n, bc s n = 0 → ∀ i, i < n → ¬ bt s i = true
  | 0, _, i, hi => absurd hi (Nat.not_lt_zero i)
  | n + 1, h, i, hi => by
    unfold bc at h
    by_cases c : bt s n = true
    · rw [if_pos c] at h
      omega
    · rw [if_neg c] at h
      by_cases e : i = n
      · subst e
        exact c
      · exact bc_0 n (by omega) i (by omega)
theorem mReach_step {u : MS} {T W z : Nat} (o : mOk u T W z) (s : Int32) (k : Nat) : mReachL u T s (k + 1) = mReachL u T s k ∨ bc (mReachL u T s k) T < bc (mReachL u T s (k + 1)) T := by
  by_cases c : mReachL u T s (k + 1) = mReachL u T s k
  · exact Or.inl c
  · refine Or.inr ?_
    have hT := o.2.1
    have hm : ∀ i, bt (mReachL u T s k) i = true → bt (mReachL u T s (k + 1)) i = true := fun i hi => by
      rw [mReachL, bt_or, hi]
      rfl
    have : ∃ i, i < 32 ∧ ¬ (bt (mReachL u T s (k + 1)) i = bt (mReachL u T s k) i) := by
      apply Classical.byContradiction
      intro hn
      exact c (bt_ext (fun i hi => Classical.byContradiction (fun z9 => hn ⟨i, hi, z9⟩)))
    obtain ⟨i, hi, hne⟩ := this
    have hs : ¬ bt (mReachL u T s k) i = true := fun z9 => hne ((hm i z9).trans z9.symm)
    have hx : bt (mReachL u T s (k + 1)) i = true := by
      cases hb : bt (mReachL u T s (k + 1)) i with
      | true => rfl
      | false =>
        cases hb2 : bt (mReachL u T s k) i with
        | true => exact absurd hb2 hs
        | false => exact absurd (hb.trans hb2.symm) hne
    have hx2 := hx
    rw [mReachL, bt_or, Bool.or_eq_true] at hx2
    rcases hx2 with h | h
    · exact absurd h hs
    · obtain ⟨t, ht, -, h3⟩ := (mNo_bt i T (by omega)).mp h
      exact bc_lt hm hx hs T (mNext_lt o ht hi h3)
theorem mReach_stay {u : MS} {T : Nat} {s : Int32} {k : Nat} (h : mReachL u T s (k + 1) = mReachL u T s k) : ∀ d, mReachL u T s (k + d) = mReachL u T s k
  | 0 => rfl
  | d + 1 => by
    have ih := mReach_stay h d
    rw [show k + (d + 1) = (k + d) + 1 by omega, mReachL, ih]
    exact h
theorem mReach_grow {u : MS} {T W z : Nat} (o : mOk u T W z) (s : Int32) : ∀ k, mReachL u T s (k + 1) = mReachL u T s k ∨ (0 < bc s T ∧ k + 2 ≤ bc (mReachL u T s (k + 1)) T)
  | 0 => by
    have hT := o.2.1
    by_cases c : bc s T = 0
    · refine Or.inl ?_
      have e : mNo u T s T = 0 := bt_ext (fun i _ => by
        rw [bt_0]
        cases hb : bt (mNo u T s T) i with
        | false => rfl
        | true =>
          obtain ⟨t, ht, h2, -⟩ := (mNo_bt i T (by omega)).mp hb
          exact absurd h2 (bc_0 T c t ht))
      show mReachL u T s 0 ||| mNo u T s T = _
      rw [e, or_0]
    · rcases mReach_step o s 0 with h | h
      · exact Or.inl h
      · have e0 : bc (mReachL u T s 0) T = bc s T := rfl
        exact Or.inr ⟨by omega, by omega⟩
  | k + 1 => by
    rcases mReach_grow o s k with h | ⟨h1, h2⟩
    · exact Or.inl ((mReach_stay h 2).trans (mReach_stay h 1).symm)
    · rcases mReach_step o s (k + 1) with h | h
      · exact Or.inl h
      · exact Or.inr ⟨h1, by omega⟩
/-- from T - 1 rounds on nobody comes in any more -/
theorem mReach_all {u : MS} {T W z : Nat} (o : mOk u T W z) (s : Int32) {k : Nat} (hk : T ≤ k + 1) : mReachL u T s (k + 1) = mReachL u T s k := by
  rcases mReach_grow o s k with h | ⟨-, h⟩
  · exact h
  · have := bc_le (mReachL u T s (k + 1)) T
    omega
theorem mReach_eq {u : MS} {T W z : Nat} (o : mOk u T W z) (s : Int32) : mReachL u T s 15 = mReachL u T s T := by
  have hT := o.2.1
  by_cases e : T = 16
  · subst e
    exact (mReach_all o s (k := 15) (by omega)).symm
  · have h := mReach_stay (mReach_all o s (k := T) (by omega)) (15 - T)
    rw [show T + (15 - T) = 15 by omega] at h
    exact h

