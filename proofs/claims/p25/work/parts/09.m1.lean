/-! the reference's methods, as functions of its state -/
abbrev mIn (v lo hi : Int32) : Prop := lo ≤ v ∧ v ≤ hi
abbrev mTen (u : MS) (p : Int32) : Prop := mIn p (nI 0) (u.1 3 - nI 1)
abbrev mHab (u : MS) (p q : Int32) : Prop := mTen u p ∧ mIn q (nI 0) (u.2 0 (7 * p.toNatClampNeg + 3) - nI 1)
def mW (u : MS) (T : Nat) : Prop := u.1 3 = nI T ∧ T ≤ 16 ∧ ∀ t, t < T → ∃ m, m ≤ 8 ∧ u.2 0 (7 * t + 3) = nI m
def mSt (ov : Option Value) (u1 : MS) : gR → MS → Nat → Nat → Prop := fun r u' k n => r = .inl ov ∧ u' = u1 ∧ k = 0 ∧ n = 0
theorem mSt.no {ov : Option Value} {u1 : MS} : ∀ E u' k n, ¬ mSt ov u1 (.inr E) u' k n := fun _ _ _ _ h => by cases h.1
/-- an answer and a state, at no more than this cost -/
def mSp (s : MS × Int32) (kc nc : Nat) : gR → MS → Nat → Nat → Prop := fun r u' k n => r = .inl (some (.int s.2)) ∧ u' = s.1 ∧ k ≤ kc ∧ n ≤ nc
theorem mSp.no {s : MS × Int32} {kc nc : Nat} : ∀ E u' k n, ¬ mSp s kc nc (.inr E) u' k n := fun _ _ _ _ h => by cases h.1
theorem nI_m1 (m : Nat) : nI (m + 1) - nI 1 = nI m := by
  rw [show nI 1 = (1 : Int32) from rfl]
  exact nI_pred m
theorem mIn_of {q : Int32} {m : Nat} (hm : m < 2 ^ 30) (h : mIn q (nI 0) (nI m - nI 1)) : ∃ j, j < m ∧ q = nI j := by
  obtain ⟨h1, h2⟩ := h
  have h0 : ¬ q < 0 := Int32.not_lt.mpr h1
  obtain ⟨j, hj, rfl⟩ := nI_of h0
  cases m with
  | zero => exact absurd (Int32.le_trans h1 h2) (by decide)
  | succ m =>
    rw [nI_m1 m] at h2
    exact ⟨j, by have := (nI_leI hj (by omega)).mp h2; omega, rfl⟩
theorem mIn_nI {j m : Nat} (hm : m < 2 ^ 30) (h : j < m) : mIn (nI j) (nI 0) (nI m - nI 1) := by
  cases m with
  | zero => omega
  | succ m =>
    rw [nI_m1 m]
    exact ⟨nI_le (a := 0) (b := j) (by omega) (by omega), nI_le (a := j) (b := m) (by omega) (by omega)⟩
theorem mIn_lit {q : Int32} {m : Nat} (hm : m < 2 ^ 29) (h : mIn q (nI 0) (nI m)) : ∃ j, j ≤ m ∧ q = nI j := by
  obtain ⟨j, hj, e⟩ := mIn_of (m := m + 1) (by omega) (by rw [nI_m1 m]; exact h)
  exact ⟨j, by omega, e⟩
theorem mTen_of {u : MS} {p : Int32} {T : Nat} (w : mW u T) (h : mTen u p) : ∃ t, t < T ∧ p = nI t := by
  unfold mTen at h
  rw [w.1] at h
  exact mIn_of (by have := w.2.1; omega) h
theorem mTen_nI {u : MS} {t T : Nat} (w : mW u T) (h : t < T) : mTen u (nI t) := by
  unfold mTen
  rw [w.1]
  exact mIn_nI (by have := w.2.1; omega) h
theorem mCl {t : Nat} (h : t < 100000) : (nI t).toNatClampNeg = t := nI_clamp (by omega)
def mErr (u : MS) (c : Int32) : MS × Int32 := (sg (sg u 0 (nI 0)) 0 c, nI 0)

