theorem mMany_of {u : MS} {t m : Nat} (hm : m ≤ 8) (e : u.2 0 (7 * t + 3) = nI m) : mMany u t = m := by
  unfold mMany
  rw [e]
  exact mCl (by omega)
theorem mJ_of {t j : Nat} (ht : t < 100) (hj : j < 100) : mJ (nI t) (nI j) = 9 * (8 * t + j) := by
  unfold mJ
  rw [mCl (by omega), mCl (by omega)]
theorem mHab_of {u : MS} {p q : Int32} {T : Nat} (w : mW u T) (h : mHab u p q) : ∃ t j m, t < T ∧ p = nI t ∧ j < m ∧ q = nI j ∧ m ≤ 8 ∧ u.2 0 (7 * t + 3) = nI m := by
  obtain ⟨h1, h2⟩ := h
  obtain ⟨t, ht, rfl⟩ := mTen_of w h1
  obtain ⟨m, hm, em⟩ := w.2.2 t ht
  rw [mCl (by have := w.2.1; omega), em] at h2
  obtain ⟨j, hj, rfl⟩ := mIn_of (by omega) h2
  exact ⟨t, j, m, ht, rfl, hj, rfl, hm, em⟩

