theorem mWait_keep (u : MS) (to d s : Int32) : (mWait u to d s).1 3 = u.1 3 ∧ (mWait u to d s).1 12 = u.1 12 ∧ (mWait u to d s).2 4 = u.2 4 ∧ (mWait u to d s).2 1 = u.2 1 ∧ (mWait u to d s).2 0 = u.2 0 ∧ (mWait u to d s).2 3 = u.2 3 := by
  unfold mWait
  split <;> exact ⟨rfl, rfl, rfl, rfl, rfl, rfl⟩
theorem mWait_W {u : MS} {W : Nat} (e : u.1 6 = nI W) (hW : W ≤ 60) (to d s : Int32) : ∃ W', W' ≤ 60 ∧ (mWait u to d s).1 6 = nI W' := by
  unfold mWait
  by_cases c : u.1 6 = nI 60
  · rw [if_pos c]
    exact ⟨W, hW, e⟩
  · rw [if_neg c]
    refine ⟨W + 1, ?_, ?_⟩
    · have : W ≠ 60 := fun z => c (by rw [e, z])
      omega
    · show nI ((u.1 6).toNatClampNeg + 1) = nI (W + 1)
      rw [e, mCl (by omega)]
theorem mSing_keep (u : MS) (t : Nat) (l : Int32) : (mSing u t l).1 3 = u.1 3 ∧ (mSing u t l).1 6 = u.1 6 ∧ (mSing u t l).2 4 = u.2 4 ∧ (mSing u t l).2 1 = u.2 1 ∧ (mSing u t l).2 2 = u.2 2 := by
  unfold mSing mSing0
  split <;> exact ⟨rfl, rfl, rfl, rfl, rfl⟩
theorem mSing_z {u : MS} {z : Nat} (e : u.1 12 = nI z) (hz : z ≤ 200) (t : Nat) (l : Int32) : ∃ z', z' ≤ 200 ∧ (mSing u t l).1 12 = nI z' := by
  unfold mSing
  by_cases c : u.1 12 = nI 200
  · rw [if_pos c]
    exact ⟨z, hz, e⟩
  · rw [if_neg c]
    refine ⟨z + 1, ?_, ?_⟩
    · have : z ≠ 200 := fun q => c (by rw [e, q])
      omega
    · show nI ((u.1 12).toNatClampNeg + 1) = nI (z + 1)
      rw [e, mCl (by omega)]
/-- is the tenant 'to' rung at by the habit at J of the tenant t -/
abbrev mMeant (H : Nat → Int32) (J t to : Nat) : Prop :=
  (H (J + 4) = nI 3 ∧ (to + 1 = t ∨ t + 1 = to)) ∨ (H (J + 4) ≠ nI 3 ∧ H (J + 4) = nI 5 ∧ to ≠ t) ∨ (H (J + 4) ≠ nI 3 ∧ H (J + 4) ≠ nI 5 ∧ nI to = H (J + 5))
def mFolL (H : Nat → Int32) (J t : Nat) : Nat → Nat → MS → MS
  | 0, _, u => u
  | r + 1, to, u => mFolL H J t r (to + 1) (if mMeant H J t to then mWait u (nI to) (H (J + 6)) (H (J + 7)) else u)
def mFol1 (u : MS) (J : Nat) : MS := sa u 1 (upd (u.2 1) (J + 8) (u.2 1 (J + 8) + nI 1))
def mFol2 (u : MS) (J t : Nat) : MS := if u.2 1 (J + 4) = nI 0 ∨ u.2 1 (J + 4) = nI 4 then mSing (mFol1 u J) t (u.2 1 (J + 6)) else mFol1 u J
def mFollow (u : MS) (J t T : Nat) : MS :=
  if u.2 1 (J + 4) < nI 2 ∨ u.2 4 4 = nI 8 then mFol2 u J t else mFolL (mFol1 u J |>.2 1) J t T 0 (mFol2 u J t)
theorem abs1 {x y : Nat} (hx : x < 100) (hy : y < 100) : (if 0 ≤ nI x - nI y then nI x - nI y else 0 - (nI x - nI y)) = nI 1 ↔ (x + 1 = y ∨ y + 1 = x) := by
  have key : ∀ x : Fin 100, ∀ y : Fin 100, ((if 0 ≤ nI x.val - nI y.val then nI x.val - nI y.val else 0 - (nI x.val - nI y.val)) = nI 1 ↔ (x.val + 1 = y.val ∨ y.val + 1 = x.val)) := by decide +kernel
  exact key ⟨x, hx⟩ ⟨y, hy⟩

theorem mFol2_keep (u : MS) (J t : Nat) : (mFol2 u J t).1 3 = u.1 3 ∧ (mFol2 u J t).1 6 = u.1 6 ∧ (mFol2 u J t).2 4 = u.2 4 ∧ (mFol2 u J t).2 1 = (mFol1 u J).2 1 := by
  unfold mFol2
  split
  · obtain ⟨h1, h2, h3, h4, -⟩ := mSing_keep (mFol1 u J) t (u.2 1 (J + 6))
    exact ⟨h1, h2, h3, h4⟩
  · exact ⟨rfl, rfl, rfl, rfl⟩
/-- one song costs one row at most -/
theorem mFol2_z {u : MS} {J t z : Nat} (ez : u.1 12 = nI z) (hz : z ≤ 200) : ∃ z', z' ≤ 200 ∧ z' ≤ z + 1 ∧ (mFol2 u J t).1 12 = nI z' := by
  unfold mFol2
  split
  · unfold mSing
    by_cases c : (mFol1 u J).1 12 = nI 200
    · rw [if_pos c]
      exact ⟨z, hz, by omega, ez⟩
    · rw [if_neg c]
      have ez' : (mFol1 u J).1 12 = nI z := ez
      have : z ≠ 200 := fun q => c (by rw [ez', q])
      refine ⟨z + 1, by omega, Nat.le_refl _, ?_⟩
      show nI (((mFol1 u J).1 12).toNatClampNeg + 1) = nI (z + 1)
      rw [ez', mCl (by omega)]
  · exact ⟨z, hz, by omega, ez⟩
theorem mC.small {u u' : MS} {k n z : Nat} (h : ∃ z', z' ≤ 200 ∧ z' ≤ z + 1 ∧ u'.1 12 = nI z') (hc : mC u u' (0 + k) (0 + n)) (ez : u.1 12 = nI z := by assumption) (hz : z ≤ 200 := by assumption) : k ≤ 1 ∧ n ≤ 6 := by
  obtain ⟨z', h1, h2, h3⟩ := h
  obtain ⟨y, y', e1, e2, l1, l2, c1, c2⟩ := hc
  have a1 : y = z := (nI_eq (by omega) (by omega)).mp (e1.symm.trans ez)
  have a2 : y' = z' := (nI_eq (by omega) (by omega)).mp (e2.symm.trans h3)
  subst a1 a2
  omega

theorem mFol1_at {u : MS} {J i : Nat} (h : i ≠ J + 8) : (mFol1 u J).2 1 i = u.2 1 i := pk_un h

theorem mC.to {u v w : MS} {k n : Nat} (h : mC u v k n) (e : w.1 12 = v.1 12) : mC u w k n := by
  obtain ⟨z, z', e1, e2, r⟩ := h
  exact ⟨z, z', e1, e.trans e2, r⟩

