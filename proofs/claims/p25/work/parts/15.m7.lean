theorem mFitL_or (u : MS) (t : Nat) (s h : Int32) : ∀ r j, mFitL u t s h r j = -1 ∨ ∃ i, i < j + r ∧ mFitL u t s h r j = nI i
  | 0, j => Or.inl rfl
  | r + 1, j => by
    unfold mFitL
    by_cases c : mFits u t j s h
    · rw [if_pos c]
      exact Or.inr ⟨j, by omega, rfl⟩
    · rw [if_neg c]
      rcases mFitL_or u t s h r (j + 1) with e | ⟨i, hi, e⟩
      · exact Or.inl e
      · exact Or.inr ⟨i, by omega, e⟩
theorem mFit_or (u : MS) (t : Nat) (s h : Int32) : mFit u t s h = -1 ∨ ∃ i, i < mMany u t ∧ mFit u t s h = nI i := by
  have := mFitL_or u t s h (mMany u t) 0
  rw [Nat.zero_add] at this
  exact this
theorem nI_nm1 {i : Nat} (h : i < 100) : ¬ nI i = -1 := by
  have key : ∀ i : Fin 100, ¬ nI i.val = -1 := by decide +kernel
  exact key ⟨i, h⟩
/-- the tenant t has heard the ring in hand -/
def mHearA (u : MS) (t : Nat) : MS :=
  sg (sg (sa (sa u 0 (upd (u.2 0) (7 * t + 6) (u.1 1))) 0 (upd (upd (u.2 0) (7 * t + 6) (u.1 1)) (7 * t + 4) ((upd (u.2 0) (7 * t + 6) (u.1 1)) (7 * t + 4) + nI 1))) 8 (u.1 8 + nI 1)) 11 (if u.1 11 < u.2 4 4 then u.2 4 4 else u.1 11)
def mHearS (u : MS) (t : Nat) : Int32 := mFit (mHearA u t) t (if u.2 4 2 = -1 then nI 0 else nI 1) (mHour u)
def mHearB (u : MS) (t T : Nat) : MS := if mHearS u t = -1 then mHearA u t else mFollow (mHearA u t) (9 * (8 * t + (mHearS u t).toNatClampNeg)) t T
def mTire (v : MS) (t : Nat) : MS := sa v 0 (upd (v.2 0) (7 * t + 2) (if nI 0 < v.2 0 (7 * t + 2) - nI 1 then v.2 0 (7 * t + 2) - nI 1 else nI 0))
def mHear (u : MS) (t T : Nat) : MS × Int32 :=
  if u.2 0 (7 * t + 6) = u.1 1 then (sg u 9 (u.1 9 + nI 1), nI 2)
  else (mTire (mHearB u t T) t, if mHearS u t = -1 then nI 1 else nI 0)
/-- the reference may do the ring in hand -/
def mHand (u : MS) (t T p W z : Nat) : Prop := u.2 4 1 = nI t ∧ t < T ∧ u.2 4 4 = nI p ∧ p ≤ 8 ∧ u.1 6 = nI W ∧ W ≤ 60 ∧ u.1 12 = nI z ∧ z ≤ 200 ∧ ¬ u.1 2 = 0 ∧ mW u T

theorem mHearA_W {u : MS} {t T : Nat} (w : mW u T) (ht : t < T) : mW (mHearA u t) T := by
  obtain ⟨h1, h2, h3⟩ := w
  refine ⟨h1, h2, fun t' ht' => ?_⟩
  obtain ⟨m, hm, em⟩ := h3 t' ht'
  refine ⟨m, hm, ?_⟩
  show upd (upd (u.2 0) (7 * t + 6) (u.1 1)) (7 * t + 4) _ (7 * t' + 3) = nI m
  rw [pk_un (by omega), pk_un (by omega)]
  exact em
theorem mFolL_z {H : Nat → Int32} {J t : Nat} : ∀ r to u, (mFolL H J t r to u).1 12 = u.1 12
  | 0, _, _ => rfl
  | r + 1, to, u => by
    unfold mFolL
    rw [mFolL_z r (to + 1)]
    split
    · exact (mWait_keep _ _ _ _).2.1
    · rfl
theorem mFollow_z {u : MS} {J t T z : Nat} (ez : u.1 12 = nI z) (hz : z ≤ 200) : ∃ z', z' ≤ 200 ∧ z' ≤ z + 1 ∧ (mFollow u J t T).1 12 = nI z' := by
  obtain ⟨z', h1, h2, h3⟩ := mFol2_z (J := J) (t := t) ez hz
  refine ⟨z', h1, h2, ?_⟩
  unfold mFollow
  split
  · exact h3
  · rw [mFolL_z]
    exact h3
theorem mHearB_z {u : MS} {t T z : Nat} (ez : u.1 12 = nI z) (hz : z ≤ 200) : ∃ z', z' ≤ 200 ∧ z' ≤ z + 1 ∧ (mHearB u t T).1 12 = nI z' := by
  unfold mHearB
  split
  · exact ⟨z, hz, by omega, ez⟩
  · exact mFollow_z (show (mHearA u t).1 12 = nI z from ez) hz

