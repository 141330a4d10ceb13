def mHd0 (u : MS) (p : Int32) : MS := sa (sg u 0 (nI 0)) 4 (upd (upd (upd (upd (upd (upd (u.2 4) 0 (u.1 1)) 1 p) 2 (-1)) 3 (nI 0)) 4 (nI 0)) 5 p)
def mRing (u : MS) (p : Int32) : MS × Int32 := if mTen u p then mHear (mHd0 u p) p.toNatClampNeg (u.1 3).toNatClampNeg else mErr u (nI 1)
theorem mHd0_ok {u : MS} {T W z t : Nat} (o : mOk u T W z) (ht : t < T) : mOk (mHd0 u (nI t)) T W z ∧ mOkR ((mHd0 u (nI t)).2 4) 0 T ∧ (mHd0 u (nI t)).2 4 0 = (mHd0 u (nI t)).1 1 := by
  have hT := o.2.1
  refine ⟨o.tab rfl rfl rfl rfl (fun _ _ ot => ot) rfl rfl, ⟨⟨t, ht, rfl⟩, 0, by omega, rfl, fun i hi => ⟨t, by omega, ?_⟩⟩, rfl⟩
  have : i = 0 := by omega
  subst this
  rfl
theorem mRing_ok {u : MS} {T W z : Nat} (o : mOk u T W z) (p : Int32) : ∃ W' z', mOk (mRing u p).1 T W' z' := by
  unfold mRing
  by_cases c : mTen u p
  · rw [if_pos c]
    obtain ⟨t, ht, rfl⟩ := mTen_of o.W c
    have hT := o.2.1
    rw [mCl (by omega), o.1, mCl (by omega)]
    obtain ⟨h1, h2, h3⟩ := mHd0_ok o ht
    obtain ⟨W', z', -, h, -⟩ := mHear_ok h1 h2 ht h3
    exact ⟨W', z', h⟩
  · rw [if_neg c]
    exact ⟨W, z, o.tab rfl rfl rfl rfl (fun _ _ ot => ot) rfl rfl⟩
theorem mC.le {u v : MS} {k n : Nat} (c : mC u v k n) : k ≤ 200 ∧ n ≤ 1200 := by
  obtain ⟨z, z', e1, e2, h1, h2, h3, h4⟩ := c
  omega
theorem mC.fr {u v w : MS} {k n : Nat} (h : mC u v k n) (e : w.1 12 = u.1 12) : mC w v k n := by
  obtain ⟨z, z', e1, e2, r⟩ := h
  exact ⟨z, z', e.trans e1, e2, r⟩

def mGrow1 (x : MS) (t : Nat) : MS := sa x 0 (upd (x.2 0) (7 * t + 2) (if x.2 0 (7 * t + 2) + nI 1 < x.2 0 (7 * t + 1) then x.2 0 (7 * t + 2) + nI 1 else x.2 0 (7 * t + 1)))
def mGrowL : Nat → Nat → MS → MS
  | 0, _, x => x
  | r + 1, t, x => mGrowL r (t + 1) (mGrow1 x t)
def mTake (x : MS) : MS := sa (sg (sa x 4 (va_cpy (x.2 2) (x.2 4) 0 0 14)) 6 (nI ((x.1 6).toNatClampNeg - 1))) 2 (va_cpy (x.2 2) (x.2 2) 14 0 (14 * ((x.1 6).toNatClampNeg - 1)))
def mDrainL : Nat → MS → MS
  | 0, x => x
  | f + 1, x => if x.1 6 ≠ nI 0 ∧ x.2 2 0 = x.1 1 then mDrainL f (mHear (mTake x) (x.2 2 1).toNatClampNeg (x.1 3).toNatClampNeg).1 else x
def mTick1 (x : MS) : MS := sg x 1 (x.1 1 + nI 1)
def mTick2 (x : MS) : MS := if x.1 1 - x.1 1 / x.1 2 * x.1 2 = 0 then mGrowL (x.1 3).toNatClampNeg 0 x else x
def mTick (x : MS) : MS := mDrainL 60 (mTick2 (mTick1 x))
def mPassL : Nat → MS → MS
  | 0, x => x
  | r + 1, x => mPassL r (mTick x)
def mPass (u : MS) (p : Int32) : MS × Int32 :=
  if mIn p (nI 1) (nI 1000) then (mPassL p.toNatClampNeg (sg u 0 (nI 0)), (mPassL p.toNatClampNeg (sg u 0 (nI 0))).1 8 - u.1 8) else mErr u (nI 1)
theorem mDrain_stop {x : MS} (c : ¬ (x.1 6 ≠ nI 0 ∧ x.2 2 0 = x.1 1)) : ∀ f, mDrainL f x = x
  | 0 => rfl
  | f + 1 => by unfold mDrainL; rw [if_neg c]
theorem mDue0 {R : Nat → Int32} {c : Int32} : ∀ W, R 0 = c → 0 < mDue R c (W + 1)
  | 0, e => by
    show 0 < 0 + (if R (14 * 0) = c then 1 else 0)
    rw [if_pos (show R (14 * 0) = c from e)]
    omega
  | W + 1, e => by
    have := mDue0 (R := R) (c := c) W e
    show 0 < mDue R c (W + 1) + _
    omega
theorem mTake_ok {x : MS} {T W z : Nat} (o : mOk x T (W + 1) z) : mOk (mTake x) T W z ∧ mOkR ((mTake x).2 4) 0 T ∧ (mTake x).2 4 0 = x.2 2 0 ∧ (mTake x).2 4 1 = x.2 2 1 ∧ mDue (x.2 2) (x.1 1) (W + 1) = mDue ((mTake x).2 2) (x.1 1) W + if x.2 2 0 = x.1 1 then 1 else 0 := by
  obtain ⟨a1, a2, a3, a4, a5, a6, a7, a8, a9, a10⟩ := o
  have e6 : (x.1 6).toNatClampNeg - 1 = W := by rw [a3, mCl (by omega)]; rfl
  have hr : ∀ k i, k < W → i < 14 → (mTake x).2 2 (14 * k + i) = x.2 2 (14 * (k + 1) + i) := fun k i hk hi => by
    show va_cpy (x.2 2) (x.2 2) 14 0 (14 * ((x.1 6).toNatClampNeg - 1)) (14 * k + i) = _
    rw [e6, pk_cpy_in (by omega) (by omega), show 14 + (14 * k + i - 0) = 14 * (k + 1) + i by omega]
  have hh : ∀ i, i < 14 → (mTake x).2 4 (0 + i) = x.2 2 (14 * 0 + i) := fun i hi => by
    show va_cpy (x.2 2) (x.2 4) 0 0 14 (0 + i) = _
    rw [pk_cpy_in (by omega) (by omega), show 0 + (0 + i - 0) = 14 * 0 + i by omega]
  refine ⟨⟨a1, a2, ?_, by omega, a5, a6, a7, a8, fun k hk => mOkR.cg (fun i hi => hr k i hk hi) (a9 (k + 1) (by omega)), a10⟩, mOkR.cg hh (a9 0 (by omega)), hh 0 (by omega), hh 1 (by omega), mDue_rem W (fun k hk => hr k 0 hk (by omega))⟩
  show nI ((x.1 6).toNatClampNeg - 1) = nI W
  rw [e6]
theorem mGrow1_ok {u : MS} {T W z t : Nat} (o : mOk u T W z) (ht : t < T) : mOk (mGrow1 u t) T W z := by
  refine o.tab rfl rfl rfl rfl (fun t' ht' ot => ?_) rfl rfl
  by_cases e : t' = t
  · subst e
    obtain ⟨m, m1, m2, ⟨p, p1, p2⟩, ⟨g, g1, g2⟩, le, r⟩ := ot
    have key : ∃ q, q ≤ g ∧ (mGrow1 u t').2 0 (7 * t' + 2) = nI q := by
      show ∃ q, q ≤ g ∧ upd (u.2 0) (7 * t' + 2) _ (7 * t' + 2) = nI q
      rw [pk_us, p2, g2, show nI p + nI 1 = nI (p + 1) from nI_1 p]
      by_cases c : nI (p + 1) < nI g
      · rw [if_pos c]
        have := (nI_ltI (by omega) (by omega)).mp c
        exact ⟨p + 1, by omega, rfl⟩
      · rw [if_neg c]
        exact ⟨g, Nat.le_refl g, rfl⟩
    obtain ⟨q, q1, q2⟩ := key
    have eg : (mGrow1 u t').2 0 (7 * t' + 1) = nI g := (pk_un (by omega)).trans g2
    exact ⟨m, m1, (pk_un (by omega)).trans m2, ⟨q, by omega, q2⟩, ⟨g, g1, eg⟩, by rw [q2, eg]; exact (nI_leI (by omega) (by omega)).mpr q1, r⟩
  · exact mOkT.cg (pk_un (by omega)) (pk_un (by omega)) (pk_un (by omega)) (fun j hj oh => oh) ot
theorem mGrowL_ok {T W z : Nat} : ∀ r t u, t + r ≤ T → mOk u T W z → mOk (mGrowL r t u) T W z ∧ (mGrowL r t u).2 2 = u.2 2 ∧ (mGrowL r t u).1 1 = u.1 1 ∧ (mGrowL r t u).1 12 = u.1 12
  | 0, _, _, _, o => ⟨o, rfl, rfl, rfl⟩
  | r + 1, t, u, h, o => by
    unfold mGrowL
    exact mGrowL_ok r (t + 1) (mGrow1 u t) (by omega) (mGrow1_ok o (by omega))
theorem mTick1_ok {u : MS} {T W z : Nat} (o : mOk u T W z) : mOk (mTick1 u) T W z := o.tab rfl rfl rfl rfl (fun _ _ ot => ot) rfl rfl
theorem mTick2_ok {u : MS} {T W z : Nat} (o : mOk u T W z) : mOk (mTick2 u) T W z := by
  unfold mTick2
  split
  · have h3 := o.1
    have hT := o.2.1
    rw [h3, mCl (by omega)]
    exact (mGrowL_ok T 0 u (by omega) o).1
  · exact o
theorem mDrainL_ok {T : Nat} : ∀ f x W z, mOk x T W z → ∃ W' z', z ≤ z' ∧ mOk (mDrainL f x) T W' z'
  | 0, x, W, z, o => ⟨W, z, Nat.le_refl _, o⟩
  | f + 1, x, W, z, o => by
    unfold mDrainL
    by_cases c : x.1 6 ≠ nI 0 ∧ x.2 2 0 = x.1 1
    · rw [if_pos c]
      have hW : W ≠ 0 := fun e => c.1 (by rw [o.2.2.1, e])
      obtain ⟨V, rfl⟩ : ∃ V, W = V + 1 := ⟨W - 1, by omega⟩
      obtain ⟨o1, h1, h2, h3, -⟩ := mTake_ok o
      have hT := o.2.1
      obtain ⟨⟨t, ht, et⟩, -⟩ := o.2.2.2.2.2.2.2.2.1 0 (by omega)
      rw [show x.2 2 1 = nI t from et, mCl (by omega), o.1, mCl (by omega)]
      obtain ⟨W', z', hz, o2, -⟩ := mHear_ok o1 h1 ht (by rw [h2]; exact c.2)
      obtain ⟨W2, z2, hz2, o3⟩ := mDrainL_ok f _ W' z' o2
      exact ⟨W2, z2, by omega, o3⟩
    · rw [if_neg c]
      exact ⟨W, z, Nat.le_refl _, o⟩
theorem mTick_ok {u : MS} {T W z : Nat} (o : mOk u T W z) : ∃ W' z', z ≤ z' ∧ mOk (mTick u) T W' z' := mDrainL_ok 60 _ _ _ (mTick2_ok (mTick1_ok o))
theorem mPassL_ok {T : Nat} : ∀ r u W z, mOk u T W z → ∃ W' z', z ≤ z' ∧ mOk (mPassL r u) T W' z'
  | 0, u, W, z, o => ⟨W, z, Nat.le_refl _, o⟩
  | r + 1, u, W, z, o => by
    obtain ⟨W1, z1, h1, o1⟩ := mTick_ok o
    obtain ⟨W2, z2, h2, o2⟩ := mPassL_ok r _ W1 z1 o1
    exact ⟨W2, z2, by omega, o2⟩

