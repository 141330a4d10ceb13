/-! what the law looks at -/
theorem mReachL_in {u : MS} {T x : Nat} {s : Int32} (hx : x < 16) (h : mIsIn s x) : ∀ k, mIsIn (mReachL u T s k) x
  | 0 => h
  | k + 1 => by
    unfold mReachL
    rw [mIsIn_bt hx, bt_or, Bool.or_eq_true]
    exact Or.inl ((mIsIn_bt hx).mp (mReachL_in hx h k))
theorem mHop_one {u : MS} {T y : Nat} {s : Int32} (hT : 0 < T) (h : mIsIn s y) : mHopL u T (nI y) T 1 s = nI 1 := by
  obtain ⟨r, rfl⟩ : ∃ r, T = r + 1 := ⟨T - 1, by omega⟩
  unfold mHopL
  rw [if_neg (fun z9 => by
    have h9 : s >>> (nI y &&& 31) &&& nI 1 = nI 1 := h
    rw [h9] at z9
    exact absurd z9 (by decide))]
section PFacts
variable {u : MS} {T W z τ L : Nat} {M : Nat → Int32} {a b : Nat → Nat} {g : Nat → Nat → Nat}
theorem pQ.rings (o : mOk u T W z) {lo : Nat} (q : pQ u T M lo τ L) : pRs M T lo τ (u.2 2) W ∧ pNs M T τ (u.2 3) z ∧ (∀ x, x < T → mNext u T x = M x) ∧ u.1 1 = nI τ ∧ u.1 9 = nI L := by
  obtain ⟨W1, z1, e6, hW, rs, ez, hz, ns, nx, e1, e9⟩ := q
  have h1 := o.2.2.2.1
  have h2 := o.2.2.2.2.2.1
  have eW : W1 = W := (nI_eq (by omega) (by omega)).mp (e6.symm.trans o.2.2.1)
  have eZ : z1 = z := (nI_eq (by omega) (by omega)).mp (ez.symm.trans o.2.2.2.2.1)
  subst eW
  subst eZ
  exact ⟨rs, ns, nx, e1, e9⟩
theorem f_ring (o : mOk u T W z) (q : pQ u T M (τ + 1) τ L) {k : Nat} (hk : k < W) : ∃ r p x y, τ < r ∧ r ≤ τ + 100 ∧ u.2 2 (14 * k) = nI r ∧ 1 ≤ p ∧ p ≤ 8 ∧ u.2 2 (14 * k + 4) = nI p ∧ x < T ∧ u.2 2 (14 * k + 1) = nI x ∧ y < T ∧ u.2 2 (14 * k + 2) = nI y ∧ mIsIn (mNext u T y) x := by
  obtain ⟨rs, ns, nx, -⟩ := q.rings o
  obtain ⟨r, p, h1, h2, h3, h4, h5, h6, v, v1, v2, v3, v4, v5⟩ := rs.1 k hk
  obtain ⟨p', rfl⟩ : ∃ p', p = p' + 1 := ⟨p - 1, by omega⟩
  refine ⟨r, p' + 1, v (p' + 1), v p', by omega, h2, h3, h4, h5, h6, (v1 (p' + 1) (Nat.le_refl _)).1, v2, (v1 p' (by omega)).1, v5 p' rfl, ?_⟩
  rw [nx _ (v1 p' (by omega)).1]
  exact v3 p' (by omega)
theorem f_note (o : mOk u T W z) (q : pQ u T M (τ + 1) τ L) {k : Nat} (hk : k < z) : ∃ x d p y, ∃ v : Nat → Nat, x ≤ τ ∧ u.2 3 (15 * k) = nI x ∧ 0 < d ∧ d < 100 ∧ u.2 3 (15 * k + 1) = nI d ∧ y < 88 ∧ u.2 3 (15 * k + 2) = nI y ∧ p ≤ 8 ∧ u.2 3 (15 * k + 4) = nI p ∧ (∀ i, i ≤ p → v i < T ∧ u.2 3 (15 * k + 6 + i) = nI (v i)) ∧ u.2 3 (15 * k + 3) = nI (v p) ∧ (∀ i, i < p → mIsIn (mNext u T (v i)) (v (i + 1))) ∧ (p = 0 → u.2 3 (15 * k + 5) = -1) ∧ ∀ p', p = p' + 1 → u.2 3 (15 * k + 5) = nI (v p') := by
  obtain ⟨rs, ns, nx, -⟩ := q.rings o
  obtain ⟨x, d, p, h1, h2, h3, h4, h5, h6, h7, v, v1, v2, v3, v4, v5⟩ := ns.1 k hk
  obtain ⟨⟨y, y1, y2⟩, -⟩ := o.2.2.2.2.2.2.2.2.2 k hk
  refine ⟨x, d, p, y, v, h1, h2, h3, h4, h5, y1, y2, h6, h7, v1, v2, fun i hi => ?_, v4, v5⟩
  rw [nx _ (v1 i (by omega)).1]
  exact v3 i hi
theorem f_asc (o : mOk u T W z) (q : pQ u T M (τ + 1) τ L) {k : Nat} (hk : k + 1 < z) : u.2 3 (15 * k) ≤ u.2 3 (15 * (k + 1)) := (q.rings o).2.1.2 k hk
theorem f_ord (o : mOk u T W z) (q : pQ u T M (τ + 1) τ L) {k : Nat} (hk : k + 1 < W) : pLe (u.2 2) (14 * k) (14 * (k + 1)) := (q.rings o).1.2 k hk
/-- the note k sounds at its tick -/
theorem f_snd (o : mOk u T W z) (q : pQ u T M (τ + 1) τ L) {k : Nat} (hk : k < z) : mSnd u k (u.2 3 (15 * k)) := by
  obtain ⟨x, d, p, y, v, h1, h2, h3, h4, h5, -⟩ := f_note o q hk
  refine ⟨Int32.le_refl _, ?_⟩
  rw [Int32.sub_self, h5]
  exact nI_lt (a := 0) (by omega) (by omega)
theorem snM_pos {u : MS} {x : Int32} {k : Nat} (h : mSnd u k x) : ∀ n, k < n → 1 ≤ mSnM u x n
  | 0, hk => absurd hk (Nat.not_lt_zero _)
  | n + 1, hk => by
    unfold mSnM
    by_cases c : mSnd u n x
    · rw [if_pos c]
      omega
    · rw [if_neg c]
      have hne : k ≠ n := fun z9 => c (z9 ▸ h)
      exact snM_pos h n (by omega)
theorem snG_ge {u : MS} {x : Int32} {k : Nat} (h : mSnd u k x) : ∀ n, k < n → u.2 3 (15 * k + 2) ≤ mSnG u x n
  | 0, hk => absurd hk (Nat.not_lt_zero _)
  | n + 1, hk => by
    unfold mSnG
    by_cases c : mSnd u n x
    · rw [if_pos c]
      by_cases d : mSnG u x n < u.2 3 (15 * n + 2)
      · rw [if_pos d]
        by_cases e : k = n
        · subst e
          exact Int32.le_refl _
        · exact Int32.le_trans (snG_ge h n (by omega)) (Int32.le_of_lt d)
      · rw [if_neg d]
        by_cases e : k = n
        · subst e
          exact Int32.not_lt.mp d
        · exact snG_ge h n (by omega)
    · rw [if_neg c]
      have hne : k ≠ n := fun z9 => c (z9 ▸ h)
      exact snG_ge h n (by omega)
theorem snL_le {u : MS} {x : Int32} {k : Nat} (h : mSnd u k x) : ∀ n, k < n → mSnL u x n ≤ u.2 3 (15 * k + 2)
  | 0, hk => absurd hk (Nat.not_lt_zero _)
  | n + 1, hk => by
    unfold mSnL
    by_cases c : mSnd u n x
    · rw [if_pos c]
      by_cases m0 : mSnM u x n = 0
      · rw [if_pos m0]
        by_cases e : k = n
        · subst e
          exact Int32.le_refl _
        · have := snM_pos h n (by omega)
          omega
      · rw [if_neg m0]
        by_cases d : u.2 3 (15 * n + 2) < mSnL u x n
        · rw [if_pos d]
          by_cases e : k = n
          · subst e
            exact Int32.le_refl _
          · exact Int32.le_trans (Int32.le_of_lt d) (snL_le h n (by omega))
        · rw [if_neg d]
          by_cases e : k = n
          · subst e
            exact Int32.not_lt.mp d
          · exact snL_le h n (by omega)
    · rw [if_neg c]
      have hne : k ≠ n := fun z9 => c (z9 ▸ h)
      exact snL_le h n (by omega)
theorem f_best (o : mOk u T W z) (q : pQ u T M (τ + 1) τ L) (hτ : τ < 1000000) : ∀ n, n ≤ z → 0 < n → (∃ x, x ≤ τ ∧ (mBestL u n).1 = nI x) ∧ (mBestL u n).2 = mHarA u (mBestL u n).1 z ∧ ∀ k, k < n → mHarA u (u.2 3 (15 * k)) z ≤ (mBestL u n).2
  | 0, _, h => absurd h (Nat.lt_irrefl _)
  | n + 1, hn, _ => by
    obtain ⟨x, d, p, y, v, h1, h2, -⟩ := f_note o q (show n < z by omega)
    unfold mBestL
    rw [o.kept]
    by_cases c : (0 < n ∧ u.2 3 (15 * n) = u.2 3 (15 * (n - 1))) ∨ ((mBestL u n).1 ≠ -1 ∧ mHarA u (u.2 3 (15 * n)) z ≤ (mBestL u n).2)
    · rw [if_pos c]
      have hn0 : 0 < n := by
        rcases c with ⟨c, -⟩ | ⟨c, -⟩
        · exact c
        · exact Nat.pos_of_ne_zero (fun z9 => c (by rw [z9]; rfl))
      obtain ⟨i1, i2, i3⟩ := f_best o q hτ n (by omega) hn0
      refine ⟨i1, i2, fun k hk => ?_⟩
      by_cases e : k = n
      · subst e
        rcases c with ⟨-, c⟩ | ⟨-, c⟩
        · rw [c]
          exact i3 _ (by omega)
        · exact c
      · exact i3 k (by omega)
    · rw [if_neg c]
      refine ⟨⟨x, h1, h2⟩, rfl, fun k hk => ?_⟩
      by_cases e : k = n
      · subst e
        exact Int32.le_refl _
      · obtain ⟨⟨x9, hx9, ex9⟩, i2, i3⟩ := f_best o q hτ n (by omega) (by omega)
        have hne : (mBestL u n).1 ≠ -1 := by
          rw [ex9]
          intro z9
          have h0 := nI_pos (n := x9) (by omega)
          rw [z9] at h0
          exact h0 (by decide)
        have h5 : ¬ mHarA u (u.2 3 (15 * n)) z ≤ (mBestL u n).2 := fun z9 => c (Or.inr ⟨hne, z9⟩)
        exact Int32.le_trans (i3 k (by omega)) (Int32.le_of_lt (Int32.not_le.mp h5))
end PFacts
