/-! rings, notes and ways: kept by each ring and each tick -/
def pQ (u : MS) (T : Nat) (M : Nat → Int32) (lo τ L : Nat) : Prop := ∃ W z, u.1 6 = nI W ∧ W ≤ 60 ∧ pRs M T lo τ (u.2 2) W ∧ u.1 12 = nI z ∧ z ≤ 200 ∧ pNs M T τ (u.2 3) z ∧ (∀ x, x < T → mNext u T x = M x) ∧ u.1 1 = nI τ ∧ u.1 9 = nI L
theorem pQ.cg {u v : MS} {T lo τ L : Nat} {M : Nat → Int32} (q : pQ u T M lo τ L) (f : ∀ i, i = 1 ∨ i = 6 ∨ i = 9 ∨ i = 12 → v.1 i = u.1 i) (h2 : v.2 2 = u.2 2) (h3 : v.2 3 = u.2 3) (hA : ∀ x, x < T → v.2 0 (7 * x + 3) = u.2 0 (7 * x + 3)) (hH : ∀ i, v.2 1 (9 * i + 4) = u.2 1 (9 * i + 4) ∧ v.2 1 (9 * i + 5) = u.2 1 (9 * i + 5)) : pQ v T M lo τ L := by
  obtain ⟨W, z, e6, hW, rs, ez, hz, ns, nx, e1, e9⟩ := q
  exact ⟨W, z, (f 6 (by omega)).trans e6, hW, by rw [h2]; exact rs, (f 12 (by omega)).trans ez, hz, by rw [h3]; exact ns, fun x hx => (mNext_cg (hA x hx) hH).trans (nx x hx), (f 1 (by omega)).trans e1, (f 9 (by omega)).trans e9⟩
theorem mSing_f (u : MS) (t : Nat) (l : Int32) : (∀ i, i ≠ 10 → i ≠ 12 → (mSing u t l).1 i = u.1 i) ∧ (∀ j, j ≠ 0 → j ≠ 3 → (mSing u t l).2 j = u.2 j) ∧ ∀ x, x ≠ 7 * t + 5 → (mSing u t l).2 0 x = u.2 0 x := by
  unfold mSing
  split
  · exact ⟨fun i a _ => pk_un a, fun j a _ => va_up_ne _ _ a, fun x a => pk_un a⟩
  · exact ⟨fun i a b => (pk_un b).trans (pk_un a), fun j a b => (va_up_ne _ _ b).trans (va_up_ne _ _ a), fun x a => pk_un a⟩
theorem mFollow_q {u : MS} {T W z lo τ t i p L : Nat} {M : Nat → Int32} (o : mOk u T W z) (hτ : τ < 1000000) (hlo : lo ≤ τ + 1) (q : pQ u T M lo τ L) (hd : pHnd M T τ (u.2 4) t p) (hi : i < mMany u t) : ∃ L', L ≤ L' ∧ L' ≤ L + T ∧ pQ (mFollow u (9 * (8 * t + i)) t T) T M lo τ L' := by
  have hT := o.2.1
  have ht := hd.2.2.1
  obtain ⟨m, m1, m2, -, -, -, hh⟩ := o.2.2.2.2.2.2.2.1 t ht
  have em := mMany_of m1 m2
  obtain ⟨-, -, d, d0, d1, ed⟩ := hh i (by omega)
  have q1 : pQ (mFol1 u (9 * (8 * t + i))) T M lo τ L := q.cg (fun _ _ => rfl) rfl rfl (fun _ _ => rfl) (fun j => ⟨pk_un (by omega), pk_un (by omega)⟩)
  have nx0 : mNext u T t = M t := by
    obtain ⟨W1, z1, -, -, -, -, -, -, nx, -⟩ := q
    exact nx t ht
  have q2 : pQ (mFol2 u (9 * (8 * t + i)) t) T M lo τ L := by
    unfold mFol2
    split
    · obtain ⟨W1, z1, e6, hW, rs, ez, hz, ns, nx, e1, e9⟩ := q1
      rw [ed]
      obtain ⟨z2, f1, f2, f3⟩ := pNs_sing (u := mFol1 u (9 * (8 * t + i))) ez hz e1 hτ ns hd d0 d1
      obtain ⟨s1, s2, s3⟩ := mSing_f (mFol1 u (9 * (8 * t + i))) t (nI d)
      refine ⟨W1, z2, (s1 6 (by omega) (by omega)).trans e6, hW, by rw [s2 2 (by omega) (by omega)]; exact rs, f1, f2, f3, fun x hx => (mNext_cg (s3 _ (by omega)) (fun j => ?_)).trans (nx x hx), (s1 1 (by omega) (by omega)).trans e1, (s1 9 (by omega) (by omega)).trans e9⟩
      rw [s2 1 (by omega) (by omega)]
      exact ⟨rfl, rfl⟩
    · exact q1
  unfold mFollow
  by_cases c : u.2 1 (9 * (8 * t + i) + 4) < nI 2 ∨ u.2 4 4 = nI 8
  · rw [if_pos c]
    exact ⟨L, Nat.le_refl _, by omega, q2⟩
  · rw [if_neg c]
    have hp : p ≤ 7 := by
      have h8 := hd.2.2.2.1
      have n8 : p ≠ 8 := fun e => c (Or.inr (by rw [hd.2.2.2.2.1, e]))
      omega
    obtain ⟨k3, k6, k4, k1⟩ := mFol2_keep u (9 * (8 * t + i)) t
    obtain ⟨W1, z1, e6, hW, rs, ez, hz, ns, nx, e1, e9⟩ := q2
    have e4 : (mFol1 u (9 * (8 * t + i))).2 1 (9 * (8 * t + i) + 4) = u.2 1 (9 * (8 * t + i) + 4) := pk_un (by omega)
    have e5 : (mFol1 u (9 * (8 * t + i))).2 1 (9 * (8 * t + i) + 5) = u.2 1 (9 * (8 * t + i) + 5) := pk_un (by omega)
    have e6h : (mFol1 u (9 * (8 * t + i))).2 1 (9 * (8 * t + i) + 6) = nI d := (pk_un (by omega)).trans ed
    have hm : ∀ x, x < T → mMeant ((mFol1 u (9 * (8 * t + i))).2 1) (9 * (8 * t + i)) t x → mIsIn (M t) x := fun x hx hm => by
      rw [← nx0]
      refine mMeant_M o ht hi hx (fun z9 => c (Or.inl z9)) ?_
      unfold mMeant at hm ⊢
      rw [e4, e5] at hm
      exact hm
    obtain ⟨W2, f6, fW, frs⟩ := mFolL_q (H := (mFol1 u (9 * (8 * t + i))).2 1) (J := 9 * (8 * t + i)) hT hlo e6h d0 d1 hp hm T 0 (mFol2 u (9 * (8 * t + i)) t) W1 (by omega) e6 hW rs (by rw [k4]; exact hd)
    obtain ⟨g1, g2, g3⟩ := mFolL_f (H := (mFol1 u (9 * (8 * t + i))).2 1) (J := 9 * (8 * t + i)) (t := t) T 0 (mFol2 u (9 * (8 * t + i)) t)
    obtain ⟨L', l1, l2, l3⟩ := g3 L e9
    refine ⟨L', l1, l2, W2, z1, f6, fW, frs, (g1 12 (by omega) (by omega)).trans ez, hz, by rw [g2 3 (by omega)]; exact ns, fun x hx => (mNext_cg (by rw [g2 0 (by omega)]) (fun j => ?_)).trans (nx x hx), (g1 1 (by omega) (by omega)).trans e1, l3⟩
    rw [g2 1 (by omega)]
    exact ⟨rfl, rfl⟩
theorem mHear_q {u : MS} {T W z lo τ t p L : Nat} {M : Nat → Int32} (o : mOk u T W z) (hτ : τ < 1000000) (hlo : lo ≤ τ + 1) (q : pQ u T M lo τ L) (hd : pHnd M T τ (u.2 4) t p) : ∃ L', L ≤ L' ∧ L' ≤ L + 17 ∧ (u.2 0 (7 * t + 6) = u.1 1 → L + 1 ≤ L') ∧ pQ (mHear u t T).1 T M lo τ L' := by
  have hT := o.2.1
  have ht := hd.2.2.1
  unfold mHear
  by_cases c : u.2 0 (7 * t + 6) = u.1 1
  · rw [if_pos c]
    refine ⟨L + 1, by omega, by omega, fun _ => Nat.le_refl _, ?_⟩
    obtain ⟨W1, z1, e6, hW, rs, ez, hz, ns, nx, e1, e9⟩ := q
    refine ⟨W1, z1, e6, hW, rs, ez, hz, ns, nx, e1, ?_⟩
    show upd u.1 9 (u.1 9 + nI 1) 9 = _
    rw [pk_us, e9]
    exact nI_1 L
  · rw [if_neg c]
    have qA : pQ (mHearA u t) T M lo τ L := q.cg (fun i hi => by rcases hi with rfl | rfl | rfl | rfl <;> rfl) rfl rfl (fun x hx => by
      show upd (upd (u.2 0) (7 * t + 6) (u.1 1)) (7 * t + 4) _ (7 * x + 3) = _
      rw [pk_un (by omega), pk_un (by omega)]) (fun _ => ⟨rfl, rfl⟩)
    have tire : ∀ v L9, pQ v T M lo τ L9 → pQ (mTire v t) T M lo τ L9 := fun v L9 hv => hv.cg (fun _ _ => rfl) rfl rfl (fun x hx => pk_un (by omega)) (fun _ => ⟨rfl, rfl⟩)
    by_cases cs : mHearS u t = -1
    · have eB : mHearB u t T = mHearA u t := by unfold mHearB; rw [if_pos cs]
      rw [eB]
      exact ⟨L, Nat.le_refl _, by omega, fun z9 => absurd z9 c, tire _ _ qA⟩
    · obtain ⟨m, i, m1, m2, hi, eS⟩ := mHearS_of o ht cs
      have eB : mHearB u t T = mFollow (mHearA u t) (9 * (8 * t + i)) t T := by unfold mHearB; rw [if_neg cs, eS, mCl (by omega)]
      rw [eB]
      have em : mMany (mHearA u t) t = m := mMany_of m1 (by
        show upd (upd (u.2 0) (7 * t + 6) (u.1 1)) (7 * t + 4) _ (7 * t + 3) = _
        rw [pk_un (by omega), pk_un (by omega)]
        exact m2)
      obtain ⟨L', l1, l2, q'⟩ := mFollow_q (u := mHearA u t) (mHearA_ok o) hτ hlo qA hd (show i < mMany (mHearA u t) t by omega)
      exact ⟨L', l1, by omega, fun z9 => absurd z9 c, tire _ _ q'⟩
theorem mTake_q {x : MS} {T lo τ L V : Nat} {M : Nat → Int32} (hτ : τ < 1000000) (q : pQ x T M lo τ L) (e6 : x.1 6 = nI (V + 1)) (hV : V + 1 ≤ 60) (ef : x.2 2 0 = x.1 1) : pQ (mTake x) T M lo τ L ∧ ∃ t p, x.2 2 1 = nI t ∧ pHnd M T τ ((mTake x).2 4) t p := by
  obtain ⟨W, z, g6, hW, rs, ez, hz, ns, nx, e1, e9⟩ := q
  have eW : W = V + 1 := (nI_eq (by omega) (by omega)).mp (g6.symm.trans e6)
  subst eW
  have eV : (x.1 6).toNatClampNeg - 1 = V := by rw [e6, mCl (by omega)]; rfl
  have hr : ∀ k i, k < V → i < 14 → (mTake x).2 2 (14 * k + i) = x.2 2 (14 * (k + 1) + i) := fun k i hk hi => by
    show va_cpy (x.2 2) (x.2 2) 14 0 (14 * ((x.1 6).toNatClampNeg - 1)) (14 * k + i) = _
    rw [eV, pk_cpy_in (by omega) (by omega), show 14 + (14 * k + i - 0) = 14 * (k + 1) + i by omega]
  have hh : ∀ i, i < 14 → (mTake x).2 4 i = x.2 2 i := fun i hi => by
    show va_cpy (x.2 2) (x.2 4) 0 0 14 i = _
    rw [pk_cpy_in (by omega) (by omega), show 0 + (i - 0) = i by omega]
  refine ⟨⟨V, z, ?_, by omega, ⟨fun k hk => (rs.1 (k + 1) (by omega)).cg (fun i hi => hr k i hk hi), fun k hk => (rs.2 (k + 1) (by omega)).cg (hr k 0 (by omega) (by omega)) (hr k 1 (by omega) (by omega)) (hr (k + 1) 0 (by omega) (by omega)) (hr (k + 1) 1 (by omega) (by omega))⟩, ez, hz, ns, nx, e1, e9⟩, ?_⟩
  · show nI ((x.1 6).toNatClampNeg - 1) = nI V
    rw [eV]
  · obtain ⟨r, p, h1, h2, h3, h4, h5, h6, h7⟩ := rs.1 0 (by omega)
    have hw := h7
    obtain ⟨v, v1, v2, -⟩ := hw
    have d0 : (mTake x).2 4 0 = nI τ := (hh 0 (by omega)).trans (ef.trans e1)
    have d1 : (mTake x).2 4 1 = nI (v p) := (hh 1 (by omega)).trans v2
    refine ⟨v p, p, v2, d0, d1, (v1 p (Nat.le_refl p)).1, h5, (hh 4 (by omega)).trans h6, h7.cg (hh 1 (by omega)) (hh 2 (by omega)) (fun i hi => ?_)⟩
    have := hh (5 + i) (by omega)
    rw [this]
theorem pRs_later {M R : Nat → Int32} {T τ W : Nat} (hτ : τ < 1000000) (q : pRs M T τ τ R W) (hf : W = 0 ∨ R 0 ≠ nI τ) : pRs M T (τ + 1) τ R W := by
  have key : ∀ k, k < W → nI τ < R (14 * k) := by
    intro k
    induction k with
    | zero =>
      intro hk
      obtain ⟨r, p, h1, h2, h3, -⟩ := q.1 0 hk
      rcases hf with e | e
      · omega
      · have hr : r ≠ τ := fun z9 => e (by rw [← z9]; exact h3)
        rw [h3]
        exact nI_lt (by omega) (by omega)
    | succ k ih =>
      intro hk
      have a := ih (by omega)
      rcases q.2 k hk with z9 | ⟨z9, -⟩
      · exact Int32.lt_trans a z9
      · rw [← z9]
        exact a
  refine ⟨fun k hk => ?_, q.2⟩
  obtain ⟨r, p, h1, h2, h3, h4⟩ := q.1 k hk
  have h5 := key k hk
  rw [h3] at h5
  have := (nI_ltI (by omega) (by omega)).mp h5
  exact ⟨r, p, by omega, h2, h3, h4⟩
theorem pQ.later {u : MS} {T τ L W : Nat} {M : Nat → Int32} (hτ : τ < 1000000) (q : pQ u T M τ τ L) (e6 : u.1 6 = nI W) (hW : W ≤ 60) (hf : W = 0 ∨ u.2 2 0 ≠ u.1 1) : pQ u T M (τ + 1) τ L := by
  obtain ⟨W1, z, g6, hW1, rs, ez, hz, ns, nx, e1, e9⟩ := q
  have eW : W1 = W := (nI_eq (by omega) (by omega)).mp (g6.symm.trans e6)
  subst eW
  exact ⟨W1, z, g6, hW1, pRs_later hτ rs (hf.elim Or.inl (fun h => Or.inr (fun z9 => h (z9.trans e1.symm)))), ez, hz, ns, nx, e1, e9⟩
theorem mDrainL_q {T τ : Nat} {M : Nat → Int32} (hτ : τ < 1000000) : ∀ f x W z L, mOk x T W z → mDue (x.2 2) (x.1 1) W ≤ f → pQ x T M τ τ L → ∃ L', L ≤ L' ∧ L' ≤ L + 17 * f ∧ pQ (mDrainL f x) T M (τ + 1) τ L'
  | 0, x, W, z, L, o, hdue, q => by
    have hf : W = 0 ∨ x.2 2 0 ≠ x.1 1 := by
      by_cases c : W = 0
      · exact Or.inl c
      · obtain ⟨V, rfl⟩ : ∃ V, W = V + 1 := ⟨W - 1, by omega⟩
        exact Or.inr (fun z9 => by
          have := mDue0 (c := x.1 1) V z9
          omega)
    exact ⟨L, Nat.le_refl _, by omega, q.later hτ o.2.2.1 o.2.2.2.1 hf⟩
  | f + 1, x, W, z, L, o, hdue, q => by
    unfold mDrainL
    have hT := o.2.1
    by_cases c : x.1 6 ≠ nI 0 ∧ x.2 2 0 = x.1 1
    · rw [if_pos c]
      have hW : W ≠ 0 := fun e => c.1 (by rw [o.2.2.1, e])
      obtain ⟨V, rfl⟩ : ∃ V, W = V + 1 := ⟨W - 1, by omega⟩
      obtain ⟨o1, h1, h2, h3, h4⟩ := mTake_ok o
      obtain ⟨q1, t, p, et, hd⟩ := mTake_q hτ q o.2.2.1 o.2.2.2.1 c.2
      have ht := hd.2.2.1
      rw [et, mCl (by omega), o.1, mCl (by omega)]
      obtain ⟨W', z', hz, o2, m2, e2, -⟩ := mHear_ok o1 h1 ht (by rw [h2]; exact c.2)
      obtain ⟨L1, l1, l2, -, q2⟩ := mHear_q o1 hτ (by omega) q1 hd
      rw [if_pos c.2] at h4
      obtain ⟨L2, l3, l4, q3⟩ := mDrainL_q hτ f _ W' z' L1 o2 (by
        rw [e2, m2]
        show mDue ((mTake x).2 2) (x.1 1) V ≤ f
        omega) q2
      exact ⟨L2, by omega, by omega, q3⟩
    · rw [if_neg c]
      refine ⟨L, Nat.le_refl _, by omega, q.later hτ o.2.2.1 o.2.2.2.1 ?_⟩
      by_cases cw : W = 0
      · exact Or.inl cw
      · exact Or.inr (fun z9 => c ⟨fun z8 => cw ((nI_eq (by have := o.2.2.2.1; omega) (by omega)).mp (o.2.2.1.symm.trans z8)), z9⟩)
theorem mGrowL_f : ∀ r t u, (mGrowL r t u).1 = u.1 ∧ (∀ j, j ≠ 0 → (mGrowL r t u).2 j = u.2 j) ∧ ∀ x i, i < 7 → i ≠ 2 → (mGrowL r t u).2 0 (7 * x + i) = u.2 0 (7 * x + i)
  | 0, _, _ => ⟨rfl, fun _ _ => rfl, fun _ _ _ _ => rfl⟩
  | r + 1, t, u => by
    unfold mGrowL
    obtain ⟨a, b, c⟩ := mGrowL_f r (t + 1) (mGrow1 u t)
    exact ⟨a, fun j hj => (b j hj).trans (va_up_ne _ _ hj), fun x i hi h2 => (c x i hi h2).trans (pk_un (by omega))⟩
theorem mTick2_f (u : MS) : (mTick2 u).1 = u.1 ∧ (∀ j, j ≠ 0 → (mTick2 u).2 j = u.2 j) ∧ ∀ x i, i < 7 → i ≠ 2 → (mTick2 u).2 0 (7 * x + i) = u.2 0 (7 * x + i) := by
  unfold mTick2
  split
  · exact mGrowL_f _ _ _
  · exact ⟨rfl, fun _ _ => rfl, fun _ _ _ _ => rfl⟩
theorem mTick_q {u : MS} {T W z τ L : Nat} {M : Nat → Int32} (o : mOk u T W z) (hτ : τ < 999999) (q : pQ u T M (τ + 1) τ L) : ∃ L', L ≤ L' ∧ L' ≤ L + 1020 ∧ pQ (mTick u) T M (τ + 2) (τ + 1) L' := by
  have q1 : pQ (mTick1 u) T M (τ + 1) (τ + 1) L := by
    obtain ⟨W1, z1, g6, hW1, rs, ez, hz, ns, nx, e1, e9⟩ := q
    refine ⟨W1, z1, g6, hW1, ⟨fun k hk => ?_, rs.2⟩, ez, hz, ⟨fun n hn => ?_, ns.2⟩, nx, ?_, e9⟩
    · obtain ⟨r, p, h1, h2, h3⟩ := rs.1 k hk
      exact ⟨r, p, h1, by omega, h3⟩
    · obtain ⟨x, d, p, h1, h2⟩ := ns.1 n hn
      exact ⟨x, d, p, by omega, h2⟩
    · show upd u.1 1 (u.1 1 + nI 1) 1 = _
      rw [pk_us, e1]
      exact nI_1 τ
  obtain ⟨a, b, c⟩ := mTick2_f (mTick1 u)
  have q2 : pQ (mTick2 (mTick1 u)) T M (τ + 1) (τ + 1) L := q1.cg (fun i _ => by rw [a]) (b 2 (by omega)) (b 3 (by omega)) (fun x _ => c x 3 (by omega) (by omega)) (fun i => by rw [b 1 (by omega)]; exact ⟨rfl, rfl⟩)
  have o2 := mTick2_ok (mTick1_ok o)
  obtain ⟨L', l1, l2, q3⟩ := mDrainL_q (by omega) 60 _ W z L o2 (Nat.le_trans (mDue_le W) o.2.2.2.1) q2
  exact ⟨L', l1, l2, q3⟩
theorem mHd0_q {u : MS} {T lo τ L t : Nat} {M : Nat → Int32} (q : pQ u T M lo τ L) (ht : t < T) : pQ (mHd0 u (nI t)) T M lo τ L ∧ pHnd M T τ ((mHd0 u (nI t)).2 4) t 0 := by
  refine ⟨q.cg (fun i hi => by rcases hi with rfl | rfl | rfl | rfl <;> rfl) rfl rfl (fun _ _ => rfl) (fun _ => ⟨rfl, rfl⟩), ?_⟩
  obtain ⟨W1, z1, g6, hW1, rs, ez, hz, ns, nx, e1, e9⟩ := q
  refine ⟨e1, rfl, ht, by omega, rfl, fun _ => t, fun i hi => ⟨ht, ?_⟩, rfl, fun i hi => absurd hi (Nat.not_lt_zero i), fun _ => rfl, fun q9 e => absurd e (by omega)⟩
  have : i = 0 := by omega
  subst this
  rfl
