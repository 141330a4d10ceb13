/-- the rows of rings behind an insertion -/
theorem mIns_eq {R D : Nat → Int32} {W K p : Nat} {to d s : Int32} (hK : K ≤ W) (hp : p ≤ 7) : (∀ k i, k < K → i < 14 → mIns R D W K p to d s (14 * k + i) = R (14 * k + i)) ∧ (∀ k i, K ≤ k → k < W → i < 14 → mIns R D W K p to d s (14 * (k + 1) + i) = R (14 * k + i)) ∧
    mIns R D W K p to d s (14 * K) = D 0 + d ∧ mIns R D W K p to d s (14 * K + 1) = to ∧ mIns R D W K p to d s (14 * K + 2) = D 1 ∧ mIns R D W K p to d s (14 * K + 3) = D 3 + s ∧ mIns R D W K p to d s (14 * K + 4) = nI (p + 1) ∧
    (∀ i, i ≤ p → mIns R D W K p to d s (14 * K + 5 + i) = D (5 + i)) ∧ mIns R D W K p to d s (14 * K + 5 + (p + 1)) = to := by
  refine ⟨fun k i hk hi => ?_, fun k i hk hk2 hi => ?_, ?_, ?_, ?_, ?_, ?_, fun i hi => ?_, ?_⟩ <;> unfold mIns
  · rw [pk_un (by omega), pk_un (by omega), pk_un (by omega), pk_un (by omega), pk_un (by omega), pk_un (by omega), pk_cpy_out (by omega), pk_cpy_out (by omega)]
  · rw [pk_un (by omega), pk_un (by omega), pk_un (by omega), pk_un (by omega), pk_un (by omega), pk_un (by omega), pk_cpy_out (by omega), pk_cpy_in (by omega) (by omega), show 14 * K + (14 * (k + 1) + i - 14 * (K + 1)) = 14 * k + i by omega]
  · rw [pk_un (by omega), pk_un (by omega), pk_un (by omega), pk_un (by omega), pk_un (by omega), pk_us]
  · rw [pk_un (by omega), pk_un (by omega), pk_un (by omega), pk_un (by omega), pk_us]
  · rw [pk_un (by omega), pk_un (by omega), pk_un (by omega), pk_us]
  · rw [pk_un (by omega), pk_un (by omega), pk_us]
  · rw [pk_un (by omega), pk_us]
  · rw [pk_un (by omega), pk_un (by omega), pk_un (by omega), pk_un (by omega), pk_un (by omega), pk_un (by omega), pk_cpy_in (by omega) (by omega), show 0 + (14 * K + 5 + i - 14 * K) = 5 + i by omega]
  · rw [show 14 * K + 5 + (p + 1) = 14 * K + 5 + p + 1 by omega, pk_us]
theorem mOkR.hand {D : Nat → Int32} {T : Nat} (o : mOkR D 0 T) : ∃ p, p ≤ 8 ∧ D 4 = nI p ∧ ∀ i, i ≤ p → ∃ w, w < 16 ∧ D (5 + i) = nI w := by
  obtain ⟨-, p, h1, h2, h3⟩ := o
  refine ⟨p, h1, h2, fun i hi => ?_⟩
  have := h3 i hi
  rw [Nat.zero_add] at this
  exact this
theorem mWait_ok {u : MS} {T W z p to : Nat} {d : Int32} (s : Int32) (o : mOk u T W z) (hd : mOkR (u.2 4) 0 T) (hto : to < T) (ep : u.2 4 4 = nI p) (hp : p ≤ 7) (hdue : u.2 4 0 + d ≠ u.1 1) :
    ∃ W', mOk (mWait u (nI to) d s) T W' z ∧ mDue ((mWait u (nI to) d s).2 2) (u.1 1) W' = mDue (u.2 2) (u.1 1) W := by
  obtain ⟨a1, a2, a3, a4, a5, a6, a7, a8, a9, a10⟩ := o
  unfold mWait
  by_cases c : u.1 6 = nI 60
  · rw [if_pos c]
    exact ⟨W, ⟨a1, a2, a3, a4, a5, a6, a7, a8, a9, a10⟩, rfl⟩
  · rw [if_neg c, a3, mCl (by omega), ep, mCl (by omega)]
    have hW : W ≠ 60 := fun e => c (by rw [a3, e])
    obtain ⟨K, eK⟩ : ∃ K, K = mPos (u.2 2) (u.2 4 0 + d) (nI to) W := ⟨_, rfl⟩
    have hK : K ≤ W := by rw [eK]; exact mPos_le _ _ _ _
    rw [← eK]
    obtain ⟨b1, b2, b3, b4, b5, b6, b7, b8, b9⟩ := mIns_eq (R := u.2 2) (D := u.2 4) (W := W) (K := K) (p := p) (to := nI to) (d := d) (s := s) hK hp
    refine ⟨W + 1, ⟨a1, a2, rfl, by omega, a5, a6, a7, a8, fun k hk => ?_, a10⟩, ?_⟩
    · show mOkR (mIns (u.2 2) (u.2 4) W K p (nI to) d s) (14 * k) T
      rcases Nat.lt_trichotomy k K with h | h | h
      · exact mOkR.cg (fun i hi => b1 k i h hi) (a9 k (by omega))
      · subst h
        obtain ⟨p', q1, q2, q3⟩ := hd.hand
        have : p' = p := (nI_eq (by omega) (by omega)).mp (q2.symm.trans ep)
        subst this
        refine ⟨⟨to, hto, b4⟩, p' + 1, by omega, b7, fun i hi => ?_⟩
        by_cases e : i = p' + 1
        · subst e
          exact ⟨to, by omega, b9⟩
        · obtain ⟨w, w1, w2⟩ := q3 i (by omega)
          exact ⟨w, w1, (b8 i (by omega)).trans w2⟩
      · obtain ⟨j, rfl⟩ : ∃ j, k = j + 1 := ⟨k - 1, by omega⟩
        exact mOkR.cg (fun i hi => b2 j i (by omega) (by omega) hi) (a9 j (by omega))
    · show mDue (mIns (u.2 2) (u.2 4) W K p (nI to) d s) (u.1 1) (W + 1) = _
      exact mDue_ins W hK (fun k hk => b1 k 0 hk (by omega)) (by rw [b3]; exact hdue) (fun k h1 h2 => b2 k 0 h1 h2 (by omega))
theorem mFol1_ok {u : MS} {T W z a : Nat} (o : mOk u T W z) : mOk (mFol1 u (9 * a)) T W z := by
  refine o.tab rfl rfl rfl rfl (fun t ht ot => ?_) rfl rfl
  refine mOkT.cg rfl rfl rfl (fun j hj oh => ?_) ot
  exact mOkH.cg (pk_un (by omega)) (pk_un (by omega)) (pk_un (by omega)) oh
theorem mFol2_ok {u : MS} {T W z a t : Nat} (o : mOk u T W z) (hd : mOkR (u.2 4) 0 T) : ∃ z', z ≤ z' ∧ mOk (mFol2 u (9 * a) t) T W z' := by
  unfold mFol2
  split
  · exact mSing_ok _ (mFol1_ok o) hd
  · exact ⟨z, Nat.le_refl _, mFol1_ok o⟩
theorem mFol2_keep2 (u : MS) (J t : Nat) : (mFol2 u J t).1 1 = u.1 1 ∧ (mFol2 u J t).2 2 = u.2 2 := by
  unfold mFol2 mSing mSing0
  split
  · split <;> exact ⟨rfl, rfl⟩
  · exact ⟨rfl, rfl⟩
theorem mWait_keep2 (u : MS) (to d s : Int32) : (mWait u to d s).1 1 = u.1 1 := by
  unfold mWait
  split <;> rfl
theorem mFolL_ok {H : Nat → Int32} {J t T z p : Nat} (hp : p ≤ 7) : ∀ r to u W, to + r ≤ T → mOk u T W z → mOkR (u.2 4) 0 T → u.2 4 4 = nI p → u.2 4 0 + H (J + 6) ≠ u.1 1 →
    ∃ W', mOk (mFolL H J t r to u) T W' z ∧ mDue ((mFolL H J t r to u).2 2) (u.1 1) W' = mDue (u.2 2) (u.1 1) W ∧ (mFolL H J t r to u).1 1 = u.1 1 ∧ (mFolL H J t r to u).2 4 = u.2 4
  | 0, to, u, W, _, o, _, _, _ => ⟨W, o, rfl, rfl, rfl⟩
  | r + 1, to, u, W, hr, o, hd, ep, hdue => by
    unfold mFolL
    by_cases c : mMeant H J t to
    · rw [if_pos c]
      obtain ⟨W1, o1, d1⟩ := mWait_ok (to := to) (H (J + 7)) o hd (by omega) ep hp hdue
      have k1 := mWait_keep u (nI to) (H (J + 6)) (H (J + 7))
      have k2 := mWait_keep2 u (nI to) (H (J + 6)) (H (J + 7))
      obtain ⟨W', o2, d2, e2, f2⟩ := mFolL_ok (J := J) (t := t) (H := H) (T := T) hp r (to + 1) (mWait u (nI to) (H (J + 6)) (H (J + 7))) W1 (by omega) o1 (by rw [k1.2.2.1]; exact hd) (by rw [k1.2.2.1]; exact ep) (by rw [k1.2.2.1, k2]; exact hdue)
      exact ⟨W', o2, by rw [k2] at d2; rw [d2, d1], by rw [e2, k2], by rw [f2, k1.2.2.1]⟩
    · rw [if_neg c]
      exact mFolL_ok hp r (to + 1) u W (by omega) o hd ep hdue
theorem mFollow_ok {u : MS} {T W z a t : Nat} (o : mOk u T W z) (hd : mOkR (u.2 4) 0 T) (hdue : u.2 4 0 + u.2 1 (9 * a + 6) ≠ u.1 1) :
    ∃ W' z', z ≤ z' ∧ mOk (mFollow u (9 * a) t T) T W' z' ∧ mDue ((mFollow u (9 * a) t T).2 2) (u.1 1) W' = mDue (u.2 2) (u.1 1) W ∧ (mFollow u (9 * a) t T).1 1 = u.1 1 ∧ (mFollow u (9 * a) t T).2 4 = u.2 4 := by
  obtain ⟨z', hz, o2⟩ := mFol2_ok (t := t) (a := a) o hd
  obtain ⟨k3, k6, k4, k1⟩ := mFol2_keep u (9 * a) t
  obtain ⟨k7, k8⟩ := mFol2_keep2 u (9 * a) t
  unfold mFollow
  by_cases c : u.2 1 (9 * a + 4) < nI 2 ∨ u.2 4 4 = nI 8
  · rw [if_pos c]
    exact ⟨W, z', hz, o2, by rw [k8], k7, k4⟩
  · rw [if_neg c]
    obtain ⟨p, p1, p2, p3⟩ := hd.hand
    have hp : p ≠ 8 := fun e => c (Or.inr (p2.trans (congrArg nI e)))
    obtain ⟨W', o3, d3, e3, f3⟩ := mFolL_ok (H := (mFol1 u (9 * a) |>.2 1)) (J := 9 * a) (t := t) (z := z') (p := p) (by omega) T 0 (mFol2 u (9 * a) t) W (by omega) o2 (by rw [k4]; exact hd) (by rw [k4]; exact p2) (by rw [k4, k7, mFol1_at (by omega)]; exact hdue)
    exact ⟨W', z', hz, o3, by rw [k7] at d3; rw [d3, k8], by rw [e3, k7], by rw [f3, k4]⟩
theorem nI_addne {x : Int32} {d : Nat} (h0 : 0 < d) (h1 : d < 100) : x + nI d ≠ x := by
  intro e
  have : nI d = 0 := by
    have := congrArg (fun y => y - x) e
    simp only [Int32.add_comm x (nI d), Int32.add_sub_cancel, Int32.sub_self] at this
    exact this
  exact absurd ((nI_eq (a := d) (b := 0) (by omega) (by omega)).mp this) (by omega)
theorem mHearA_ok {u : MS} {T W z t : Nat} (o : mOk u T W z) : mOk (mHearA u t) T W z := by
  refine o.tab rfl rfl rfl rfl (fun t' ht ot => ?_) rfl rfl
  refine mOkT.cg ?_ ?_ ?_ (fun j hj oh => oh) ot <;>
  · show upd (upd (u.2 0) (7 * t + 6) (u.1 1)) (7 * t + 4) _ _ = _
    rw [pk_un (by omega), pk_un (by omega)]
theorem mTire_ok {u : MS} {T W z t : Nat} (o : mOk u T W z) (ht : t < T) : mOk (mTire u t) T W z := by
  have ot0 := o.2.2.2.2.2.2.2.1 t ht
  refine o.tab rfl rfl rfl rfl (fun t' ht' ot => ?_) rfl rfl
  by_cases e : t' = t
  · subst e
    obtain ⟨m, m1, m2, ⟨p, p1, p2⟩, ⟨g, g1, g2⟩, le, r⟩ := ot
    rw [p2, g2] at le
    have le := (nI_leI (by omega) (by omega)).mp le
    have key : ∃ q, q ≤ p ∧ (mTire u t').2 0 (7 * t' + 2) = nI q := by
      rcases Nat.eq_zero_or_pos p with h | h
      · refine ⟨0, by omega, ?_⟩
        show upd (u.2 0) (7 * t' + 2) _ (7 * t' + 2) = _
        rw [pk_us, p2, h]
        decide
      · obtain ⟨q, rfl⟩ : ∃ q, p = q + 1 := ⟨p - 1, by omega⟩
        refine ⟨q, by omega, ?_⟩
        show upd (u.2 0) (7 * t' + 2) _ (7 * t' + 2) = _
        rw [pk_us, p2, nI_m1]
        rcases Nat.eq_zero_or_pos q with h0 | h0
        · subst h0; decide
        · rw [if_pos ((nI_ltI (by omega) (by omega)).mpr h0)]
    obtain ⟨q, q1, q2⟩ := key
    have eg : (mTire u t').2 0 (7 * t' + 1) = nI g := (pk_un (by omega)).trans g2
    exact ⟨m, m1, (pk_un (by omega)).trans m2, ⟨q, by omega, q2⟩, ⟨g, g1, eg⟩, by rw [q2, eg]; exact (nI_leI (by omega) (by omega)).mpr (by omega), r⟩
  · exact mOkT.cg (pk_un (by omega)) (pk_un (by omega)) (pk_un (by omega)) (fun j hj oh => oh) ot
theorem mHearS_of {u : MS} {T W z t : Nat} (o : mOk u T W z) (ht : t < T) (h : ¬ mHearS u t = -1) : ∃ m i, m ≤ 8 ∧ u.2 0 (7 * t + 3) = nI m ∧ i < m ∧ mHearS u t = nI i := by
  obtain ⟨m, m1, m2, -⟩ := o.2.2.2.2.2.2.2.1 t ht
  rcases mFit_or (mHearA u t) t (if u.2 4 2 = -1 then nI 0 else nI 1) (mHour u) with e | ⟨i, hi, e⟩
  · exact absurd e h
  · refine ⟨m, i, m1, m2, ?_, e⟩
    rw [mMany_of m1] at hi
    · exact hi
    · show upd (upd (u.2 0) (7 * t + 6) (u.1 1)) (7 * t + 4) _ (7 * t + 3) = nI m
      rw [pk_un (by omega), pk_un (by omega)]
      exact m2
theorem mHear_ok {u : MS} {T W z t : Nat} (o : mOk u T W z) (hd : mOkR (u.2 4) 0 T) (ht : t < T) (h0 : u.2 4 0 = u.1 1) :
    ∃ W' z', z ≤ z' ∧ mOk (mHear u t T).1 T W' z' ∧ mDue ((mHear u t T).1.2 2) (u.1 1) W' = mDue (u.2 2) (u.1 1) W ∧ (mHear u t T).1.1 1 = u.1 1 ∧ (mHear u t T).1.2 4 = u.2 4 := by
  unfold mHear
  by_cases c : u.2 0 (7 * t + 6) = u.1 1
  · rw [if_pos c]
    exact ⟨W, z, Nat.le_refl _, o, rfl, rfl, rfl⟩
  · rw [if_neg c]
    have oA := mHearA_ok (t := t) o
    by_cases cs : mHearS u t = -1
    · have eB : mHearB u t T = mHearA u t := by unfold mHearB; rw [if_pos cs]
      rw [eB]
      exact ⟨W, z, Nat.le_refl _, mTire_ok oA ht, rfl, rfl, rfl⟩
    · obtain ⟨m, i, m1, m2, hi, eS⟩ := mHearS_of o ht cs
      have eB : mHearB u t T = mFollow (mHearA u t) (9 * (8 * t + i)) t T := by unfold mHearB; rw [if_neg cs, eS, mCl (by omega)]
      rw [eB]
      have oT := oA.2.2.2.2.2.2.2.1 t ht
      obtain ⟨m', m9, e', -, -, -, hh⟩ := oT
      have : m' = m := by
        have e'' : upd (upd (u.2 0) (7 * t + 6) (u.1 1)) (7 * t + 4) (upd (u.2 0) (7 * t + 6) (u.1 1) (7 * t + 4) + nI 1) (7 * t + 3) = nI m' := e'
        rw [pk_un (by omega), pk_un (by omega), m2] at e''
        exact ((nI_eq (by omega) (by omega)).mp e'').symm
      subst this
      obtain ⟨-, -, dd, d0, d1, d2⟩ := hh i hi
      obtain ⟨W', z', hz, o2, q1, q2, q3⟩ := mFollow_ok (t := t) oA hd (by rw [d2]; show u.2 4 0 + nI dd ≠ u.1 1; rw [h0]; exact nI_addne d0 d1)
      exact ⟨W', z', hz, mTire_ok o2 ht, q1, q2, q3⟩

