def mHd0 (u : MS) (p : Int32) : MS := sa (sg u 0 (nI 0)) 4 (upd (upd (upd (upd (upd (upd (u.2 4) 0 (u.1 1)) 1 p) 2 (-1)) 3 (nI 0)) 4 (nI 0)) 5 p)
def mRing (u : MS) (p : Int32) : MS × Int32 := if mTen u p then mHear (mHd0 u p) p.toNatClampNeg (u.1 3).toNatClampNeg else mErr u (nI 1)
theorem mHd0_ok {u : MS} {T W z t : Nat} (o : mOk u T W z) (ht : t < T) : mOk (mHd0 u (nI t)) T W z ∧ mOkR ((mHd0 u (nI t)).2 4) 0 T ∧ (mHd0 u (nI t)).2 4 0 = (mHd0 u (nI t)).1 1 := by
  have hT := o.2.1
  refine ⟨o.tab rfl rfl rfl rfl (fun _ _ ot => ot) rfl rfl, ⟨⟨t, ht, rfl⟩, 0, by omega, rfl, fun i hi => ⟨t, by omega, ?_⟩⟩, rfl⟩
  have : i = 0 := by omega
  subst this
  rfl
theorem mRing_ok {u : MS} {T W z : Nat} (o : mOk u T W z) (p : Int32) : ∃ W' z', mOk (mRing u p).1 T W' z' := by
  unfold mRing
  by_cases c : mTen u p
  · rw [if_pos c]
    obtain ⟨t, ht, rfl⟩ := mTen_of o.W c
    have hT := o.2.1
    rw [mCl (by omega), o.1, mCl (by omega)]
    obtain ⟨h1, h2, h3⟩ := mHd0_ok o ht
    obtain ⟨W', z', -, h, -⟩ := mHear_ok h1 h2 ht h3
    exact ⟨W', z', h⟩
  · rw [if_neg c]
    exact ⟨W, z, o.tab rfl rfl rfl rfl (fun _ _ ot => ot) rfl rfl⟩
theorem mC.le {u v : MS} {k n : Nat} (c : mC u v k n) : k ≤ 200 ∧ n ≤ 1200 := by
  obtain ⟨z, z', e1, e2, h1, h2, h3, h4⟩ := c
  omega
theorem mC.fr {u v w : MS} {k n : Nat} (h : mC u v k n) (e : w.1 12 = u.1 12) : mC w v k n := by
  obtain ⟨z, z', e1, e2, r⟩ := h
  exact ⟨z, z', e.trans e1, e2, r⟩

set_option maxRecDepth 100000 in
set_option maxHeartbeats 4000000 in
theorem c_ring (G : gG) (h : gH) (a : Nat → Nat) (u : MS) (T W z : Nat) (hM : mRep G h a u) (o : mOk u T W z) (p : Int32) : gMet yX7_ring wsX7_ring (gRm 5 1 6) G h [.ref (a 0), .int p] (mPo G h a (mStC (some (.int (mRing u p).2)) u (mRing u p).1)) := by
  refine gMet_of (maxL := 2) (ret := (some .int)) (by decide) rfl (Nat.le_of_ble_eq_true rfl) ?_
  intro X hG hnL hB hE
  subst hG
  change gW X h 0 0 0 [(0, .ref (a 0)), (1, .int p)] []
  have hF : mFr h h := mFr.rf
  have hw := o.W
  have hT := o.2.1
  refine gI_aload_n hB 0 dX7_ring_0 rfl ?_
  refine gI_iconst (v := nI 0) hB dX7_ring_1 (by decide) ?_
  refine gM_put hB hM hF 0 (sg u 0 (nI 0)) (by decide +kernel) (by decide) (by decide +kernel) rfl rfl rfl rfl rfl rfl dX7_ring_2 (fun h hM hF => ?_)
  refine gI_aload_n hB 0 dX7_ring_5 rfl ?_
  refine gI_iload_n hB 1 dX7_ring_6 rfl ?_
  refine gM_pure (n9 := 1) (As := [.int p]) (rest := []) hB hM (c_isTenant X.2.1 h a (sg u 0 (nI 0)) hM p) (gCW.of ggX7_ring_X7_isTenant rfl ⟨by decide, by decide, by decide +kernel⟩ ⟨Nat.le_of_ble_eq_true rfl, Nat.le_of_ble_eq_true rfl⟩) (by decide +kernel) (by decide +kernel) (by decide +kernel) (by decide +kernel) rfl rfl (Nat.le_of_ble_eq_true rfl) (by first | exact Nat.le_of_ble_eq_true rfl | (dsimp only [gRm]; omega)) (by first | exact Nat.le_of_ble_eq_true rfl | (dsimp only [gRm]; omega)) dX7_ring_7 ?_
  refine gI_topi hB (y := gbi (mTen u p)) rfl ?_
  refine gI_if_ne hB 19 dX7_ring_10 (by decide) (fun c10_1 => ?_) (fun c10_1 => ?_)
  · skip
    have c10_1 := gbi_n0 c10_1
    have hh := c10_1
    obtain ⟨t, ht, et⟩ := mTen_of hw c10_1
    subst et
    refine gI_aload_n hB 0 dX7_ring_19 rfl ?_
    refine gM_get hB hM 14 (v := .ref (a 5)) (by decide +kernel) (by decide) (by decide +kernel) rfl rfl dX7_ring_20 ?_
    refine gI_iconst (v := nI 0) hB dX7_ring_23 (by decide) ?_
    refine gI_aload_n hB 0 dX7_ring_24 rfl ?_
    refine gM_get hB hM 1 (v := .int (u.1 1)) (by decide +kernel) (by decide) (by decide +kernel) rfl rfl dX7_ring_25 ?_
    refine gM_ast hB hM hF 4 (by decide) 0 rfl (show 0 < 14 by omega) dX7_ring_28 (fun h hM hF => ?_)
    refine gI_aload_n hB 0 dX7_ring_29 rfl ?_
    refine gM_get hB hM 14 (v := .ref (a 5)) (by decide +kernel) (by decide) (by decide +kernel) rfl rfl dX7_ring_30 ?_
    refine gI_iconst (v := nI 1) hB dX7_ring_33 (by decide) ?_
    refine gI_iload_n hB 1 dX7_ring_34 rfl ?_
    refine gM_ast hB hM hF 4 (by decide) 1 rfl (show 1 < 14 by omega) dX7_ring_35 (fun h hM hF => ?_)
    refine gI_aload_n hB 0 dX7_ring_36 rfl ?_
    refine gM_get hB hM 14 (v := .ref (a 5)) (by decide +kernel) (by decide) (by decide +kernel) rfl rfl dX7_ring_37 ?_
    refine gI_iconst (v := nI 2) hB dX7_ring_40 (by decide) ?_
    refine gI_iconst (v := (-1)) hB dX7_ring_41 (by decide) ?_
    refine gM_ast hB hM hF 4 (by decide) 2 rfl (show 2 < 14 by omega) dX7_ring_42 (fun h hM hF => ?_)
    refine gI_aload_n hB 0 dX7_ring_43 rfl ?_
    refine gM_get hB hM 14 (v := .ref (a 5)) (by decide +kernel) (by decide) (by decide +kernel) rfl rfl dX7_ring_44 ?_
    refine gI_iconst (v := nI 3) hB dX7_ring_47 (by decide) ?_
    refine gI_iconst (v := nI 0) hB dX7_ring_48 (by decide) ?_
    refine gM_ast hB hM hF 4 (by decide) 3 rfl (show 3 < 14 by omega) dX7_ring_49 (fun h hM hF => ?_)
    refine gI_aload_n hB 0 dX7_ring_50 rfl ?_
    refine gM_get hB hM 14 (v := .ref (a 5)) (by decide +kernel) (by decide) (by decide +kernel) rfl rfl dX7_ring_51 ?_
    refine gI_iconst (v := nI 4) hB dX7_ring_54 (by decide) ?_
    refine gI_iconst (v := nI 0) hB dX7_ring_55 (by decide) ?_
    refine gM_ast hB hM hF 4 (by decide) 4 rfl (show 4 < 14 by omega) dX7_ring_56 (fun h hM hF => ?_)
    refine gI_aload_n hB 0 dX7_ring_57 rfl ?_
    refine gM_get hB hM 14 (v := .ref (a 5)) (by decide +kernel) (by decide) (by decide +kernel) rfl rfl dX7_ring_58 ?_
    refine gI_iconst (v := nI 5) hB dX7_ring_61 (by decide) ?_
    refine gI_iload_n hB 1 dX7_ring_62 rfl ?_
    refine gM_ast hB hM hF 4 (by decide) 5 rfl (show 5 < 14 by omega) dX7_ring_63 (fun h hM hF => ?_)
    have eu9 : (sa (sa (sa (sa (sa (sa (sg u 0 (nI 0)) 4 (upd (u.2 4) 0 (u.1 1))) 4 (upd (upd (u.2 4) 0 (u.1 1)) 1 (nI t))) 4 (upd (upd (upd (u.2 4) 0 (u.1 1)) 1 (nI t)) 2 (-1))) 4 (upd (upd (upd (upd (u.2 4) 0 (u.1 1)) 1 (nI t)) 2 (-1)) 3 (nI 0))) 4 (upd (upd (upd (upd (upd (u.2 4) 0 (u.1 1)) 1 (nI t)) 2 (-1)) 3 (nI 0)) 4 (nI 0))) 4 (upd (upd (upd (upd (upd (upd (u.2 4) 0 (u.1 1)) 1 (nI t)) 2 (-1)) 3 (nI 0)) 4 (nI 0)) 5 (nI t))) = mHd0 u (nI t) := by simp only [sa_sa]; rfl
    replace hM : mRep X.2.1 h a (mHd0 u (nI t)) := by rw [← eu9]; exact hM
    obtain ⟨o1, o2, o3⟩ := mHd0_ok o ht
    refine gI_aload_n hB 0 dX7_ring_64 rfl ?_
    refine gI_aload_n hB 0 dX7_ring_65 rfl ?_
    refine gM_get hB hM 14 (v := .ref (a 5)) (by decide +kernel) (by decide) (by decide +kernel) rfl rfl dX7_ring_66 ?_
    refine gM_call (n9 := 1) (As := [.ref (a 5)]) (rest := []) hB hM hF (c_hear X.2.1 h a (mHd0 u (nI t)) hM t T 0 W z ⟨rfl, ht, rfl, by omega, o1.2.2.1, o1.2.2.2.1, o1.2.2.2.2.1, o1.2.2.2.2.2.1, o1.hour, o1.W⟩) (gCW.of ggX7_ring_X7_hear rfl ⟨by decide, by decide, by decide +kernel⟩ ⟨Nat.le_of_ble_eq_true rfl, Nat.le_of_ble_eq_true rfl⟩) (by decide +kernel) (by decide +kernel) (by decide +kernel) (by decide +kernel) rfl rfl (Nat.le_of_ble_eq_true rfl) (by first | exact Nat.le_of_ble_eq_true rfl | (dsimp only [gRm]; omega)) (by first | exact Nat.le_of_ble_eq_true rfl | (dsimp only [gRm]; omega)) mStC.no dX7_ring_69 (fun v9 h u9 k9 n9 hM hF hp => ?_)
    obtain ⟨e9, rfl, hc9⟩ := hp
    cases e9
    refine gI_iret hB hE dX7_ring_72 ?_
    have ef : mRing u (nI t) = mHear (mHd0 u (nI t)) t T := by unfold mRing; rw [if_pos hh, mCl (by omega), o.1, mCl (by omega)]
    rw [ef]
    exact ⟨_, hM, hF, rfl, rfl, by rw [Nat.zero_add, Nat.zero_add]; exact hc9.fr rfl⟩
  · skip
    have c10_1 := gbi_0.mp c10_1
    refine gI_aload_n hB 0 dX7_ring_13 rfl ?_
    refine gI_iconst (v := nI 1) hB dX7_ring_14 (by decide) ?_
    refine gM_call (n9 := 1) (As := [.int (nI 1)]) (rest := []) hB hM hF (c_fail X.2.1 h a (sg u 0 (nI 0)) hM (nI 1)) (gCW.of ggX7_ring_X7_fail rfl ⟨by decide, by decide, by decide +kernel⟩ ⟨Nat.le_of_ble_eq_true rfl, Nat.le_of_ble_eq_true rfl⟩) (by decide +kernel) (by decide +kernel) (by decide +kernel) (by decide +kernel) rfl rfl (Nat.le_of_ble_eq_true rfl) (by first | exact Nat.le_of_ble_eq_true rfl | (dsimp only [gRm]; omega)) (by first | exact Nat.le_of_ble_eq_true rfl | (dsimp only [gRm]; omega)) mSt.no dX7_ring_15 (fun v9 h u9 k9 n9 hM hF hp => ?_)
    obtain ⟨e9, rfl, rfl, rfl⟩ := hp
    cases e9
    change gW X h (0) (0) _ _ (.int (nI 0) :: _)
    refine gI_iret hB hE dX7_ring_18 ?_
    have ef : mRing u p = mErr u (nI 1) := by unfold mRing; rw [if_neg c10_1]
    rw [ef]
    exact ⟨_, hM, hF, rfl, rfl, mC.rf o.2.2.2.2.1 o.2.2.2.2.2.1 rfl⟩

def mGrow1 (x : MS) (t : Nat) : MS := sa x 0 (upd (x.2 0) (7 * t + 2) (if x.2 0 (7 * t + 2) + nI 1 < x.2 0 (7 * t + 1) then x.2 0 (7 * t + 2) + nI 1 else x.2 0 (7 * t + 1)))
def mGrowL : Nat → Nat → MS → MS
  | 0, _, x => x
  | r + 1, t, x => mGrowL r (t + 1) (mGrow1 x t)
def mTake (x : MS) : MS := sa (sg (sa x 4 (va_cpy (x.2 2) (x.2 4) 0 0 14)) 6 (nI ((x.1 6).toNatClampNeg - 1))) 2 (va_cpy (x.2 2) (x.2 2) 14 0 (14 * ((x.1 6).toNatClampNeg - 1)))
def mDrainL : Nat → MS → MS
  | 0, x => x
  | f + 1, x => if x.1 6 ≠ nI 0 ∧ x.2 2 0 = x.1 1 then mDrainL f (mHear (mTake x) (x.2 2 1).toNatClampNeg (x.1 3).toNatClampNeg).1 else x
def mTick1 (x : MS) : MS := sg x 1 (x.1 1 + nI 1)
def mTick2 (x : MS) : MS := if x.1 1 - x.1 1 / x.1 2 * x.1 2 = 0 then mGrowL (x.1 3).toNatClampNeg 0 x else x
def mTick (x : MS) : MS := mDrainL 60 (mTick2 (mTick1 x))
def mPassL : Nat → MS → MS
  | 0, x => x
  | r + 1, x => mPassL r (mTick x)
def mPass (u : MS) (p : Int32) : MS × Int32 :=
  if mIn p (nI 1) (nI 1000) then (mPassL p.toNatClampNeg (sg u 0 (nI 0)), (mPassL p.toNatClampNeg (sg u 0 (nI 0))).1 8 - u.1 8) else mErr u (nI 1)
theorem mDrain_stop {x : MS} (c : ¬ (x.1 6 ≠ nI 0 ∧ x.2 2 0 = x.1 1)) : ∀ f, mDrainL f x = x
  | 0 => rfl
  | f + 1 => by unfold mDrainL; rw [if_neg c]
theorem mDue0 {R : Nat → Int32} {c : Int32} : ∀ W, R 0 = c → 0 < mDue R c (W + 1)
  | 0, e => by
    show 0 < 0 + (if R (14 * 0) = c then 1 else 0)
    rw [if_pos (show R (14 * 0) = c from e)]
    omega
  | W + 1, e => by
    have := mDue0 (R := R) (c := c) W e
    show 0 < mDue R c (W + 1) + _
    omega
theorem mTake_ok {x : MS} {T W z : Nat} (o : mOk x T (W + 1) z) : mOk (mTake x) T W z ∧ mOkR ((mTake x).2 4) 0 T ∧ (mTake x).2 4 0 = x.2 2 0 ∧ (mTake x).2 4 1 = x.2 2 1 ∧ mDue (x.2 2) (x.1 1) (W + 1) = mDue ((mTake x).2 2) (x.1 1) W + if x.2 2 0 = x.1 1 then 1 else 0 := by
  obtain ⟨a1, a2, a3, a4, a5, a6, a7, a8, a9, a10⟩ := o
  have e6 : (x.1 6).toNatClampNeg - 1 = W := by rw [a3, mCl (by omega)]; rfl
  have hr : ∀ k i, k < W → i < 14 → (mTake x).2 2 (14 * k + i) = x.2 2 (14 * (k + 1) + i) := fun k i hk hi => by
    show va_cpy (x.2 2) (x.2 2) 14 0 (14 * ((x.1 6).toNatClampNeg - 1)) (14 * k + i) = _
    rw [e6, pk_cpy_in (by omega) (by omega), show 14 + (14 * k + i - 0) = 14 * (k + 1) + i by omega]
  have hh : ∀ i, i < 14 → (mTake x).2 4 (0 + i) = x.2 2 (14 * 0 + i) := fun i hi => by
    show va_cpy (x.2 2) (x.2 4) 0 0 14 (0 + i) = _
    rw [pk_cpy_in (by omega) (by omega), show 0 + (0 + i - 0) = 14 * 0 + i by omega]
  refine ⟨⟨a1, a2, ?_, by omega, a5, a6, a7, a8, fun k hk => mOkR.cg (fun i hi => hr k i hk hi) (a9 (k + 1) (by omega)), a10⟩, mOkR.cg hh (a9 0 (by omega)), hh 0 (by omega), hh 1 (by omega), mDue_rem W (fun k hk => hr k 0 hk (by omega))⟩
  show nI ((x.1 6).toNatClampNeg - 1) = nI W
  rw [e6]
theorem mGrow1_ok {u : MS} {T W z t : Nat} (o : mOk u T W z) (ht : t < T) : mOk (mGrow1 u t) T W z := by
  refine o.tab rfl rfl rfl rfl (fun t' ht' ot => ?_) rfl rfl
  by_cases e : t' = t
  · subst e
    obtain ⟨m, m1, m2, ⟨p, p1, p2⟩, ⟨g, g1, g2⟩, le, r⟩ := ot
    have key : ∃ q, q ≤ g ∧ (mGrow1 u t').2 0 (7 * t' + 2) = nI q := by
      show ∃ q, q ≤ g ∧ upd (u.2 0) (7 * t' + 2) _ (7 * t' + 2) = nI q
      rw [pk_us, p2, g2, show nI p + nI 1 = nI (p + 1) from nI_1 p]
      by_cases c : nI (p + 1) < nI g
      · rw [if_pos c]
        have := (nI_ltI (by omega) (by omega)).mp c
        exact ⟨p + 1, by omega, rfl⟩
      · rw [if_neg c]
        exact ⟨g, Nat.le_refl g, rfl⟩
    obtain ⟨q, q1, q2⟩ := key
    have eg : (mGrow1 u t').2 0 (7 * t' + 1) = nI g := (pk_un (by omega)).trans g2
    exact ⟨m, m1, (pk_un (by omega)).trans m2, ⟨q, by omega, q2⟩, ⟨g, g1, eg⟩, by rw [q2, eg]; exact (nI_leI (by omega) (by omega)).mpr q1, r⟩
  · exact mOkT.cg (pk_un (by omega)) (pk_un (by omega)) (pk_un (by omega)) (fun j hj oh => oh) ot
theorem mGrowL_ok {T W z : Nat} : ∀ r t u, t + r ≤ T → mOk u T W z → mOk (mGrowL r t u) T W z ∧ (mGrowL r t u).2 2 = u.2 2 ∧ (mGrowL r t u).1 1 = u.1 1 ∧ (mGrowL r t u).1 12 = u.1 12
  | 0, _, _, _, o => ⟨o, rfl, rfl, rfl⟩
  | r + 1, t, u, h, o => by
    unfold mGrowL
    exact mGrowL_ok r (t + 1) (mGrow1 u t) (by omega) (mGrow1_ok o (by omega))
theorem mTick1_ok {u : MS} {T W z : Nat} (o : mOk u T W z) : mOk (mTick1 u) T W z := o.tab rfl rfl rfl rfl (fun _ _ ot => ot) rfl rfl
theorem mTick2_ok {u : MS} {T W z : Nat} (o : mOk u T W z) : mOk (mTick2 u) T W z := by
  unfold mTick2
  split
  · have h3 := o.1
    have hT := o.2.1
    rw [h3, mCl (by omega)]
    exact (mGrowL_ok T 0 u (by omega) o).1
  · exact o
theorem mDrainL_ok {T : Nat} : ∀ f x W z, mOk x T W z → ∃ W' z', z ≤ z' ∧ mOk (mDrainL f x) T W' z'
  | 0, x, W, z, o => ⟨W, z, Nat.le_refl _, o⟩
  | f + 1, x, W, z, o => by
    unfold mDrainL
    by_cases c : x.1 6 ≠ nI 0 ∧ x.2 2 0 = x.1 1
    · rw [if_pos c]
      have hW : W ≠ 0 := fun e => c.1 (by rw [o.2.2.1, e])
      obtain ⟨V, rfl⟩ : ∃ V, W = V + 1 := ⟨W - 1, by omega⟩
      obtain ⟨o1, h1, h2, h3, -⟩ := mTake_ok o
      have hT := o.2.1
      obtain ⟨⟨t, ht, et⟩, -⟩ := o.2.2.2.2.2.2.2.2.1 0 (by omega)
      rw [show x.2 2 1 = nI t from et, mCl (by omega), o.1, mCl (by omega)]
      obtain ⟨W', z', hz, o2, -⟩ := mHear_ok o1 h1 ht (by rw [h2]; exact c.2)
      obtain ⟨W2, z2, hz2, o3⟩ := mDrainL_ok f _ W' z' o2
      exact ⟨W2, z2, by omega, o3⟩
    · rw [if_neg c]
      exact ⟨W, z, Nat.le_refl _, o⟩
theorem mTick_ok {u : MS} {T W z : Nat} (o : mOk u T W z) : ∃ W' z', z ≤ z' ∧ mOk (mTick u) T W' z' := mDrainL_ok 60 _ _ _ (mTick2_ok (mTick1_ok o))
theorem mPassL_ok {T : Nat} : ∀ r u W z, mOk u T W z → ∃ W' z', z ≤ z' ∧ mOk (mPassL r u) T W' z'
  | 0, u, W, z, o => ⟨W, z, Nat.le_refl _, o⟩
  | r + 1, u, W, z, o => by
    obtain ⟨W1, z1, h1, o1⟩ := mTick_ok o
    obtain ⟨W2, z2, h2, o2⟩ := mPassL_ok r _ W1 z1 o1
    exact ⟨W2, z2, by omega, o2⟩

set_option maxRecDepth 100000 in
set_option maxHeartbeats 4000000 in
theorem c_pass (G : gG) (h : gH) (a : Nat → Nat) (u : MS) (T W z : Nat) (hM : mRep G h a u) (o : mOk u T W z) (p : Int32) : gMet yX7_pass wsX7_pass (gRm 5 201 1206) G h [.ref (a 0), .int p] (mPo G h a (mStC (some (.int (mPass u p).2)) u (mPass u p).1)) := by
  refine gMet_of (maxL := 5) (ret := (some .int)) (by decide) rfl (Nat.le_of_ble_eq_true rfl) ?_
  intro X hG hnL hB hE
  subst hG
  change gW X h 0 0 0 [(0, .ref (a 0)), (1, .int p)] []
  obtain ⟨h_0, eh0⟩ : ∃ z, z = h := ⟨_, rfl⟩
  have hF : mFr h_0 h := by rw [eh0]; exact mFr.rf
  have hT := o.2.1
  refine gI_aload_n hB 0 dX7_pass_0 rfl ?_
  refine gI_iconst (v := nI 0) hB dX7_pass_1 (by decide) ?_
  refine gM_put hB hM hF 0 (sg u 0 (nI 0)) (by decide +kernel) (by decide) (by decide +kernel) rfl rfl rfl rfl rfl rfl dX7_pass_2 (fun h hM hF => ?_)
  refine gI_iload_n hB 1 dX7_pass_5 rfl ?_
  refine gI_iconst (v := nI 1) hB dX7_pass_6 (by decide) ?_
  refine gI_sipush (v := nI 1000) hB dX7_pass_7 (by decide) ?_
  refine gI_pureS (n9 := 3) (As := [.int p, .int (nI 1), .int (nI 1000)]) (rest := []) hB (c_isIn X.2.1 h p (nI 1) (nI 1000)) (gCW.of ggX7_pass_X7_isIn rfl ⟨by decide, by decide, by decide +kernel⟩ ⟨Nat.le_of_ble_eq_true rfl, Nat.le_of_ble_eq_true rfl⟩) (Or.inl (by decide +kernel)) (by decide +kernel) (by decide +kernel) rfl rfl (Nat.le_of_ble_eq_true rfl) (by first | exact Nat.le_of_ble_eq_true rfl | (dsimp only [gRm]; omega)) (by first | exact Nat.le_of_ble_eq_true rfl | (dsimp only [gRm]; omega)) dX7_pass_10 ?_
  refine gI_if_ne hB 22 dX7_pass_13 (by decide) (fun c13_1 => ?_) (fun c13_1 => ?_)
  · skip
    have c13_1 := gbi_n0 c13_1
    have hh := c13_1
    obtain ⟨N, hN, eN⟩ : ∃ N, N ≤ 1000 ∧ p = nI N := mIn_lit (by omega) ⟨Int32.le_trans (by decide) hh.1, hh.2⟩
    subst eN
    refine gI_aload_n hB 0 dX7_pass_22 rfl ?_
    refine gM_get hB hM 8 (v := .int (u.1 8)) (by decide +kernel) (by decide) (by decide +kernel) rfl rfl dX7_pass_23 ?_
    refine gI_istore_n hB ([(2, .int (u.1 8)), (0, .ref (a 0)), (1, .int (nI N))]) hnL dX7_pass_26 (by decide) rfl ?_
    refine gI_iconst (v := nI 0) hB dX7_pass_27 (by decide) ?_
    refine gI_istore_n hB ([(3, .int (nI 0)), (2, .int (u.1 8)), (0, .ref (a 0)), (1, .int (nI N))]) hnL dX7_pass_28 (by decide) rfl ?_
    have lp : ∀ (r_lp : Nat) (h : gH) (i W1 z1 : Nat) (v : MS) (k n : Nat), N + 1 ≤ i + r_lp → i ≤ N → mOk v T W1 z1 → mRep X.2.1 h a v → mFr h_0 h → mPassL (N - i) v = mPassL N (sg u 0 (nI 0)) → mC (sg u 0 (nI 0)) v k n → gW X h k n 29 [(3, .int (nI i)), (2, .int (u.1 8)), (0, .ref (a 0)), (1, .int (nI N))] [] := by
      intro r_lp
      induction r_lp with
      | zero => intro h i W1 z1 v k n hfu hi ov hM hF hinv hc; exact absurd hfu (by omega)
      | succ r_lp ih_lp =>
        intro h i W1 z1 v k n hfu hi ov hM hF hinv hc
        refine gI_iload_n hB 0 dX7_pass_29 rfl ?_
        refine gI_iload_n hB 3 dX7_pass_30 rfl ?_
        refine gI_icmp_ge hB 184 dX7_pass_31 (by decide) (fun c31_2 => ?_) (fun c31_2 => ?_)
        · skip
          have c31_2 := (nI_leI (by omega) (by omega)).mp c31_2
          refine gI_aload_n hB 2 dX7_pass_184 rfl ?_
          refine gM_get hB hM 8 (v := .int (v.1 8)) (by decide +kernel) (by decide) (by decide +kernel) rfl rfl dX7_pass_185 ?_
          refine gI_iload_n hB 1 dX7_pass_188 rfl ?_
          refine gI_isub hB dX7_pass_189 ?_
          refine gI_iret hB hE dX7_pass_190 ?_
          have ef : mPassL N (sg u 0 (nI 0)) = v := by rw [← hinv, show N - i = 0 by omega]; rfl
          have eg : mPass u (nI N) = (v, v.1 8 - u.1 8) := by unfold mPass; rw [if_pos hh, mCl (by omega), ef]
          rw [eg]
          exact ⟨_, hM, eh0 ▸ hF, rfl, rfl, hc.fr rfl⟩
        · skip
          have c31_2 := mt (nI_leI (by omega) (by omega)).mpr c31_2
          refine gI_aload_n hB 2 dX7_pass_34 rfl ?_
          refine gI_dup hB dX7_pass_35 rfl ?_
          refine gM_get hB hM 1 (v := .int (v.1 1)) (by decide +kernel) (by decide) (by decide +kernel) rfl rfl dX7_pass_36 ?_
          refine gI_iconst (v := nI 1) hB dX7_pass_39 (by decide) ?_
          refine gI_iadd hB dX7_pass_40 ?_
          refine gM_put hB hM hF 1 (sg v 1 ((v.1 1) + (nI 1))) (by decide +kernel) (by decide) (by decide +kernel) rfl rfl rfl rfl rfl rfl dX7_pass_41 (fun h hM hF => ?_)
          have eu9 : (sg v 1 ((v.1 1) + (nI 1))) = mTick1 v := rfl
          replace hM : mRep X.2.1 h a (mTick1 v) := by rw [← eu9]; exact hM
          have hkn := hc.le
          have o1 : mOk (mTick1 v) T W1 z1 := mTick1_ok ov
          have dl : ∀ (r_dl : Nat) (h : gH) (f V z2 : Nat) (x : MS) (k n : Nat), mDue (x.2 2) (x.1 1) V + 1 ≤ r_dl → mOk x T V z2 → mRep X.2.1 h a x → mFr h_0 h → mDue (x.2 2) (x.1 1) V ≤ f → mDrainL f x = mTick v → mC (sg u 0 (nI 0)) x k n → gW X h k n 100 [(3, .int (nI i)), (2, .int (u.1 8)), (0, .ref (a 0)), (1, .int (nI N))] [] := by
            intro r_dl
            induction r_dl with
            | zero => intro h f V z2 x k n hfu; exact absurd hfu (by omega)
            | succ r_dl ih_dl =>
              intro h f V z2 x k n hfu ox hM hF hf hdr hc
              have hkn := hc.le
              have hV60 := ox.2.2.2.1
              refine gI_aload_n hB 2 dX7_pass_100 rfl ?_
              refine gM_get hB hM 6 (v := .int (x.1 6)) (by decide +kernel) (by decide) (by decide +kernel) rfl rfl dX7_pass_101 ?_
              refine gI_topi hB (y := nI V) ox.2.2.1 ?_
              refine gI_if_le hB 178 dX7_pass_104 (by decide) (fun c104_3 => ?_) (fun c104_3 => ?_)
              · skip
                have k0 : V = 0 := by rcases Nat.eq_zero_or_pos V with z9 | z9; exact z9; exact absurd c104_3 (nI_nle z9 (by omega))
                have ef : x = mTick v := by rw [← hdr, mDrain_stop (fun q9 => q9.1 (ox.2.2.1.trans (congrArg nI k0)))]
                skip
                refine gI_iinc hB 0 ([(3, .int (nI (i + 1))), (2, .int (u.1 8)), (0, .ref (a 0)), (1, .int (nI N))]) hnL dX7_pass_178 rfl (nI_1 (i)) (by decide) rfl ?_
                refine gI_goto hB 29 dX7_pass_181 (by decide) ?_
                refine gI_loc [0, 1, 2, 3] rfl ?_
                exact ih_lp h (i + 1) V z2 x k n (by omega) (by omega) ox hM hF (by rw [show N - i = (N - (i + 1)) + 1 by omega, mPassL, ← ef] at hinv; exact hinv) hc
              · skip
                obtain ⟨j, ej⟩ : ∃ j, V = j + 1 := ⟨V - 1, by rcases Nat.eq_zero_or_pos V with z9 | z9; exact absurd (by rw [z9]; decide) c104_3; omega⟩
                subst ej
                refine gI_aload_n hB 2 dX7_pass_107 rfl ?_
                refine gM_get hB hM 7 (v := .ref (a 3)) (by decide +kernel) (by decide) (by decide +kernel) rfl rfl dX7_pass_108 ?_
                refine gI_iconst (v := nI 0) hB dX7_pass_111 (by decide) ?_
                refine gM_ald hB hM 2 (by decide) 0 rfl (show 0 < 840 by omega) dX7_pass_112 ?_
                refine gI_aload_n hB 2 dX7_pass_113 rfl ?_
                refine gM_get hB hM 1 (v := .int (x.1 1)) (by decide +kernel) (by decide) (by decide +kernel) rfl rfl dX7_pass_114 ?_
                refine gI_icmp_ne hB 178 dX7_pass_117 (by decide) (fun c117_4 => ?_) (fun c117_4 => ?_)
                · skip
                  have ef : x = mTick v := by rw [← hdr, mDrain_stop (fun q9 => c117_4 q9.2)]
                  skip
                  refine gI_iinc hB 0 ([(3, .int (nI (i + 1))), (2, .int (u.1 8)), (0, .ref (a 0)), (1, .int (nI N))]) hnL dX7_pass_178 rfl (nI_1 (i)) (by decide) rfl ?_
                  refine gI_goto hB 29 dX7_pass_181 (by decide) ?_
                  refine gI_loc [0, 1, 2, 3] rfl ?_
                  exact ih_lp h (i + 1) (j + 1) z2 x k n (by omega) (by omega) ox hM hF (by rw [show N - i = (N - (i + 1)) + 1 by omega, mPassL, ← ef] at hinv; exact hinv) hc
                · skip
                  refine gI_aload_n hB 2 dX7_pass_120 rfl ?_
                  refine gM_get hB hM 7 (v := .ref (a 3)) (by decide +kernel) (by decide) (by decide +kernel) rfl rfl dX7_pass_121 ?_
                  refine gI_iconst (v := nI 0) hB dX7_pass_124 (by decide) ?_
                  refine gI_aload_n hB 2 dX7_pass_125 rfl ?_
                  refine gM_get hB hM 14 (v := .ref (a 5)) (by decide +kernel) (by decide) (by decide +kernel) rfl rfl dX7_pass_126 ?_
                  refine gI_iconst (v := nI 0) hB dX7_pass_129 (by decide) ?_
                  refine gI_bipush (v := nI 14) hB dX7_pass_130 (by decide) ?_
                  refine gM_copyA hB hM hF 2 4 (by decide) (by decide) 0 0 14 rfl rfl rfl (by decide +kernel) (by decide +kernel) (by decide +kernel) (by decide +kernel) (show 0 + 14 ≤ 840 by omega) (show 0 + 14 ≤ 14 by omega) (Nat.le_of_ble_eq_true rfl) (Nat.le_of_ble_eq_true rfl) dX7_pass_132 (fun h hM hF => ?_)
                  refine gI_aload_n hB 2 dX7_pass_135 rfl ?_
                  refine gI_dup hB dX7_pass_136 rfl ?_
                  refine gM_get hB hM 6 (v := .int (x.1 6)) (by decide +kernel) (by decide) (by decide +kernel) rfl rfl dX7_pass_137 ?_
                  refine gI_topi hB (y := nI (j + 1)) ox.2.2.1 ?_
                  refine gI_iconst (v := nI 1) hB dX7_pass_140 (by decide) ?_
                  refine gI_isub hB dX7_pass_141 ?_
                  refine gI_topi hB (y := nI j) (nI_m1 j) ?_
                  refine gM_put hB hM hF 6 (sg (sa x 4 (va_cpy (x.2 2) (x.2 4) 0 0 14)) 6 (nI j)) (by decide +kernel) (by decide) (by decide +kernel) rfl rfl rfl rfl rfl rfl dX7_pass_142 (fun h hM hF => ?_)
                  refine gI_aload_n hB 2 dX7_pass_145 rfl ?_
                  refine gM_get hB hM 7 (v := .ref (a 3)) (by decide +kernel) (by decide) (by decide +kernel) rfl rfl dX7_pass_146 ?_
                  refine gI_bipush (v := nI 14) hB dX7_pass_149 (by decide) ?_
                  refine gI_aload_n hB 2 dX7_pass_151 rfl ?_
                  refine gM_get hB hM 7 (v := .ref (a 3)) (by decide +kernel) (by decide) (by decide +kernel) rfl rfl dX7_pass_152 ?_
                  refine gI_iconst (v := nI 0) hB dX7_pass_155 (by decide) ?_
                  refine gI_bipush (v := nI 14) hB dX7_pass_156 (by decide) ?_
                  refine gI_aload_n hB 2 dX7_pass_158 rfl ?_
                  refine gM_get hB hM 6 (v := .int ((nI j))) (by decide +kernel) (by decide) (by decide +kernel) rfl rfl dX7_pass_159 ?_
                  refine gI_imulN hB dX7_pass_162 ?_
                  refine gM_copyA hB hM hF 2 2 (by decide) (by decide) 14 0 (14 * j) rfl rfl rfl (by decide +kernel) (by decide +kernel) (by decide +kernel) (by decide +kernel) (show 14 + (14 * j) ≤ 840 by omega) (show 0 + (14 * j) ≤ 840 by omega) (Nat.le_of_ble_eq_true rfl) (Nat.le_of_ble_eq_true rfl) dX7_pass_163 (fun h hM hF => ?_)
                  obtain ⟨oT, hT1, hT2, hT3, hT4⟩ := mTake_ok ox
                  have eu8 : (sa (sg (sa x 4 (va_cpy (x.2 2) (x.2 4) 0 0 14)) 6 (nI j)) 2 (va_cpy (x.2 2) (x.2 2) 14 0 (14 * j))) = mTake x := by unfold mTake; rw [ox.2.2.1, mCl (by omega)]; rfl
                  replace hM : mRep X.2.1 h a (mTake x) := by rw [← eu8]; exact hM
                  have hdue := c117_4
                  rw [if_pos hdue] at hT4
                  obtain ⟨⟨t, ht, et⟩, -⟩ := ox.2.2.2.2.2.2.2.2.1 0 (by omega)
                  have et : x.2 2 1 = nI t := et
                  obtain ⟨p, hp8, ep, -⟩ := hT1.hand
                  obtain ⟨f2, rfl⟩ : ∃ f2, f = f2 + 1 := ⟨f - 1, by omega⟩
                  have hc1 : mC (sg u 0 (nI 0)) (mTake x) k n := hc.to rfl
                  refine gI_aload_n hB 2 dX7_pass_166 rfl ?_
                  refine gI_aload_n hB 2 dX7_pass_167 rfl ?_
                  refine gM_get hB hM 14 (v := .ref (a 5)) (by decide +kernel) (by decide) (by decide +kernel) rfl rfl dX7_pass_168 ?_
                  refine gM_call (n9 := 1) (As := [.ref (a 5)]) (rest := []) hB hM hF (c_hear X.2.1 h a (mTake x) hM t T p j z2 ⟨hT3.trans et, ht, ep, hp8, oT.2.2.1, oT.2.2.2.1, oT.2.2.2.2.1, oT.2.2.2.2.2.1, oT.hour, oT.W⟩) (gCW.of ggX7_pass_X7_hear rfl ⟨by decide, by decide, by decide +kernel⟩ ⟨Nat.le_of_ble_eq_true rfl, Nat.le_of_ble_eq_true rfl⟩) (by decide +kernel) (by decide +kernel) (by decide +kernel) (by decide +kernel) rfl rfl (Nat.le_of_ble_eq_true rfl) (by first | exact Nat.le_of_ble_eq_true rfl | (dsimp only [gRm]; omega)) (by first | exact Nat.le_of_ble_eq_true rfl | (dsimp only [gRm]; omega)) mStC.no dX7_pass_171 (fun v9 h u9 k9 n9 hM hF hp => ?_)
                  obtain ⟨e9, rfl, hc9⟩ := hp
                  cases e9
                  refine gI_pop hB dX7_pass_174 rfl ?_
                  obtain ⟨V9, Z9, hz9, o9, hd9, hd8, -⟩ := mHear_ok oT hT1 ht (by rw [hT2]; exact hdue)
                  have hdr9 : mDrainL f2 (mHear (mTake x) t T).1 = mTick v := by rw [← hdr, mDrainL, if_pos ⟨fun q9 => absurd ((nI_eq (by omega) (by omega)).mp (ox.2.2.1.symm.trans q9)) (by omega), hdue⟩, et, mCl (by omega), ox.1, mCl (by omega)]
                  have hc9t := hc1.trans hc9
                  have q1 : mDue ((mHear (mTake x) t T).1.2 2) ((mHear (mTake x) t T).1.1 1) V9 = mDue ((mTake x).2 2) (x.1 1) j := by rw [hd8]; exact hd9
                  refine gI_goto hB 100 dX7_pass_175 (by decide) ?_
                  refine gI_loc [0, 1, 2, 3] rfl ?_
                  exact ih_dl h f2 V9 Z9 (mHear (mTake x) t T).1 (k + k9) (n + n9) (by omega) o9 hM hF (by omega) hdr9 hc9t
          refine gI_aload_n hB 2 dX7_pass_44 rfl ?_
          refine gM_get hB hM 1 (v := .int ((mTick1 v).1 1)) (by decide +kernel) (by decide) (by decide +kernel) rfl rfl dX7_pass_45 ?_
          refine gI_aload_n hB 2 dX7_pass_48 rfl ?_
          refine gM_get hB hM 2 (v := .int ((mTick1 v).1 2)) (by decide +kernel) (by decide) (by decide +kernel) rfl rfl dX7_pass_49 ?_
          refine gI_irem hB dX7_pass_52 o1.hour ?_
          refine gI_if_ne hB 100 dX7_pass_53 (by decide) (fun c53_5 => ?_) (fun c53_5 => ?_)
          · skip
            refine gI_loc [0, 1, 2, 3] rfl ?_
            have e2 : mTick2 (mTick1 v) = mTick1 v := by unfold mTick2; rw [if_neg (show ¬ (mTick1 v).1 1 - (mTick1 v).1 1 / (mTick1 v).1 2 * (mTick1 v).1 2 = 0 from c53_5)]
            exact dl (W1 + 1) h 60 W1 z1 (mTick1 v) k n (by have := mDue_le (R := (mTick1 v).2 2) (c := (mTick1 v).1 1) W1; omega) o1 hM hF (by have := mDue_le (R := (mTick1 v).2 2) (c := (mTick1 v).1 1) W1; have := o1.2.2.2.1; omega) (by unfold mTick; rw [e2]) (hc.to rfl)
          · skip
            refine gI_iconst (v := nI 0) hB dX7_pass_56 (by decide) ?_
            refine gI_istore hB ([(4, .int (nI 0)), (3, .int (nI i)), (2, .int (u.1 8)), (0, .ref (a 0)), (1, .int (nI N))]) hnL dX7_pass_57 (by decide) rfl ?_
            have gl : ∀ (r_gl : Nat) (h : gH) (t : Nat) (x : MS), T + 1 ≤ t + r_gl → t ≤ T → mOk x T W1 z1 → mRep X.2.1 h a x → mFr h_0 h → mGrowL (T - t) t x = mTick2 (mTick1 v) → x.1 12 = v.1 12 → gW X h k n 59 [(4, .int (nI t)), (3, .int (nI i)), (2, .int (u.1 8)), (0, .ref (a 0)), (1, .int (nI N))] [] := by
              intro r_gl
              induction r_gl with
              | zero => intro h t x hfu ht ox hM hF hg ez; exact absurd hfu (by omega)
              | succ r_gl ih_gl =>
                intro h t x hfu ht ox hM hF hg ez
                refine gI_iload hB 0 dX7_pass_59 rfl ?_
                refine gI_aload_n hB 3 dX7_pass_61 rfl ?_
                refine gM_get hB hM 3 (v := .int (x.1 3)) (by decide +kernel) (by decide) (by decide +kernel) rfl rfl dX7_pass_62 ?_
                refine gI_topi hB (y := nI T) ox.1 ?_
                refine gI_icmp_ge hB 100 dX7_pass_65 (by decide) (fun c65_6 => ?_) (fun c65_6 => ?_)
                · skip
                  have c65_6 := (nI_leI (by omega) (by omega)).mp c65_6
                  refine gI_loc [1, 2, 3, 4] rfl ?_
                  exact dl (W1 + 1) h 60 W1 z1 x k n (by have := mDue_le (R := x.2 2) (c := x.1 1) W1; omega) ox hM hF (by have := mDue_le (R := x.2 2) (c := x.1 1) W1; have := ox.2.2.2.1; omega) (by unfold mTick; rw [← hg, show T - t = 0 by omega]; rfl) (hc.to ez)
                · skip
                  have c65_6 := mt (nI_leI (by omega) (by omega)).mpr c65_6
                  refine gI_aload_n hB 3 dX7_pass_68 rfl ?_
                  refine gI_iload hB 0 dX7_pass_69 rfl ?_
                  refine gI_iconst (v := nI 2) hB dX7_pass_71 (by decide) ?_
                  refine gI_aload_n hB 3 dX7_pass_72 rfl ?_
                  refine gI_iload hB 0 dX7_pass_73 rfl ?_
                  refine gI_iconst (v := nI 1) hB dX7_pass_75 (by decide) ?_
                  refine gM_pure (n9 := 2) (As := [.int (nI t), .int (nI 1)]) (rest := [.int (nI 2), .int (nI t), .ref (a 0)]) hB hM (c_get X.2.1 h a x hM t 1 (by omega) (by omega)) (gCW.of ggX7_pass_X7_get rfl ⟨by decide, by decide, by decide +kernel⟩ ⟨Nat.le_of_ble_eq_true rfl, Nat.le_of_ble_eq_true rfl⟩) (by decide +kernel) (by decide +kernel) (by decide +kernel) (by decide +kernel) rfl rfl (Nat.le_of_ble_eq_true rfl) (by first | exact Nat.le_of_ble_eq_true rfl | (dsimp only [gRm]; omega)) (by first | exact Nat.le_of_ble_eq_true rfl | (dsimp only [gRm]; omega)) dX7_pass_76 ?_
                  refine gI_aload_n hB 3 dX7_pass_79 rfl ?_
                  refine gI_iload hB 0 dX7_pass_80 rfl ?_
                  refine gI_iconst (v := nI 2) hB dX7_pass_82 (by decide) ?_
                  refine gM_pure (n9 := 2) (As := [.int (nI t), .int (nI 2)]) (rest := [.int (x.2 0 (7 * t + 1)), .int (nI 2), .int (nI t), .ref (a 0)]) hB hM (c_get X.2.1 h a x hM t 2 (by omega) (by omega)) (gCW.of ggX7_pass_X7_get rfl ⟨by decide, by decide, by decide +kernel⟩ ⟨Nat.le_of_ble_eq_true rfl, Nat.le_of_ble_eq_true rfl⟩) (by decide +kernel) (by decide +kernel) (by decide +kernel) (by decide +kernel) rfl rfl (Nat.le_of_ble_eq_true rfl) (by first | exact Nat.le_of_ble_eq_true rfl | (dsimp only [gRm]; omega)) (by first | exact Nat.le_of_ble_eq_true rfl | (dsimp only [gRm]; omega)) dX7_pass_83 ?_
                  refine gI_iconst (v := nI 1) hB dX7_pass_86 (by decide) ?_
                  refine gI_iadd hB dX7_pass_87 ?_
                  refine gI_mmin hB (by decide +kernel) (by decide +kernel) (by decide +kernel) (by decide +kernel) (Nat.le_of_ble_eq_true rfl) (Nat.le_of_ble_eq_true rfl) (by first | exact Nat.le_of_ble_eq_true rfl | (dsimp only [gRm]; omega)) (by first | exact Nat.le_of_ble_eq_true rfl | (dsimp only [gRm]; omega)) dX7_pass_88 ?_
                  refine gM_call (n9 := 3) (As := [.int (nI t), .int (nI 2), .int (if ((x.2 0 (7 * t + 2)) + (nI 1)) < (x.2 0 (7 * t + 1)) then ((x.2 0 (7 * t + 2)) + (nI 1)) else (x.2 0 (7 * t + 1)))]) (rest := []) hB hM hF (c_set X.2.1 h a x hM t 2 (if ((x.2 0 (7 * t + 2)) + (nI 1)) < (x.2 0 (7 * t + 1)) then ((x.2 0 (7 * t + 2)) + (nI 1)) else (x.2 0 (7 * t + 1))) (by omega) (by omega)) (gCW.of ggX7_pass_X7_set rfl ⟨by decide, by decide, by decide +kernel⟩ ⟨Nat.le_of_ble_eq_true rfl, Nat.le_of_ble_eq_true rfl⟩) (by decide +kernel) (by decide +kernel) (by decide +kernel) (by decide +kernel) rfl rfl (Nat.le_of_ble_eq_true rfl) (by first | exact Nat.le_of_ble_eq_true rfl | (dsimp only [gRm]; omega)) (by first | exact Nat.le_of_ble_eq_true rfl | (dsimp only [gRm]; omega)) mSt.no dX7_pass_91 (fun v9 h u9 k9 n9 hM hF hp => ?_)
                  obtain ⟨e9, rfl, rfl, rfl⟩ := hp
                  cases e9
                  change gW X h (k) (n) _ [(4, .int (nI t)), (3, .int (nI i)), (2, .int (u.1 8)), (0, .ref (a 0)), (1, .int (nI N))] []
                  refine gI_iinc hB 0 ([(4, .int (nI (t + 1))), (3, .int (nI i)), (2, .int (u.1 8)), (0, .ref (a 0)), (1, .int (nI N))]) hnL dX7_pass_94 rfl (nI_1 (t)) (by decide) rfl ?_
                  refine gI_goto hB 59 dX7_pass_97 (by decide) ?_
                  refine gI_loc [0, 1, 2, 3, 4] rfl ?_
                  exact ih_gl h (t + 1) (mGrow1 x t) (by omega) (by omega) (mGrow1_ok ox (by omega)) hM hF (by rw [show T - t = (T - (t + 1)) + 1 by omega, mGrowL] at hg; exact hg) ez
            refine gI_loc [0, 1, 2, 3, 4] rfl ?_
            exact gl (T + 1) h 0 (mTick1 v) (by omega) (by omega) o1 hM hF (by unfold mTick2; rw [if_pos (show (mTick1 v).1 1 - (mTick1 v).1 1 / (mTick1 v).1 2 * (mTick1 v).1 2 = 0 from c53_5), o1.1, mCl (by omega)]; rfl) rfl
    refine gI_loc [0, 1, 2, 3] rfl ?_
    exact lp (N + 1) h 0 W z (sg u 0 (nI 0)) 0 0 (by omega) (by omega) (o.tab rfl rfl rfl rfl (fun _ _ ot => ot) rfl rfl) hM hF rfl (mC.rf o.2.2.2.2.1 o.2.2.2.2.2.1 rfl)
  · skip
    have c13_1 := gbi_0.mp c13_1
    refine gI_aload_n hB 0 dX7_pass_16 rfl ?_
    refine gI_iconst (v := nI 1) hB dX7_pass_17 (by decide) ?_
    refine gM_call (n9 := 1) (As := [.int (nI 1)]) (rest := []) hB hM hF (c_fail X.2.1 h a (sg u 0 (nI 0)) hM (nI 1)) (gCW.of ggX7_pass_X7_fail rfl ⟨by decide, by decide, by decide +kernel⟩ ⟨Nat.le_of_ble_eq_true rfl, Nat.le_of_ble_eq_true rfl⟩) (by decide +kernel) (by decide +kernel) (by decide +kernel) (by decide +kernel) rfl rfl (Nat.le_of_ble_eq_true rfl) (by first | exact Nat.le_of_ble_eq_true rfl | (dsimp only [gRm]; omega)) (by first | exact Nat.le_of_ble_eq_true rfl | (dsimp only [gRm]; omega)) mSt.no dX7_pass_18 (fun v9 h u9 k9 n9 hM hF hp => ?_)
    obtain ⟨e9, rfl, rfl, rfl⟩ := hp
    cases e9
    change gW X h (0) (0) _ _ (.int (nI 0) :: _)
    refine gI_iret hB hE dX7_pass_21 ?_
    have ef : mPass u p = mErr u (nI 1) := by unfold mPass; rw [if_neg c13_1]
    rw [ef]
    exact ⟨_, hM, eh0 ▸ hF, rfl, rfl, mC.rf o.2.2.2.2.1 o.2.2.2.2.2.1 rfl⟩
