theorem mNo_sg (u : MS) (i : Nat) (v : Int32) (T : Nat) (s : Int32) : ∀ t, mNo (sg u i v) T s t = mNo u T s t
  | 0 => rfl
  | t + 1 => by
    unfold mNo
    rw [mNo_sg u i v T s t]
    rfl
theorem mCnt_sg (u : MS) (v : Int32) (i : Nat) : mCnt (sg u 0 v) i = mCnt u i := by
  unfold mCnt
  split <;> rfl

set_option maxRecDepth 100000 in
set_option maxHeartbeats 4000000 in
theorem c_reach (G : gG) (h : gH) (a : Nat → Nat) (u : MS) (T W z : Nat) (hM : mRep G h a u) (o : mOk u T W z) (p : Int32) : gMet yX7_reach wsX7_reach (gRm 4 0 0) G h [.ref (a 0), .int p] (mPo G h a (mSp (mReach u p) 0 0)) := by
  refine gMet_of (maxL := 4) (ret := (some .int)) (by decide) rfl (Nat.le_of_ble_eq_true rfl) ?_
  intro X hG hnL hB hE
  subst hG
  change gW X h 0 0 0 [(0, .ref (a 0)), (1, .int p)] []
  have hF : mFr h h := mFr.rf
  have hw := o.W
  have hT := o.2.1
  have hW60 := o.2.2.2.1
  have hz200 := o.2.2.2.2.2.1
  have ez := o.2.2.2.2.1
  have eW := o.2.2.1
  refine gI_aload_n hB 0 dX7_reach_0 rfl ?_
  refine gI_iconst (v := nI 0) hB dX7_reach_1 (by decide) ?_
  refine gM_put hB hM hF 0 (sg u 0 (nI 0)) (by decide +kernel) (by decide) (by decide +kernel) rfl rfl rfl rfl rfl rfl dX7_reach_2 (fun h hM hF => ?_)
  refine gI_aload_n hB 0 dX7_reach_5 rfl ?_
  refine gI_iload_n hB 1 dX7_reach_6 rfl ?_
  refine gM_pure (n9 := 1) (As := [.int p]) (rest := []) hB hM (c_isTenant X.2.1 h a (sg u 0 (nI 0)) hM p) (gCW.of ggX7_reach_X7_isTenant rfl ⟨by decide, by decide, by decide +kernel⟩ ⟨Nat.le_of_ble_eq_true rfl, Nat.le_of_ble_eq_true rfl⟩) (by decide +kernel) (by decide +kernel) (by decide +kernel) (by decide +kernel) rfl rfl (Nat.le_of_ble_eq_true rfl) (by first | exact Nat.le_of_ble_eq_true rfl | (dsimp only [gRm]; omega)) (by first | exact Nat.le_of_ble_eq_true rfl | (dsimp only [gRm]; omega)) dX7_reach_7 ?_
  refine gI_topi hB (y := gbi (mTen u p)) rfl ?_
  refine gI_if_ne hB 19 dX7_reach_10 (by decide) (fun c10_1 => ?_) (fun c10_1 => ?_)
  · skip
    have c10_1 := gbi_n0 c10_1
    have hh := c10_1
    obtain ⟨t, ht, et⟩ := mTen_of hw c10_1
    subst et
    refine gI_aload_n hB 0 dX7_reach_19 rfl ?_
    refine gI_iload_n hB 1 dX7_reach_20 rfl ?_
    refine gM_pure (n9 := 1) (As := [.int (nI t)]) (rest := []) hB hM (c_next X.2.1 h a (sg u 0 (nI 0)) T hM hw t (by omega)) (gCW.of ggX7_reach_X7_next rfl ⟨by decide, by decide, by decide +kernel⟩ ⟨Nat.le_of_ble_eq_true rfl, Nat.le_of_ble_eq_true rfl⟩) (by decide +kernel) (by decide +kernel) (by decide +kernel) (by decide +kernel) rfl rfl (Nat.le_of_ble_eq_true rfl) (by first | exact Nat.le_of_ble_eq_true rfl | (dsimp only [gRm]; omega)) (by first | exact Nat.le_of_ble_eq_true rfl | (dsimp only [gRm]; omega)) dX7_reach_21 ?_
    refine gI_topi hB (y := mNext u T t) rfl ?_
    refine gI_istore_n hB ([(2, .int (mNext u T t)), (0, .ref (a 0)), (1, .int (nI t))]) hnL dX7_reach_24 (by decide) rfl ?_
    refine gI_iconst (v := nI 0) hB dX7_reach_25 (by decide) ?_
    refine gI_istore_n hB ([(3, .int (nI 0)), (2, .int (mNext u T t)), (0, .ref (a 0)), (1, .int (nI t))]) hnL dX7_reach_26 (by decide) rfl ?_
    have lr : ∀ (r_lr : Nat) (i : Nat) (s : Int32), T + 1 ≤ i + r_lr → i ≤ T → s = mReachL u T (mNext u T t) i → gW X h 0 0 27 [(3, .int (nI i)), (2, .int s), (0, .ref (a 0)), (1, .int (nI t))] [] := by
      intro r_lr
      induction r_lr with
      | zero => intro i s hfu hi es; exact absurd hfu (by omega)
      | succ r_lr ih_lr =>
        intro i s hfu hi es
        refine gI_iload_n hB 0 dX7_reach_27 rfl ?_
        refine gI_aload_n hB 2 dX7_reach_28 rfl ?_
        refine gM_get hB hM 3 (v := .int (u.1 3)) (by decide +kernel) (by decide) (by decide +kernel) rfl rfl dX7_reach_29 ?_
        refine gI_topi hB (y := nI T) o.1 ?_
        refine gI_icmp_ge hB 49 dX7_reach_32 (by decide) (fun c32_2 => ?_) (fun c32_2 => ?_)
        · skip
          have c32_2 := (nI_leI (by omega) (by omega)).mp c32_2
          refine gI_iload_n hB 1 dX7_reach_49 rfl ?_
          refine gI_iret hB hE dX7_reach_50 ?_
          refine ⟨_, hM, hF, ?_⟩
          have e9 : mReach u (nI t) = ((sg u 0 (nI 0)), s) := by
            unfold mReach; rw [if_pos hh, o.1, mCl (by omega), mCl (by omega), show mReachL u T (mNext u T t) T = s by rw [es, show T = i by omega]]; try rfl
          rw [e9]
          exact ⟨rfl, rfl, by omega, by omega⟩
        · skip
          have c32_2 := mt (nI_leI (by omega) (by omega)).mpr c32_2
          refine gI_iload_n hB 1 dX7_reach_35 rfl ?_
          refine gI_aload_n hB 2 dX7_reach_36 rfl ?_
          refine gI_iload_n hB 1 dX7_reach_37 rfl ?_
          refine gM_pure (n9 := 1) (As := [.int s]) (rest := [.int s]) hB hM (c_nextOf X.2.1 h a (sg u 0 (nI 0)) T hM hw s) (gCW.of ggX7_reach_X7_nextOf rfl ⟨by decide, by decide, by decide +kernel⟩ ⟨Nat.le_of_ble_eq_true rfl, Nat.le_of_ble_eq_true rfl⟩) (by decide +kernel) (by decide +kernel) (by decide +kernel) (by decide +kernel) rfl rfl (Nat.le_of_ble_eq_true rfl) (by first | exact Nat.le_of_ble_eq_true rfl | (dsimp only [gRm]; omega)) (by first | exact Nat.le_of_ble_eq_true rfl | (dsimp only [gRm]; omega)) dX7_reach_38 ?_
          refine gI_topi hB (y := mNo u T s T) (mNo_sg u 0 (nI 0) T s T) ?_
          refine gI_ior hB dX7_reach_41 ?_
          refine gI_istore_n hB ([(2, .int (s ||| (mNo u T s T))), (3, .int (nI i)), (0, .ref (a 0)), (1, .int (nI t))]) hnL dX7_reach_42 (by decide) rfl ?_
          refine gI_iinc hB 1 ([(3, .int (nI (i + 1))), (2, .int (s ||| (mNo u T s T))), (0, .ref (a 0)), (1, .int (nI t))]) hnL dX7_reach_43 rfl (nI_1 (i)) (by decide) rfl ?_
          refine gI_goto hB 27 dX7_reach_46 (by decide) ?_
          refine gI_loc [0, 1, 2, 3] rfl ?_
          exact ih_lr (i + 1) (s ||| (mNo u T s T)) (by omega) (by omega) (by rw [mReachL, ← es])
    refine gI_loc [0, 1, 2, 3] rfl ?_
    exact lr (T + 1) 0 (mNext u T t) (by omega) (by omega) rfl
  · skip
    have c10_1 := gbi_0.mp c10_1
    refine gI_aload_n hB 0 dX7_reach_13 rfl ?_
    refine gI_iconst (v := nI 1) hB dX7_reach_14 (by decide) ?_
    refine gM_call (n9 := 1) (As := [.int (nI 1)]) (rest := []) hB hM hF (c_fail X.2.1 h a (sg u 0 (nI 0)) hM (nI 1)) (gCW.of ggX7_reach_X7_fail rfl ⟨by decide, by decide, by decide +kernel⟩ ⟨Nat.le_of_ble_eq_true rfl, Nat.le_of_ble_eq_true rfl⟩) (by decide +kernel) (by decide +kernel) (by decide +kernel) (by decide +kernel) rfl rfl (Nat.le_of_ble_eq_true rfl) (by first | exact Nat.le_of_ble_eq_true rfl | (dsimp only [gRm]; omega)) (by first | exact Nat.le_of_ble_eq_true rfl | (dsimp only [gRm]; omega)) mSt.no dX7_reach_15 (fun v9 h u9 k9 n9 hM hF hp => ?_)
    obtain ⟨e9, rfl, rfl, rfl⟩ := hp
    cases e9
    change gW X h (0) (0) _ _ (.int (nI 0) :: _)
    refine gI_iret hB hE dX7_reach_18 ?_
    refine ⟨_, hM, hF, ?_⟩
    have e9 : mReach u p = ((sg (sg u 0 (nI 0)) 0 (nI 1)), (nI 0)) := by
      unfold mReach; rw [if_neg c10_1]; try rfl
    rw [e9]
    exact ⟨rfl, rfl, by omega, by omega⟩

set_option maxRecDepth 100000 in
set_option maxHeartbeats 4000000 in
theorem c_hops (G : gG) (h : gH) (a : Nat → Nat) (u : MS) (T W z : Nat) (hM : mRep G h a u) (o : mOk u T W z) (p q : Int32) : gMet yX7_hops wsX7_hops (gRm 4 0 0) G h [.ref (a 0), .int p, .int q] (mPo G h a (mSp (mHops u p q) 0 0)) := by
  refine gMet_of (maxL := 5) (ret := (some .int)) (by decide) rfl (Nat.le_of_ble_eq_true rfl) ?_
  intro X hG hnL hB hE
  subst hG
  change gW X h 0 0 0 [(0, .ref (a 0)), (1, .int p), (2, .int q)] []
  have hF : mFr h h := mFr.rf
  have hw := o.W
  have hT := o.2.1
  have hW60 := o.2.2.2.1
  have hz200 := o.2.2.2.2.2.1
  have ez := o.2.2.2.2.1
  have eW := o.2.2.1
  refine gI_aload_n hB 0 dX7_hops_0 rfl ?_
  refine gI_iconst (v := nI 0) hB dX7_hops_1 (by decide) ?_
  refine gM_put hB hM hF 0 (sg u 0 (nI 0)) (by decide +kernel) (by decide) (by decide +kernel) rfl rfl rfl rfl rfl rfl dX7_hops_2 (fun h hM hF => ?_)
  refine gI_aload_n hB 0 dX7_hops_5 rfl ?_
  refine gI_iload_n hB 1 dX7_hops_6 rfl ?_
  refine gM_pure (n9 := 1) (As := [.int p]) (rest := []) hB hM (c_isTenant X.2.1 h a (sg u 0 (nI 0)) hM p) (gCW.of ggX7_hops_X7_isTenant rfl ⟨by decide, by decide, by decide +kernel⟩ ⟨Nat.le_of_ble_eq_true rfl, Nat.le_of_ble_eq_true rfl⟩) (by decide +kernel) (by decide +kernel) (by decide +kernel) (by decide +kernel) rfl rfl (Nat.le_of_ble_eq_true rfl) (by first | exact Nat.le_of_ble_eq_true rfl | (dsimp only [gRm]; omega)) (by first | exact Nat.le_of_ble_eq_true rfl | (dsimp only [gRm]; omega)) dX7_hops_7 ?_
  refine gI_topi hB (y := gbi (mTen u p)) rfl ?_
  refine gI_if_eq hB 21 dX7_hops_10 (by decide) (fun c10_1 => ?_) (fun c10_1 => ?_)
  · skip
    have c10_1 := gbi_0.mp c10_1
    refine gI_aload_n hB 0 dX7_hops_21 rfl ?_
    refine gI_iconst (v := nI 1) hB dX7_hops_22 (by decide) ?_
    refine gM_call (n9 := 1) (As := [.int (nI 1)]) (rest := []) hB hM hF (c_fail X.2.1 h a (sg u 0 (nI 0)) hM (nI 1)) (gCW.of ggX7_hops_X7_fail rfl ⟨by decide, by decide, by decide +kernel⟩ ⟨Nat.le_of_ble_eq_true rfl, Nat.le_of_ble_eq_true rfl⟩) (by decide +kernel) (by decide +kernel) (by decide +kernel) (by decide +kernel) rfl rfl (Nat.le_of_ble_eq_true rfl) (by first | exact Nat.le_of_ble_eq_true rfl | (dsimp only [gRm]; omega)) (by first | exact Nat.le_of_ble_eq_true rfl | (dsimp only [gRm]; omega)) mSt.no dX7_hops_23 (fun v9 h u9 k9 n9 hM hF hp => ?_)
    obtain ⟨e9, rfl, rfl, rfl⟩ := hp
    cases e9
    change gW X h (0) (0) _ _ (.int (nI 0) :: _)
    refine gI_iret hB hE dX7_hops_26 ?_
    refine ⟨_, hM, hF, ?_⟩
    have e9 : mHops u p q = ((sg (sg u 0 (nI 0)) 0 (nI 1)), (nI 0)) := by
      unfold mHops; rw [if_neg (fun z9 => c10_1 z9.1)]; try rfl
    rw [e9]
    exact ⟨rfl, rfl, by omega, by omega⟩
  · skip
    have c10_1 := gbi_n0 c10_1
    have hh := c10_1
    obtain ⟨t, ht, et⟩ := mTen_of hw c10_1
    subst et
    refine gI_aload_n hB 0 dX7_hops_13 rfl ?_
    refine gI_iload_n hB 2 dX7_hops_14 rfl ?_
    refine gM_pure (n9 := 1) (As := [.int q]) (rest := []) hB hM (c_isTenant X.2.1 h a (sg u 0 (nI 0)) hM q) (gCW.of ggX7_hops_X7_isTenant rfl ⟨by decide, by decide, by decide +kernel⟩ ⟨Nat.le_of_ble_eq_true rfl, Nat.le_of_ble_eq_true rfl⟩) (by decide +kernel) (by decide +kernel) (by decide +kernel) (by decide +kernel) rfl rfl (Nat.le_of_ble_eq_true rfl) (by first | exact Nat.le_of_ble_eq_true rfl | (dsimp only [gRm]; omega)) (by first | exact Nat.le_of_ble_eq_true rfl | (dsimp only [gRm]; omega)) dX7_hops_15 ?_
    refine gI_topi hB (y := gbi (mTen u q)) rfl ?_
    refine gI_if_ne hB 27 dX7_hops_18 (by decide) (fun c18_2 => ?_) (fun c18_2 => ?_)
    · skip
      have c18_2 := gbi_n0 c18_2
      have hq := c18_2
      obtain ⟨b, hb, eb⟩ := mTen_of hw c18_2
      subst eb
      refine gI_aload_n hB 0 dX7_hops_27 rfl ?_
      refine gI_iload_n hB 1 dX7_hops_28 rfl ?_
      refine gM_pure (n9 := 1) (As := [.int (nI t)]) (rest := []) hB hM (c_next X.2.1 h a (sg u 0 (nI 0)) T hM hw t (by omega)) (gCW.of ggX7_hops_X7_next rfl ⟨by decide, by decide, by decide +kernel⟩ ⟨Nat.le_of_ble_eq_true rfl, Nat.le_of_ble_eq_true rfl⟩) (by decide +kernel) (by decide +kernel) (by decide +kernel) (by decide +kernel) rfl rfl (Nat.le_of_ble_eq_true rfl) (by first | exact Nat.le_of_ble_eq_true rfl | (dsimp only [gRm]; omega)) (by first | exact Nat.le_of_ble_eq_true rfl | (dsimp only [gRm]; omega)) dX7_hops_29 ?_
      refine gI_topi hB (y := mNext u T t) rfl ?_
      refine gI_istore_n hB ([(3, .int (mNext u T t)), (0, .ref (a 0)), (1, .int (nI t)), (2, .int (nI b))]) hnL dX7_hops_32 (by decide) rfl ?_
      refine gI_iconst (v := nI 1) hB dX7_hops_33 (by decide) ?_
      refine gI_istore hB ([(4, .int (nI 1)), (3, .int (mNext u T t)), (0, .ref (a 0)), (1, .int (nI t)), (2, .int (nI b))]) hnL dX7_hops_34 (by decide) rfl ?_
      have lh : ∀ (r_lh : Nat) (m : Nat) (s : Int32), T + 2 ≤ m + r_lh → 1 ≤ m → m ≤ T + 1 → mHopL u T (nI b) (T + 1 - m) m s = mHopL u T (nI b) T 1 (mNext u T t) → gW X h 0 0 36 [(4, .int (nI m)), (3, .int s), (0, .ref (a 0)), (1, .int (nI t)), (2, .int (nI b))] [] := by
        intro r_lh
        induction r_lh with
        | zero => intro m s hfu hm1 hm es; exact absurd hfu (by omega)
        | succ r_lh ih_lh =>
          intro m s hfu hm1 hm es
          refine gI_iload hB 0 dX7_hops_36 rfl ?_
          refine gI_aload_n hB 2 dX7_hops_38 rfl ?_
          refine gM_get hB hM 3 (v := .int (u.1 3)) (by decide +kernel) (by decide) (by decide +kernel) rfl rfl dX7_hops_39 ?_
          refine gI_topi hB (y := nI T) o.1 ?_
          refine gI_icmp_gt hB 67 dX7_hops_42 (by decide) (fun c42_3 => ?_) (fun c42_3 => ?_)
          · skip
            have c42_3 := (nI_ltI (by omega) (by omega)).mp c42_3
            refine gI_iload hB 0 dX7_hops_67 rfl ?_
            refine gI_aload_n hB 2 dX7_hops_69 rfl ?_
            refine gM_get hB hM 3 (v := .int (u.1 3)) (by decide +kernel) (by decide) (by decide +kernel) rfl rfl dX7_hops_70 ?_
            refine gI_topi hB (y := nI T) o.1 ?_
            refine gI_icmp_le hB 80 dX7_hops_73 (by decide) (fun c73_4 => ?_) (fun c73_4 => ?_)
            · skip
              have c73_4 := (nI_leI (by omega) (by omega)).mp c73_4
              exact absurd c73_4 (by omega)
            · skip
              have c73_4 := mt (nI_leI (by omega) (by omega)).mpr c73_4
              refine gI_iconst (v := (-1)) hB dX7_hops_76 (by decide) ?_
              refine gI_goto hB 82 dX7_hops_77 (by decide) ?_
              refine gI_iret hB hE dX7_hops_82 ?_
              refine ⟨_, hM, hF, ?_⟩
              have e9 : mHops u (nI t) (nI b) = ((sg u 0 (nI 0)), (-1)) := by
                unfold mHops; rw [if_pos ⟨hh, hq⟩, o.1, mCl (by omega), mCl (by omega), ← es, show T + 1 - m = 0 by omega]; try rfl
              rw [e9]
              exact ⟨rfl, rfl, by omega, by omega⟩
          · skip
            have c42_3 := mt (nI_ltI (by omega) (by omega)).mpr c42_3
            refine gI_iload_n hB 1 dX7_hops_45 rfl ?_
            refine gI_iload_n hB 4 dX7_hops_46 rfl ?_
            refine gI_ishr hB dX7_hops_47 ?_
            refine gI_iconst (v := nI 1) hB dX7_hops_48 (by decide) ?_
            refine gI_iand hB dX7_hops_49 ?_
            refine gI_if_ne hB 67 dX7_hops_50 (by decide) (fun c50_5 => ?_) (fun c50_5 => ?_)
            · skip
              refine gI_iload hB 0 dX7_hops_67 rfl ?_
              refine gI_aload_n hB 2 dX7_hops_69 rfl ?_
              refine gM_get hB hM 3 (v := .int (u.1 3)) (by decide +kernel) (by decide) (by decide +kernel) rfl rfl dX7_hops_70 ?_
              refine gI_topi hB (y := nI T) o.1 ?_
              refine gI_icmp_le hB 80 dX7_hops_73 (by decide) (fun c73_6 => ?_) (fun c73_6 => ?_)
              · skip
                have c73_6 := (nI_leI (by omega) (by omega)).mp c73_6
                refine gI_iload hB 0 dX7_hops_80 rfl ?_
                refine gI_iret hB hE dX7_hops_82 ?_
                refine ⟨_, hM, hF, ?_⟩
                have e9 : mHops u (nI t) (nI b) = ((sg u 0 (nI 0)), (nI m)) := by
                  unfold mHops; rw [if_pos ⟨hh, hq⟩, o.1, mCl (by omega), mCl (by omega), ← es, show T + 1 - m = (T - m) + 1 by omega, mHopL, if_neg c50_5]; try rfl
                rw [e9]
                exact ⟨rfl, rfl, by omega, by omega⟩
              · skip
                have c73_6 := mt (nI_leI (by omega) (by omega)).mpr c73_6
                exact absurd c42_3 (by omega)
            · skip
              refine gI_iload_n hB 1 dX7_hops_53 rfl ?_
              refine gI_aload_n hB 2 dX7_hops_54 rfl ?_
              refine gI_iload_n hB 1 dX7_hops_55 rfl ?_
              refine gM_pure (n9 := 1) (As := [.int s]) (rest := [.int s]) hB hM (c_nextOf X.2.1 h a (sg u 0 (nI 0)) T hM hw s) (gCW.of ggX7_hops_X7_nextOf rfl ⟨by decide, by decide, by decide +kernel⟩ ⟨Nat.le_of_ble_eq_true rfl, Nat.le_of_ble_eq_true rfl⟩) (by decide +kernel) (by decide +kernel) (by decide +kernel) (by decide +kernel) rfl rfl (Nat.le_of_ble_eq_true rfl) (by first | exact Nat.le_of_ble_eq_true rfl | (dsimp only [gRm]; omega)) (by first | exact Nat.le_of_ble_eq_true rfl | (dsimp only [gRm]; omega)) dX7_hops_56 ?_
              refine gI_topi hB (y := mNo u T s T) (mNo_sg u 0 (nI 0) T s T) ?_
              refine gI_ior hB dX7_hops_59 ?_
              refine gI_istore_n hB ([(3, .int (s ||| (mNo u T s T))), (4, .int (nI m)), (0, .ref (a 0)), (1, .int (nI t)), (2, .int (nI b))]) hnL dX7_hops_60 (by decide) rfl ?_
              refine gI_iinc hB 1 ([(4, .int (nI (m + 1))), (3, .int (s ||| (mNo u T s T))), (0, .ref (a 0)), (1, .int (nI t)), (2, .int (nI b))]) hnL dX7_hops_61 rfl (nI_1 (m)) (by decide) rfl ?_
              refine gI_goto hB 36 dX7_hops_64 (by decide) ?_
              refine gI_loc [0, 1, 2, 3, 4] rfl ?_
              exact ih_lh (m + 1) (s ||| (mNo u T s T)) (by omega) (by omega) (by omega) (by rw [← es, show T + 1 - m = (T + 1 - (m + 1)) + 1 by omega, mHopL, if_pos c50_5])
      refine gI_loc [0, 1, 2, 3, 4] rfl ?_
      exact lh (T + 1) 1 (mNext u T t) (by omega) (by omega) (by omega) (by rw [show T + 1 - 1 = T by omega])
    · skip
      have c18_2 := gbi_0.mp c18_2
      refine gI_aload_n hB 0 dX7_hops_21 rfl ?_
      refine gI_iconst (v := nI 1) hB dX7_hops_22 (by decide) ?_
      refine gM_call (n9 := 1) (As := [.int (nI 1)]) (rest := []) hB hM hF (c_fail X.2.1 h a (sg u 0 (nI 0)) hM (nI 1)) (gCW.of ggX7_hops_X7_fail rfl ⟨by decide, by decide, by decide +kernel⟩ ⟨Nat.le_of_ble_eq_true rfl, Nat.le_of_ble_eq_true rfl⟩) (by decide +kernel) (by decide +kernel) (by decide +kernel) (by decide +kernel) rfl rfl (Nat.le_of_ble_eq_true rfl) (by first | exact Nat.le_of_ble_eq_true rfl | (dsimp only [gRm]; omega)) (by first | exact Nat.le_of_ble_eq_true rfl | (dsimp only [gRm]; omega)) mSt.no dX7_hops_23 (fun v9 h u9 k9 n9 hM hF hp => ?_)
      obtain ⟨e9, rfl, rfl, rfl⟩ := hp
      cases e9
      change gW X h (0) (0) _ _ (.int (nI 0) :: _)
      refine gI_iret hB hE dX7_hops_26 ?_
      refine ⟨_, hM, hF, ?_⟩
      have e9 : mHops u (nI t) q = ((sg (sg u 0 (nI 0)) 0 (nI 1)), (nI 0)) := by
        unfold mHops; rw [if_neg (fun z9 => c18_2 z9.2)]; try rfl
      rw [e9]
      exact ⟨rfl, rfl, by omega, by omega⟩

set_option maxRecDepth 100000 in
set_option maxHeartbeats 4000000 in
theorem c_patience (G : gG) (h : gH) (a : Nat → Nat) (u : MS) (T W z : Nat) (hM : mRep G h a u) (o : mOk u T W z) : gMet yX7_patience wsX7_patience (gRm 2 0 0) G h [.ref (a 0)] (mPo G h a (mSpV (sg u 0 (nI 0)) (.double (mPatV u)))) := by
  refine gMet_of (maxL := 3) (ret := (some .double)) (by decide) rfl (Nat.le_of_ble_eq_true rfl) ?_
  intro X hG hnL hB hE
  subst hG
  change gW X h 0 0 0 [(0, .ref (a 0))] []
  have hF : mFr h h := mFr.rf
  have hw := o.W
  have hT := o.2.1
  have hW60 := o.2.2.2.1
  have hz200 := o.2.2.2.2.2.1
  have ez := o.2.2.2.2.1
  have eW := o.2.2.1
  refine gI_aload_n hB 0 dX7_patience_0 rfl ?_
  refine gI_iconst (v := nI 0) hB dX7_patience_1 (by decide) ?_
  refine gM_put hB hM hF 0 (sg u 0 (nI 0)) (by decide +kernel) (by decide) (by decide +kernel) rfl rfl rfl rfl rfl rfl dX7_patience_2 (fun h hM hF => ?_)
  refine gI_iconst (v := nI 0) hB dX7_patience_5 (by decide) ?_
  refine gI_istore_n hB ([(1, .int (nI 0)), (0, .ref (a 0))]) hnL dX7_patience_6 (by decide) rfl ?_
  refine gI_iconst (v := nI 0) hB dX7_patience_7 (by decide) ?_
  refine gI_istore_n hB ([(2, .int (nI 0)), (1, .int (nI 0)), (0, .ref (a 0))]) hnL dX7_patience_8 (by decide) rfl ?_
  have lp : ∀ (r_lp : Nat) (i : Nat) (s : Int32), T + 1 ≤ i + r_lp → i ≤ T → s = mSum u i → gW X h 0 0 9 [(2, .int (nI i)), (1, .int s), (0, .ref (a 0))] [] := by
    intro r_lp
    induction r_lp with
    | zero => intro i s hfu hi es; exact absurd hfu (by omega)
    | succ r_lp ih_lp =>
      intro i s hfu hi es
      refine gI_iload_n hB 0 dX7_patience_9 rfl ?_
      refine gI_aload_n hB 2 dX7_patience_10 rfl ?_
      refine gM_get hB hM 3 (v := .int (u.1 3)) (by decide +kernel) (by decide) (by decide +kernel) rfl rfl dX7_patience_11 ?_
      refine gI_topi hB (y := nI T) o.1 ?_
      refine gI_icmp_ge hB 32 dX7_patience_14 (by decide) (fun c14_1 => ?_) (fun c14_1 => ?_)
      · skip
        have c14_1 := (nI_leI (by omega) (by omega)).mp c14_1
        refine gI_aload_n hB 2 dX7_patience_32 rfl ?_
        refine gM_get hB hM 3 (v := .int (u.1 3)) (by decide +kernel) (by decide) (by decide +kernel) rfl rfl dX7_patience_33 ?_
        refine gI_topi hB (y := nI T) o.1 ?_
        refine gI_if_ne hB 43 dX7_patience_36 (by decide) (fun c36_2 => ?_) (fun c36_2 => ?_)
        · skip
          have hnan : vf_n64 (FP.ddiv (FP.i2d s) (FP.i2d (nI T))) := by
            have ei : i = T := by omega
            obtain ⟨y9, hy9, ey9⟩ := mSum_le o T (Nat.le_refl _)
            rw [es, ei, ey9]
            exact pat_nan (by omega) (Nat.pos_of_ne_zero (fun z9 => c36_2 (by rw [z9]; rfl))) hT
          refine gI_iload_n hB 1 dX7_patience_43 rfl ?_
          refine gI_i2d hB dX7_patience_44 ?_
          refine gI_aload_n hB 2 dX7_patience_45 rfl ?_
          refine gM_get hB hM 3 (v := .int (u.1 3)) (by decide +kernel) (by decide) (by decide +kernel) rfl rfl dX7_patience_46 ?_
          refine gI_topi hB (y := nI T) o.1 ?_
          refine gI_i2d hB dX7_patience_49 ?_
          refine gI_ddiv hB dX7_patience_50 hnan ?_
          refine gI_dret hB hE dX7_patience_51 ?_
          have e9 : i = T := by omega
          have e8 : mPatV u = (FP.ddiv (FP.i2d s) (FP.i2d (nI T))) := by unfold mPatV; rw [if_neg (fun z9 => c36_2 (o.1.symm.trans z9)), o.1, mCl (by omega), es, e9]
          rw [e8]
          exact ⟨_, hM, hF, rfl, rfl, by omega, by omega⟩
        · skip
          refine gI_dconst0 hB dX7_patience_39 ?_
          refine gI_goto hB 51 dX7_patience_40 (by decide) ?_
          refine gI_dret hB hE dX7_patience_51 ?_
          have e9 : i = T := by omega
          have e8 : mPatV u = FP.dconst0 := by unfold mPatV; rw [if_pos (o.1.trans c36_2)]
          rw [e8]
          exact ⟨_, hM, hF, rfl, rfl, by omega, by omega⟩
      · skip
        have c14_1 := mt (nI_leI (by omega) (by omega)).mpr c14_1
        refine gI_iload_n hB 1 dX7_patience_17 rfl ?_
        refine gI_aload_n hB 2 dX7_patience_18 rfl ?_
        refine gI_iload_n hB 0 dX7_patience_19 rfl ?_
        refine gI_iconst (v := nI 2) hB dX7_patience_20 (by decide) ?_
        refine gM_pure (n9 := 2) (As := [.int (nI i), .int (nI 2)]) (rest := [.int s]) hB hM (c_get X.2.1 h a (sg u 0 (nI 0)) hM i 2 (by omega) (by omega)) (gCW.of ggX7_patience_X7_get rfl ⟨by decide, by decide, by decide +kernel⟩ ⟨Nat.le_of_ble_eq_true rfl, Nat.le_of_ble_eq_true rfl⟩) (by decide +kernel) (by decide +kernel) (by decide +kernel) (by decide +kernel) rfl rfl (Nat.le_of_ble_eq_true rfl) (by first | exact Nat.le_of_ble_eq_true rfl | (dsimp only [gRm]; omega)) (by first | exact Nat.le_of_ble_eq_true rfl | (dsimp only [gRm]; omega)) dX7_patience_21 ?_
        refine gI_iadd hB dX7_patience_24 ?_
        refine gI_istore_n hB ([(1, .int (s + (u.2 0 (7 * i + 2)))), (2, .int (nI i)), (0, .ref (a 0))]) hnL dX7_patience_25 (by decide) rfl ?_
        refine gI_iinc hB 1 ([(2, .int (nI (i + 1))), (1, .int (s + (u.2 0 (7 * i + 2)))), (0, .ref (a 0))]) hnL dX7_patience_26 rfl (nI_1 (i)) (by decide) rfl ?_
        refine gI_goto hB 9 dX7_patience_29 (by decide) ?_
        refine gI_loc [0, 1, 2] rfl ?_
        exact ih_lp (i + 1) (s + (u.2 0 (7 * i + 2))) (by omega) (by omega) (by rw [mSum, ← es])
  refine gI_loc [0, 1, 2] rfl ?_
  exact lp (T + 1) 0 (nI 0) (by omega) (by omega) rfl

set_option maxRecDepth 100000 in
set_option maxHeartbeats 4000000 in
theorem c_digest (G : gG) (h : gH) (a : Nat → Nat) (u : MS) (T W z : Nat) (hM : mRep G h a u) (o : mOk u T W z) : gMet yX7_digest wsX7_digest (gRm 3 0 0) G h [.ref (a 0)] (mPo G h a (mSpV (sg u 0 (nI 0)) (.long (mDig u)))) := by
  refine gMet_of (maxL := 6) (ret := (some .long)) (by decide) rfl (Nat.le_of_ble_eq_true rfl) ?_
  intro X hG hnL hB hE
  subst hG
  change gW X h 0 0 0 [(0, .ref (a 0))] []
  have hF : mFr h h := mFr.rf
  have hw := o.W
  have hT := o.2.1
  have hW60 := o.2.2.2.1
  have hz200 := o.2.2.2.2.2.1
  have ez := o.2.2.2.2.1
  have eW := o.2.2.1
  refine gI_aload_n hB 0 dX7_digest_0 rfl ?_
  refine gI_iconst (v := nI 0) hB dX7_digest_1 (by decide) ?_
  refine gM_put hB hM hF 0 (sg u 0 (nI 0)) (by decide +kernel) (by decide) (by decide +kernel) rfl rfl rfl rfl rfl rfl dX7_digest_2 (fun h hM hF => ?_)
  refine gI_ldc2 (v := 439) hB (by decide +kernel) dX7_digest_5 ?_
  refine gI_lstore_n hB ([(1, .long 439), (0, .ref (a 0))]) hnL dX7_digest_8 (by decide) rfl ?_
  refine gI_iconst (v := nI 0) hB dX7_digest_9 (by decide) ?_
  refine gI_istore_n hB ([(3, .int (nI 0)), (1, .long 439), (0, .ref (a 0))]) hnL dX7_digest_10 (by decide) rfl ?_
  have l11 : ∀ (r_l11 : Nat) (i1 : Nat) (d1 : Int64), 10 ≤ i1 + r_l11 → i1 ≤ 9 → d1 = dF 439 (mCnt u) i1 → gW X h 0 0 11 [(3, .int (nI i1)), (1, .long d1), (0, .ref (a 0))] [] := by
    intro r_l11
    induction r_l11 with
    | zero => intro i1 d1 hfu hi1 ed1; exact absurd hfu (by omega)
    | succ r_l11 ih_l11 =>
      intro i1 d1 hfu hi1 ed1
      refine gI_iload_n hB 0 dX7_digest_11 rfl ?_
      refine gI_bipush (v := nI 9) hB dX7_digest_12 (by decide) ?_
      refine gI_icmp_ge hB 36 dX7_digest_14 (by decide) (fun c14_1 => ?_) (fun c14_1 => ?_)
      · skip
        have c14_1 := (nI_leI (by omega) (by omega)).mp c14_1
        refine gI_iconst (v := nI 0) hB dX7_digest_36 (by decide) ?_
        refine gI_istore_n hB ([(3, .int (nI 0)), (1, .long d1), (0, .ref (a 0))]) hnL dX7_digest_37 (by decide) rfl ?_
        have l38 : ∀ (r_l38 : Nat) (t : Nat) (d2 : Int64), T + 1 ≤ t + r_l38 → t ≤ T → d2 = mDgT u (dF 439 (mCnt u) 9) t → gW X h 0 0 38 [(3, .int (nI t)), (1, .long d2), (0, .ref (a 0))] [] := by
          intro r_l38
          induction r_l38 with
          | zero => intro t d2 hfu ht9 ed2; exact absurd hfu (by omega)
          | succ r_l38 ih_l38 =>
            intro t d2 hfu ht9 ed2
            refine gI_iload_n hB 0 dX7_digest_38 rfl ?_
            refine gI_aload_n hB 2 dX7_digest_39 rfl ?_
            refine gM_get hB hM 3 (v := .int (u.1 3)) (by decide +kernel) (by decide) (by decide +kernel) rfl rfl dX7_digest_40 ?_
            refine gI_topi hB (y := nI T) o.1 ?_
            refine gI_icmp_ge hB 141 dX7_digest_43 (by decide) (fun c43_2 => ?_) (fun c43_2 => ?_)
            · skip
              have c43_2 := (nI_leI (by omega) (by omega)).mp c43_2
              refine gI_iconst (v := nI 0) hB dX7_digest_141 (by decide) ?_
              refine gI_istore_n hB ([(3, .int (nI 0)), (1, .long d2), (0, .ref (a 0))]) hnL dX7_digest_142 (by decide) rfl ?_
              have l143 : ∀ (r_l143 : Nat) (k6 : Nat) (d6 : Int64), W + 1 ≤ k6 + r_l143 → k6 ≤ W → d6 = mDgR u (mDgT u (dF 439 (mCnt u) 9) T) k6 → gW X h 0 0 143 [(3, .int (nI k6)), (1, .long d6), (0, .ref (a 0))] [] := by
                intro r_l143
                induction r_l143 with
                | zero => intro k6 d6 hfu hk6 ed6; exact absurd hfu (by omega)
                | succ r_l143 ih_l143 =>
                  intro k6 d6 hfu hk6 ed6
                  refine gI_iload_n hB 0 dX7_digest_143 rfl ?_
                  refine gI_aload_n hB 2 dX7_digest_144 rfl ?_
                  refine gM_get hB hM 6 (v := .int (u.1 6)) (by decide +kernel) (by decide) (by decide +kernel) rfl rfl dX7_digest_145 ?_
                  refine gI_topi hB (y := nI W) eW ?_
                  refine gI_icmp_ge hB 192 dX7_digest_148 (by decide) (fun c148_3 => ?_) (fun c148_3 => ?_)
                  · skip
                    have c148_3 := (nI_leI (by omega) (by omega)).mp c148_3
                    refine gI_iconst (v := nI 0) hB dX7_digest_192 (by decide) ?_
                    refine gI_istore_n hB ([(3, .int (nI 0)), (1, .long d6), (0, .ref (a 0))]) hnL dX7_digest_193 (by decide) rfl ?_
                    have l194 : ∀ (r_l194 : Nat) (k8 : Nat) (d8 : Int64), z + 1 ≤ k8 + r_l194 → k8 ≤ z → d8 = mDgN u (mDgR u (mDgT u (dF 439 (mCnt u) 9) T) W) k8 → gW X h 0 0 194 [(3, .int (nI k8)), (1, .long d8), (0, .ref (a 0))] [] := by
                      intro r_l194
                      induction r_l194 with
                      | zero => intro k8 d8 hfu hk8 ed8; exact absurd hfu (by omega)
                      | succ r_l194 ih_l194 =>
                        intro k8 d8 hfu hk8 ed8
                        refine gI_iload_n hB 0 dX7_digest_194 rfl ?_
                        refine gI_aload_n hB 2 dX7_digest_195 rfl ?_
                        refine gM_get hB hM 12 (v := .int (u.1 12)) (by decide +kernel) (by decide) (by decide +kernel) rfl rfl dX7_digest_196 ?_
                        refine gI_topi hB (y := nI z) ez ?_
                        refine gI_icmp_ge hB 244 dX7_digest_199 (by decide) (fun c199_4 => ?_) (fun c199_4 => ?_)
                        · skip
                          have c199_4 := (nI_leI (by omega) (by omega)).mp c199_4
                          refine gI_lload_n hB 1 dX7_digest_244 rfl ?_
                          refine gI_lret hB hE dX7_digest_245 ?_
                          have ef : mDig u = d8 := by
                            unfold mDig mKept
                            rw [o.1, mCl (by omega), eW, mCl (by omega), ez, mCl (by omega), ed8, show k8 = z by omega]
                          rw [ef]
                          exact ⟨_, hM, hF, rfl, rfl, by omega, by omega⟩
                        · skip
                          have c199_4 := mt (nI_leI (by omega) (by omega)).mpr c199_4
                          refine gI_iconst (v := nI 0) hB dX7_digest_202 (by decide) ?_
                          refine gI_istore hB ([(4, .int (nI 0)), (3, .int (nI k8)), (1, .long d8), (0, .ref (a 0))]) hnL dX7_digest_203 (by decide) rfl ?_
                          have l205 : ∀ (r_l205 : Nat) (i9 : Nat) (d9 : Int64), 7 ≤ i9 + r_l205 → i9 ≤ 6 → d9 = dF d8 (fun i => u.2 3 (15 * k8 + i)) i9 → gW X h 0 0 205 [(4, .int (nI i9)), (3, .int (nI k8)), (1, .long d9), (0, .ref (a 0))] [] := by
                            intro r_l205
                            induction r_l205 with
                            | zero => intro i9 d9 hfu hi9 ed9; exact absurd hfu (by omega)
                            | succ r_l205 ih_l205 =>
                              intro i9 d9 hfu hi9 ed9
                              refine gI_iload hB 0 dX7_digest_205 rfl ?_
                              refine gI_bipush (v := nI 6) hB dX7_digest_207 (by decide) ?_
                              refine gI_icmp_ge hB 238 dX7_digest_209 (by decide) (fun c209_5 => ?_) (fun c209_5 => ?_)
                              · skip
                                have c209_5 := (nI_leI (by omega) (by omega)).mp c209_5
                                refine gI_iinc hB 1 ([(3, .int (nI (k8 + 1))), (4, .int (nI i9)), (1, .long d9), (0, .ref (a 0))]) hnL dX7_digest_238 rfl (nI_1 (k8)) (by decide) rfl ?_
                                refine gI_goto hB 194 dX7_digest_241 (by decide) ?_
                                refine gI_loc [0, 2, 3] rfl ?_
                                exact ih_l194 (k8 + 1) d9 (by omega) (by omega) (by rw [mDgN, ← ed8, ed9, show i9 = 6 by omega])
                              · skip
                                have c209_5 := mt (nI_leI (by omega) (by omega)).mpr c209_5
                                refine gI_lload_n hB 2 dX7_digest_212 rfl ?_
                                refine gI_ldc2 (v := 31) hB (by decide +kernel) dX7_digest_213 ?_
                                refine gI_lmul hB dX7_digest_216 ?_
                                refine gI_aload_n hB 3 dX7_digest_217 rfl ?_
                                refine gM_get hB hM 13 (v := .ref (a 4)) (by decide +kernel) (by decide) (by decide +kernel) rfl rfl dX7_digest_218 ?_
                                refine gI_bipush (v := nI 15) hB dX7_digest_221 (by decide) ?_
                                refine gI_iload_n hB 1 dX7_digest_223 rfl ?_
                                refine gI_imulN hB dX7_digest_224 ?_
                                refine gI_iload hB 0 dX7_digest_225 rfl ?_
                                refine gI_iaddN hB dX7_digest_227 ?_
                                refine gM_ald hB hM 3 (by decide) ((15 * k8) + i9) rfl (show (15 * k8) + i9 < 3000 by omega) dX7_digest_228 ?_
                                refine gI_i2l hB dX7_digest_229 ?_
                                refine gI_ladd hB dX7_digest_230 ?_
                                refine gI_lstore_n hB ([(1, .long ((d9 * 31) + ((u.2 3 ((15 * k8) + i9)).toInt64))), (4, .int (nI i9)), (3, .int (nI k8)), (0, .ref (a 0))]) hnL dX7_digest_231 (by decide) rfl ?_
                                refine gI_iinc hB 1 ([(4, .int (nI (i9 + 1))), (1, .long ((d9 * 31) + ((u.2 3 ((15 * k8) + i9)).toInt64))), (3, .int (nI k8)), (0, .ref (a 0))]) hnL dX7_digest_232 rfl (nI_1 (i9)) (by decide) rfl ?_
                                refine gI_goto hB 205 dX7_digest_235 (by decide) ?_
                                refine gI_loc [0, 2, 1, 3] rfl ?_
                                exact ih_l205 (i9 + 1) ((d9 * 31) + ((u.2 3 ((15 * k8) + i9)).toInt64)) (by omega) (by omega) (by rw [dF, ← ed9])
                          refine gI_loc [0, 1, 2, 3] rfl ?_
                          exact l205 7 0 d8 (by omega) (by omega) rfl
                    refine gI_loc [0, 1, 2] rfl ?_
                    exact l194 (z + 1) 0 d6 (by omega) (by omega) (by rw [ed6, show k6 = W by omega]; rfl)
                  · skip
                    have c148_3 := mt (nI_leI (by omega) (by omega)).mpr c148_3
                    refine gI_iconst (v := nI 0) hB dX7_digest_151 (by decide) ?_
                    refine gI_istore hB ([(4, .int (nI 0)), (3, .int (nI k6)), (1, .long d6), (0, .ref (a 0))]) hnL dX7_digest_152 (by decide) rfl ?_
                    have l154 : ∀ (r_l154 : Nat) (i7 : Nat) (d7 : Int64), 6 ≤ i7 + r_l154 → i7 ≤ 5 → d7 = dF d6 (fun i => u.2 2 (14 * k6 + i)) i7 → gW X h 0 0 154 [(4, .int (nI i7)), (3, .int (nI k6)), (1, .long d7), (0, .ref (a 0))] [] := by
                      intro r_l154
                      induction r_l154 with
                      | zero => intro i7 d7 hfu hi7 ed7; exact absurd hfu (by omega)
                      | succ r_l154 ih_l154 =>
                        intro i7 d7 hfu hi7 ed7
                        refine gI_iload hB 0 dX7_digest_154 rfl ?_
                        refine gI_iconst (v := nI 5) hB dX7_digest_156 (by decide) ?_
                        refine gI_icmp_ge hB 186 dX7_digest_157 (by decide) (fun c157_6 => ?_) (fun c157_6 => ?_)
                        · skip
                          have c157_6 := (nI_leI (by omega) (by omega)).mp c157_6
                          refine gI_iinc hB 1 ([(3, .int (nI (k6 + 1))), (4, .int (nI i7)), (1, .long d7), (0, .ref (a 0))]) hnL dX7_digest_186 rfl (nI_1 (k6)) (by decide) rfl ?_
                          refine gI_goto hB 143 dX7_digest_189 (by decide) ?_
                          refine gI_loc [0, 2, 3] rfl ?_
                          exact ih_l143 (k6 + 1) d7 (by omega) (by omega) (by rw [mDgR, ← ed6, ed7, show i7 = 5 by omega])
                        · skip
                          have c157_6 := mt (nI_leI (by omega) (by omega)).mpr c157_6
                          refine gI_lload_n hB 2 dX7_digest_160 rfl ?_
                          refine gI_ldc2 (v := 31) hB (by decide +kernel) dX7_digest_161 ?_
                          refine gI_lmul hB dX7_digest_164 ?_
                          refine gI_aload_n hB 3 dX7_digest_165 rfl ?_
                          refine gM_get hB hM 7 (v := .ref (a 3)) (by decide +kernel) (by decide) (by decide +kernel) rfl rfl dX7_digest_166 ?_
                          refine gI_bipush (v := nI 14) hB dX7_digest_169 (by decide) ?_
                          refine gI_iload_n hB 1 dX7_digest_171 rfl ?_
                          refine gI_imulN hB dX7_digest_172 ?_
                          refine gI_iload hB 0 dX7_digest_173 rfl ?_
                          refine gI_iaddN hB dX7_digest_175 ?_
                          refine gM_ald hB hM 2 (by decide) ((14 * k6) + i7) rfl (show (14 * k6) + i7 < 840 by omega) dX7_digest_176 ?_
                          refine gI_i2l hB dX7_digest_177 ?_
                          refine gI_ladd hB dX7_digest_178 ?_
                          refine gI_lstore_n hB ([(1, .long ((d7 * 31) + ((u.2 2 ((14 * k6) + i7)).toInt64))), (4, .int (nI i7)), (3, .int (nI k6)), (0, .ref (a 0))]) hnL dX7_digest_179 (by decide) rfl ?_
                          refine gI_iinc hB 1 ([(4, .int (nI (i7 + 1))), (1, .long ((d7 * 31) + ((u.2 2 ((14 * k6) + i7)).toInt64))), (3, .int (nI k6)), (0, .ref (a 0))]) hnL dX7_digest_180 rfl (nI_1 (i7)) (by decide) rfl ?_
                          refine gI_goto hB 154 dX7_digest_183 (by decide) ?_
                          refine gI_loc [0, 2, 1, 3] rfl ?_
                          exact ih_l154 (i7 + 1) ((d7 * 31) + ((u.2 2 ((14 * k6) + i7)).toInt64)) (by omega) (by omega) (by rw [dF, ← ed7])
                    refine gI_loc [0, 1, 2, 3] rfl ?_
                    exact l154 6 0 d6 (by omega) (by omega) rfl
              refine gI_loc [0, 1, 2] rfl ?_
              exact l143 (W + 1) 0 d2 (by omega) (by omega) (by rw [ed2, show t = T by omega]; rfl)
            · skip
              have c43_2 := mt (nI_leI (by omega) (by omega)).mpr c43_2
              obtain ⟨m, hm8, em⟩ := hw.2.2 t (by omega)
              refine gI_iconst (v := nI 0) hB dX7_digest_46 (by decide) ?_
              refine gI_istore hB ([(4, .int (nI 0)), (3, .int (nI t)), (1, .long d2), (0, .ref (a 0))]) hnL dX7_digest_47 (by decide) rfl ?_
              have l49 : ∀ (r_l49 : Nat) (i3 : Nat) (d3 : Int64), 7 ≤ i3 + r_l49 → i3 ≤ 6 → d3 = dF d2 (fun i => u.2 0 (7 * t + i)) i3 → gW X h 0 0 49 [(4, .int (nI i3)), (3, .int (nI t)), (1, .long d3), (0, .ref (a 0))] [] := by
                intro r_l49
                induction r_l49 with
                | zero => intro i3 d3 hfu hi3 ed3; exact absurd hfu (by omega)
                | succ r_l49 ih_l49 =>
                  intro i3 d3 hfu hi3 ed3
                  refine gI_iload hB 0 dX7_digest_49 rfl ?_
                  refine gI_bipush (v := nI 6) hB dX7_digest_51 (by decide) ?_
                  refine gI_icmp_ge hB 77 dX7_digest_53 (by decide) (fun c53_7 => ?_) (fun c53_7 => ?_)
                  · skip
                    have c53_7 := (nI_leI (by omega) (by omega)).mp c53_7
                    refine gI_iconst (v := nI 0) hB dX7_digest_77 (by decide) ?_
                    refine gI_istore hB ([(4, .int (nI 0)), (3, .int (nI t)), (1, .long d3), (0, .ref (a 0))]) hnL dX7_digest_78 (by decide) rfl ?_
                    have l80 : ∀ (r_l80 : Nat) (j : Nat) (d4 : Int64), m + 1 ≤ j + r_l80 → j ≤ m → d4 = mDgH u t d3 j → gW X h 0 0 80 [(4, .int (nI j)), (3, .int (nI t)), (1, .long d4), (0, .ref (a 0))] [] := by
                      intro r_l80
                      induction r_l80 with
                      | zero => intro j d4 hfu hj ed4; exact absurd hfu (by omega)
                      | succ r_l80 ih_l80 =>
                        intro j d4 hfu hj ed4
                        refine gI_iload hB 0 dX7_digest_80 rfl ?_
                        refine gI_aload_n hB 3 dX7_digest_82 rfl ?_
                        refine gI_iload_n hB 1 dX7_digest_83 rfl ?_
                        refine gI_iconst (v := nI 3) hB dX7_digest_84 (by decide) ?_
                        refine gM_pure (n9 := 2) (As := [.int (nI t), .int (nI 3)]) (rest := [.int (nI j)]) hB hM (c_get X.2.1 h a (sg u 0 (nI 0)) hM t 3 (by omega) (by omega)) (gCW.of ggX7_digest_X7_get rfl ⟨by decide, by decide, by decide +kernel⟩ ⟨Nat.le_of_ble_eq_true rfl, Nat.le_of_ble_eq_true rfl⟩) (by decide +kernel) (by decide +kernel) (by decide +kernel) (by decide +kernel) rfl rfl (Nat.le_of_ble_eq_true rfl) (by first | exact Nat.le_of_ble_eq_true rfl | (dsimp only [gRm]; omega)) (by first | exact Nat.le_of_ble_eq_true rfl | (dsimp only [gRm]; omega)) dX7_digest_85 ?_
                        refine gI_topi hB (y := nI m) em ?_
                        refine gI_icmp_ge hB 135 dX7_digest_88 (by decide) (fun c88_8 => ?_) (fun c88_8 => ?_)
                        · skip
                          have c88_8 := (nI_leI (by omega) (by omega)).mp c88_8
                          refine gI_iinc hB 1 ([(3, .int (nI (t + 1))), (4, .int (nI j)), (1, .long d4), (0, .ref (a 0))]) hnL dX7_digest_135 rfl (nI_1 (t)) (by decide) rfl ?_
                          refine gI_goto hB 38 dX7_digest_138 (by decide) ?_
                          refine gI_loc [0, 2, 3] rfl ?_
                          exact ih_l38 (t + 1) d4 (by omega) (by omega) (by rw [mDgT, mMany_of hm8 em, ← ed2, ed4, ed3, show j = m by omega, show i3 = 6 by omega])
                        · skip
                          have c88_8 := mt (nI_leI (by omega) (by omega)).mpr c88_8
                          refine gI_iconst (v := nI 0) hB dX7_digest_91 (by decide) ?_
                          refine gI_istore hB ([(5, .int (nI 0)), (4, .int (nI j)), (3, .int (nI t)), (1, .long d4), (0, .ref (a 0))]) hnL dX7_digest_92 (by decide) rfl ?_
                          have l94 : ∀ (r_l94 : Nat) (i5 : Nat) (d5 : Int64), 10 ≤ i5 + r_l94 → i5 ≤ 9 → d5 = dF d4 (fun i => u.2 1 (9 * (8 * t + j) + i)) i5 → gW X h 0 0 94 [(5, .int (nI i5)), (4, .int (nI j)), (3, .int (nI t)), (1, .long d5), (0, .ref (a 0))] [] := by
                            intro r_l94
                            induction r_l94 with
                            | zero => intro i5 d5 hfu hi5 ed5; exact absurd hfu (by omega)
                            | succ r_l94 ih_l94 =>
                              intro i5 d5 hfu hi5 ed5
                              refine gI_iload hB 0 dX7_digest_94 rfl ?_
                              refine gI_bipush (v := nI 9) hB dX7_digest_96 (by decide) ?_
                              refine gI_icmp_ge hB 129 dX7_digest_98 (by decide) (fun c98_9 => ?_) (fun c98_9 => ?_)
                              · skip
                                have c98_9 := (nI_leI (by omega) (by omega)).mp c98_9
                                refine gI_iinc hB 1 ([(4, .int (nI (j + 1))), (5, .int (nI i5)), (3, .int (nI t)), (1, .long d5), (0, .ref (a 0))]) hnL dX7_digest_129 rfl (nI_1 (j)) (by decide) rfl ?_
                                refine gI_goto hB 80 dX7_digest_132 (by decide) ?_
                                refine gI_loc [0, 2, 3, 4] rfl ?_
                                exact ih_l80 (j + 1) d5 (by omega) (by omega) (by rw [mDgH, ← ed4, ed5, show i5 = 9 by omega])
                              · skip
                                have c98_9 := mt (nI_leI (by omega) (by omega)).mpr c98_9
                                refine gI_lload_n hB 3 dX7_digest_101 rfl ?_
                                refine gI_ldc2 (v := 31) hB (by decide +kernel) dX7_digest_102 ?_
                                refine gI_lmul hB dX7_digest_105 ?_
                                refine gI_aload_n hB 4 dX7_digest_106 rfl ?_
                                refine gM_get hB hM 5 (v := .ref (a 2)) (by decide +kernel) (by decide) (by decide +kernel) rfl rfl dX7_digest_107 ?_
                                refine gI_iload_n hB 2 dX7_digest_110 rfl ?_
                                refine gI_iload hB 1 dX7_digest_111 rfl ?_
                                refine gI_pureS (n9 := 2) (As := [.int (nI t), .int (nI j)]) (rest := [.ref (a 2), .long (d5 * 31)]) hB (c_at X.2.1 h t j) (gCW.of ggX7_digest_X7_at rfl ⟨by decide, by decide, by decide +kernel⟩ ⟨Nat.le_of_ble_eq_true rfl, Nat.le_of_ble_eq_true rfl⟩) (Or.inl (by decide +kernel)) (by decide +kernel) (by decide +kernel) rfl rfl (Nat.le_of_ble_eq_true rfl) (by first | exact Nat.le_of_ble_eq_true rfl | (dsimp only [gRm]; omega)) (by first | exact Nat.le_of_ble_eq_true rfl | (dsimp only [gRm]; omega)) dX7_digest_113 ?_
                                refine gI_iload hB 0 dX7_digest_116 rfl ?_
                                refine gI_iaddN hB dX7_digest_118 ?_
                                refine gM_ald hB hM 1 (by decide) ((9 * (8 * t + j)) + i5) rfl (show (9 * (8 * t + j)) + i5 < 1152 by omega) dX7_digest_119 ?_
                                refine gI_i2l hB dX7_digest_120 ?_
                                refine gI_ladd hB dX7_digest_121 ?_
                                refine gI_lstore_n hB ([(1, .long ((d5 * 31) + ((u.2 1 ((9 * (8 * t + j)) + i5)).toInt64))), (5, .int (nI i5)), (4, .int (nI j)), (3, .int (nI t)), (0, .ref (a 0))]) hnL dX7_digest_122 (by decide) rfl ?_
                                refine gI_iinc hB 1 ([(5, .int (nI (i5 + 1))), (1, .long ((d5 * 31) + ((u.2 1 ((9 * (8 * t + j)) + i5)).toInt64))), (4, .int (nI j)), (3, .int (nI t)), (0, .ref (a 0))]) hnL dX7_digest_123 rfl (nI_1 (i5)) (by decide) rfl ?_
                                refine gI_goto hB 94 dX7_digest_126 (by decide) ?_
                                refine gI_loc [0, 2, 3, 1, 4] rfl ?_
                                exact ih_l94 (i5 + 1) ((d5 * 31) + ((u.2 1 ((9 * (8 * t + j)) + i5)).toInt64)) (by omega) (by omega) (by rw [dF, ← ed5])
                          refine gI_loc [0, 1, 2, 3, 4] rfl ?_
                          exact l94 10 0 d4 (by omega) (by omega) rfl
                    refine gI_loc [0, 1, 2, 3] rfl ?_
                    exact l80 (m + 1) 0 d3 (by omega) (by omega) rfl
                  · skip
                    have c53_7 := mt (nI_leI (by omega) (by omega)).mpr c53_7
                    refine gI_lload_n hB 2 dX7_digest_56 rfl ?_
                    refine gI_ldc2 (v := 31) hB (by decide +kernel) dX7_digest_57 ?_
                    refine gI_lmul hB dX7_digest_60 ?_
                    refine gI_aload_n hB 3 dX7_digest_61 rfl ?_
                    refine gI_iload_n hB 1 dX7_digest_62 rfl ?_
                    refine gI_iload hB 0 dX7_digest_63 rfl ?_
                    refine gM_pure (n9 := 2) (As := [.int (nI t), .int (nI i3)]) (rest := [.long (d3 * 31)]) hB hM (c_get X.2.1 h a (sg u 0 (nI 0)) hM t i3 (by omega) (by omega)) (gCW.of ggX7_digest_X7_get rfl ⟨by decide, by decide, by decide +kernel⟩ ⟨Nat.le_of_ble_eq_true rfl, Nat.le_of_ble_eq_true rfl⟩) (by decide +kernel) (by decide +kernel) (by decide +kernel) (by decide +kernel) rfl rfl (Nat.le_of_ble_eq_true rfl) (by first | exact Nat.le_of_ble_eq_true rfl | (dsimp only [gRm]; omega)) (by first | exact Nat.le_of_ble_eq_true rfl | (dsimp only [gRm]; omega)) dX7_digest_65 ?_
                    refine gI_i2l hB dX7_digest_68 ?_
                    refine gI_ladd hB dX7_digest_69 ?_
                    refine gI_lstore_n hB ([(1, .long ((d3 * 31) + ((u.2 0 (7 * t + i3)).toInt64))), (4, .int (nI i3)), (3, .int (nI t)), (0, .ref (a 0))]) hnL dX7_digest_70 (by decide) rfl ?_
                    refine gI_iinc hB 1 ([(4, .int (nI (i3 + 1))), (1, .long ((d3 * 31) + ((u.2 0 (7 * t + i3)).toInt64))), (3, .int (nI t)), (0, .ref (a 0))]) hnL dX7_digest_71 rfl (nI_1 (i3)) (by decide) rfl ?_
                    refine gI_goto hB 49 dX7_digest_74 (by decide) ?_
                    refine gI_loc [0, 2, 1, 3] rfl ?_
                    exact ih_l49 (i3 + 1) ((d3 * 31) + ((u.2 0 (7 * t + i3)).toInt64)) (by omega) (by omega) (by rw [dF, ← ed3])
              refine gI_loc [0, 1, 2, 3] rfl ?_
              exact l49 7 0 d2 (by omega) (by omega) rfl
        refine gI_loc [0, 1, 2] rfl ?_
        exact l38 (T + 1) 0 d1 (by omega) (by omega) (by rw [ed1, show i1 = 9 by omega]; rfl)
      · skip
        have c14_1 := mt (nI_leI (by omega) (by omega)).mpr c14_1
        refine gI_lload_n hB 1 dX7_digest_17 rfl ?_
        refine gI_ldc2 (v := 31) hB (by decide +kernel) dX7_digest_18 ?_
        refine gI_lmul hB dX7_digest_21 ?_
        refine gI_aload_n hB 2 dX7_digest_22 rfl ?_
        refine gI_iload_n hB 0 dX7_digest_23 rfl ?_
        refine gM_pure (n9 := 1) (As := [.int (nI i1)]) (rest := [.long (d1 * 31)]) hB hM (c_counted X.2.1 h a (sg u 0 (nI 0)) T W z hM (o.tab rfl rfl rfl rfl (fun _ _ ot => ot) rfl rfl) i1 (by omega)) (gCW.of ggX7_digest_X7_counted rfl ⟨by decide, by decide, by decide +kernel⟩ ⟨Nat.le_of_ble_eq_true rfl, Nat.le_of_ble_eq_true rfl⟩) (by decide +kernel) (by decide +kernel) (by decide +kernel) (by decide +kernel) rfl rfl (Nat.le_of_ble_eq_true rfl) (by first | exact Nat.le_of_ble_eq_true rfl | (dsimp only [gRm]; omega)) (by first | exact Nat.le_of_ble_eq_true rfl | (dsimp only [gRm]; omega)) dX7_digest_24 ?_
        refine gI_topi hB (y := mCnt u i1) (mCnt_sg u (nI 0) i1) ?_
        refine gI_i2l hB dX7_digest_27 ?_
        refine gI_ladd hB dX7_digest_28 ?_
        refine gI_lstore_n hB ([(1, .long ((d1 * 31) + ((mCnt u i1).toInt64))), (3, .int (nI i1)), (0, .ref (a 0))]) hnL dX7_digest_29 (by decide) rfl ?_
        refine gI_iinc hB 1 ([(3, .int (nI (i1 + 1))), (1, .long ((d1 * 31) + ((mCnt u i1).toInt64))), (0, .ref (a 0))]) hnL dX7_digest_30 rfl (nI_1 (i1)) (by decide) rfl ?_
        refine gI_goto hB 11 dX7_digest_33 (by decide) ?_
        refine gI_loc [0, 1, 2] rfl ?_
        exact ih_l11 (i1 + 1) ((d1 * 31) + ((mCnt u i1).toInt64)) (by omega) (by omega) (by rw [dF, ← ed1])
  refine gI_loc [0, 1, 2] rfl ?_
  exact l11 10 0 439 (by omega) (by omega) rfl
