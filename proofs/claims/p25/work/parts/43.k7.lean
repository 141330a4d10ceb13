set_option maxRecDepth 100000 in
set_option maxHeartbeats 4000000 in
theorem p_reach (G : gG) (h : gH) (c : Nat → Nat) (Λ : CL) (u : MS) (T W z : Nat) (hC : cRep G h c Λ u T W z) (o : mOk u T W z) (p : Int32) : gMet yX6_reach wsX6_reach (gRm 6 1 6) G h [.ref (c 0), .int p] (kPo G h c (cPhi Λ) (mReach u p) "java/lang/IndexOutOfBoundsException" "java/lang/IndexOutOfBoundsException" 1 6) := by
  refine gMet_of (maxL := 4) (ret := (some .int)) (by decide) rfl (Nat.le_of_ble_eq_true rfl) ?_
  intro X hG hnL hB hE
  subst hG
  change gW X h 0 0 0 [(0, .ref (c 0)), (1, .int p)] []
  have hT := o.2.1
  have hW60 := o.2.2.2.1
  have hz200 := o.2.2.2.2.2.1
  have ez := o.2.2.2.2.1
  have eW := o.2.2.1
  have eT := o.1
  obtain ⟨md0, g0, hl0, -⟩ := hC.2.2.2.1 0 (by omega)
  by_cases hp9 : mTen u p
  · skip
    obtain ⟨t, ht, et⟩ := mTen_of o.W hp9
    subst et
    obtain ⟨mdt, gt, hlt, -⟩ := hC.2.2.2.1 (4 + t) (by omega)
    obtain ⟨hm8, emm⟩ := hC.many o ht
    refine gI_aload_n hB 0 dX6_reach_0 rfl ?_
    refine gI_aload_n hB 0 dX6_reach_1 rfl ?_
    refine gI_iload_n hB 1 dX6_reach_2 rfl ?_
    refine gI_pureV (n9 := 1) (As := [.int (nI t)]) (rest := [.ref (c 0)]) hB (k_tenantAt X.2.1 h c Λ u T W z hC o t ht) (gCW.of ggX6_reach_X6_tenantAt rfl ⟨by decide, by decide, by decide +kernel⟩ ⟨Nat.le_of_ble_eq_true rfl, Nat.le_of_ble_eq_true rfl⟩) (by decide +kernel) (by decide +kernel) (by decide +kernel) (by decide +kernel) hC.1 (C := RX6) (T := TX6) (N := 9) rfl rfl rfl (Nat.le_of_ble_eq_true rfl) (by first | exact Nat.le_of_ble_eq_true rfl | (dsimp only [gRm]; omega)) (by first | exact Nat.le_of_ble_eq_true rfl | (dsimp only [gRm]; omega)) dX6_reach_3 ?_
    refine gI_pureV (n9 := 1) (As := [.ref (cEl Λ 0 t)]) (rest := []) hB (k_rungBy X.2.1 h c Λ u T W z hC o t (by omega)) (gCW.of ggX6_reach_X6_rungBy rfl ⟨by decide, by decide, by decide +kernel⟩ ⟨Nat.le_of_ble_eq_true rfl, Nat.le_of_ble_eq_true rfl⟩) (by decide +kernel) (by decide +kernel) (by decide +kernel) (by decide +kernel) hC.1 (C := RX6) (T := TX6) (N := 9) rfl rfl rfl (Nat.le_of_ble_eq_true rfl) (by first | exact Nat.le_of_ble_eq_true rfl | (dsimp only [gRm]; omega)) (by first | exact Nat.le_of_ble_eq_true rfl | (dsimp only [gRm]; omega)) dX6_reach_6 ?_
    refine gI_istore_n hB ([(2, .int (mNext u T t)), (0, .ref (c 0)), (1, .int (nI t))]) hnL dX6_reach_9 (by decide) rfl ?_
    refine gI_iconst (v := nI 2) hB dX6_reach_10 (by decide) ?_
    refine gI_istore_n hB ([(3, .int (nI 2)), (2, .int (mNext u T t)), (0, .ref (c 0)), (1, .int (nI t))]) hnL dX6_reach_11 (by decide) rfl ?_
    have lp : ∀ (r_lp : Nat) (k : Nat) (s : Int32), 18 ≤ k + r_lp → 2 ≤ k → k ≤ 17 → s = mReachL u T (mNext u T t) (k - 2) → gW X h 0 0 12 [(3, .int (nI k)), (2, .int s), (0, .ref (c 0)), (1, .int (nI t))] [] := by
      intro r_lp
      induction r_lp with
      | zero => intro k s hfu hk2 hk es; exact absurd hfu (by omega)
      | succ r_lp ih_lp =>
        intro k s hfu hk2 hk es
        refine gI_iload_n hB 0 dX6_reach_12 rfl ?_
        refine gI_bipush (v := nI 16) hB dX6_reach_13 (by decide) ?_
        refine gI_icmp_gt hB 32 dX6_reach_15 (by decide) (fun c15_1 => ?_) (fun c15_1 => ?_)
        · skip
          have c15_1 := (nI_ltI (by omega) (by omega)).mp c15_1
          refine gI_iload_n hB 1 dX6_reach_32 rfl ?_
          refine gI_iret hB hE dX6_reach_33 ?_
          exact kPo.rd hC o (by unfold mReach; rw [if_pos hp9, o.1, mCl (by omega), mCl (by omega), ← mReach_eq o, es, show k - 2 = 15 by omega]) (by omega) (by omega)
        · skip
          have c15_1 := mt (nI_ltI (by omega) (by omega)).mpr c15_1
          refine gI_iload_n hB 1 dX6_reach_18 rfl ?_
          refine gI_aload_n hB 2 dX6_reach_19 rfl ?_
          refine gI_iload_n hB 1 dX6_reach_20 rfl ?_
          refine gI_pureV (n9 := 1) (As := [.int s]) (rest := [.int s]) hB (k_rungByAll X.2.1 h c Λ u T W z hC o s) (gCW.of ggX6_reach_X6_rungByAll rfl ⟨by decide, by decide, by decide +kernel⟩ ⟨Nat.le_of_ble_eq_true rfl, Nat.le_of_ble_eq_true rfl⟩) (by decide +kernel) (by decide +kernel) (by decide +kernel) (by decide +kernel) hC.1 (C := RX6) (T := TX6) (N := 9) rfl rfl rfl (Nat.le_of_ble_eq_true rfl) (by first | exact Nat.le_of_ble_eq_true rfl | (dsimp only [gRm]; omega)) (by first | exact Nat.le_of_ble_eq_true rfl | (dsimp only [gRm]; omega)) dX6_reach_21 ?_
          refine gI_ior hB dX6_reach_24 ?_
          refine gI_istore_n hB ([(2, .int (s ||| (mNo u T s T))), (3, .int (nI k)), (0, .ref (c 0)), (1, .int (nI t))]) hnL dX6_reach_25 (by decide) rfl ?_
          refine gI_iinc hB 1 ([(3, .int (nI (k + 1))), (2, .int (s ||| (mNo u T s T))), (0, .ref (c 0)), (1, .int (nI t))]) hnL dX6_reach_26 rfl (nI_1 (k)) (by decide) rfl ?_
          refine gI_goto hB 12 dX6_reach_29 (by decide) ?_
          refine gI_loc [0, 1, 2, 3] rfl ?_
          exact ih_lp (k + 1) (s ||| (mNo u T s T)) (by omega) (by omega) (by omega) (by rw [show k + 1 - 2 = (k - 2) + 1 by omega, mReachL, ← es])
    refine gI_loc [0, 1, 2, 3] rfl ?_
    exact lp 16 2 (mNext u T t) (by omega) (by omega) (by omega) rfl
  · skip
    refine gI_aload_n hB 0 dX6_reach_0 rfl ?_
    refine gI_aload_n hB 0 dX6_reach_1 rfl ?_
    refine gI_iload_n hB 1 dX6_reach_2 rfl ?_
    refine gI_callV (n9 := 1) (As := [.int p]) (rest := [.ref (c 0)]) hB (k_tenantAtNo X.2.1 h c Λ u T W z hC o p (by unfold mTen at hp9; rw [eT] at hp9; exact hp9)) (gCW.of ggX6_reach_X6_tenantAt rfl ⟨by decide, by decide, by decide +kernel⟩ ⟨Nat.le_of_ble_eq_true rfl, Nat.le_of_ble_eq_true rfl⟩) (by decide +kernel) (by decide +kernel) (by decide +kernel) (by decide +kernel) hC.1 (C := RX6) (T := TX6) (N := 9) rfl rfl rfl (Nat.le_of_ble_eq_true rfl) (by first | exact Nat.le_of_ble_eq_true rfl | (dsimp only [gRm]; omega)) (by first | exact Nat.le_of_ble_eq_true rfl | (dsimp only [gRm]; omega)) dX6_reach_3 (fun v9 h9 k9 n9 hp => by cases hp.1) (fun E9 h9 k9 n9 hp => ?_)
    obtain ⟨e9, rfl, rfl, rfl⟩ := hp
    cases e9
    exact gI_out hB hE (kPo.err1 hC o (by unfold mReach; rw [if_neg hp9]) (by omega) (by omega))

set_option maxRecDepth 100000 in
set_option maxHeartbeats 4000000 in
theorem p_hops (G : gG) (h : gH) (c : Nat → Nat) (Λ : CL) (u : MS) (T W z : Nat) (hC : cRep G h c Λ u T W z) (o : mOk u T W z) (p q : Int32) : gMet yX6_hops wsX6_hops (gRm 6 1 6) G h [.ref (c 0), .int p, .int q] (kPo G h c (cPhi Λ) (mHops u p q) "java/lang/IndexOutOfBoundsException" "java/lang/IndexOutOfBoundsException" 1 6) := by
  refine gMet_of (maxL := 7) (ret := (some .int)) (by decide) rfl (Nat.le_of_ble_eq_true rfl) ?_
  intro X hG hnL hB hE
  subst hG
  change gW X h 0 0 0 [(0, .ref (c 0)), (1, .int p), (2, .int q)] []
  have hT := o.2.1
  have hW60 := o.2.2.2.1
  have hz200 := o.2.2.2.2.2.1
  have ez := o.2.2.2.2.1
  have eW := o.2.2.1
  have eT := o.1
  obtain ⟨md0, g0, hl0, -⟩ := hC.2.2.2.1 0 (by omega)
  by_cases hp9 : mTen u p
  · skip
    obtain ⟨t, ht, et⟩ := mTen_of o.W hp9
    subst et
    obtain ⟨mdt, gt, hlt, -⟩ := hC.2.2.2.1 (4 + t) (by omega)
    obtain ⟨hm8, emm⟩ := hC.many o ht
    by_cases hq9 : mTen u q
    · skip
      obtain ⟨b, hb, eb⟩ := mTen_of o.W hq9
      subst eb
      refine gI_aload_n hB 0 dX6_hops_0 rfl ?_
      refine gI_iload_n hB 1 dX6_hops_1 rfl ?_
      refine gI_pureV (n9 := 1) (As := [.int (nI t)]) (rest := []) hB (k_tenantAt X.2.1 h c Λ u T W z hC o t ht) (gCW.of ggX6_hops_X6_tenantAt rfl ⟨by decide, by decide, by decide +kernel⟩ ⟨Nat.le_of_ble_eq_true rfl, Nat.le_of_ble_eq_true rfl⟩) (by decide +kernel) (by decide +kernel) (by decide +kernel) (by decide +kernel) hC.1 (C := RX6) (T := TX6) (N := 9) rfl rfl rfl (Nat.le_of_ble_eq_true rfl) (by first | exact Nat.le_of_ble_eq_true rfl | (dsimp only [gRm]; omega)) (by first | exact Nat.le_of_ble_eq_true rfl | (dsimp only [gRm]; omega)) dX6_hops_2 ?_
      refine gI_astore_n hB ([(3, .ref (cEl Λ 0 t)), (0, .ref (c 0)), (1, .int (nI t)), (2, .int (nI b))]) hnL dX6_hops_5 (by decide) rfl ?_
      refine gI_aload_n hB 1 dX6_hops_6 rfl ?_
      refine gI_iload_n hB 3 dX6_hops_7 rfl ?_
      refine gI_pureV (n9 := 1) (As := [.int (nI b)]) (rest := []) hB (k_tenantAt X.2.1 h c Λ u T W z hC o b hb) (gCW.of ggX6_hops_X6_tenantAt rfl ⟨by decide, by decide, by decide +kernel⟩ ⟨Nat.le_of_ble_eq_true rfl, Nat.le_of_ble_eq_true rfl⟩) (by decide +kernel) (by decide +kernel) (by decide +kernel) (by decide +kernel) hC.1 (C := RX6) (T := TX6) (N := 9) rfl rfl rfl (Nat.le_of_ble_eq_true rfl) (by first | exact Nat.le_of_ble_eq_true rfl | (dsimp only [gRm]; omega)) (by first | exact Nat.le_of_ble_eq_true rfl | (dsimp only [gRm]; omega)) dX6_hops_8 ?_
      refine gI_astore hB ([(4, .ref (cEl Λ 0 b)), (3, .ref (cEl Λ 0 t)), (0, .ref (c 0)), (1, .int (nI t)), (2, .int (nI b))]) hnL dX6_hops_11 (by decide) rfl ?_
      refine gI_aload_n hB 2 dX6_hops_13 rfl ?_
      refine gI_aload_n hB 1 dX6_hops_14 rfl ?_
      refine gI_pureV (n9 := 1) (As := [.ref (cEl Λ 0 t)]) (rest := []) hB (k_rungBy X.2.1 h c Λ u T W z hC o t (by omega)) (gCW.of ggX6_hops_X6_rungBy rfl ⟨by decide, by decide, by decide +kernel⟩ ⟨Nat.le_of_ble_eq_true rfl, Nat.le_of_ble_eq_true rfl⟩) (by decide +kernel) (by decide +kernel) (by decide +kernel) (by decide +kernel) hC.1 (C := RX6) (T := TX6) (N := 9) rfl rfl rfl (Nat.le_of_ble_eq_true rfl) (by first | exact Nat.le_of_ble_eq_true rfl | (dsimp only [gRm]; omega)) (by first | exact Nat.le_of_ble_eq_true rfl | (dsimp only [gRm]; omega)) dX6_hops_15 ?_
      refine gI_istore hB ([(5, .int (mNext u T t)), (4, .ref (cEl Λ 0 b)), (3, .ref (cEl Λ 0 t)), (0, .ref (c 0)), (1, .int (nI t)), (2, .int (nI b))]) hnL dX6_hops_18 (by decide) rfl ?_
      refine gI_iconst (v := nI 1) hB dX6_hops_20 (by decide) ?_
      refine gI_istore hB ([(6, .int (nI 1)), (5, .int (mNext u T t)), (4, .ref (cEl Λ 0 b)), (3, .ref (cEl Λ 0 t)), (0, .ref (c 0)), (1, .int (nI t)), (2, .int (nI b))]) hnL dX6_hops_21 (by decide) rfl ?_
      have lp : ∀ (r_lp : Nat) (k : Nat) (s : Int32), 18 ≤ k + r_lp → 1 ≤ k → k ≤ 17 → s = mEx u T (mNext u T t) (k - 1) → kHop u T (mNext u T t) b (17 - k) k = kHop u T (mNext u T t) b 16 1 → gW X h 0 0 23 [(6, .int (nI k)), (5, .int s), (3, .ref (cEl Λ 0 t)), (4, .ref (cEl Λ 0 b)), (0, .ref (c 0))] [] := by
        intro r_lp
        induction r_lp with
        | zero => intro k s hfu hk1 hk es hinv; exact absurd hfu (by omega)
        | succ r_lp ih_lp =>
          intro k s hfu hk1 hk es hinv
          refine gI_iload hB 0 dX6_hops_23 rfl ?_
          refine gI_bipush (v := nI 16) hB dX6_hops_25 (by decide) ?_
          refine gI_icmp_gt hB 60 dX6_hops_27 (by decide) (fun c27_1 => ?_) (fun c27_1 => ?_)
          · skip
            have c27_1 := (nI_ltI (by omega) (by omega)).mp c27_1
            refine gI_iconst (v := (-1)) hB dX6_hops_60 (by decide) ?_
            refine gI_iret hB hE dX6_hops_61 ?_
            exact kPo.rd hC o (by unfold mHops; rw [if_pos ⟨hp9, hq9⟩, o.1, mCl (by omega), mCl (by omega), mHop_eq o hb, ← hinv, show 17 - k = 0 by omega]; rfl) (by omega) (by omega)
          · skip
            have c27_1 := mt (nI_ltI (by omega) (by omega)).mpr c27_1
            refine gI_iload hB 1 dX6_hops_30 rfl ?_
            refine gI_aload hB 3 dX6_hops_32 rfl ?_
            refine gI_get (v := .int (nI b)) hB 0 (hC.2.2.2.2.2.1 b hb) (C := RX4) (T := TX4) (N := 8) rfl (by decide +kernel) (by decide) (by decide +kernel) (fun _ h9 => h9) rfl dX6_hops_34 ?_
            refine gI_pureS (n9 := 2) (As := [.int s, .int (nI b)]) (rest := []) hB (k_contains X.2.1 h s (nI b)) (gCW.of ggX6_hops_X6_contains rfl ⟨by decide, by decide, by decide +kernel⟩ ⟨Nat.le_of_ble_eq_true rfl, Nat.le_of_ble_eq_true rfl⟩) (Or.inl (by decide +kernel)) (by decide +kernel) (by decide +kernel) rfl rfl (Nat.le_of_ble_eq_true rfl) (by first | exact Nat.le_of_ble_eq_true rfl | (dsimp only [gRm]; omega)) (by first | exact Nat.le_of_ble_eq_true rfl | (dsimp only [gRm]; omega)) dX6_hops_37 ?_
            refine gI_if_eq hB 46 dX6_hops_40 (by decide) (fun c40_2 => ?_) (fun c40_2 => ?_)
            · skip
              have c40_2 := gbi_0.mp c40_2
              refine gI_aload_n hB 4 dX6_hops_46 rfl ?_
              refine gI_iload hB 1 dX6_hops_47 rfl ?_
              refine gI_pureV (n9 := 1) (As := [.int s]) (rest := []) hB (k_rungByAll X.2.1 h c Λ u T W z hC o s) (gCW.of ggX6_hops_X6_rungByAll rfl ⟨by decide, by decide, by decide +kernel⟩ ⟨Nat.le_of_ble_eq_true rfl, Nat.le_of_ble_eq_true rfl⟩) (by decide +kernel) (by decide +kernel) (by decide +kernel) (by decide +kernel) hC.1 (C := RX6) (T := TX6) (N := 9) rfl rfl rfl (Nat.le_of_ble_eq_true rfl) (by first | exact Nat.le_of_ble_eq_true rfl | (dsimp only [gRm]; omega)) (by first | exact Nat.le_of_ble_eq_true rfl | (dsimp only [gRm]; omega)) dX6_hops_49 ?_
              refine gI_istore hB ([(5, .int (mNo u T s T)), (6, .int (nI k)), (3, .ref (cEl Λ 0 t)), (4, .ref (cEl Λ 0 b)), (0, .ref (c 0))]) hnL dX6_hops_52 (by decide) rfl ?_
              refine gI_iinc hB 1 ([(6, .int (nI (k + 1))), (5, .int (mNo u T s T)), (3, .ref (cEl Λ 0 t)), (4, .ref (cEl Λ 0 b)), (0, .ref (c 0))]) hnL dX6_hops_54 rfl (nI_1 (k)) (by decide) rfl ?_
              refine gI_goto hB 23 dX6_hops_57 (by decide) ?_
              refine gI_loc [0, 1, 2, 3, 4] rfl ?_
              exact ih_lp (k + 1) (mNo u T s T) (by omega) (by omega) (by omega) (by rw [show k + 1 - 1 = (k - 1) + 1 by omega, mEx, ← es]) (by rw [← hinv, show 17 - k = (17 - (k + 1)) + 1 by omega, kHop, if_neg (by rw [← es]; exact c40_2)])
            · skip
              have c40_2 := gbi_n0 c40_2
              refine gI_iload hB 0 dX6_hops_43 rfl ?_
              refine gI_iret hB hE dX6_hops_45 ?_
              exact kPo.rd hC o (by unfold mHops; rw [if_pos ⟨hp9, hq9⟩, o.1, mCl (by omega), mCl (by omega), mHop_eq o hb, ← hinv, show 17 - k = (16 - k) + 1 by omega, kHop, if_pos (by rw [← es]; exact c40_2)]) (by omega) (by omega)
      refine gI_loc [0, 1, 3, 2, 4] rfl ?_
      exact lp 17 1 (mNext u T t) (by omega) (by omega) (by omega) rfl rfl
    · skip
      refine gI_aload_n hB 0 dX6_hops_0 rfl ?_
      refine gI_iload_n hB 1 dX6_hops_1 rfl ?_
      refine gI_pureV (n9 := 1) (As := [.int (nI t)]) (rest := []) hB (k_tenantAt X.2.1 h c Λ u T W z hC o t ht) (gCW.of ggX6_hops_X6_tenantAt rfl ⟨by decide, by decide, by decide +kernel⟩ ⟨Nat.le_of_ble_eq_true rfl, Nat.le_of_ble_eq_true rfl⟩) (by decide +kernel) (by decide +kernel) (by decide +kernel) (by decide +kernel) hC.1 (C := RX6) (T := TX6) (N := 9) rfl rfl rfl (Nat.le_of_ble_eq_true rfl) (by first | exact Nat.le_of_ble_eq_true rfl | (dsimp only [gRm]; omega)) (by first | exact Nat.le_of_ble_eq_true rfl | (dsimp only [gRm]; omega)) dX6_hops_2 ?_
      refine gI_astore_n hB ([(3, .ref (cEl Λ 0 t)), (0, .ref (c 0)), (1, .int (nI t)), (2, .int q)]) hnL dX6_hops_5 (by decide) rfl ?_
      refine gI_aload_n hB 1 dX6_hops_6 rfl ?_
      refine gI_iload_n hB 3 dX6_hops_7 rfl ?_
      refine gI_callV (n9 := 1) (As := [.int q]) (rest := []) hB (k_tenantAtNo X.2.1 h c Λ u T W z hC o q (by unfold mTen at hq9; rw [eT] at hq9; exact hq9)) (gCW.of ggX6_hops_X6_tenantAt rfl ⟨by decide, by decide, by decide +kernel⟩ ⟨Nat.le_of_ble_eq_true rfl, Nat.le_of_ble_eq_true rfl⟩) (by decide +kernel) (by decide +kernel) (by decide +kernel) (by decide +kernel) hC.1 (C := RX6) (T := TX6) (N := 9) rfl rfl rfl (Nat.le_of_ble_eq_true rfl) (by first | exact Nat.le_of_ble_eq_true rfl | (dsimp only [gRm]; omega)) (by first | exact Nat.le_of_ble_eq_true rfl | (dsimp only [gRm]; omega)) dX6_hops_8 (fun v9 h9 k9 n9 hp => by cases hp.1) (fun E9 h9 k9 n9 hp => ?_)
      obtain ⟨e9, rfl, rfl, rfl⟩ := hp
      cases e9
      exact gI_out hB hE (kPo.err1 hC o (by unfold mHops; rw [if_neg (fun z9 => hq9 z9.2)]) (by omega) (by omega))
  · skip
    refine gI_aload_n hB 0 dX6_hops_0 rfl ?_
    refine gI_iload_n hB 1 dX6_hops_1 rfl ?_
    refine gI_callV (n9 := 1) (As := [.int p]) (rest := []) hB (k_tenantAtNo X.2.1 h c Λ u T W z hC o p (by unfold mTen at hp9; rw [eT] at hp9; exact hp9)) (gCW.of ggX6_hops_X6_tenantAt rfl ⟨by decide, by decide, by decide +kernel⟩ ⟨Nat.le_of_ble_eq_true rfl, Nat.le_of_ble_eq_true rfl⟩) (by decide +kernel) (by decide +kernel) (by decide +kernel) (by decide +kernel) hC.1 (C := RX6) (T := TX6) (N := 9) rfl rfl rfl (Nat.le_of_ble_eq_true rfl) (by first | exact Nat.le_of_ble_eq_true rfl | (dsimp only [gRm]; omega)) (by first | exact Nat.le_of_ble_eq_true rfl | (dsimp only [gRm]; omega)) dX6_hops_2 (fun v9 h9 k9 n9 hp => by cases hp.1) (fun E9 h9 k9 n9 hp => ?_)
    obtain ⟨e9, rfl, rfl, rfl⟩ := hp
    cases e9
    exact gI_out hB hE (kPo.err1 hC o (by unfold mHops; rw [if_neg (fun z9 => hp9 z9.1)]) (by omega) (by omega))

