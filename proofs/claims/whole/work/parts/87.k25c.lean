set_option maxRecDepth 100000 in
set_option maxHeartbeats 4000000 in
theorem l_tenant {X : gX} {h : gH} {k n b L j : Nat} {xs : Nat → Int32} {c a : Nat → Nat} {ob F : Nat} {u : MS} (hB : gB X room_1 cL_law wsL_law RL) (hNx : gNx X.1.2.2.2.2.1) (hnL : gnL X = 9) (hS9 : gScr X b L xs) (hL : L ≤ 3584) (hj : 7 * j + 7 ≤ L) (hs : lSt X h c a ob u F) (hk : k + 9000 ≤ 601024) (hn : n + 60000 ≤ 7293033) (kk : lK X b c a ob j F k n) : gW X h k n 628 (lLC b c a ob j) [] := by
  obtain ⟨⟨Λ, T, W, z, hC, o, rfl⟩, hM, fo, hob⟩ := hs
  refine gI_aload_n hB 3 dL_law_628 rfl ?_
  refine gI_aload_n hB 4 dL_law_629 rfl ?_
  refine gI_iload hB 0 dL_law_630 rfl ?_
  refine gI_iconst (v := nI 1) hB dL_law_632 (by decide) ?_
  refine gI_iaddN hB dL_law_633 ?_
  refine gI_sld hB hS9 (7 * j + 1) (by omega) hL dL_law_634 ?_
  refine gI_aload_n hB 4 dL_law_635 rfl ?_
  refine gI_iload hB 0 dL_law_636 rfl ?_
  refine gI_iconst (v := nI 2) hB dL_law_638 (by decide) ?_
  refine gI_iaddN hB dL_law_639 ?_
  refine gI_sld hB hS9 (7 * j + 2) (by omega) hL dL_law_640 ?_
  refine gI_aload_n hB 1 dL_law_641 rfl ?_
  refine gI_callSN (n9 := 4) (As := [.ref (c 0), .int (xs (7 * j + 1)), .int (xs (7 * j + 2)), .ref ob]) (rest := []) hB hNx (w_tenant X.2.1 h c Λ u T W z hC o (xs (7 * j + 1)) (xs (7 * j + 2)) ob fo hob) (gCW.ofW ggL_law_L_tenant rfl ⟨by decide, by decide, by decide +kernel⟩ ⟨Nat.le_of_ble_eq_true rfl, Nat.le_of_ble_eq_true rfl⟩) (by decide +kernel) (by decide +kernel) (by decide +kernel) rfl rfl (Nat.le_of_ble_eq_true rfl) (by show k + 1 ≤ 601024; omega) (by show n + 6 ≤ 7293033; omega) dL_law_642 (fun v9 h1 k1 n1 hp => ?_) (fun E9 h1 k1 n1 hp => by obtain ⟨F9, f9, e9, -⟩ := hp; cases e9)
  obtain ⟨F', fo', e9, hW1, hob1, ho, hf, hle, hk1, hn1⟩ := hp
  cases e9
  have hF1 := hW1.le
  have hM1 := hM.keepO hob hf
  refine gI_istore hB ([(5, .int ((mTenant u (xs (7 * j + 1)) (xs (7 * j + 2))).1.1 0)), (4, .int (nI (7 * j))), (3, .ref ob), (2, .ref (a 0)), (1, .ref (c 0)), (0, .ref b)]) hnL dL_law_645 (by decide) rfl ?_
  refine gI_aload_n hB 3 dL_law_647 rfl ?_
  refine gI_aload_n hB 5 dL_law_648 rfl ?_
  refine gI_iload hB 1 dL_law_649 rfl ?_
  refine gI_iconst (v := nI 1) hB dL_law_651 (by decide) ?_
  refine gI_iaddN hB dL_law_652 ?_
  refine gI_sld hB hS9 (7 * j + 1) (by omega) hL dL_law_653 ?_
  refine gI_aload_n hB 5 dL_law_654 rfl ?_
  refine gI_iload hB 1 dL_law_655 rfl ?_
  refine gI_iconst (v := nI 2) hB dL_law_657 (by decide) ?_
  refine gI_iaddN hB dL_law_658 ?_
  refine gI_sld hB hS9 (7 * j + 2) (by omega) hL dL_law_659 ?_
  refine gM_call (n9 := 2) (As := [.int (xs (7 * j + 1)), .int (xs (7 * j + 2))]) (rest := []) hB hM1 (mFr.rf (h := h1)) (c_tenant X.2.1 h1 a u T hM1 o.W (xs (7 * j + 1)) (xs (7 * j + 2))) (gCW.of ggL_law_X7_tenant rfl ⟨by decide, by decide, by decide +kernel⟩ ⟨Nat.le_of_ble_eq_true rfl, Nat.le_of_ble_eq_true rfl⟩) (by decide +kernel) (by decide +kernel) (by decide +kernel) (by decide +kernel) rfl rfl (Nat.le_of_ble_eq_true rfl) (by show k + k1 + 0 ≤ 601024; omega) (by show n + n1 + 0 ≤ 7293033; omega) (fun _ _ _ _ h9 => by cases h9.1) dL_law_660 (fun v9 h2 u2 k2 n2 hM2 hFr hp => ?_)
  obtain ⟨e9, rfl, hk2, hn2⟩ := hp
  cases e9
  have hW2 := hW1.mfr hFr
  have hob2 := hFr _ _ hob1 rfl
  refine gI_istore hB ([(6, .int (mTenant u (xs (7 * j + 1)) (xs (7 * j + 2))).2), (5, .int ((mTenant u (xs (7 * j + 1)) (xs (7 * j + 2))).1.1 0)), (4, .int (nI (7 * j))), (3, .ref ob), (2, .ref (a 0)), (1, .ref (c 0)), (0, .ref b)]) hnL dL_law_663 (by decide) rfl ?_
  refine gI_aload_n hB 4 dL_law_665 rfl ?_
  refine gI_pureV (n9 := 0) (As := []) (rest := []) hB (c_thrown X.2.1 h2 a (mTenant u (xs (7 * j + 1)) (xs (7 * j + 2))).1 hM2) (gCW.of ggL_law_X7_thrown rfl ⟨by decide, by decide, by decide +kernel⟩ ⟨Nat.le_of_ble_eq_true rfl, Nat.le_of_ble_eq_true rfl⟩) (by decide +kernel) (by decide +kernel) (by decide +kernel) (by decide +kernel) hM2.1 (C := RX7) (T := TX7) (N := 15) rfl rfl rfl (Nat.le_of_ble_eq_true rfl) (by show k + k1 + k2 + 0 ≤ 601024; omega) (by show n + n1 + n2 + 0 ≤ 7293033; omega) dL_law_666 ?_
  refine gI_iload hB 1 dL_law_669 rfl ?_
  refine gI_icmp_eq hB 676 dL_law_671 (by decide) (fun c9 => ?_) (fun c9 => absurd rfl c9)
  refine gI_iload hB 1 dL_law_676 rfl ?_
  have fin : gW X h2 (k + k1 + k2) (n + n1 + n2) 693 [(6, .int (mTenant u (xs (7 * j + 1)) (xs (7 * j + 2))).2), (5, .int ((mTenant u (xs (7 * j + 1)) (xs (7 * j + 2))).1.1 0)), (4, .int (nI (7 * j))), (3, .ref ob), (2, .ref (a 0)), (1, .ref (c 0)), (0, .ref b)] [] := by
    refine gI_goto hB 1501 dL_law_693 (by decide) ?_
    refine gI_loc [2, 3, 4, 5, 6] rfl ?_
    exact kk _ _ F' _ _ ⟨hW2, hM2, fo', hob2⟩ hle (by omega) (by omega)
  refine gI_if_ne hB 693 dL_law_678 (by decide) (fun c8 => fin) (fun c8 => ?_)
  refine gI_aload_n hB 3 dL_law_681 rfl ?_
  refine gI_iconst (v := nI 0) hB dL_law_682 (by decide) ?_
  refine gC_lald hB hob2 dL_law_683 ?_
  refine gI_iload hB 0 dL_law_684 rfl ?_
  refine gI_i2l hB dL_law_686 ?_
  refine gI_lcmp hB dL_law_687 ?_
  have e8 := ho (c8.trans (by decide))
  rw [e8, lg_cmp_self]
  exact gI_if_eq hB 693 dL_law_688 (by decide) (fun _ => fin) (fun c7 => absurd rfl c7)

set_option maxRecDepth 100000 in
set_option maxHeartbeats 4000000 in
theorem l_habit {X : gX} {h : gH} {k n b L j : Nat} {xs : Nat → Int32} {c a : Nat → Nat} {ob F : Nat} {u : MS} (hB : gB X room_1 cL_law wsL_law RL) (hNx : gNx X.1.2.2.2.2.1) (hnL : gnL X = 9) (hS9 : gScr X b L xs) (hL : L ≤ 3584) (hj : 7 * j + 7 ≤ L) (hs : lSt X h c a ob u F) (hk : k + 9000 ≤ 601024) (hn : n + 60000 ≤ 7293033) (kk : lK X b c a ob j F k n) : gW X h k n 696 (lLC b c a ob j) [] := by
  obtain ⟨⟨Λ, T, W, z, hC, o, rfl⟩, hM, fo, hob⟩ := hs
  refine gI_aload_n hB 3 dL_law_696 rfl ?_
  refine gI_aload_n hB 4 dL_law_697 rfl ?_
  refine gI_iload hB 0 dL_law_698 rfl ?_
  refine gI_iconst (v := nI 1) hB dL_law_700 (by decide) ?_
  refine gI_iaddN hB dL_law_701 ?_
  refine gI_sld hB hS9 (7 * j + 1) (by omega) hL dL_law_702 ?_
  refine gI_aload_n hB 4 dL_law_703 rfl ?_
  refine gI_iload hB 0 dL_law_704 rfl ?_
  refine gI_iconst (v := nI 2) hB dL_law_706 (by decide) ?_
  refine gI_iaddN hB dL_law_707 ?_
  refine gI_sld hB hS9 (7 * j + 2) (by omega) hL dL_law_708 ?_
  refine gI_aload_n hB 4 dL_law_709 rfl ?_
  refine gI_iload hB 0 dL_law_710 rfl ?_
  refine gI_iconst (v := nI 3) hB dL_law_712 (by decide) ?_
  refine gI_iaddN hB dL_law_713 ?_
  refine gI_sld hB hS9 (7 * j + 3) (by omega) hL dL_law_714 ?_
  refine gI_aload_n hB 1 dL_law_715 rfl ?_
  refine gI_callSN (n9 := 5) (As := [.ref (c 0), .int (xs (7 * j + 1)), .int (xs (7 * j + 2)), .int (xs (7 * j + 3)), .ref ob]) (rest := []) hB hNx (w_habit X.2.1 h c Λ u T W z hC o (xs (7 * j + 1)) (xs (7 * j + 2)) (xs (7 * j + 3)) ob fo hob) (gCW.ofW ggL_law_L_habit rfl ⟨by decide, by decide, by decide +kernel⟩ ⟨Nat.le_of_ble_eq_true rfl, Nat.le_of_ble_eq_true rfl⟩) (by decide +kernel) (by decide +kernel) (by decide +kernel) rfl rfl (Nat.le_of_ble_eq_true rfl) (by show k + 1 ≤ 601024; omega) (by show n + 6 ≤ 7293033; omega) dL_law_716 (fun v9 h1 k1 n1 hp => ?_) (fun E9 h1 k1 n1 hp => by obtain ⟨F9, f9, e9, -⟩ := hp; cases e9)
  obtain ⟨F', fo', e9, hW1, hob1, ho, hf, hle, hk1, hn1⟩ := hp
  cases e9
  have hF1 := hW1.le
  have hM1 := hM.keepO hob hf
  refine gI_istore hB ([(5, .int ((mHabit u (xs (7 * j + 1)) (xs (7 * j + 2)) (xs (7 * j + 3))).1.1 0)), (4, .int (nI (7 * j))), (3, .ref ob), (2, .ref (a 0)), (1, .ref (c 0)), (0, .ref b)]) hnL dL_law_719 (by decide) rfl ?_
  refine gI_aload_n hB 3 dL_law_721 rfl ?_
  refine gI_aload_n hB 5 dL_law_722 rfl ?_
  refine gI_iload hB 1 dL_law_723 rfl ?_
  refine gI_iconst (v := nI 1) hB dL_law_725 (by decide) ?_
  refine gI_iaddN hB dL_law_726 ?_
  refine gI_sld hB hS9 (7 * j + 1) (by omega) hL dL_law_727 ?_
  refine gI_aload_n hB 5 dL_law_728 rfl ?_
  refine gI_iload hB 1 dL_law_729 rfl ?_
  refine gI_iconst (v := nI 2) hB dL_law_731 (by decide) ?_
  refine gI_iaddN hB dL_law_732 ?_
  refine gI_sld hB hS9 (7 * j + 2) (by omega) hL dL_law_733 ?_
  refine gI_aload_n hB 5 dL_law_734 rfl ?_
  refine gI_iload hB 1 dL_law_735 rfl ?_
  refine gI_iconst (v := nI 3) hB dL_law_737 (by decide) ?_
  refine gI_iaddN hB dL_law_738 ?_
  refine gI_sld hB hS9 (7 * j + 3) (by omega) hL dL_law_739 ?_
  refine gM_call (n9 := 3) (As := [.int (xs (7 * j + 1)), .int (xs (7 * j + 2)), .int (xs (7 * j + 3))]) (rest := []) hB hM1 (mFr.rf (h := h1)) (c_habit X.2.1 h1 a u T hM1 o.W (xs (7 * j + 1)) (xs (7 * j + 2)) (xs (7 * j + 3))) (gCW.of ggL_law_X7_habit rfl ⟨by decide, by decide, by decide +kernel⟩ ⟨Nat.le_of_ble_eq_true rfl, Nat.le_of_ble_eq_true rfl⟩) (by decide +kernel) (by decide +kernel) (by decide +kernel) (by decide +kernel) rfl rfl (Nat.le_of_ble_eq_true rfl) (by show k + k1 + 0 ≤ 601024; omega) (by show n + n1 + 0 ≤ 7293033; omega) (fun _ _ _ _ h9 => by cases h9.1) dL_law_740 (fun v9 h2 u2 k2 n2 hM2 hFr hp => ?_)
  obtain ⟨e9, rfl, hk2, hn2⟩ := hp
  cases e9
  have hW2 := hW1.mfr hFr
  have hob2 := hFr _ _ hob1 rfl
  refine gI_istore hB ([(6, .int (mHabit u (xs (7 * j + 1)) (xs (7 * j + 2)) (xs (7 * j + 3))).2), (5, .int ((mHabit u (xs (7 * j + 1)) (xs (7 * j + 2)) (xs (7 * j + 3))).1.1 0)), (4, .int (nI (7 * j))), (3, .ref ob), (2, .ref (a 0)), (1, .ref (c 0)), (0, .ref b)]) hnL dL_law_743 (by decide) rfl ?_
  refine gI_aload_n hB 4 dL_law_745 rfl ?_
  refine gI_pureV (n9 := 0) (As := []) (rest := []) hB (c_thrown X.2.1 h2 a (mHabit u (xs (7 * j + 1)) (xs (7 * j + 2)) (xs (7 * j + 3))).1 hM2) (gCW.of ggL_law_X7_thrown rfl ⟨by decide, by decide, by decide +kernel⟩ ⟨Nat.le_of_ble_eq_true rfl, Nat.le_of_ble_eq_true rfl⟩) (by decide +kernel) (by decide +kernel) (by decide +kernel) (by decide +kernel) hM2.1 (C := RX7) (T := TX7) (N := 15) rfl rfl rfl (Nat.le_of_ble_eq_true rfl) (by show k + k1 + k2 + 0 ≤ 601024; omega) (by show n + n1 + n2 + 0 ≤ 7293033; omega) dL_law_746 ?_
  refine gI_iload hB 1 dL_law_749 rfl ?_
  refine gI_icmp_eq hB 756 dL_law_751 (by decide) (fun c9 => ?_) (fun c9 => absurd rfl c9)
  refine gI_iload hB 1 dL_law_756 rfl ?_
  have fin : gW X h2 (k + k1 + k2) (n + n1 + n2) 773 [(6, .int (mHabit u (xs (7 * j + 1)) (xs (7 * j + 2)) (xs (7 * j + 3))).2), (5, .int ((mHabit u (xs (7 * j + 1)) (xs (7 * j + 2)) (xs (7 * j + 3))).1.1 0)), (4, .int (nI (7 * j))), (3, .ref ob), (2, .ref (a 0)), (1, .ref (c 0)), (0, .ref b)] [] := by
    refine gI_goto hB 1501 dL_law_773 (by decide) ?_
    refine gI_loc [2, 3, 4, 5, 6] rfl ?_
    exact kk _ _ F' _ _ ⟨hW2, hM2, fo', hob2⟩ hle (by omega) (by omega)
  refine gI_if_ne hB 773 dL_law_758 (by decide) (fun c8 => fin) (fun c8 => ?_)
  refine gI_aload_n hB 3 dL_law_761 rfl ?_
  refine gI_iconst (v := nI 0) hB dL_law_762 (by decide) ?_
  refine gC_lald hB hob2 dL_law_763 ?_
  refine gI_iload hB 0 dL_law_764 rfl ?_
  refine gI_i2l hB dL_law_766 ?_
  refine gI_lcmp hB dL_law_767 ?_
  have e8 := ho (c8.trans (by decide))
  rw [e8, lg_cmp_self]
  exact gI_if_eq hB 773 dL_law_768 (by decide) (fun _ => fin) (fun c7 => absurd rfl c7)

set_option maxRecDepth 100000 in
set_option maxHeartbeats 4000000 in
theorem l_ring {X : gX} {h : gH} {k n b L j : Nat} {xs : Nat → Int32} {c a : Nat → Nat} {ob F : Nat} {u : MS} (hB : gB X room_1 cL_law wsL_law RL) (hNx : gNx X.1.2.2.2.2.1) (hnL : gnL X = 9) (hS9 : gScr X b L xs) (hL : L ≤ 3584) (hj : 7 * j + 7 ≤ L) (hs : lSt X h c a ob u F) (hk : k + 9000 ≤ 601024) (hn : n + 60000 ≤ 7293033) (kk : lK X b c a ob j F k n) : gW X h k n 776 (lLC b c a ob j) [] := by
  obtain ⟨⟨Λ, T, W, z, hC, o, rfl⟩, hM, fo, hob⟩ := hs
  refine gI_aload_n hB 3 dL_law_776 rfl ?_
  refine gI_aload_n hB 4 dL_law_777 rfl ?_
  refine gI_iload hB 0 dL_law_778 rfl ?_
  refine gI_iconst (v := nI 1) hB dL_law_780 (by decide) ?_
  refine gI_iaddN hB dL_law_781 ?_
  refine gI_sld hB hS9 (7 * j + 1) (by omega) hL dL_law_782 ?_
  refine gI_aload_n hB 1 dL_law_783 rfl ?_
  refine gI_callSN (n9 := 3) (As := [.ref (c 0), .int (xs (7 * j + 1)), .ref ob]) (rest := []) hB hNx (w_ring X.2.1 h c Λ u T W z hC o (xs (7 * j + 1)) ob fo hob) (gCW.ofW ggL_law_L_ring rfl ⟨by decide, by decide, by decide +kernel⟩ ⟨Nat.le_of_ble_eq_true rfl, Nat.le_of_ble_eq_true rfl⟩) (by decide +kernel) (by decide +kernel) (by decide +kernel) rfl rfl (Nat.le_of_ble_eq_true rfl) (by show k + 4100 ≤ 601024; omega) (by show n + 26100 ≤ 7293033; omega) dL_law_784 (fun v9 h1 k1 n1 hp => ?_) (fun E9 h1 k1 n1 hp => by obtain ⟨F9, f9, e9, -⟩ := hp; cases e9)
  obtain ⟨F', fo', e9, hW1, hob1, ho, hf, hle, hk1, hn1⟩ := hp
  cases e9
  have hF1 := hW1.le
  have hM1 := hM.keepO hob hf
  refine gI_istore hB ([(5, .int ((mRing u (xs (7 * j + 1))).1.1 0)), (4, .int (nI (7 * j))), (3, .ref ob), (2, .ref (a 0)), (1, .ref (c 0)), (0, .ref b)]) hnL dL_law_787 (by decide) rfl ?_
  refine gI_aload_n hB 3 dL_law_789 rfl ?_
  refine gI_aload_n hB 5 dL_law_790 rfl ?_
  refine gI_iload hB 1 dL_law_791 rfl ?_
  refine gI_iconst (v := nI 1) hB dL_law_793 (by decide) ?_
  refine gI_iaddN hB dL_law_794 ?_
  refine gI_sld hB hS9 (7 * j + 1) (by omega) hL dL_law_795 ?_
  refine gM_call (n9 := 1) (As := [.int (xs (7 * j + 1))]) (rest := []) hB hM1 (mFr.rf (h := h1)) (c_ring X.2.1 h1 a u T W z hM1 o (xs (7 * j + 1))) (gCW.of ggL_law_X7_ring rfl ⟨by decide, by decide, by decide +kernel⟩ ⟨Nat.le_of_ble_eq_true rfl, Nat.le_of_ble_eq_true rfl⟩) (by decide +kernel) (by decide +kernel) (by decide +kernel) (by decide +kernel) rfl rfl (Nat.le_of_ble_eq_true rfl) (by show k + k1 + 1 ≤ 601024; omega) (by show n + n1 + 6 ≤ 7293033; omega) (fun _ _ _ _ h9 => by cases h9.1) dL_law_796 (fun v9 h2 u2 k2 n2 hM2 hFr hp => ?_)
  obtain ⟨e9, rfl, z1, z2, -, -, hz1, hz2, hk2, hn2⟩ := hp
  cases e9
  have hW2 := hW1.mfr hFr
  have hob2 := hFr _ _ hob1 rfl
  refine gI_istore hB ([(6, .int (mRing u (xs (7 * j + 1))).2), (5, .int ((mRing u (xs (7 * j + 1))).1.1 0)), (4, .int (nI (7 * j))), (3, .ref ob), (2, .ref (a 0)), (1, .ref (c 0)), (0, .ref b)]) hnL dL_law_799 (by decide) rfl ?_
  refine gI_aload_n hB 4 dL_law_801 rfl ?_
  refine gI_pureV (n9 := 0) (As := []) (rest := []) hB (c_thrown X.2.1 h2 a (mRing u (xs (7 * j + 1))).1 hM2) (gCW.of ggL_law_X7_thrown rfl ⟨by decide, by decide, by decide +kernel⟩ ⟨Nat.le_of_ble_eq_true rfl, Nat.le_of_ble_eq_true rfl⟩) (by decide +kernel) (by decide +kernel) (by decide +kernel) (by decide +kernel) hM2.1 (C := RX7) (T := TX7) (N := 15) rfl rfl rfl (Nat.le_of_ble_eq_true rfl) (by show k + k1 + k2 + 0 ≤ 601024; omega) (by show n + n1 + n2 + 0 ≤ 7293033; omega) dL_law_802 ?_
  refine gI_iload hB 1 dL_law_805 rfl ?_
  refine gI_icmp_eq hB 812 dL_law_807 (by decide) (fun c9 => ?_) (fun c9 => absurd rfl c9)
  refine gI_iload hB 1 dL_law_812 rfl ?_
  have fin : gW X h2 (k + k1 + k2) (n + n1 + n2) 829 [(6, .int (mRing u (xs (7 * j + 1))).2), (5, .int ((mRing u (xs (7 * j + 1))).1.1 0)), (4, .int (nI (7 * j))), (3, .ref ob), (2, .ref (a 0)), (1, .ref (c 0)), (0, .ref b)] [] := by
    refine gI_goto hB 1501 dL_law_829 (by decide) ?_
    refine gI_loc [2, 3, 4, 5, 6] rfl ?_
    exact kk _ _ F' _ _ ⟨hW2, hM2, fo', hob2⟩ hle (by omega) (by omega)
  refine gI_if_ne hB 829 dL_law_814 (by decide) (fun c8 => fin) (fun c8 => ?_)
  refine gI_aload_n hB 3 dL_law_817 rfl ?_
  refine gI_iconst (v := nI 0) hB dL_law_818 (by decide) ?_
  refine gC_lald hB hob2 dL_law_819 ?_
  refine gI_iload hB 0 dL_law_820 rfl ?_
  refine gI_i2l hB dL_law_822 ?_
  refine gI_lcmp hB dL_law_823 ?_
  have e8 := ho (c8.trans (by decide))
  rw [e8, lg_cmp_self]
  exact gI_if_eq hB 829 dL_law_824 (by decide) (fun _ => fin) (fun c7 => absurd rfl c7)

set_option maxRecDepth 100000 in
set_option maxHeartbeats 4000000 in
theorem l_pass {X : gX} {h : gH} {k n b L j : Nat} {xs : Nat → Int32} {c a : Nat → Nat} {ob F : Nat} {u : MS} (hB : gB X room_1 cL_law wsL_law RL) (hNx : gNx X.1.2.2.2.2.1) (hnL : gnL X = 9) (hS9 : gScr X b L xs) (hL : L ≤ 3584) (hj : 7 * j + 7 ≤ L) (hs : lSt X h c a ob u F) (hk : k + 9000 ≤ 601024) (hn : n + 60000 ≤ 7293033) (kk : lK X b c a ob j F k n) : gW X h k n 832 (lLC b c a ob j) [] := by
  obtain ⟨⟨Λ, T, W, z, hC, o, rfl⟩, hM, fo, hob⟩ := hs
  refine gI_aload_n hB 3 dL_law_832 rfl ?_
  refine gI_aload_n hB 4 dL_law_833 rfl ?_
  refine gI_iload hB 0 dL_law_834 rfl ?_
  refine gI_iconst (v := nI 1) hB dL_law_836 (by decide) ?_
  refine gI_iaddN hB dL_law_837 ?_
  refine gI_sld hB hS9 (7 * j + 1) (by omega) hL dL_law_838 ?_
  refine gI_aload_n hB 1 dL_law_839 rfl ?_
  refine gI_callSN (n9 := 3) (As := [.ref (c 0), .int (xs (7 * j + 1)), .ref ob]) (rest := []) hB hNx (w_pass X.2.1 h c Λ u T W z hC o (xs (7 * j + 1)) ob fo hob) (gCW.ofW ggL_law_L_pass rfl ⟨by decide, by decide, by decide +kernel⟩ ⟨Nat.le_of_ble_eq_true rfl, Nat.le_of_ble_eq_true rfl⟩) (by decide +kernel) (by decide +kernel) (by decide +kernel) rfl rfl (Nat.le_of_ble_eq_true rfl) (by show k + 8000 ≤ 601024; omega) (by show n + 54000 ≤ 7293033; omega) dL_law_840 (fun v9 h1 k1 n1 hp => ?_) (fun E9 h1 k1 n1 hp => by obtain ⟨F9, f9, e9, -⟩ := hp; cases e9)
  obtain ⟨F', fo', e9, hW1, hob1, ho, hf, hle, hk1, hn1⟩ := hp
  cases e9
  have hF1 := hW1.le
  have hM1 := hM.keepO hob hf
  refine gI_istore hB ([(5, .int ((mPass u (xs (7 * j + 1))).1.1 0)), (4, .int (nI (7 * j))), (3, .ref ob), (2, .ref (a 0)), (1, .ref (c 0)), (0, .ref b)]) hnL dL_law_843 (by decide) rfl ?_
  refine gI_aload_n hB 3 dL_law_845 rfl ?_
  refine gI_aload_n hB 5 dL_law_846 rfl ?_
  refine gI_iload hB 1 dL_law_847 rfl ?_
  refine gI_iconst (v := nI 1) hB dL_law_849 (by decide) ?_
  refine gI_iaddN hB dL_law_850 ?_
  refine gI_sld hB hS9 (7 * j + 1) (by omega) hL dL_law_851 ?_
  refine gM_call (n9 := 1) (As := [.int (xs (7 * j + 1))]) (rest := []) hB hM1 (mFr.rf (h := h1)) (c_pass X.2.1 h1 a u T W z hM1 o (xs (7 * j + 1))) (gCW.of ggL_law_X7_pass rfl ⟨by decide, by decide, by decide +kernel⟩ ⟨Nat.le_of_ble_eq_true rfl, Nat.le_of_ble_eq_true rfl⟩) (by decide +kernel) (by decide +kernel) (by decide +kernel) (by decide +kernel) rfl rfl (Nat.le_of_ble_eq_true rfl) (by show k + k1 + 201 ≤ 601024; omega) (by show n + n1 + 1206 ≤ 7293033; omega) (fun _ _ _ _ h9 => by cases h9.1) dL_law_852 (fun v9 h2 u2 k2 n2 hM2 hFr hp => ?_)
  obtain ⟨e9, rfl, z1, z2, -, -, hz1, hz2, hk2, hn2⟩ := hp
  cases e9
  have hW2 := hW1.mfr hFr
  have hob2 := hFr _ _ hob1 rfl
  refine gI_istore hB ([(6, .int (mPass u (xs (7 * j + 1))).2), (5, .int ((mPass u (xs (7 * j + 1))).1.1 0)), (4, .int (nI (7 * j))), (3, .ref ob), (2, .ref (a 0)), (1, .ref (c 0)), (0, .ref b)]) hnL dL_law_855 (by decide) rfl ?_
  refine gI_aload_n hB 4 dL_law_857 rfl ?_
  refine gI_pureV (n9 := 0) (As := []) (rest := []) hB (c_thrown X.2.1 h2 a (mPass u (xs (7 * j + 1))).1 hM2) (gCW.of ggL_law_X7_thrown rfl ⟨by decide, by decide, by decide +kernel⟩ ⟨Nat.le_of_ble_eq_true rfl, Nat.le_of_ble_eq_true rfl⟩) (by decide +kernel) (by decide +kernel) (by decide +kernel) (by decide +kernel) hM2.1 (C := RX7) (T := TX7) (N := 15) rfl rfl rfl (Nat.le_of_ble_eq_true rfl) (by show k + k1 + k2 + 0 ≤ 601024; omega) (by show n + n1 + n2 + 0 ≤ 7293033; omega) dL_law_858 ?_
  refine gI_iload hB 1 dL_law_861 rfl ?_
  refine gI_icmp_eq hB 868 dL_law_863 (by decide) (fun c9 => ?_) (fun c9 => absurd rfl c9)
  refine gI_iload hB 1 dL_law_868 rfl ?_
  have fin : gW X h2 (k + k1 + k2) (n + n1 + n2) 885 [(6, .int (mPass u (xs (7 * j + 1))).2), (5, .int ((mPass u (xs (7 * j + 1))).1.1 0)), (4, .int (nI (7 * j))), (3, .ref ob), (2, .ref (a 0)), (1, .ref (c 0)), (0, .ref b)] [] := by
    refine gI_goto hB 1501 dL_law_885 (by decide) ?_
    refine gI_loc [2, 3, 4, 5, 6] rfl ?_
    exact kk _ _ F' _ _ ⟨hW2, hM2, fo', hob2⟩ hle (by omega) (by omega)
  refine gI_if_ne hB 885 dL_law_870 (by decide) (fun c8 => fin) (fun c8 => ?_)
  refine gI_aload_n hB 3 dL_law_873 rfl ?_
  refine gI_iconst (v := nI 0) hB dL_law_874 (by decide) ?_
  refine gC_lald hB hob2 dL_law_875 ?_
  refine gI_iload hB 0 dL_law_876 rfl ?_
  refine gI_i2l hB dL_law_878 ?_
  refine gI_lcmp hB dL_law_879 ?_
  have e8 := ho (c8.trans (by decide))
  rw [e8, lg_cmp_self]
  exact gI_if_eq hB 885 dL_law_880 (by decide) (fun _ => fin) (fun c7 => absurd rfl c7)

set_option maxRecDepth 100000 in
set_option maxHeartbeats 4000000 in
theorem l_count {X : gX} {h : gH} {k n b L j : Nat} {xs : Nat → Int32} {c a : Nat → Nat} {ob F : Nat} {u : MS} (hB : gB X room_1 cL_law wsL_law RL) (hNx : gNx X.1.2.2.2.2.1) (hnL : gnL X = 9) (hS9 : gScr X b L xs) (hL : L ≤ 3584) (hj : 7 * j + 7 ≤ L) (hs : lSt X h c a ob u F) (hk : k + 9000 ≤ 601024) (hn : n + 60000 ≤ 7293033) (kk : lK X b c a ob j F k n) : gW X h k n 888 (lLC b c a ob j) [] := by
  obtain ⟨⟨Λ, T, W, z, hC, o, rfl⟩, hM, fo, hob⟩ := hs
  refine gI_aload_n hB 3 dL_law_888 rfl ?_
  refine gI_aload_n hB 4 dL_law_889 rfl ?_
  refine gI_iload hB 0 dL_law_890 rfl ?_
  refine gI_iconst (v := nI 1) hB dL_law_892 (by decide) ?_
  refine gI_iaddN hB dL_law_893 ?_
  refine gI_sld hB hS9 (7 * j + 1) (by omega) hL dL_law_894 ?_
  refine gI_aload_n hB 1 dL_law_895 rfl ?_
  refine gI_callSN (n9 := 3) (As := [.ref (c 0), .int (xs (7 * j + 1)), .ref ob]) (rest := []) hB hNx (w_count X.2.1 h c Λ u T W z hC o (xs (7 * j + 1)) ob fo hob) (gCW.ofW ggL_law_L_count rfl ⟨by decide, by decide, by decide +kernel⟩ ⟨Nat.le_of_ble_eq_true rfl, Nat.le_of_ble_eq_true rfl⟩) (by decide +kernel) (by decide +kernel) (by decide +kernel) rfl rfl (Nat.le_of_ble_eq_true rfl) (by show k + 1 ≤ 601024; omega) (by show n + 6 ≤ 7293033; omega) dL_law_896 (fun v9 h1 k1 n1 hp => ?_) (fun E9 h1 k1 n1 hp => by obtain ⟨F9, f9, e9, -⟩ := hp; cases e9)
  obtain ⟨F', fo', e9, hW1, hob1, ho, hf, hle, hk1, hn1⟩ := hp
  cases e9
  have hF1 := hW1.le
  have hM1 := hM.keepO hob hf
  refine gI_istore hB ([(5, .int ((mCount u (xs (7 * j + 1))).1.1 0)), (4, .int (nI (7 * j))), (3, .ref ob), (2, .ref (a 0)), (1, .ref (c 0)), (0, .ref b)]) hnL dL_law_899 (by decide) rfl ?_
  refine gI_aload_n hB 3 dL_law_901 rfl ?_
  refine gI_aload_n hB 5 dL_law_902 rfl ?_
  refine gI_iload hB 1 dL_law_903 rfl ?_
  refine gI_iconst (v := nI 1) hB dL_law_905 (by decide) ?_
  refine gI_iaddN hB dL_law_906 ?_
  refine gI_sld hB hS9 (7 * j + 1) (by omega) hL dL_law_907 ?_
  refine gM_call (n9 := 1) (As := [.int (xs (7 * j + 1))]) (rest := []) hB hM1 (mFr.rf (h := h1)) (c_count X.2.1 h1 a u T W z hM1 o (xs (7 * j + 1))) (gCW.of ggL_law_X7_count rfl ⟨by decide, by decide, by decide +kernel⟩ ⟨Nat.le_of_ble_eq_true rfl, Nat.le_of_ble_eq_true rfl⟩) (by decide +kernel) (by decide +kernel) (by decide +kernel) (by decide +kernel) rfl rfl (Nat.le_of_ble_eq_true rfl) (by show k + k1 + 0 ≤ 601024; omega) (by show n + n1 + 0 ≤ 7293033; omega) (fun _ _ _ _ h9 => by cases h9.1) dL_law_908 (fun v9 h2 u2 k2 n2 hM2 hFr hp => ?_)
  obtain ⟨e9, rfl, hk2, hn2⟩ := hp
  cases e9
  have hW2 := hW1.mfr hFr
  have hob2 := hFr _ _ hob1 rfl
  refine gI_istore hB ([(6, .int (mCount u (xs (7 * j + 1))).2), (5, .int ((mCount u (xs (7 * j + 1))).1.1 0)), (4, .int (nI (7 * j))), (3, .ref ob), (2, .ref (a 0)), (1, .ref (c 0)), (0, .ref b)]) hnL dL_law_911 (by decide) rfl ?_
  refine gI_aload_n hB 4 dL_law_913 rfl ?_
  refine gI_pureV (n9 := 0) (As := []) (rest := []) hB (c_thrown X.2.1 h2 a (mCount u (xs (7 * j + 1))).1 hM2) (gCW.of ggL_law_X7_thrown rfl ⟨by decide, by decide, by decide +kernel⟩ ⟨Nat.le_of_ble_eq_true rfl, Nat.le_of_ble_eq_true rfl⟩) (by decide +kernel) (by decide +kernel) (by decide +kernel) (by decide +kernel) hM2.1 (C := RX7) (T := TX7) (N := 15) rfl rfl rfl (Nat.le_of_ble_eq_true rfl) (by show k + k1 + k2 + 0 ≤ 601024; omega) (by show n + n1 + n2 + 0 ≤ 7293033; omega) dL_law_914 ?_
  refine gI_iload hB 1 dL_law_917 rfl ?_
  refine gI_icmp_eq hB 924 dL_law_919 (by decide) (fun c9 => ?_) (fun c9 => absurd rfl c9)
  refine gI_iload hB 1 dL_law_924 rfl ?_
  have fin : gW X h2 (k + k1 + k2) (n + n1 + n2) 941 [(6, .int (mCount u (xs (7 * j + 1))).2), (5, .int ((mCount u (xs (7 * j + 1))).1.1 0)), (4, .int (nI (7 * j))), (3, .ref ob), (2, .ref (a 0)), (1, .ref (c 0)), (0, .ref b)] [] := by
    refine gI_goto hB 1501 dL_law_941 (by decide) ?_
    refine gI_loc [2, 3, 4, 5, 6] rfl ?_
    exact kk _ _ F' _ _ ⟨hW2, hM2, fo', hob2⟩ hle (by omega) (by omega)
  refine gI_if_ne hB 941 dL_law_926 (by decide) (fun c8 => fin) (fun c8 => ?_)
  refine gI_aload_n hB 3 dL_law_929 rfl ?_
  refine gI_iconst (v := nI 0) hB dL_law_930 (by decide) ?_
  refine gC_lald hB hob2 dL_law_931 ?_
  refine gI_iload hB 0 dL_law_932 rfl ?_
  refine gI_i2l hB dL_law_934 ?_
  refine gI_lcmp hB dL_law_935 ?_
  have e8 := ho (c8.trans (by decide))
  rw [e8, lg_cmp_self]
  exact gI_if_eq hB 941 dL_law_936 (by decide) (fun _ => fin) (fun c7 => absurd rfl c7)

set_option maxRecDepth 100000 in
set_option maxHeartbeats 4000000 in
theorem l_waiting {X : gX} {h : gH} {k n b L j : Nat} {xs : Nat → Int32} {c a : Nat → Nat} {ob F : Nat} {u : MS} (hB : gB X room_1 cL_law wsL_law RL) (hNx : gNx X.1.2.2.2.2.1) (hnL : gnL X = 9) (hS9 : gScr X b L xs) (hL : L ≤ 3584) (hj : 7 * j + 7 ≤ L) (hs : lSt X h c a ob u F) (hk : k + 9000 ≤ 601024) (hn : n + 60000 ≤ 7293033) (kk : lK X b c a ob j F k n) : gW X h k n 944 (lLC b c a ob j) [] := by
  obtain ⟨⟨Λ, T, W, z, hC, o, rfl⟩, hM, fo, hob⟩ := hs
  refine gI_aload_n hB 3 dL_law_944 rfl ?_
  refine gI_aload_n hB 4 dL_law_945 rfl ?_
  refine gI_iload hB 0 dL_law_946 rfl ?_
  refine gI_iconst (v := nI 1) hB dL_law_948 (by decide) ?_
  refine gI_iaddN hB dL_law_949 ?_
  refine gI_sld hB hS9 (7 * j + 1) (by omega) hL dL_law_950 ?_
  refine gI_aload_n hB 4 dL_law_951 rfl ?_
  refine gI_iload hB 0 dL_law_952 rfl ?_
  refine gI_iconst (v := nI 2) hB dL_law_954 (by decide) ?_
  refine gI_iaddN hB dL_law_955 ?_
  refine gI_sld hB hS9 (7 * j + 2) (by omega) hL dL_law_956 ?_
  refine gI_aload_n hB 1 dL_law_957 rfl ?_
  refine gI_callSN (n9 := 4) (As := [.ref (c 0), .int (xs (7 * j + 1)), .int (xs (7 * j + 2)), .ref ob]) (rest := []) hB hNx (w_waiting X.2.1 h c Λ u T W z hC o (xs (7 * j + 1)) (xs (7 * j + 2)) ob fo hob) (gCW.ofW ggL_law_L_waiting rfl ⟨by decide, by decide, by decide +kernel⟩ ⟨Nat.le_of_ble_eq_true rfl, Nat.le_of_ble_eq_true rfl⟩) (by decide +kernel) (by decide +kernel) (by decide +kernel) rfl rfl (Nat.le_of_ble_eq_true rfl) (by show k + 1 ≤ 601024; omega) (by show n + 6 ≤ 7293033; omega) dL_law_958 (fun v9 h1 k1 n1 hp => ?_) (fun E9 h1 k1 n1 hp => by obtain ⟨F9, f9, e9, -⟩ := hp; cases e9)
  obtain ⟨F', fo', e9, hW1, hob1, ho, hf, hle, hk1, hn1⟩ := hp
  cases e9
  have hF1 := hW1.le
  have hM1 := hM.keepO hob hf
  refine gI_istore hB ([(5, .int ((mWaiting u (xs (7 * j + 1)) (xs (7 * j + 2))).1.1 0)), (4, .int (nI (7 * j))), (3, .ref ob), (2, .ref (a 0)), (1, .ref (c 0)), (0, .ref b)]) hnL dL_law_961 (by decide) rfl ?_
  refine gI_aload_n hB 3 dL_law_963 rfl ?_
  refine gI_aload_n hB 5 dL_law_964 rfl ?_
  refine gI_iload hB 1 dL_law_965 rfl ?_
  refine gI_iconst (v := nI 1) hB dL_law_967 (by decide) ?_
  refine gI_iaddN hB dL_law_968 ?_
  refine gI_sld hB hS9 (7 * j + 1) (by omega) hL dL_law_969 ?_
  refine gI_aload_n hB 5 dL_law_970 rfl ?_
  refine gI_iload hB 1 dL_law_971 rfl ?_
  refine gI_iconst (v := nI 2) hB dL_law_973 (by decide) ?_
  refine gI_iaddN hB dL_law_974 ?_
  refine gI_sld hB hS9 (7 * j + 2) (by omega) hL dL_law_975 ?_
  refine gM_call (n9 := 2) (As := [.int (xs (7 * j + 1)), .int (xs (7 * j + 2))]) (rest := []) hB hM1 (mFr.rf (h := h1)) (c_waiting X.2.1 h1 a u T W z hM1 o (xs (7 * j + 1)) (xs (7 * j + 2))) (gCW.of ggL_law_X7_waiting rfl ⟨by decide, by decide, by decide +kernel⟩ ⟨Nat.le_of_ble_eq_true rfl, Nat.le_of_ble_eq_true rfl⟩) (by decide +kernel) (by decide +kernel) (by decide +kernel) (by decide +kernel) rfl rfl (Nat.le_of_ble_eq_true rfl) (by show k + k1 + 0 ≤ 601024; omega) (by show n + n1 + 0 ≤ 7293033; omega) (fun _ _ _ _ h9 => by cases h9.1) dL_law_976 (fun v9 h2 u2 k2 n2 hM2 hFr hp => ?_)
  obtain ⟨e9, rfl, hk2, hn2⟩ := hp
  cases e9
  have hW2 := hW1.mfr hFr
  have hob2 := hFr _ _ hob1 rfl
  refine gI_istore hB ([(6, .int (mWaiting u (xs (7 * j + 1)) (xs (7 * j + 2))).2), (5, .int ((mWaiting u (xs (7 * j + 1)) (xs (7 * j + 2))).1.1 0)), (4, .int (nI (7 * j))), (3, .ref ob), (2, .ref (a 0)), (1, .ref (c 0)), (0, .ref b)]) hnL dL_law_979 (by decide) rfl ?_
  refine gI_aload_n hB 4 dL_law_981 rfl ?_
  refine gI_pureV (n9 := 0) (As := []) (rest := []) hB (c_thrown X.2.1 h2 a (mWaiting u (xs (7 * j + 1)) (xs (7 * j + 2))).1 hM2) (gCW.of ggL_law_X7_thrown rfl ⟨by decide, by decide, by decide +kernel⟩ ⟨Nat.le_of_ble_eq_true rfl, Nat.le_of_ble_eq_true rfl⟩) (by decide +kernel) (by decide +kernel) (by decide +kernel) (by decide +kernel) hM2.1 (C := RX7) (T := TX7) (N := 15) rfl rfl rfl (Nat.le_of_ble_eq_true rfl) (by show k + k1 + k2 + 0 ≤ 601024; omega) (by show n + n1 + n2 + 0 ≤ 7293033; omega) dL_law_982 ?_
  refine gI_iload hB 1 dL_law_985 rfl ?_
  refine gI_icmp_eq hB 992 dL_law_987 (by decide) (fun c9 => ?_) (fun c9 => absurd rfl c9)
  refine gI_iload hB 1 dL_law_992 rfl ?_
  have fin : gW X h2 (k + k1 + k2) (n + n1 + n2) 1009 [(6, .int (mWaiting u (xs (7 * j + 1)) (xs (7 * j + 2))).2), (5, .int ((mWaiting u (xs (7 * j + 1)) (xs (7 * j + 2))).1.1 0)), (4, .int (nI (7 * j))), (3, .ref ob), (2, .ref (a 0)), (1, .ref (c 0)), (0, .ref b)] [] := by
    refine gI_goto hB 1501 dL_law_1009 (by decide) ?_
    refine gI_loc [2, 3, 4, 5, 6] rfl ?_
    exact kk _ _ F' _ _ ⟨hW2, hM2, fo', hob2⟩ hle (by omega) (by omega)
  refine gI_if_ne hB 1009 dL_law_994 (by decide) (fun c8 => fin) (fun c8 => ?_)
  refine gI_aload_n hB 3 dL_law_997 rfl ?_
  refine gI_iconst (v := nI 0) hB dL_law_998 (by decide) ?_
  refine gC_lald hB hob2 dL_law_999 ?_
  refine gI_iload hB 0 dL_law_1000 rfl ?_
  refine gI_i2l hB dL_law_1002 ?_
  refine gI_lcmp hB dL_law_1003 ?_
  have e8 := ho (c8.trans (by decide))
  rw [e8, lg_cmp_self]
  exact gI_if_eq hB 1009 dL_law_1004 (by decide) (fun _ => fin) (fun c7 => absurd rfl c7)
