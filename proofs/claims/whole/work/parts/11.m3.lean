theorem mMany_of {u : MS} {t m : Nat} (hm : m ≤ 8) (e : u.2 0 (7 * t + 3) = nI m) : mMany u t = m := by
  unfold mMany
  rw [e]
  exact mCl (by omega)
theorem mJ_of {t j : Nat} (ht : t < 100) (hj : j < 100) : mJ (nI t) (nI j) = 9 * (8 * t + j) := by
  unfold mJ
  rw [mCl (by omega), mCl (by omega)]
theorem mHab_of {u : MS} {p q : Int32} {T : Nat} (w : mW u T) (h : mHab u p q) : ∃ t j m, t < T ∧ p = nI t ∧ j < m ∧ q = nI j ∧ m ≤ 8 ∧ u.2 0 (7 * t + 3) = nI m := by
  obtain ⟨h1, h2⟩ := h
  obtain ⟨t, ht, rfl⟩ := mTen_of w h1
  obtain ⟨m, hm, em⟩ := w.2.2 t ht
  rw [mCl (by have := w.2.1; omega), em] at h2
  obtain ⟨j, hj, rfl⟩ := mIn_of (by omega) h2
  exact ⟨t, j, m, ht, rfl, hj, rfl, hm, em⟩

set_option maxRecDepth 100000 in
set_option maxHeartbeats 4000000 in
theorem c_addHabit (G : gG) (h : gH) (a : Nat → Nat) (u : MS) (T : Nat) (hM : mRep G h a u) (hw : mW u T) (p : Int32) : gMet yX7_addHabit wsX7_addHabit (gRm 3 1 9) G h [.ref (a 0), .int p] (mPo G h a (mSp (mAddHabit u p) 1 9)) := by
  refine gMet_of (maxL := 3) (ret := (some .int)) (by decide) rfl (Nat.le_of_ble_eq_true rfl) ?_
  intro X hG hnL hB hE
  subst hG
  change gW X h 0 0 0 [(0, .ref (a 0)), (1, .int p)] []
  have hF : mFr h h := mFr.rf
  refine gI_aload_n hB 0 dX7_addHabit_0 rfl ?_
  refine gI_iconst (v := nI 0) hB dX7_addHabit_1 (by decide) ?_
  refine gM_put hB hM hF 0 (sg u 0 (nI 0)) (by decide +kernel) (by decide) (by decide +kernel) rfl rfl rfl rfl rfl rfl dX7_addHabit_2 (fun h hM hF => ?_)
  refine gI_aload_n hB 0 dX7_addHabit_5 rfl ?_
  refine gI_iload_n hB 1 dX7_addHabit_6 rfl ?_
  refine gM_pure (n9 := 1) (As := [.int p]) (rest := []) hB hM (c_isTenant X.2.1 h a (sg u 0 (nI 0)) hM p) (gCW.of ggX7_addHabit_X7_isTenant rfl ⟨by decide, by decide, by decide +kernel⟩ ⟨Nat.le_of_ble_eq_true rfl, Nat.le_of_ble_eq_true rfl⟩) (by decide +kernel) (by decide +kernel) (by decide +kernel) (by decide +kernel) rfl rfl (Nat.le_of_ble_eq_true rfl) (by first | exact Nat.le_of_ble_eq_true rfl | (dsimp only [gRm]; omega)) (by first | exact Nat.le_of_ble_eq_true rfl | (dsimp only [gRm]; omega)) dX7_addHabit_7 ?_
  refine gI_topi hB (y := gbi (mTen u p)) rfl ?_
  refine gI_if_ne hB 19 dX7_addHabit_10 (by decide) (fun c10_1 => ?_) (fun c10_1 => ?_)
  · skip
    have c10_1 := gbi_n0 c10_1
    obtain ⟨t, ht, et⟩ := mTen_of hw c10_1
    subst et
    have hT := hw.2.1
    obtain ⟨m, hm8, em⟩ := hw.2.2 t ht
    refine gI_aload_n hB 0 dX7_addHabit_19 rfl ?_
    refine gI_iload_n hB 1 dX7_addHabit_20 rfl ?_
    refine gI_iconst (v := nI 3) hB dX7_addHabit_21 (by decide) ?_
    refine gM_pure (n9 := 2) (As := [.int (nI t), .int (nI 3)]) (rest := []) hB hM (c_get X.2.1 h a (sg u 0 (nI 0)) hM t 3 (by omega) (by omega)) (gCW.of ggX7_addHabit_X7_get rfl ⟨by decide, by decide, by decide +kernel⟩ ⟨Nat.le_of_ble_eq_true rfl, Nat.le_of_ble_eq_true rfl⟩) (by decide +kernel) (by decide +kernel) (by decide +kernel) (by decide +kernel) rfl rfl (Nat.le_of_ble_eq_true rfl) (by first | exact Nat.le_of_ble_eq_true rfl | (dsimp only [gRm]; omega)) (by first | exact Nat.le_of_ble_eq_true rfl | (dsimp only [gRm]; omega)) dX7_addHabit_22 ?_
    refine gI_topi hB (y := nI m) em ?_
    refine gI_bipush (v := nI 8) hB dX7_addHabit_25 (by decide) ?_
    refine gI_icmp_ne hB 36 dX7_addHabit_27 (by decide) (fun c27_2 => ?_) (fun c27_2 => ?_)
    · skip
      have c27_2 := mt (nI_eq (by omega) (by omega)).mpr c27_2
      refine gI_bipush (v := nI 9) hB dX7_addHabit_36 (by decide) ?_
      refine gM_new hB hM hF 9 rfl (by decide) (by decide +kernel) (by first | exact Nat.le_of_ble_eq_true rfl | (dsimp only [gRm]; omega)) (by first | exact Nat.le_of_ble_eq_true rfl | (dsimp only [gRm]; omega)) dX7_addHabit_38 (fun q3 h hM hF hq3 => ?_)
      refine gI_dup hB dX7_addHabit_40 rfl ?_
      refine gI_iconst (v := nI 0) hB dX7_addHabit_41 (by decide) ?_
      refine gI_iconst (v := nI 0) hB dX7_addHabit_42 (by decide) ?_
      refine gM_tast hB hM hF hq3 (by decide) 0 rfl (by decide) dX7_addHabit_43 (fun h hM hF hq3 => ?_)
      refine gI_dup hB dX7_addHabit_44 rfl ?_
      refine gI_iconst (v := nI 1) hB dX7_addHabit_45 (by decide) ?_
      refine gI_bipush (v := nI 23) hB dX7_addHabit_46 (by decide) ?_
      refine gM_tast hB hM hF hq3 (by decide) 1 rfl (by decide) dX7_addHabit_48 (fun h hM hF hq3 => ?_)
      refine gI_dup hB dX7_addHabit_49 rfl ?_
      refine gI_iconst (v := nI 2) hB dX7_addHabit_50 (by decide) ?_
      refine gI_iconst (v := nI 2) hB dX7_addHabit_51 (by decide) ?_
      refine gM_tast hB hM hF hq3 (by decide) 2 rfl (by decide) dX7_addHabit_52 (fun h hM hF hq3 => ?_)
      refine gI_dup hB dX7_addHabit_53 rfl ?_
      refine gI_iconst (v := nI 3) hB dX7_addHabit_54 (by decide) ?_
      refine gI_iconst (v := nI 0) hB dX7_addHabit_55 (by decide) ?_
      refine gM_tast hB hM hF hq3 (by decide) 3 rfl (by decide) dX7_addHabit_56 (fun h hM hF hq3 => ?_)
      refine gI_dup hB dX7_addHabit_57 rfl ?_
      refine gI_iconst (v := nI 4) hB dX7_addHabit_58 (by decide) ?_
      refine gI_iconst (v := nI 1) hB dX7_addHabit_59 (by decide) ?_
      refine gM_tast hB hM hF hq3 (by decide) 4 rfl (by decide) dX7_addHabit_60 (fun h hM hF hq3 => ?_)
      refine gI_dup hB dX7_addHabit_61 rfl ?_
      refine gI_iconst (v := nI 5) hB dX7_addHabit_62 (by decide) ?_
      refine gI_iload_n hB 1 dX7_addHabit_63 rfl ?_
      refine gM_tast hB hM hF hq3 (by decide) 5 rfl (by decide) dX7_addHabit_64 (fun h hM hF hq3 => ?_)
      refine gI_dup hB dX7_addHabit_65 rfl ?_
      refine gI_bipush (v := nI 6) hB dX7_addHabit_66 (by decide) ?_
      refine gI_iconst (v := nI 1) hB dX7_addHabit_68 (by decide) ?_
      refine gM_tast hB hM hF hq3 (by decide) 6 rfl (by decide) dX7_addHabit_69 (fun h hM hF hq3 => ?_)
      refine gI_dup hB dX7_addHabit_70 rfl ?_
      refine gI_bipush (v := nI 7) hB dX7_addHabit_71 (by decide) ?_
      refine gI_iconst (v := nI 0) hB dX7_addHabit_73 (by decide) ?_
      refine gM_tast hB hM hF hq3 (by decide) 7 rfl (by decide) dX7_addHabit_74 (fun h hM hF hq3 => ?_)
      refine gI_dup hB dX7_addHabit_75 rfl ?_
      refine gI_bipush (v := nI 8) hB dX7_addHabit_76 (by decide) ?_
      refine gI_iconst (v := nI 0) hB dX7_addHabit_78 (by decide) ?_
      refine gM_tast hB hM hF hq3 (by decide) 8 rfl (by decide) dX7_addHabit_79 (fun h hM hF hq3 => ?_)
      refine gI_astore_n hB ([(2, .ref q3), (0, .ref (a 0)), (1, .int (nI t))]) hnL dX7_addHabit_80 (by decide) rfl ?_
      refine gI_aload_n hB 0 dX7_addHabit_81 rfl ?_
      refine gI_iconst (v := nI 0) hB dX7_addHabit_82 (by decide) ?_
      refine gI_aload_n hB 1 dX7_addHabit_83 rfl ?_
      refine gM_get hB hM 5 (v := .ref (a 2)) (by decide +kernel) (by decide) (by decide +kernel) rfl rfl dX7_addHabit_84 ?_
      refine gI_iload_n hB 2 dX7_addHabit_87 rfl ?_
      refine gI_aload_n hB 1 dX7_addHabit_88 rfl ?_
      refine gI_iload_n hB 2 dX7_addHabit_89 rfl ?_
      refine gI_iconst (v := nI 3) hB dX7_addHabit_90 (by decide) ?_
      refine gM_pure (n9 := 2) (As := [.int (nI t), .int (nI 3)]) (rest := [.int (nI t), .ref (a 2), .int (nI 0), .ref q3]) hB hM (c_get X.2.1 h a (sg u 0 (nI 0)) hM t 3 (by omega) (by omega)) (gCW.of ggX7_addHabit_X7_get rfl ⟨by decide, by decide, by decide +kernel⟩ ⟨Nat.le_of_ble_eq_true rfl, Nat.le_of_ble_eq_true rfl⟩) (by decide +kernel) (by decide +kernel) (by decide +kernel) (by decide +kernel) rfl rfl (Nat.le_of_ble_eq_true rfl) (by first | exact Nat.le_of_ble_eq_true rfl | (dsimp only [gRm]; omega)) (by first | exact Nat.le_of_ble_eq_true rfl | (dsimp only [gRm]; omega)) dX7_addHabit_91 ?_
      refine gI_topi hB (y := nI m) em ?_
      refine gI_pureS (n9 := 2) (As := [.int (nI t), .int (nI m)]) (rest := [.ref (a 2), .int (nI 0), .ref q3]) hB (c_at X.2.1 h t m) (gCW.of ggX7_addHabit_X7_at rfl ⟨by decide, by decide, by decide +kernel⟩ ⟨Nat.le_of_ble_eq_true rfl, Nat.le_of_ble_eq_true rfl⟩) (Or.inl (by decide +kernel)) (by decide +kernel) (by decide +kernel) rfl rfl (Nat.le_of_ble_eq_true rfl) (by first | exact Nat.le_of_ble_eq_true rfl | (dsimp only [gRm]; omega)) (by first | exact Nat.le_of_ble_eq_true rfl | (dsimp only [gRm]; omega)) dX7_addHabit_94 ?_
      refine gI_bipush (v := nI 9) hB dX7_addHabit_97 (by decide) ?_
      refine gM_copyT hB hM hF 1 (by decide) hq3 (by decide) 0 (9 * (8 * t + m)) 9 rfl rfl rfl (by decide +kernel) (by decide +kernel) (by decide +kernel) (by decide +kernel) (show 0 + 9 ≤ 9 by omega) (show (9 * (8 * t + m)) + 9 ≤ 1152 by omega) (Nat.le_of_ble_eq_true rfl) (Nat.le_of_ble_eq_true rfl) dX7_addHabit_99 (fun h hM hF => ?_)
      refine gI_aload_n hB 1 dX7_addHabit_102 rfl ?_
      refine gI_iload_n hB 2 dX7_addHabit_103 rfl ?_
      refine gI_iconst (v := nI 3) hB dX7_addHabit_104 (by decide) ?_
      refine gI_aload_n hB 1 dX7_addHabit_105 rfl ?_
      refine gI_iload_n hB 2 dX7_addHabit_106 rfl ?_
      refine gI_iconst (v := nI 3) hB dX7_addHabit_107 (by decide) ?_
      refine gM_pure (n9 := 2) (As := [.int (nI t), .int (nI 3)]) (rest := [.int (nI 3), .int (nI t), .ref (a 0)]) hB hM (c_get X.2.1 h a (sa (sg u 0 (nI 0)) 1 (va_cpy (upd (upd (upd (upd (upd (upd (upd (upd (upd (fun _ => 0) 0 (nI 0)) 1 (nI 23)) 2 (nI 2)) 3 (nI 0)) 4 (nI 1)) 5 (nI t)) 6 (nI 1)) 7 (nI 0)) 8 (nI 0)) (u.2 1) 0 (9 * (8 * t + m)) 9)) hM t 3 (by omega) (by omega)) (gCW.of ggX7_addHabit_X7_get rfl ⟨by decide, by decide, by decide +kernel⟩ ⟨Nat.le_of_ble_eq_true rfl, Nat.le_of_ble_eq_true rfl⟩) (by decide +kernel) (by decide +kernel) (by decide +kernel) (by decide +kernel) rfl rfl (Nat.le_of_ble_eq_true rfl) (by first | exact Nat.le_of_ble_eq_true rfl | (dsimp only [gRm]; omega)) (by first | exact Nat.le_of_ble_eq_true rfl | (dsimp only [gRm]; omega)) dX7_addHabit_108 ?_
      refine gI_topi hB (y := nI m) em ?_
      refine gI_iconst (v := nI 1) hB dX7_addHabit_111 (by decide) ?_
      refine gI_iaddN hB dX7_addHabit_112 ?_
      refine gM_call (n9 := 3) (As := [.int (nI t), .int (nI 3), .int (nI (m + 1))]) (rest := []) hB hM hF (c_set X.2.1 h a (sa (sg u 0 (nI 0)) 1 (va_cpy (upd (upd (upd (upd (upd (upd (upd (upd (upd (fun _ => 0) 0 (nI 0)) 1 (nI 23)) 2 (nI 2)) 3 (nI 0)) 4 (nI 1)) 5 (nI t)) 6 (nI 1)) 7 (nI 0)) 8 (nI 0)) (u.2 1) 0 (9 * (8 * t + m)) 9)) hM t 3 (nI (m + 1)) (by omega) (by omega)) (gCW.of ggX7_addHabit_X7_set rfl ⟨by decide, by decide, by decide +kernel⟩ ⟨Nat.le_of_ble_eq_true rfl, Nat.le_of_ble_eq_true rfl⟩) (by decide +kernel) (by decide +kernel) (by decide +kernel) (by decide +kernel) rfl rfl (Nat.le_of_ble_eq_true rfl) (by first | exact Nat.le_of_ble_eq_true rfl | (dsimp only [gRm]; omega)) (by first | exact Nat.le_of_ble_eq_true rfl | (dsimp only [gRm]; omega)) mSt.no dX7_addHabit_113 (fun v9 h u9 k9 n9 hM hF hp => ?_)
      obtain ⟨e9, rfl, rfl, rfl⟩ := hp
      cases e9
      change gW X h (0 + 1) (0 + 9) _ [(2, .ref q3), (0, .ref (a 0)), (1, .int (nI t))] []
      refine gI_aload_n hB 1 dX7_addHabit_116 rfl ?_
      refine gI_iload_n hB 2 dX7_addHabit_117 rfl ?_
      refine gI_iconst (v := nI 3) hB dX7_addHabit_118 (by decide) ?_
      refine gM_pure (n9 := 2) (As := [.int (nI t), .int (nI 3)]) (rest := []) hB hM (c_get X.2.1 h a (sa (sa (sg u 0 (nI 0)) 1 (va_cpy (upd (upd (upd (upd (upd (upd (upd (upd (upd (fun _ => 0) 0 (nI 0)) 1 (nI 23)) 2 (nI 2)) 3 (nI 0)) 4 (nI 1)) 5 (nI t)) 6 (nI 1)) 7 (nI 0)) 8 (nI 0)) (u.2 1) 0 (9 * (8 * t + m)) 9)) 0 (upd (u.2 0) (7 * t + 3) (nI (m + 1)))) hM t 3 (by omega) (by omega)) (gCW.of ggX7_addHabit_X7_get rfl ⟨by decide, by decide, by decide +kernel⟩ ⟨Nat.le_of_ble_eq_true rfl, Nat.le_of_ble_eq_true rfl⟩) (by decide +kernel) (by decide +kernel) (by decide +kernel) (by decide +kernel) rfl rfl (Nat.le_of_ble_eq_true rfl) (by first | exact Nat.le_of_ble_eq_true rfl | (dsimp only [gRm]; omega)) (by first | exact Nat.le_of_ble_eq_true rfl | (dsimp only [gRm]; omega)) dX7_addHabit_119 ?_
      refine gI_topi hB (y := nI (m + 1)) (pk_us) ?_
      refine gI_iret hB hE dX7_addHabit_122 ?_
      refine ⟨_, hM, hF, ?_⟩
      have e9 : mAddHabit u (nI t) = ((sa (sa (sg u 0 (nI 0)) 1 (va_cpy (upd (upd (upd (upd (upd (upd (upd (upd (upd (fun _ => 0) 0 (nI 0)) 1 (nI 23)) 2 (nI 2)) 3 (nI 0)) 4 (nI 1)) 5 (nI t)) 6 (nI 1)) 7 (nI 0)) 8 (nI 0)) (u.2 1) 0 (9 * (8 * t + m)) 9)) 0 (upd (u.2 0) (7 * t + 3) (nI (m + 1)))), (nI (m + 1))) := by
        unfold mAddHabit; rw [if_pos c10_1, mCl (by omega), mMany_of hm8 em, if_neg (by rw [em]; exact fun z => c27_2 ((nI_eq (by omega) (by omega)).mp z))]; try rfl
      rw [e9]
      exact ⟨rfl, rfl, by omega, by omega⟩
    · skip
      have c27_2 := (nI_eq (by omega) (by omega)).mp c27_2
      refine gI_aload_n hB 0 dX7_addHabit_30 rfl ?_
      refine gI_iconst (v := nI 2) hB dX7_addHabit_31 (by decide) ?_
      refine gM_call (n9 := 1) (As := [.int (nI 2)]) (rest := []) hB hM hF (c_fail X.2.1 h a (sg u 0 (nI 0)) hM (nI 2)) (gCW.of ggX7_addHabit_X7_fail rfl ⟨by decide, by decide, by decide +kernel⟩ ⟨Nat.le_of_ble_eq_true rfl, Nat.le_of_ble_eq_true rfl⟩) (by decide +kernel) (by decide +kernel) (by decide +kernel) (by decide +kernel) rfl rfl (Nat.le_of_ble_eq_true rfl) (by first | exact Nat.le_of_ble_eq_true rfl | (dsimp only [gRm]; omega)) (by first | exact Nat.le_of_ble_eq_true rfl | (dsimp only [gRm]; omega)) mSt.no dX7_addHabit_32 (fun v9 h u9 k9 n9 hM hF hp => ?_)
      obtain ⟨e9, rfl, rfl, rfl⟩ := hp
      cases e9
      change gW X h (0) (0) _ _ (.int (nI 0) :: _)
      refine gI_iret hB hE dX7_addHabit_35 ?_
      refine ⟨_, hM, hF, ?_⟩
      have e9 : mAddHabit u (nI t) = ((sg (sg u 0 (nI 0)) 0 (nI 2)), (nI 0)) := by
        unfold mAddHabit; rw [if_pos c10_1, mCl (by omega), if_pos (em.trans (congrArg nI c27_2))]; try rfl
      rw [e9]
      exact ⟨rfl, rfl, by omega, by omega⟩
  · skip
    have c10_1 := gbi_0.mp c10_1
    refine gI_aload_n hB 0 dX7_addHabit_13 rfl ?_
    refine gI_iconst (v := nI 1) hB dX7_addHabit_14 (by decide) ?_
    refine gM_call (n9 := 1) (As := [.int (nI 1)]) (rest := []) hB hM hF (c_fail X.2.1 h a (sg u 0 (nI 0)) hM (nI 1)) (gCW.of ggX7_addHabit_X7_fail rfl ⟨by decide, by decide, by decide +kernel⟩ ⟨Nat.le_of_ble_eq_true rfl, Nat.le_of_ble_eq_true rfl⟩) (by decide +kernel) (by decide +kernel) (by decide +kernel) (by decide +kernel) rfl rfl (Nat.le_of_ble_eq_true rfl) (by first | exact Nat.le_of_ble_eq_true rfl | (dsimp only [gRm]; omega)) (by first | exact Nat.le_of_ble_eq_true rfl | (dsimp only [gRm]; omega)) mSt.no dX7_addHabit_15 (fun v9 h u9 k9 n9 hM hF hp => ?_)
    obtain ⟨e9, rfl, rfl, rfl⟩ := hp
    cases e9
    change gW X h (0) (0) _ _ (.int (nI 0) :: _)
    refine gI_iret hB hE dX7_addHabit_18 ?_
    refine ⟨_, hM, hF, ?_⟩
    have e9 : mAddHabit u p = ((sg (sg u 0 (nI 0)) 0 (nI 1)), (nI 0)) := by
      unfold mAddHabit; rw [if_neg c10_1]; try rfl
    rw [e9]
    exact ⟨rfl, rfl, by omega, by omega⟩

set_option maxRecDepth 100000 in
set_option maxHeartbeats 4000000 in
theorem c_setWhen (G : gG) (h : gH) (a : Nat → Nat) (u : MS) (T : Nat) (hM : mRep G h a u) (hw : mW u T) (p q x y z v : Int32) : gMet yX7_setWhen wsX7_setWhen (gRm 4 1 4) G h [.ref (a 0), .int p, .int q, .int x, .int y, .int z, .int v] (mPo G h a (mSp (mSetWhen u p q x y z v) 1 4)) := by
  refine gMet_of (maxL := 10) (ret := (some .int)) (by decide) rfl (Nat.le_of_ble_eq_true rfl) ?_
  intro X hG hnL hB hE
  subst hG
  change gW X h 0 0 0 [(0, .ref (a 0)), (1, .int p), (2, .int q), (3, .int x), (4, .int y), (5, .int z), (6, .int v)] []
  have hF : mFr h h := mFr.rf
  refine gI_aload_n hB 0 dX7_setWhen_0 rfl ?_
  refine gI_iconst (v := nI 0) hB dX7_setWhen_1 (by decide) ?_
  refine gM_put hB hM hF 0 (sg u 0 (nI 0)) (by decide +kernel) (by decide) (by decide +kernel) rfl rfl rfl rfl rfl rfl dX7_setWhen_2 (fun h hM hF => ?_)
  refine gI_aload_n hB 0 dX7_setWhen_5 rfl ?_
  refine gI_iload_n hB 1 dX7_setWhen_6 rfl ?_
  refine gI_iload_n hB 2 dX7_setWhen_7 rfl ?_
  refine gM_pure (n9 := 2) (As := [.int p, .int q]) (rest := []) hB hM (c_isHabit X.2.1 h a (sg u 0 (nI 0)) T hM hw p q) (gCW.of ggX7_setWhen_X7_isHabit rfl ⟨by decide, by decide, by decide +kernel⟩ ⟨Nat.le_of_ble_eq_true rfl, Nat.le_of_ble_eq_true rfl⟩) (by decide +kernel) (by decide +kernel) (by decide +kernel) (by decide +kernel) rfl rfl (Nat.le_of_ble_eq_true rfl) (by first | exact Nat.le_of_ble_eq_true rfl | (dsimp only [gRm]; omega)) (by first | exact Nat.le_of_ble_eq_true rfl | (dsimp only [gRm]; omega)) dX7_setWhen_8 ?_
  refine gI_topi hB (y := gbi (mHab u p q)) rfl ?_
  refine gI_if_ne hB 20 dX7_setWhen_11 (by decide) (fun c11_1 => ?_) (fun c11_1 => ?_)
  · skip
    have c11_1 := gbi_n0 c11_1
    have hh := c11_1
    obtain ⟨t, j, m, ht, et, hj, ej, hm8, em⟩ := mHab_of hw c11_1
    subst et ej
    have hT := hw.2.1
    refine gI_iload_n hB 3 dX7_setWhen_20 rfl ?_
    refine gI_iconst (v := nI 0) hB dX7_setWhen_21 (by decide) ?_
    refine gI_bipush (v := nI 23) hB dX7_setWhen_22 (by decide) ?_
    refine gI_pureS (n9 := 3) (As := [.int x, .int (nI 0), .int (nI 23)]) (rest := []) hB (c_isIn X.2.1 h x (nI 0) (nI 23)) (gCW.of ggX7_setWhen_X7_isIn rfl ⟨by decide, by decide, by decide +kernel⟩ ⟨Nat.le_of_ble_eq_true rfl, Nat.le_of_ble_eq_true rfl⟩) (Or.inl (by decide +kernel)) (by decide +kernel) (by decide +kernel) rfl rfl (Nat.le_of_ble_eq_true rfl) (by first | exact Nat.le_of_ble_eq_true rfl | (dsimp only [gRm]; omega)) (by first | exact Nat.le_of_ble_eq_true rfl | (dsimp only [gRm]; omega)) dX7_setWhen_24 ?_
    refine gI_if_eq hB 62 dX7_setWhen_27 (by decide) (fun c27_2 => ?_) (fun c27_2 => ?_)
    · skip
      have c27_2 := gbi_0.mp c27_2
      refine gI_aload_n hB 0 dX7_setWhen_62 rfl ?_
      refine gI_iconst (v := nI 2) hB dX7_setWhen_63 (by decide) ?_
      refine gM_call (n9 := 1) (As := [.int (nI 2)]) (rest := []) hB hM hF (c_fail X.2.1 h a (sg u 0 (nI 0)) hM (nI 2)) (gCW.of ggX7_setWhen_X7_fail rfl ⟨by decide, by decide, by decide +kernel⟩ ⟨Nat.le_of_ble_eq_true rfl, Nat.le_of_ble_eq_true rfl⟩) (by decide +kernel) (by decide +kernel) (by decide +kernel) (by decide +kernel) rfl rfl (Nat.le_of_ble_eq_true rfl) (by first | exact Nat.le_of_ble_eq_true rfl | (dsimp only [gRm]; omega)) (by first | exact Nat.le_of_ble_eq_true rfl | (dsimp only [gRm]; omega)) mSt.no dX7_setWhen_64 (fun v9 h u9 k9 n9 hM hF hp => ?_)
      obtain ⟨e9, rfl, rfl, rfl⟩ := hp
      cases e9
      change gW X h (0) (0) _ _ (.int (nI 0) :: _)
      refine gI_iret hB hE dX7_setWhen_67 ?_
      refine ⟨_, hM, hF, ?_⟩
      have e9 : mSetWhen u (nI t) (nI j) x y z v = ((sg (sg u 0 (nI 0)) 0 (nI 2)), (nI 0)) := by
        unfold mSetWhen; rw [if_pos hh, if_neg (fun z => c27_2 z.1)]; try rfl
      rw [e9]
      exact ⟨rfl, rfl, by omega, by omega⟩
    · skip
      have c27_2 := gbi_n0 c27_2
      refine gI_iload hB 4 dX7_setWhen_30 rfl ?_
      refine gI_iconst (v := nI 0) hB dX7_setWhen_32 (by decide) ?_
      refine gI_bipush (v := nI 23) hB dX7_setWhen_33 (by decide) ?_
      refine gI_pureS (n9 := 3) (As := [.int y, .int (nI 0), .int (nI 23)]) (rest := []) hB (c_isIn X.2.1 h y (nI 0) (nI 23)) (gCW.of ggX7_setWhen_X7_isIn rfl ⟨by decide, by decide, by decide +kernel⟩ ⟨Nat.le_of_ble_eq_true rfl, Nat.le_of_ble_eq_true rfl⟩) (Or.inl (by decide +kernel)) (by decide +kernel) (by decide +kernel) rfl rfl (Nat.le_of_ble_eq_true rfl) (by first | exact Nat.le_of_ble_eq_true rfl | (dsimp only [gRm]; omega)) (by first | exact Nat.le_of_ble_eq_true rfl | (dsimp only [gRm]; omega)) dX7_setWhen_35 ?_
      refine gI_if_eq hB 62 dX7_setWhen_38 (by decide) (fun c38_3 => ?_) (fun c38_3 => ?_)
      · skip
        have c38_3 := gbi_0.mp c38_3
        refine gI_aload_n hB 0 dX7_setWhen_62 rfl ?_
        refine gI_iconst (v := nI 2) hB dX7_setWhen_63 (by decide) ?_
        refine gM_call (n9 := 1) (As := [.int (nI 2)]) (rest := []) hB hM hF (c_fail X.2.1 h a (sg u 0 (nI 0)) hM (nI 2)) (gCW.of ggX7_setWhen_X7_fail rfl ⟨by decide, by decide, by decide +kernel⟩ ⟨Nat.le_of_ble_eq_true rfl, Nat.le_of_ble_eq_true rfl⟩) (by decide +kernel) (by decide +kernel) (by decide +kernel) (by decide +kernel) rfl rfl (Nat.le_of_ble_eq_true rfl) (by first | exact Nat.le_of_ble_eq_true rfl | (dsimp only [gRm]; omega)) (by first | exact Nat.le_of_ble_eq_true rfl | (dsimp only [gRm]; omega)) mSt.no dX7_setWhen_64 (fun v9 h u9 k9 n9 hM hF hp => ?_)
        obtain ⟨e9, rfl, rfl, rfl⟩ := hp
        cases e9
        change gW X h (0) (0) _ _ (.int (nI 0) :: _)
        refine gI_iret hB hE dX7_setWhen_67 ?_
        refine ⟨_, hM, hF, ?_⟩
        have e9 : mSetWhen u (nI t) (nI j) x y z v = ((sg (sg u 0 (nI 0)) 0 (nI 2)), (nI 0)) := by
          unfold mSetWhen; rw [if_pos hh, if_neg (fun z => c38_3 z.2.1)]; try rfl
        rw [e9]
        exact ⟨rfl, rfl, by omega, by omega⟩
      · skip
        have c38_3 := gbi_n0 c38_3
        refine gI_iload hB 5 dX7_setWhen_41 rfl ?_
        refine gI_iconst (v := nI 0) hB dX7_setWhen_43 (by decide) ?_
        refine gI_iconst (v := nI 2) hB dX7_setWhen_44 (by decide) ?_
        refine gI_pureS (n9 := 3) (As := [.int z, .int (nI 0), .int (nI 2)]) (rest := []) hB (c_isIn X.2.1 h z (nI 0) (nI 2)) (gCW.of ggX7_setWhen_X7_isIn rfl ⟨by decide, by decide, by decide +kernel⟩ ⟨Nat.le_of_ble_eq_true rfl, Nat.le_of_ble_eq_true rfl⟩) (Or.inl (by decide +kernel)) (by decide +kernel) (by decide +kernel) rfl rfl (Nat.le_of_ble_eq_true rfl) (by first | exact Nat.le_of_ble_eq_true rfl | (dsimp only [gRm]; omega)) (by first | exact Nat.le_of_ble_eq_true rfl | (dsimp only [gRm]; omega)) dX7_setWhen_45 ?_
        refine gI_if_eq hB 62 dX7_setWhen_48 (by decide) (fun c48_4 => ?_) (fun c48_4 => ?_)
        · skip
          have c48_4 := gbi_0.mp c48_4
          refine gI_aload_n hB 0 dX7_setWhen_62 rfl ?_
          refine gI_iconst (v := nI 2) hB dX7_setWhen_63 (by decide) ?_
          refine gM_call (n9 := 1) (As := [.int (nI 2)]) (rest := []) hB hM hF (c_fail X.2.1 h a (sg u 0 (nI 0)) hM (nI 2)) (gCW.of ggX7_setWhen_X7_fail rfl ⟨by decide, by decide, by decide +kernel⟩ ⟨Nat.le_of_ble_eq_true rfl, Nat.le_of_ble_eq_true rfl⟩) (by decide +kernel) (by decide +kernel) (by decide +kernel) (by decide +kernel) rfl rfl (Nat.le_of_ble_eq_true rfl) (by first | exact Nat.le_of_ble_eq_true rfl | (dsimp only [gRm]; omega)) (by first | exact Nat.le_of_ble_eq_true rfl | (dsimp only [gRm]; omega)) mSt.no dX7_setWhen_64 (fun v9 h u9 k9 n9 hM hF hp => ?_)
          obtain ⟨e9, rfl, rfl, rfl⟩ := hp
          cases e9
          change gW X h (0) (0) _ _ (.int (nI 0) :: _)
          refine gI_iret hB hE dX7_setWhen_67 ?_
          refine ⟨_, hM, hF, ?_⟩
          have e9 : mSetWhen u (nI t) (nI j) x y z v = ((sg (sg u 0 (nI 0)) 0 (nI 2)), (nI 0)) := by
            unfold mSetWhen; rw [if_pos hh, if_neg (fun z => c48_4 z.2.2.1)]; try rfl
          rw [e9]
          exact ⟨rfl, rfl, by omega, by omega⟩
        · skip
          have c48_4 := gbi_n0 c48_4
          refine gI_iload hB 6 dX7_setWhen_51 rfl ?_
          refine gI_iconst (v := nI 0) hB dX7_setWhen_53 (by decide) ?_
          refine gI_bipush (v := nI 9) hB dX7_setWhen_54 (by decide) ?_
          refine gI_pureS (n9 := 3) (As := [.int v, .int (nI 0), .int (nI 9)]) (rest := []) hB (c_isIn X.2.1 h v (nI 0) (nI 9)) (gCW.of ggX7_setWhen_X7_isIn rfl ⟨by decide, by decide, by decide +kernel⟩ ⟨Nat.le_of_ble_eq_true rfl, Nat.le_of_ble_eq_true rfl⟩) (Or.inl (by decide +kernel)) (by decide +kernel) (by decide +kernel) rfl rfl (Nat.le_of_ble_eq_true rfl) (by first | exact Nat.le_of_ble_eq_true rfl | (dsimp only [gRm]; omega)) (by first | exact Nat.le_of_ble_eq_true rfl | (dsimp only [gRm]; omega)) dX7_setWhen_56 ?_
          refine gI_if_ne hB 68 dX7_setWhen_59 (by decide) (fun c59_5 => ?_) (fun c59_5 => ?_)
          · skip
            have c59_5 := gbi_n0 c59_5
            refine gI_iload_n hB 1 dX7_setWhen_68 rfl ?_
            refine gI_iload_n hB 2 dX7_setWhen_69 rfl ?_
            refine gI_pureS (n9 := 2) (As := [.int (nI t), .int (nI j)]) (rest := []) hB (c_at X.2.1 h t j) (gCW.of ggX7_setWhen_X7_at rfl ⟨by decide, by decide, by decide +kernel⟩ ⟨Nat.le_of_ble_eq_true rfl, Nat.le_of_ble_eq_true rfl⟩) (Or.inl (by decide +kernel)) (by decide +kernel) (by decide +kernel) rfl rfl (Nat.le_of_ble_eq_true rfl) (by first | exact Nat.le_of_ble_eq_true rfl | (dsimp only [gRm]; omega)) (by first | exact Nat.le_of_ble_eq_true rfl | (dsimp only [gRm]; omega)) dX7_setWhen_70 ?_
            refine gI_istore hB ([(7, .int (nI (9 * (8 * t + j)))), (0, .ref (a 0)), (1, .int (nI t)), (2, .int (nI j)), (3, .int x), (4, .int y), (5, .int z), (6, .int v)]) hnL dX7_setWhen_73 (by decide) rfl ?_
            refine gI_aload_n hB 1 dX7_setWhen_75 rfl ?_
            refine gM_get hB hM 5 (v := .ref (a 2)) (by decide +kernel) (by decide) (by decide +kernel) rfl rfl dX7_setWhen_76 ?_
            refine gI_iload hB 0 dX7_setWhen_79 rfl ?_
            refine gI_iconst (v := nI 2) hB dX7_setWhen_81 (by decide) ?_
            refine gI_iaddN hB dX7_setWhen_82 ?_
            refine gM_ald hB hM 1 (by decide) ((9 * (8 * t + j)) + 2) rfl (show (9 * (8 * t + j)) + 2 < 1152 by omega) dX7_setWhen_83 ?_
            refine gI_istore hB ([(8, .int (u.2 1 ((9 * (8 * t + j)) + 2))), (7, .int (nI (9 * (8 * t + j)))), (0, .ref (a 0)), (1, .int (nI t)), (2, .int (nI j)), (3, .int x), (4, .int y), (5, .int z), (6, .int v)]) hnL dX7_setWhen_84 (by decide) rfl ?_
            refine gI_iconst (v := nI 4) hB dX7_setWhen_86 (by decide) ?_
            refine gM_new hB hM hF 4 rfl (by decide) (by decide +kernel) (by first | exact Nat.le_of_ble_eq_true rfl | (dsimp only [gRm]; omega)) (by first | exact Nat.le_of_ble_eq_true rfl | (dsimp only [gRm]; omega)) dX7_setWhen_87 (fun q6 h hM hF hq6 => ?_)
            refine gI_dup hB dX7_setWhen_89 rfl ?_
            refine gI_iconst (v := nI 0) hB dX7_setWhen_90 (by decide) ?_
            refine gI_iload_n hB 5 dX7_setWhen_91 rfl ?_
            refine gM_tast hB hM hF hq6 (by decide) 0 rfl (by decide) dX7_setWhen_92 (fun h hM hF hq6 => ?_)
            refine gI_dup hB dX7_setWhen_93 rfl ?_
            refine gI_iconst (v := nI 1) hB dX7_setWhen_94 (by decide) ?_
            refine gI_iload hB 6 dX7_setWhen_95 rfl ?_
            refine gM_tast hB hM hF hq6 (by decide) 1 rfl (by decide) dX7_setWhen_97 (fun h hM hF hq6 => ?_)
            refine gI_dup hB dX7_setWhen_98 rfl ?_
            refine gI_iconst (v := nI 2) hB dX7_setWhen_99 (by decide) ?_
            refine gI_iload hB 7 dX7_setWhen_100 rfl ?_
            refine gM_tast hB hM hF hq6 (by decide) 2 rfl (by decide) dX7_setWhen_102 (fun h hM hF hq6 => ?_)
            refine gI_dup hB dX7_setWhen_103 rfl ?_
            refine gI_iconst (v := nI 3) hB dX7_setWhen_104 (by decide) ?_
            refine gI_iload hB 8 dX7_setWhen_105 rfl ?_
            refine gM_tast hB hM hF hq6 (by decide) 3 rfl (by decide) dX7_setWhen_107 (fun h hM hF hq6 => ?_)
            refine gI_astore hB ([(9, .ref q6), (8, .int (u.2 1 ((9 * (8 * t + j)) + 2))), (7, .int (nI (9 * (8 * t + j)))), (0, .ref (a 0)), (1, .int (nI t)), (2, .int (nI j)), (3, .int x), (4, .int y), (5, .int z), (6, .int v)]) hnL dX7_setWhen_108 (by decide) rfl ?_
            refine gI_aload hB 0 dX7_setWhen_110 rfl ?_
            refine gI_iconst (v := nI 0) hB dX7_setWhen_112 (by decide) ?_
            refine gI_aload_n hB 3 dX7_setWhen_113 rfl ?_
            refine gM_get hB hM 5 (v := .ref (a 2)) (by decide +kernel) (by decide) (by decide +kernel) rfl rfl dX7_setWhen_114 ?_
            refine gI_iload hB 2 dX7_setWhen_117 rfl ?_
            refine gI_iconst (v := nI 4) hB dX7_setWhen_119 (by decide) ?_
            refine gM_copyT hB hM hF 1 (by decide) hq6 (by decide) 0 (9 * (8 * t + j)) 4 rfl rfl rfl (by decide +kernel) (by decide +kernel) (by decide +kernel) (by decide +kernel) (show 0 + 4 ≤ 4 by omega) (show (9 * (8 * t + j)) + 4 ≤ 1152 by omega) (Nat.le_of_ble_eq_true rfl) (Nat.le_of_ble_eq_true rfl) dX7_setWhen_120 (fun h hM hF => ?_)
            refine gI_iload hB 1 dX7_setWhen_123 rfl ?_
            refine gI_iret hB hE dX7_setWhen_125 ?_
            refine ⟨_, hM, hF, ?_⟩
            have e9 : mSetWhen u (nI t) (nI j) x y z v = ((sa (sg u 0 (nI 0)) 1 (va_cpy (upd (upd (upd (upd (fun _ => 0) 0 x) 1 y) 2 z) 3 v) (u.2 1) 0 (9 * (8 * t + j)) 4)), (u.2 1 ((9 * (8 * t + j)) + 2))) := by
              unfold mSetWhen; rw [if_pos hh, if_pos ⟨c27_2, c38_3, c48_4, c59_5⟩, mJ_of (by omega) (by omega)]; try rfl
            rw [e9]
            exact ⟨rfl, rfl, by omega, by omega⟩
          · skip
            have c59_5 := gbi_0.mp c59_5
            refine gI_aload_n hB 0 dX7_setWhen_62 rfl ?_
            refine gI_iconst (v := nI 2) hB dX7_setWhen_63 (by decide) ?_
            refine gM_call (n9 := 1) (As := [.int (nI 2)]) (rest := []) hB hM hF (c_fail X.2.1 h a (sg u 0 (nI 0)) hM (nI 2)) (gCW.of ggX7_setWhen_X7_fail rfl ⟨by decide, by decide, by decide +kernel⟩ ⟨Nat.le_of_ble_eq_true rfl, Nat.le_of_ble_eq_true rfl⟩) (by decide +kernel) (by decide +kernel) (by decide +kernel) (by decide +kernel) rfl rfl (Nat.le_of_ble_eq_true rfl) (by first | exact Nat.le_of_ble_eq_true rfl | (dsimp only [gRm]; omega)) (by first | exact Nat.le_of_ble_eq_true rfl | (dsimp only [gRm]; omega)) mSt.no dX7_setWhen_64 (fun v9 h u9 k9 n9 hM hF hp => ?_)
            obtain ⟨e9, rfl, rfl, rfl⟩ := hp
            cases e9
            change gW X h (0) (0) _ _ (.int (nI 0) :: _)
            refine gI_iret hB hE dX7_setWhen_67 ?_
            refine ⟨_, hM, hF, ?_⟩
            have e9 : mSetWhen u (nI t) (nI j) x y z v = ((sg (sg u 0 (nI 0)) 0 (nI 2)), (nI 0)) := by
              unfold mSetWhen; rw [if_pos hh, if_neg (fun z => c59_5 z.2.2.2)]; try rfl
            rw [e9]
            exact ⟨rfl, rfl, by omega, by omega⟩
  · skip
    have c11_1 := gbi_0.mp c11_1
    refine gI_aload_n hB 0 dX7_setWhen_14 rfl ?_
    refine gI_iconst (v := nI 1) hB dX7_setWhen_15 (by decide) ?_
    refine gM_call (n9 := 1) (As := [.int (nI 1)]) (rest := []) hB hM hF (c_fail X.2.1 h a (sg u 0 (nI 0)) hM (nI 1)) (gCW.of ggX7_setWhen_X7_fail rfl ⟨by decide, by decide, by decide +kernel⟩ ⟨Nat.le_of_ble_eq_true rfl, Nat.le_of_ble_eq_true rfl⟩) (by decide +kernel) (by decide +kernel) (by decide +kernel) (by decide +kernel) rfl rfl (Nat.le_of_ble_eq_true rfl) (by first | exact Nat.le_of_ble_eq_true rfl | (dsimp only [gRm]; omega)) (by first | exact Nat.le_of_ble_eq_true rfl | (dsimp only [gRm]; omega)) mSt.no dX7_setWhen_16 (fun v9 h u9 k9 n9 hM hF hp => ?_)
    obtain ⟨e9, rfl, rfl, rfl⟩ := hp
    cases e9
    change gW X h (0) (0) _ _ (.int (nI 0) :: _)
    refine gI_iret hB hE dX7_setWhen_19 ?_
    refine ⟨_, hM, hF, ?_⟩
    have e9 : mSetWhen u p q x y z v = ((sg (sg u 0 (nI 0)) 0 (nI 1)), (nI 0)) := by
      unfold mSetWhen; rw [if_neg c11_1]; try rfl
    rw [e9]
    exact ⟨rfl, rfl, by omega, by omega⟩

set_option maxRecDepth 100000 in
set_option maxHeartbeats 4000000 in
theorem c_setWhat (G : gG) (h : gH) (a : Nat → Nat) (u : MS) (T : Nat) (hM : mRep G h a u) (hw : mW u T) (p q x y z v : Int32) : gMet yX7_setWhat wsX7_setWhat (gRm 4 1 4) G h [.ref (a 0), .int p, .int q, .int x, .int y, .int z, .int v] (mPo G h a (mSp (mSetWhat u p q x y z v) 1 4)) := by
  refine gMet_of (maxL := 10) (ret := (some .int)) (by decide) rfl (Nat.le_of_ble_eq_true rfl) ?_
  intro X hG hnL hB hE
  subst hG
  change gW X h 0 0 0 [(0, .ref (a 0)), (1, .int p), (2, .int q), (3, .int x), (4, .int y), (5, .int z), (6, .int v)] []
  have hF : mFr h h := mFr.rf
  refine gI_aload_n hB 0 dX7_setWhat_0 rfl ?_
  refine gI_iconst (v := nI 0) hB dX7_setWhat_1 (by decide) ?_
  refine gM_put hB hM hF 0 (sg u 0 (nI 0)) (by decide +kernel) (by decide) (by decide +kernel) rfl rfl rfl rfl rfl rfl dX7_setWhat_2 (fun h hM hF => ?_)
  refine gI_aload_n hB 0 dX7_setWhat_5 rfl ?_
  refine gI_iload_n hB 1 dX7_setWhat_6 rfl ?_
  refine gI_iload_n hB 2 dX7_setWhat_7 rfl ?_
  refine gM_pure (n9 := 2) (As := [.int p, .int q]) (rest := []) hB hM (c_isHabit X.2.1 h a (sg u 0 (nI 0)) T hM hw p q) (gCW.of ggX7_setWhat_X7_isHabit rfl ⟨by decide, by decide, by decide +kernel⟩ ⟨Nat.le_of_ble_eq_true rfl, Nat.le_of_ble_eq_true rfl⟩) (by decide +kernel) (by decide +kernel) (by decide +kernel) (by decide +kernel) rfl rfl (Nat.le_of_ble_eq_true rfl) (by first | exact Nat.le_of_ble_eq_true rfl | (dsimp only [gRm]; omega)) (by first | exact Nat.le_of_ble_eq_true rfl | (dsimp only [gRm]; omega)) dX7_setWhat_8 ?_
  refine gI_topi hB (y := gbi (mHab u p q)) rfl ?_
  refine gI_if_eq hB 23 dX7_setWhat_11 (by decide) (fun c11_1 => ?_) (fun c11_1 => ?_)
  · skip
    have c11_1 := gbi_0.mp c11_1
    refine gI_aload_n hB 0 dX7_setWhat_23 rfl ?_
    refine gI_iconst (v := nI 1) hB dX7_setWhat_24 (by decide) ?_
    refine gM_call (n9 := 1) (As := [.int (nI 1)]) (rest := []) hB hM hF (c_fail X.2.1 h a (sg u 0 (nI 0)) hM (nI 1)) (gCW.of ggX7_setWhat_X7_fail rfl ⟨by decide, by decide, by decide +kernel⟩ ⟨Nat.le_of_ble_eq_true rfl, Nat.le_of_ble_eq_true rfl⟩) (by decide +kernel) (by decide +kernel) (by decide +kernel) (by decide +kernel) rfl rfl (Nat.le_of_ble_eq_true rfl) (by first | exact Nat.le_of_ble_eq_true rfl | (dsimp only [gRm]; omega)) (by first | exact Nat.le_of_ble_eq_true rfl | (dsimp only [gRm]; omega)) mSt.no dX7_setWhat_25 (fun v9 h u9 k9 n9 hM hF hp => ?_)
    obtain ⟨e9, rfl, rfl, rfl⟩ := hp
    cases e9
    change gW X h (0) (0) _ _ (.int (nI 0) :: _)
    refine gI_iret hB hE dX7_setWhat_28 ?_
    refine ⟨_, hM, hF, ?_⟩
    have e9 : mSetWhat u p q x y z v = ((sg (sg u 0 (nI 0)) 0 (nI 1)), (nI 0)) := by
      unfold mSetWhat; rw [if_neg (fun z => c11_1 z.1)]; try rfl
    rw [e9]
    exact ⟨rfl, rfl, by omega, by omega⟩
  · skip
    have c11_1 := gbi_n0 c11_1
    have hh := c11_1
    obtain ⟨t, j, m, ht, et, hj, ej, hm8, em⟩ := mHab_of hw c11_1
    subst et ej
    have hT := hw.2.1
    refine gI_aload_n hB 0 dX7_setWhat_14 rfl ?_
    refine gI_iload hB 4 dX7_setWhat_15 rfl ?_
    refine gM_pure (n9 := 1) (As := [.int y]) (rest := []) hB hM (c_isTenant X.2.1 h a (sg u 0 (nI 0)) hM y) (gCW.of ggX7_setWhat_X7_isTenant rfl ⟨by decide, by decide, by decide +kernel⟩ ⟨Nat.le_of_ble_eq_true rfl, Nat.le_of_ble_eq_true rfl⟩) (by decide +kernel) (by decide +kernel) (by decide +kernel) (by decide +kernel) rfl rfl (Nat.le_of_ble_eq_true rfl) (by first | exact Nat.le_of_ble_eq_true rfl | (dsimp only [gRm]; omega)) (by first | exact Nat.le_of_ble_eq_true rfl | (dsimp only [gRm]; omega)) dX7_setWhat_17 ?_
    refine gI_topi hB (y := gbi (mTen u y)) rfl ?_
    refine gI_if_ne hB 29 dX7_setWhat_20 (by decide) (fun c20_2 => ?_) (fun c20_2 => ?_)
    · skip
      have c20_2 := gbi_n0 c20_2
      refine gI_iload_n hB 3 dX7_setWhat_29 rfl ?_
      refine gI_iconst (v := nI 0) hB dX7_setWhat_30 (by decide) ?_
      refine gI_iconst (v := nI 5) hB dX7_setWhat_31 (by decide) ?_
      refine gI_pureS (n9 := 3) (As := [.int x, .int (nI 0), .int (nI 5)]) (rest := []) hB (c_isIn X.2.1 h x (nI 0) (nI 5)) (gCW.of ggX7_setWhat_X7_isIn rfl ⟨by decide, by decide, by decide +kernel⟩ ⟨Nat.le_of_ble_eq_true rfl, Nat.le_of_ble_eq_true rfl⟩) (Or.inl (by decide +kernel)) (by decide +kernel) (by decide +kernel) rfl rfl (Nat.le_of_ble_eq_true rfl) (by first | exact Nat.le_of_ble_eq_true rfl | (dsimp only [gRm]; omega)) (by first | exact Nat.le_of_ble_eq_true rfl | (dsimp only [gRm]; omega)) dX7_setWhat_32 ?_
      refine gI_if_eq hB 61 dX7_setWhat_35 (by decide) (fun c35_3 => ?_) (fun c35_3 => ?_)
      · skip
        have c35_3 := gbi_0.mp c35_3
        refine gI_aload_n hB 0 dX7_setWhat_61 rfl ?_
        refine gI_iconst (v := nI 2) hB dX7_setWhat_62 (by decide) ?_
        refine gM_call (n9 := 1) (As := [.int (nI 2)]) (rest := []) hB hM hF (c_fail X.2.1 h a (sg u 0 (nI 0)) hM (nI 2)) (gCW.of ggX7_setWhat_X7_fail rfl ⟨by decide, by decide, by decide +kernel⟩ ⟨Nat.le_of_ble_eq_true rfl, Nat.le_of_ble_eq_true rfl⟩) (by decide +kernel) (by decide +kernel) (by decide +kernel) (by decide +kernel) rfl rfl (Nat.le_of_ble_eq_true rfl) (by first | exact Nat.le_of_ble_eq_true rfl | (dsimp only [gRm]; omega)) (by first | exact Nat.le_of_ble_eq_true rfl | (dsimp only [gRm]; omega)) mSt.no dX7_setWhat_63 (fun v9 h u9 k9 n9 hM hF hp => ?_)
        obtain ⟨e9, rfl, rfl, rfl⟩ := hp
        cases e9
        change gW X h (0) (0) _ _ (.int (nI 0) :: _)
        refine gI_iret hB hE dX7_setWhat_66 ?_
        refine ⟨_, hM, hF, ?_⟩
        have e9 : mSetWhat u (nI t) (nI j) x y z v = ((sg (sg u 0 (nI 0)) 0 (nI 2)), (nI 0)) := by
          unfold mSetWhat; rw [if_pos ⟨hh, c20_2⟩, if_neg (fun z => c35_3 z.1)]; try rfl
        rw [e9]
        exact ⟨rfl, rfl, by omega, by omega⟩
      · skip
        have c35_3 := gbi_n0 c35_3
        refine gI_iload hB 5 dX7_setWhat_38 rfl ?_
        refine gI_iconst (v := nI 1) hB dX7_setWhat_40 (by decide) ?_
        refine gI_bipush (v := nI 99) hB dX7_setWhat_41 (by decide) ?_
        refine gI_pureS (n9 := 3) (As := [.int z, .int (nI 1), .int (nI 99)]) (rest := []) hB (c_isIn X.2.1 h z (nI 1) (nI 99)) (gCW.of ggX7_setWhat_X7_isIn rfl ⟨by decide, by decide, by decide +kernel⟩ ⟨Nat.le_of_ble_eq_true rfl, Nat.le_of_ble_eq_true rfl⟩) (Or.inl (by decide +kernel)) (by decide +kernel) (by decide +kernel) rfl rfl (Nat.le_of_ble_eq_true rfl) (by first | exact Nat.le_of_ble_eq_true rfl | (dsimp only [gRm]; omega)) (by first | exact Nat.le_of_ble_eq_true rfl | (dsimp only [gRm]; omega)) dX7_setWhat_43 ?_
        refine gI_if_eq hB 61 dX7_setWhat_46 (by decide) (fun c46_4 => ?_) (fun c46_4 => ?_)
        · skip
          have c46_4 := gbi_0.mp c46_4
          refine gI_aload_n hB 0 dX7_setWhat_61 rfl ?_
          refine gI_iconst (v := nI 2) hB dX7_setWhat_62 (by decide) ?_
          refine gM_call (n9 := 1) (As := [.int (nI 2)]) (rest := []) hB hM hF (c_fail X.2.1 h a (sg u 0 (nI 0)) hM (nI 2)) (gCW.of ggX7_setWhat_X7_fail rfl ⟨by decide, by decide, by decide +kernel⟩ ⟨Nat.le_of_ble_eq_true rfl, Nat.le_of_ble_eq_true rfl⟩) (by decide +kernel) (by decide +kernel) (by decide +kernel) (by decide +kernel) rfl rfl (Nat.le_of_ble_eq_true rfl) (by first | exact Nat.le_of_ble_eq_true rfl | (dsimp only [gRm]; omega)) (by first | exact Nat.le_of_ble_eq_true rfl | (dsimp only [gRm]; omega)) mSt.no dX7_setWhat_63 (fun v9 h u9 k9 n9 hM hF hp => ?_)
          obtain ⟨e9, rfl, rfl, rfl⟩ := hp
          cases e9
          change gW X h (0) (0) _ _ (.int (nI 0) :: _)
          refine gI_iret hB hE dX7_setWhat_66 ?_
          refine ⟨_, hM, hF, ?_⟩
          have e9 : mSetWhat u (nI t) (nI j) x y z v = ((sg (sg u 0 (nI 0)) 0 (nI 2)), (nI 0)) := by
            unfold mSetWhat; rw [if_pos ⟨hh, c20_2⟩, if_neg (fun z => c46_4 z.2.1)]; try rfl
          rw [e9]
          exact ⟨rfl, rfl, by omega, by omega⟩
        · skip
          have c46_4 := gbi_n0 c46_4
          refine gI_iload hB 6 dX7_setWhat_49 rfl ?_
          refine gI_bipush (v := (-12)) hB dX7_setWhat_51 (by decide) ?_
          refine gI_bipush (v := nI 12) hB dX7_setWhat_53 (by decide) ?_
          refine gI_pureS (n9 := 3) (As := [.int v, .int (-12), .int (nI 12)]) (rest := []) hB (c_isIn X.2.1 h v (-12) (nI 12)) (gCW.of ggX7_setWhat_X7_isIn rfl ⟨by decide, by decide, by decide +kernel⟩ ⟨Nat.le_of_ble_eq_true rfl, Nat.le_of_ble_eq_true rfl⟩) (Or.inl (by decide +kernel)) (by decide +kernel) (by decide +kernel) rfl rfl (Nat.le_of_ble_eq_true rfl) (by first | exact Nat.le_of_ble_eq_true rfl | (dsimp only [gRm]; omega)) (by first | exact Nat.le_of_ble_eq_true rfl | (dsimp only [gRm]; omega)) dX7_setWhat_55 ?_
          refine gI_if_ne hB 67 dX7_setWhat_58 (by decide) (fun c58_5 => ?_) (fun c58_5 => ?_)
          · skip
            have c58_5 := gbi_n0 c58_5
            refine gI_iload_n hB 1 dX7_setWhat_67 rfl ?_
            refine gI_iload_n hB 2 dX7_setWhat_68 rfl ?_
            refine gI_pureS (n9 := 2) (As := [.int (nI t), .int (nI j)]) (rest := []) hB (c_at X.2.1 h t j) (gCW.of ggX7_setWhat_X7_at rfl ⟨by decide, by decide, by decide +kernel⟩ ⟨Nat.le_of_ble_eq_true rfl, Nat.le_of_ble_eq_true rfl⟩) (Or.inl (by decide +kernel)) (by decide +kernel) (by decide +kernel) rfl rfl (Nat.le_of_ble_eq_true rfl) (by first | exact Nat.le_of_ble_eq_true rfl | (dsimp only [gRm]; omega)) (by first | exact Nat.le_of_ble_eq_true rfl | (dsimp only [gRm]; omega)) dX7_setWhat_69 ?_
            refine gI_iconst (v := nI 4) hB dX7_setWhat_72 (by decide) ?_
            refine gI_iaddN hB dX7_setWhat_73 ?_
            refine gI_istore hB ([(7, .int (nI ((9 * (8 * t + j)) + 4))), (0, .ref (a 0)), (1, .int (nI t)), (2, .int (nI j)), (3, .int x), (4, .int y), (5, .int z), (6, .int v)]) hnL dX7_setWhat_74 (by decide) rfl ?_
            refine gI_aload_n hB 1 dX7_setWhat_76 rfl ?_
            refine gM_get hB hM 5 (v := .ref (a 2)) (by decide +kernel) (by decide) (by decide +kernel) rfl rfl dX7_setWhat_77 ?_
            refine gI_iload hB 0 dX7_setWhat_80 rfl ?_
            refine gM_ald hB hM 1 (by decide) ((9 * (8 * t + j)) + 4) rfl (show (9 * (8 * t + j)) + 4 < 1152 by omega) dX7_setWhat_82 ?_
            refine gI_istore hB ([(8, .int (u.2 1 ((9 * (8 * t + j)) + 4))), (7, .int (nI ((9 * (8 * t + j)) + 4))), (0, .ref (a 0)), (1, .int (nI t)), (2, .int (nI j)), (3, .int x), (4, .int y), (5, .int z), (6, .int v)]) hnL dX7_setWhat_83 (by decide) rfl ?_
            refine gI_iconst (v := nI 4) hB dX7_setWhat_85 (by decide) ?_
            refine gM_new hB hM hF 4 rfl (by decide) (by decide +kernel) (by first | exact Nat.le_of_ble_eq_true rfl | (dsimp only [gRm]; omega)) (by first | exact Nat.le_of_ble_eq_true rfl | (dsimp only [gRm]; omega)) dX7_setWhat_86 (fun q6 h hM hF hq6 => ?_)
            refine gI_dup hB dX7_setWhat_88 rfl ?_
            refine gI_iconst (v := nI 0) hB dX7_setWhat_89 (by decide) ?_
            refine gI_iload_n hB 5 dX7_setWhat_90 rfl ?_
            refine gM_tast hB hM hF hq6 (by decide) 0 rfl (by decide) dX7_setWhat_91 (fun h hM hF hq6 => ?_)
            refine gI_dup hB dX7_setWhat_92 rfl ?_
            refine gI_iconst (v := nI 1) hB dX7_setWhat_93 (by decide) ?_
            refine gI_iload hB 6 dX7_setWhat_94 rfl ?_
            refine gM_tast hB hM hF hq6 (by decide) 1 rfl (by decide) dX7_setWhat_96 (fun h hM hF hq6 => ?_)
            refine gI_dup hB dX7_setWhat_97 rfl ?_
            refine gI_iconst (v := nI 2) hB dX7_setWhat_98 (by decide) ?_
            refine gI_iload hB 7 dX7_setWhat_99 rfl ?_
            refine gM_tast hB hM hF hq6 (by decide) 2 rfl (by decide) dX7_setWhat_101 (fun h hM hF hq6 => ?_)
            refine gI_dup hB dX7_setWhat_102 rfl ?_
            refine gI_iconst (v := nI 3) hB dX7_setWhat_103 (by decide) ?_
            refine gI_iload hB 8 dX7_setWhat_104 rfl ?_
            refine gM_tast hB hM hF hq6 (by decide) 3 rfl (by decide) dX7_setWhat_106 (fun h hM hF hq6 => ?_)
            refine gI_astore hB ([(9, .ref q6), (8, .int (u.2 1 ((9 * (8 * t + j)) + 4))), (7, .int (nI ((9 * (8 * t + j)) + 4))), (0, .ref (a 0)), (1, .int (nI t)), (2, .int (nI j)), (3, .int x), (4, .int y), (5, .int z), (6, .int v)]) hnL dX7_setWhat_107 (by decide) rfl ?_
            refine gI_aload hB 0 dX7_setWhat_109 rfl ?_
            refine gI_iconst (v := nI 0) hB dX7_setWhat_111 (by decide) ?_
            refine gI_aload_n hB 3 dX7_setWhat_112 rfl ?_
            refine gM_get hB hM 5 (v := .ref (a 2)) (by decide +kernel) (by decide) (by decide +kernel) rfl rfl dX7_setWhat_113 ?_
            refine gI_iload hB 2 dX7_setWhat_116 rfl ?_
            refine gI_iconst (v := nI 4) hB dX7_setWhat_118 (by decide) ?_
            refine gM_copyT hB hM hF 1 (by decide) hq6 (by decide) 0 ((9 * (8 * t + j)) + 4) 4 rfl rfl rfl (by decide +kernel) (by decide +kernel) (by decide +kernel) (by decide +kernel) (show 0 + 4 ≤ 4 by omega) (show ((9 * (8 * t + j)) + 4) + 4 ≤ 1152 by omega) (Nat.le_of_ble_eq_true rfl) (Nat.le_of_ble_eq_true rfl) dX7_setWhat_119 (fun h hM hF => ?_)
            refine gI_iload hB 1 dX7_setWhat_122 rfl ?_
            refine gI_iret hB hE dX7_setWhat_124 ?_
            refine ⟨_, hM, hF, ?_⟩
            have e9 : mSetWhat u (nI t) (nI j) x y z v = ((sa (sg u 0 (nI 0)) 1 (va_cpy (upd (upd (upd (upd (fun _ => 0) 0 x) 1 y) 2 z) 3 v) (u.2 1) 0 ((9 * (8 * t + j)) + 4) 4)), (u.2 1 ((9 * (8 * t + j)) + 4))) := by
              unfold mSetWhat; rw [if_pos ⟨hh, c20_2⟩, if_pos ⟨c35_3, c46_4, c58_5⟩, mJ_of (by omega) (by omega)]; try rfl
            rw [e9]
            exact ⟨rfl, rfl, by omega, by omega⟩
          · skip
            have c58_5 := gbi_0.mp c58_5
            refine gI_aload_n hB 0 dX7_setWhat_61 rfl ?_
            refine gI_iconst (v := nI 2) hB dX7_setWhat_62 (by decide) ?_
            refine gM_call (n9 := 1) (As := [.int (nI 2)]) (rest := []) hB hM hF (c_fail X.2.1 h a (sg u 0 (nI 0)) hM (nI 2)) (gCW.of ggX7_setWhat_X7_fail rfl ⟨by decide, by decide, by decide +kernel⟩ ⟨Nat.le_of_ble_eq_true rfl, Nat.le_of_ble_eq_true rfl⟩) (by decide +kernel) (by decide +kernel) (by decide +kernel) (by decide +kernel) rfl rfl (Nat.le_of_ble_eq_true rfl) (by first | exact Nat.le_of_ble_eq_true rfl | (dsimp only [gRm]; omega)) (by first | exact Nat.le_of_ble_eq_true rfl | (dsimp only [gRm]; omega)) mSt.no dX7_setWhat_63 (fun v9 h u9 k9 n9 hM hF hp => ?_)
            obtain ⟨e9, rfl, rfl, rfl⟩ := hp
            cases e9
            change gW X h (0) (0) _ _ (.int (nI 0) :: _)
            refine gI_iret hB hE dX7_setWhat_66 ?_
            refine ⟨_, hM, hF, ?_⟩
            have e9 : mSetWhat u (nI t) (nI j) x y z v = ((sg (sg u 0 (nI 0)) 0 (nI 2)), (nI 0)) := by
              unfold mSetWhat; rw [if_pos ⟨hh, c20_2⟩, if_neg (fun z => c58_5 z.2.2)]; try rfl
            rw [e9]
            exact ⟨rfl, rfl, by omega, by omega⟩
    · skip
      have c20_2 := gbi_0.mp c20_2
      refine gI_aload_n hB 0 dX7_setWhat_23 rfl ?_
      refine gI_iconst (v := nI 1) hB dX7_setWhat_24 (by decide) ?_
      refine gM_call (n9 := 1) (As := [.int (nI 1)]) (rest := []) hB hM hF (c_fail X.2.1 h a (sg u 0 (nI 0)) hM (nI 1)) (gCW.of ggX7_setWhat_X7_fail rfl ⟨by decide, by decide, by decide +kernel⟩ ⟨Nat.le_of_ble_eq_true rfl, Nat.le_of_ble_eq_true rfl⟩) (by decide +kernel) (by decide +kernel) (by decide +kernel) (by decide +kernel) rfl rfl (Nat.le_of_ble_eq_true rfl) (by first | exact Nat.le_of_ble_eq_true rfl | (dsimp only [gRm]; omega)) (by first | exact Nat.le_of_ble_eq_true rfl | (dsimp only [gRm]; omega)) mSt.no dX7_setWhat_25 (fun v9 h u9 k9 n9 hM hF hp => ?_)
      obtain ⟨e9, rfl, rfl, rfl⟩ := hp
      cases e9
      change gW X h (0) (0) _ _ (.int (nI 0) :: _)
      refine gI_iret hB hE dX7_setWhat_28 ?_
      refine ⟨_, hM, hF, ?_⟩
      have e9 : mSetWhat u (nI t) (nI j) x y z v = ((sg (sg u 0 (nI 0)) 0 (nI 1)), (nI 0)) := by
        unfold mSetWhat; rw [if_neg (fun z => c20_2 z.2)]; try rfl
      rw [e9]
      exact ⟨rfl, rfl, by omega, by omega⟩

set_option maxRecDepth 100000 in
set_option maxHeartbeats 4000000 in
theorem c_dropHabit (G : gG) (h : gH) (a : Nat → Nat) (u : MS) (T : Nat) (hM : mRep G h a u) (hw : mW u T) (p q : Int32) : gMet yX7_dropHabit wsX7_dropHabit (gRm 4 0 0) G h [.ref (a 0), .int p, .int q] (mPo G h a (mSp (mDrop u p q) 0 0)) := by
  refine gMet_of (maxL := 4) (ret := (some .int)) (by decide) rfl (Nat.le_of_ble_eq_true rfl) ?_
  intro X hG hnL hB hE
  subst hG
  change gW X h 0 0 0 [(0, .ref (a 0)), (1, .int p), (2, .int q)] []
  have hF : mFr h h := mFr.rf
  refine gI_aload_n hB 0 dX7_dropHabit_0 rfl ?_
  refine gI_iconst (v := nI 0) hB dX7_dropHabit_1 (by decide) ?_
  refine gM_put hB hM hF 0 (sg u 0 (nI 0)) (by decide +kernel) (by decide) (by decide +kernel) rfl rfl rfl rfl rfl rfl dX7_dropHabit_2 (fun h hM hF => ?_)
  refine gI_aload_n hB 0 dX7_dropHabit_5 rfl ?_
  refine gI_iload_n hB 1 dX7_dropHabit_6 rfl ?_
  refine gI_iload_n hB 2 dX7_dropHabit_7 rfl ?_
  refine gM_pure (n9 := 2) (As := [.int p, .int q]) (rest := []) hB hM (c_isHabit X.2.1 h a (sg u 0 (nI 0)) T hM hw p q) (gCW.of ggX7_dropHabit_X7_isHabit rfl ⟨by decide, by decide, by decide +kernel⟩ ⟨Nat.le_of_ble_eq_true rfl, Nat.le_of_ble_eq_true rfl⟩) (by decide +kernel) (by decide +kernel) (by decide +kernel) (by decide +kernel) rfl rfl (Nat.le_of_ble_eq_true rfl) (by first | exact Nat.le_of_ble_eq_true rfl | (dsimp only [gRm]; omega)) (by first | exact Nat.le_of_ble_eq_true rfl | (dsimp only [gRm]; omega)) dX7_dropHabit_8 ?_
  refine gI_topi hB (y := gbi (mHab u p q)) rfl ?_
  refine gI_if_ne hB 20 dX7_dropHabit_11 (by decide) (fun c11_1 => ?_) (fun c11_1 => ?_)
  · skip
    have c11_1 := gbi_n0 c11_1
    have hh := c11_1
    obtain ⟨t, j, m, ht, et, hj, ej, hm8, em⟩ := mHab_of hw c11_1
    subst et ej
    have hT := hw.2.1
    refine gI_aload_n hB 0 dX7_dropHabit_20 rfl ?_
    refine gI_iload_n hB 1 dX7_dropHabit_21 rfl ?_
    refine gI_iconst (v := nI 3) hB dX7_dropHabit_22 (by decide) ?_
    refine gM_pure (n9 := 2) (As := [.int (nI t), .int (nI 3)]) (rest := []) hB hM (c_get X.2.1 h a (sg u 0 (nI 0)) hM t 3 (by omega) (by omega)) (gCW.of ggX7_dropHabit_X7_get rfl ⟨by decide, by decide, by decide +kernel⟩ ⟨Nat.le_of_ble_eq_true rfl, Nat.le_of_ble_eq_true rfl⟩) (by decide +kernel) (by decide +kernel) (by decide +kernel) (by decide +kernel) rfl rfl (Nat.le_of_ble_eq_true rfl) (by first | exact Nat.le_of_ble_eq_true rfl | (dsimp only [gRm]; omega)) (by first | exact Nat.le_of_ble_eq_true rfl | (dsimp only [gRm]; omega)) dX7_dropHabit_23 ?_
    refine gI_topi hB (y := nI m) em ?_
    refine gI_iconst (v := nI 1) hB dX7_dropHabit_26 (by decide) ?_
    refine gI_isubN hB (by omega) dX7_dropHabit_27 ?_
    refine gI_istore_n hB ([(3, .int (nI (m - 1))), (0, .ref (a 0)), (1, .int (nI t)), (2, .int (nI j))]) hnL dX7_dropHabit_28 (by decide) rfl ?_
    refine gI_aload_n hB 1 dX7_dropHabit_29 rfl ?_
    refine gM_get hB hM 5 (v := .ref (a 2)) (by decide +kernel) (by decide) (by decide +kernel) rfl rfl dX7_dropHabit_30 ?_
    refine gI_iload_n hB 2 dX7_dropHabit_33 rfl ?_
    refine gI_iload_n hB 3 dX7_dropHabit_34 rfl ?_
    refine gI_iconst (v := nI 1) hB dX7_dropHabit_35 (by decide) ?_
    refine gI_iaddN hB dX7_dropHabit_36 ?_
    refine gI_pureS (n9 := 2) (As := [.int (nI t), .int (nI (j + 1))]) (rest := [.ref (a 2)]) hB (c_at X.2.1 h t (j + 1)) (gCW.of ggX7_dropHabit_X7_at rfl ⟨by decide, by decide, by decide +kernel⟩ ⟨Nat.le_of_ble_eq_true rfl, Nat.le_of_ble_eq_true rfl⟩) (Or.inl (by decide +kernel)) (by decide +kernel) (by decide +kernel) rfl rfl (Nat.le_of_ble_eq_true rfl) (by first | exact Nat.le_of_ble_eq_true rfl | (dsimp only [gRm]; omega)) (by first | exact Nat.le_of_ble_eq_true rfl | (dsimp only [gRm]; omega)) dX7_dropHabit_37 ?_
    refine gI_aload_n hB 1 dX7_dropHabit_40 rfl ?_
    refine gM_get hB hM 5 (v := .ref (a 2)) (by decide +kernel) (by decide) (by decide +kernel) rfl rfl dX7_dropHabit_41 ?_
    refine gI_iload_n hB 2 dX7_dropHabit_44 rfl ?_
    refine gI_iload_n hB 3 dX7_dropHabit_45 rfl ?_
    refine gI_pureS (n9 := 2) (As := [.int (nI t), .int (nI j)]) (rest := [.ref (a 2), .int (nI (9 * (8 * t + (j + 1)))), .ref (a 2)]) hB (c_at X.2.1 h t j) (gCW.of ggX7_dropHabit_X7_at rfl ⟨by decide, by decide, by decide +kernel⟩ ⟨Nat.le_of_ble_eq_true rfl, Nat.le_of_ble_eq_true rfl⟩) (Or.inl (by decide +kernel)) (by decide +kernel) (by decide +kernel) rfl rfl (Nat.le_of_ble_eq_true rfl) (by first | exact Nat.le_of_ble_eq_true rfl | (dsimp only [gRm]; omega)) (by first | exact Nat.le_of_ble_eq_true rfl | (dsimp only [gRm]; omega)) dX7_dropHabit_46 ?_
    refine gI_bipush (v := nI 9) hB dX7_dropHabit_49 (by decide) ?_
    refine gI_iload_n hB 0 dX7_dropHabit_51 rfl ?_
    refine gI_iload_n hB 3 dX7_dropHabit_52 rfl ?_
    refine gI_isubN hB (by omega) dX7_dropHabit_53 ?_
    refine gI_imulN hB dX7_dropHabit_54 ?_
    refine gM_copyA hB hM hF 1 1 (by decide) (by decide) (9 * (8 * t + (j + 1))) (9 * (8 * t + j)) (9 * ((m - 1) - j)) rfl rfl rfl (by decide +kernel) (by decide +kernel) (by decide +kernel) (by decide +kernel) (show (9 * (8 * t + (j + 1))) + (9 * ((m - 1) - j)) ≤ 1152 by omega) (show (9 * (8 * t + j)) + (9 * ((m - 1) - j)) ≤ 1152 by omega) (Nat.le_of_ble_eq_true rfl) (Nat.le_of_ble_eq_true rfl) dX7_dropHabit_55 (fun h hM hF => ?_)
    refine gI_aload_n hB 1 dX7_dropHabit_58 rfl ?_
    refine gI_iload_n hB 2 dX7_dropHabit_59 rfl ?_
    refine gI_iconst (v := nI 3) hB dX7_dropHabit_60 (by decide) ?_
    refine gI_iload_n hB 0 dX7_dropHabit_61 rfl ?_
    refine gM_call (n9 := 3) (As := [.int (nI t), .int (nI 3), .int (nI (m - 1))]) (rest := []) hB hM hF (c_set X.2.1 h a (sa (sg u 0 (nI 0)) 1 (va_cpy (u.2 1) (u.2 1) (9 * (8 * t + (j + 1))) (9 * (8 * t + j)) (9 * ((m - 1) - j)))) hM t 3 (nI (m - 1)) (by omega) (by omega)) (gCW.of ggX7_dropHabit_X7_set rfl ⟨by decide, by decide, by decide +kernel⟩ ⟨Nat.le_of_ble_eq_true rfl, Nat.le_of_ble_eq_true rfl⟩) (by decide +kernel) (by decide +kernel) (by decide +kernel) (by decide +kernel) rfl rfl (Nat.le_of_ble_eq_true rfl) (by first | exact Nat.le_of_ble_eq_true rfl | (dsimp only [gRm]; omega)) (by first | exact Nat.le_of_ble_eq_true rfl | (dsimp only [gRm]; omega)) mSt.no dX7_dropHabit_62 (fun v9 h u9 k9 n9 hM hF hp => ?_)
    obtain ⟨e9, rfl, rfl, rfl⟩ := hp
    cases e9
    change gW X h (0) (0) _ [(3, .int (nI (m - 1))), (0, .ref (a 0)), (1, .int (nI t)), (2, .int (nI j))] []
    refine gI_iload_n hB 0 dX7_dropHabit_65 rfl ?_
    refine gI_iret hB hE dX7_dropHabit_66 ?_
    refine ⟨_, hM, hF, ?_⟩
    have e9 : mDrop u (nI t) (nI j) = ((sa (sa (sg u 0 (nI 0)) 1 (va_cpy (u.2 1) (u.2 1) (9 * (8 * t + (j + 1))) (9 * (8 * t + j)) (9 * ((m - 1) - j)))) 0 (upd (u.2 0) (7 * t + 3) (nI (m - 1)))), (nI (m - 1))) := by
      unfold mDrop; rw [if_pos hh, mJ_of (by omega) (by omega), mCl (by omega), mCl (by omega), mMany_of hm8 em]; try rfl
    rw [e9]
    exact ⟨rfl, rfl, by omega, by omega⟩
  · skip
    have c11_1 := gbi_0.mp c11_1
    refine gI_aload_n hB 0 dX7_dropHabit_14 rfl ?_
    refine gI_iconst (v := nI 1) hB dX7_dropHabit_15 (by decide) ?_
    refine gM_call (n9 := 1) (As := [.int (nI 1)]) (rest := []) hB hM hF (c_fail X.2.1 h a (sg u 0 (nI 0)) hM (nI 1)) (gCW.of ggX7_dropHabit_X7_fail rfl ⟨by decide, by decide, by decide +kernel⟩ ⟨Nat.le_of_ble_eq_true rfl, Nat.le_of_ble_eq_true rfl⟩) (by decide +kernel) (by decide +kernel) (by decide +kernel) (by decide +kernel) rfl rfl (Nat.le_of_ble_eq_true rfl) (by first | exact Nat.le_of_ble_eq_true rfl | (dsimp only [gRm]; omega)) (by first | exact Nat.le_of_ble_eq_true rfl | (dsimp only [gRm]; omega)) mSt.no dX7_dropHabit_16 (fun v9 h u9 k9 n9 hM hF hp => ?_)
    obtain ⟨e9, rfl, rfl, rfl⟩ := hp
    cases e9
    change gW X h (0) (0) _ _ (.int (nI 0) :: _)
    refine gI_iret hB hE dX7_dropHabit_19 ?_
    refine ⟨_, hM, hF, ?_⟩
    have e9 : mDrop u p q = ((sg (sg u 0 (nI 0)) 0 (nI 1)), (nI 0)) := by
      unfold mDrop; rw [if_neg c11_1]; try rfl
    rw [e9]
    exact ⟨rfl, rfl, by omega, by omega⟩

set_option maxRecDepth 100000 in
set_option maxHeartbeats 4000000 in
theorem c_tenant (G : gG) (h : gH) (a : Nat → Nat) (u : MS) (T : Nat) (hM : mRep G h a u) (hw : mW u T) (p w : Int32) : gMet yX7_tenant wsX7_tenant (gRm 3 0 0) G h [.ref (a 0), .int p, .int w] (mPo G h a (mSp (mTenant u p w) 0 0)) := by
  refine gMet_of (maxL := 3) (ret := (some .int)) (by decide) rfl (Nat.le_of_ble_eq_true rfl) ?_
  intro X hG hnL hB hE
  subst hG
  change gW X h 0 0 0 [(0, .ref (a 0)), (1, .int p), (2, .int w)] []
  have hF : mFr h h := mFr.rf
  refine gI_aload_n hB 0 dX7_tenant_0 rfl ?_
  refine gI_iconst (v := nI 0) hB dX7_tenant_1 (by decide) ?_
  refine gM_put hB hM hF 0 (sg u 0 (nI 0)) (by decide +kernel) (by decide) (by decide +kernel) rfl rfl rfl rfl rfl rfl dX7_tenant_2 (fun h hM hF => ?_)
  refine gI_aload_n hB 0 dX7_tenant_5 rfl ?_
  refine gI_iload_n hB 1 dX7_tenant_6 rfl ?_
  refine gM_pure (n9 := 1) (As := [.int p]) (rest := []) hB hM (c_isTenant X.2.1 h a (sg u 0 (nI 0)) hM p) (gCW.of ggX7_tenant_X7_isTenant rfl ⟨by decide, by decide, by decide +kernel⟩ ⟨Nat.le_of_ble_eq_true rfl, Nat.le_of_ble_eq_true rfl⟩) (by decide +kernel) (by decide +kernel) (by decide +kernel) (by decide +kernel) rfl rfl (Nat.le_of_ble_eq_true rfl) (by first | exact Nat.le_of_ble_eq_true rfl | (dsimp only [gRm]; omega)) (by first | exact Nat.le_of_ble_eq_true rfl | (dsimp only [gRm]; omega)) dX7_tenant_7 ?_
  refine gI_topi hB (y := gbi (mTen u p)) rfl ?_
  refine gI_if_eq hB 31 dX7_tenant_10 (by decide) (fun c10_1 => ?_) (fun c10_1 => ?_)
  · skip
    have c10_1 := gbi_0.mp c10_1
    refine gI_aload_n hB 0 dX7_tenant_31 rfl ?_
    refine gI_iconst (v := nI 1) hB dX7_tenant_32 (by decide) ?_
    refine gM_call (n9 := 1) (As := [.int (nI 1)]) (rest := []) hB hM hF (c_fail X.2.1 h a (sg u 0 (nI 0)) hM (nI 1)) (gCW.of ggX7_tenant_X7_fail rfl ⟨by decide, by decide, by decide +kernel⟩ ⟨Nat.le_of_ble_eq_true rfl, Nat.le_of_ble_eq_true rfl⟩) (by decide +kernel) (by decide +kernel) (by decide +kernel) (by decide +kernel) rfl rfl (Nat.le_of_ble_eq_true rfl) (by first | exact Nat.le_of_ble_eq_true rfl | (dsimp only [gRm]; omega)) (by first | exact Nat.le_of_ble_eq_true rfl | (dsimp only [gRm]; omega)) mSt.no dX7_tenant_33 (fun v9 h u9 k9 n9 hM hF hp => ?_)
    obtain ⟨e9, rfl, rfl, rfl⟩ := hp
    cases e9
    change gW X h (0) (0) _ _ (.int (nI 0) :: _)
    refine gI_iret hB hE dX7_tenant_36 ?_
    refine ⟨_, hM, hF, ?_⟩
    have e9 : mTenant u p w = ((sg (sg u 0 (nI 0)) 0 (nI 1)), (nI 0)) := by
      unfold mTenant; rw [if_neg (fun z => c10_1 z.1)]; try rfl
    rw [e9]
    exact ⟨rfl, rfl, by omega, by omega⟩
  · skip
    have c10_1 := gbi_n0 c10_1
    obtain ⟨t, ht, et⟩ := mTen_of hw c10_1
    subst et
    have hT := hw.2.1
    obtain ⟨m, hm8, em⟩ := hw.2.2 t ht
    refine gI_iload_n hB 2 dX7_tenant_13 rfl ?_
    refine gI_iconst (v := nI 0) hB dX7_tenant_14 (by decide) ?_
    refine gI_iconst (v := nI 5) hB dX7_tenant_15 (by decide) ?_
    refine gI_pureS (n9 := 3) (As := [.int w, .int (nI 0), .int (nI 5)]) (rest := []) hB (c_isIn X.2.1 h w (nI 0) (nI 5)) (gCW.of ggX7_tenant_X7_isIn rfl ⟨by decide, by decide, by decide +kernel⟩ ⟨Nat.le_of_ble_eq_true rfl, Nat.le_of_ble_eq_true rfl⟩) (Or.inl (by decide +kernel)) (by decide +kernel) (by decide +kernel) rfl rfl (Nat.le_of_ble_eq_true rfl) (by first | exact Nat.le_of_ble_eq_true rfl | (dsimp only [gRm]; omega)) (by first | exact Nat.le_of_ble_eq_true rfl | (dsimp only [gRm]; omega)) dX7_tenant_16 ?_
    refine gI_if_eq hB 31 dX7_tenant_19 (by decide) (fun c19_2 => ?_) (fun c19_2 => ?_)
    · skip
      have c19_2 := gbi_0.mp c19_2
      refine gI_aload_n hB 0 dX7_tenant_31 rfl ?_
      refine gI_iconst (v := nI 1) hB dX7_tenant_32 (by decide) ?_
      refine gM_call (n9 := 1) (As := [.int (nI 1)]) (rest := []) hB hM hF (c_fail X.2.1 h a (sg u 0 (nI 0)) hM (nI 1)) (gCW.of ggX7_tenant_X7_fail rfl ⟨by decide, by decide, by decide +kernel⟩ ⟨Nat.le_of_ble_eq_true rfl, Nat.le_of_ble_eq_true rfl⟩) (by decide +kernel) (by decide +kernel) (by decide +kernel) (by decide +kernel) rfl rfl (Nat.le_of_ble_eq_true rfl) (by first | exact Nat.le_of_ble_eq_true rfl | (dsimp only [gRm]; omega)) (by first | exact Nat.le_of_ble_eq_true rfl | (dsimp only [gRm]; omega)) mSt.no dX7_tenant_33 (fun v9 h u9 k9 n9 hM hF hp => ?_)
      obtain ⟨e9, rfl, rfl, rfl⟩ := hp
      cases e9
      change gW X h (0) (0) _ _ (.int (nI 0) :: _)
      refine gI_iret hB hE dX7_tenant_36 ?_
      refine ⟨_, hM, hF, ?_⟩
      have e9 : mTenant u (nI t) w = ((sg (sg u 0 (nI 0)) 0 (nI 1)), (nI 0)) := by
        unfold mTenant; rw [if_neg (fun z => c19_2 z.2)]; try rfl
      rw [e9]
      exact ⟨rfl, rfl, by omega, by omega⟩
    · skip
      have c19_2 := gbi_n0 c19_2
      have hh := c19_2
      obtain ⟨i, hi, ei⟩ := mIn_lit (by omega) c19_2
      subst ei
      refine gI_aload_n hB 0 dX7_tenant_22 rfl ?_
      refine gI_iload_n hB 1 dX7_tenant_23 rfl ?_
      refine gI_iload_n hB 2 dX7_tenant_24 rfl ?_
      refine gM_pure (n9 := 2) (As := [.int (nI t), .int (nI i)]) (rest := []) hB hM (c_get X.2.1 h a (sg u 0 (nI 0)) hM t i (by omega) (by omega)) (gCW.of ggX7_tenant_X7_get rfl ⟨by decide, by decide, by decide +kernel⟩ ⟨Nat.le_of_ble_eq_true rfl, Nat.le_of_ble_eq_true rfl⟩) (by decide +kernel) (by decide +kernel) (by decide +kernel) (by decide +kernel) rfl rfl (Nat.le_of_ble_eq_true rfl) (by first | exact Nat.le_of_ble_eq_true rfl | (dsimp only [gRm]; omega)) (by first | exact Nat.le_of_ble_eq_true rfl | (dsimp only [gRm]; omega)) dX7_tenant_25 ?_
      refine gI_goto hB 36 dX7_tenant_28 (by decide) ?_
      refine gI_iret hB hE dX7_tenant_36 ?_
      refine ⟨_, hM, hF, ?_⟩
      have e9 : mTenant u (nI t) (nI i) = ((sg u 0 (nI 0)), (u.2 0 (7 * t + i))) := by
        unfold mTenant; rw [if_pos ⟨c10_1, hh⟩, mCl (by omega), mCl (by omega)]; try rfl
      rw [e9]
      exact ⟨rfl, rfl, by omega, by omega⟩

set_option maxRecDepth 100000 in
set_option maxHeartbeats 4000000 in
theorem c_habit (G : gG) (h : gH) (a : Nat → Nat) (u : MS) (T : Nat) (hM : mRep G h a u) (hw : mW u T) (p q w : Int32) : gMet yX7_habit wsX7_habit (gRm 4 0 0) G h [.ref (a 0), .int p, .int q, .int w] (mPo G h a (mSp (mHabit u p q w) 0 0)) := by
  refine gMet_of (maxL := 4) (ret := (some .int)) (by decide) rfl (Nat.le_of_ble_eq_true rfl) ?_
  intro X hG hnL hB hE
  subst hG
  change gW X h 0 0 0 [(0, .ref (a 0)), (1, .int p), (2, .int q), (3, .int w)] []
  have hF : mFr h h := mFr.rf
  refine gI_aload_n hB 0 dX7_habit_0 rfl ?_
  refine gI_iconst (v := nI 0) hB dX7_habit_1 (by decide) ?_
  refine gM_put hB hM hF 0 (sg u 0 (nI 0)) (by decide +kernel) (by decide) (by decide +kernel) rfl rfl rfl rfl rfl rfl dX7_habit_2 (fun h hM hF => ?_)
  refine gI_aload_n hB 0 dX7_habit_5 rfl ?_
  refine gI_iload_n hB 1 dX7_habit_6 rfl ?_
  refine gI_iload_n hB 2 dX7_habit_7 rfl ?_
  refine gM_pure (n9 := 2) (As := [.int p, .int q]) (rest := []) hB hM (c_isHabit X.2.1 h a (sg u 0 (nI 0)) T hM hw p q) (gCW.of ggX7_habit_X7_isHabit rfl ⟨by decide, by decide, by decide +kernel⟩ ⟨Nat.le_of_ble_eq_true rfl, Nat.le_of_ble_eq_true rfl⟩) (by decide +kernel) (by decide +kernel) (by decide +kernel) (by decide +kernel) rfl rfl (Nat.le_of_ble_eq_true rfl) (by first | exact Nat.le_of_ble_eq_true rfl | (dsimp only [gRm]; omega)) (by first | exact Nat.le_of_ble_eq_true rfl | (dsimp only [gRm]; omega)) dX7_habit_8 ?_
  refine gI_topi hB (y := gbi (mHab u p q)) rfl ?_
  refine gI_if_eq hB 39 dX7_habit_11 (by decide) (fun c11_1 => ?_) (fun c11_1 => ?_)
  · skip
    have c11_1 := gbi_0.mp c11_1
    refine gI_aload_n hB 0 dX7_habit_39 rfl ?_
    refine gI_iconst (v := nI 1) hB dX7_habit_40 (by decide) ?_
    refine gM_call (n9 := 1) (As := [.int (nI 1)]) (rest := []) hB hM hF (c_fail X.2.1 h a (sg u 0 (nI 0)) hM (nI 1)) (gCW.of ggX7_habit_X7_fail rfl ⟨by decide, by decide, by decide +kernel⟩ ⟨Nat.le_of_ble_eq_true rfl, Nat.le_of_ble_eq_true rfl⟩) (by decide +kernel) (by decide +kernel) (by decide +kernel) (by decide +kernel) rfl rfl (Nat.le_of_ble_eq_true rfl) (by first | exact Nat.le_of_ble_eq_true rfl | (dsimp only [gRm]; omega)) (by first | exact Nat.le_of_ble_eq_true rfl | (dsimp only [gRm]; omega)) mSt.no dX7_habit_41 (fun v9 h u9 k9 n9 hM hF hp => ?_)
    obtain ⟨e9, rfl, rfl, rfl⟩ := hp
    cases e9
    change gW X h (0) (0) _ _ (.int (nI 0) :: _)
    refine gI_iret hB hE dX7_habit_44 ?_
    refine ⟨_, hM, hF, ?_⟩
    have e9 : mHabit u p q w = ((sg (sg u 0 (nI 0)) 0 (nI 1)), (nI 0)) := by
      unfold mHabit; rw [if_neg (fun z => c11_1 z.1)]; try rfl
    rw [e9]
    exact ⟨rfl, rfl, by omega, by omega⟩
  · skip
    have c11_1 := gbi_n0 c11_1
    have hh := c11_1
    obtain ⟨t, j, m, ht, et, hj, ej, hm8, em⟩ := mHab_of hw c11_1
    subst et ej
    have hT := hw.2.1
    refine gI_iload_n hB 3 dX7_habit_14 rfl ?_
    refine gI_iconst (v := nI 0) hB dX7_habit_15 (by decide) ?_
    refine gI_bipush (v := nI 8) hB dX7_habit_16 (by decide) ?_
    refine gI_pureS (n9 := 3) (As := [.int w, .int (nI 0), .int (nI 8)]) (rest := []) hB (c_isIn X.2.1 h w (nI 0) (nI 8)) (gCW.of ggX7_habit_X7_isIn rfl ⟨by decide, by decide, by decide +kernel⟩ ⟨Nat.le_of_ble_eq_true rfl, Nat.le_of_ble_eq_true rfl⟩) (Or.inl (by decide +kernel)) (by decide +kernel) (by decide +kernel) rfl rfl (Nat.le_of_ble_eq_true rfl) (by first | exact Nat.le_of_ble_eq_true rfl | (dsimp only [gRm]; omega)) (by first | exact Nat.le_of_ble_eq_true rfl | (dsimp only [gRm]; omega)) dX7_habit_18 ?_
    refine gI_if_eq hB 39 dX7_habit_21 (by decide) (fun c21_2 => ?_) (fun c21_2 => ?_)
    · skip
      have c21_2 := gbi_0.mp c21_2
      refine gI_aload_n hB 0 dX7_habit_39 rfl ?_
      refine gI_iconst (v := nI 1) hB dX7_habit_40 (by decide) ?_
      refine gM_call (n9 := 1) (As := [.int (nI 1)]) (rest := []) hB hM hF (c_fail X.2.1 h a (sg u 0 (nI 0)) hM (nI 1)) (gCW.of ggX7_habit_X7_fail rfl ⟨by decide, by decide, by decide +kernel⟩ ⟨Nat.le_of_ble_eq_true rfl, Nat.le_of_ble_eq_true rfl⟩) (by decide +kernel) (by decide +kernel) (by decide +kernel) (by decide +kernel) rfl rfl (Nat.le_of_ble_eq_true rfl) (by first | exact Nat.le_of_ble_eq_true rfl | (dsimp only [gRm]; omega)) (by first | exact Nat.le_of_ble_eq_true rfl | (dsimp only [gRm]; omega)) mSt.no dX7_habit_41 (fun v9 h u9 k9 n9 hM hF hp => ?_)
      obtain ⟨e9, rfl, rfl, rfl⟩ := hp
      cases e9
      change gW X h (0) (0) _ _ (.int (nI 0) :: _)
      refine gI_iret hB hE dX7_habit_44 ?_
      refine ⟨_, hM, hF, ?_⟩
      have e9 : mHabit u (nI t) (nI j) w = ((sg (sg u 0 (nI 0)) 0 (nI 1)), (nI 0)) := by
        unfold mHabit; rw [if_neg (fun z => c21_2 z.2)]; try rfl
      rw [e9]
      exact ⟨rfl, rfl, by omega, by omega⟩
    · skip
      have c21_2 := gbi_n0 c21_2
      have hh2 := c21_2
      obtain ⟨i, hi, ei⟩ := mIn_lit (by omega) c21_2
      subst ei
      refine gI_aload_n hB 0 dX7_habit_24 rfl ?_
      refine gM_get hB hM 5 (v := .ref (a 2)) (by decide +kernel) (by decide) (by decide +kernel) rfl rfl dX7_habit_25 ?_
      refine gI_iload_n hB 1 dX7_habit_28 rfl ?_
      refine gI_iload_n hB 2 dX7_habit_29 rfl ?_
      refine gI_pureS (n9 := 2) (As := [.int (nI t), .int (nI j)]) (rest := [.ref (a 2)]) hB (c_at X.2.1 h t j) (gCW.of ggX7_habit_X7_at rfl ⟨by decide, by decide, by decide +kernel⟩ ⟨Nat.le_of_ble_eq_true rfl, Nat.le_of_ble_eq_true rfl⟩) (Or.inl (by decide +kernel)) (by decide +kernel) (by decide +kernel) rfl rfl (Nat.le_of_ble_eq_true rfl) (by first | exact Nat.le_of_ble_eq_true rfl | (dsimp only [gRm]; omega)) (by first | exact Nat.le_of_ble_eq_true rfl | (dsimp only [gRm]; omega)) dX7_habit_30 ?_
      refine gI_iload_n hB 3 dX7_habit_33 rfl ?_
      refine gI_iaddN hB dX7_habit_34 ?_
      refine gM_ald hB hM 1 (by decide) ((9 * (8 * t + j)) + i) rfl (show (9 * (8 * t + j)) + i < 1152 by omega) dX7_habit_35 ?_
      refine gI_goto hB 44 dX7_habit_36 (by decide) ?_
      refine gI_iret hB hE dX7_habit_44 ?_
      refine ⟨_, hM, hF, ?_⟩
      have e9 : mHabit u (nI t) (nI j) (nI i) = ((sg u 0 (nI 0)), (u.2 1 ((9 * (8 * t + j)) + i))) := by
        unfold mHabit; rw [if_pos ⟨hh, hh2⟩, mJ_of (by omega) (by omega), mCl (by omega)]; try rfl
      rw [e9]
      exact ⟨rfl, rfl, by omega, by omega⟩
