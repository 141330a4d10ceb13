theorem mFitL_or (u : MS) (t : Nat) (s h : Int32) : ∀ r j, mFitL u t s h r j = -1 ∨ ∃ i, i < j + r ∧ mFitL u t s h r j = nI i
  | 0, j => Or.inl rfl
  | r + 1, j => by
    unfold mFitL
    by_cases c : mFits u t j s h
    · rw [if_pos c]
      exact Or.inr ⟨j, by omega, rfl⟩
    · rw [if_neg c]
      rcases mFitL_or u t s h r (j + 1) with e | ⟨i, hi, e⟩
      · exact Or.inl e
      · exact Or.inr ⟨i, by omega, e⟩
theorem mFit_or (u : MS) (t : Nat) (s h : Int32) : mFit u t s h = -1 ∨ ∃ i, i < mMany u t ∧ mFit u t s h = nI i := by
  have := mFitL_or u t s h (mMany u t) 0
  rw [Nat.zero_add] at this
  exact this
theorem nI_nm1 {i : Nat} (h : i < 100) : ¬ nI i = -1 := by
  have key : ∀ i : Fin 100, ¬ nI i.val = -1 := by decide +kernel
  exact key ⟨i, h⟩
/-- the tenant t has heard the ring in hand -/
def mHearA (u : MS) (t : Nat) : MS :=
  sg (sg (sa (sa u 0 (upd (u.2 0) (7 * t + 6) (u.1 1))) 0 (upd (upd (u.2 0) (7 * t + 6) (u.1 1)) (7 * t + 4) ((upd (u.2 0) (7 * t + 6) (u.1 1)) (7 * t + 4) + nI 1))) 8 (u.1 8 + nI 1)) 11 (if u.1 11 < u.2 4 4 then u.2 4 4 else u.1 11)
def mHearS (u : MS) (t : Nat) : Int32 := mFit (mHearA u t) t (if u.2 4 2 = -1 then nI 0 else nI 1) (mHour u)
def mHearB (u : MS) (t T : Nat) : MS := if mHearS u t = -1 then mHearA u t else mFollow (mHearA u t) (9 * (8 * t + (mHearS u t).toNatClampNeg)) t T
def mTire (v : MS) (t : Nat) : MS := sa v 0 (upd (v.2 0) (7 * t + 2) (if nI 0 < v.2 0 (7 * t + 2) - nI 1 then v.2 0 (7 * t + 2) - nI 1 else nI 0))
def mHear (u : MS) (t T : Nat) : MS × Int32 :=
  if u.2 0 (7 * t + 6) = u.1 1 then (sg u 9 (u.1 9 + nI 1), nI 2)
  else (mTire (mHearB u t T) t, if mHearS u t = -1 then nI 1 else nI 0)
/-- the reference may do the ring in hand -/
def mHand (u : MS) (t T p W z : Nat) : Prop := u.2 4 1 = nI t ∧ t < T ∧ u.2 4 4 = nI p ∧ p ≤ 8 ∧ u.1 6 = nI W ∧ W ≤ 60 ∧ u.1 12 = nI z ∧ z ≤ 200 ∧ ¬ u.1 2 = 0 ∧ mW u T

theorem mHearA_W {u : MS} {t T : Nat} (w : mW u T) (ht : t < T) : mW (mHearA u t) T := by
  obtain ⟨h1, h2, h3⟩ := w
  refine ⟨h1, h2, fun t' ht' => ?_⟩
  obtain ⟨m, hm, em⟩ := h3 t' ht'
  refine ⟨m, hm, ?_⟩
  show upd (upd (u.2 0) (7 * t + 6) (u.1 1)) (7 * t + 4) _ (7 * t' + 3) = nI m
  rw [pk_un (by omega), pk_un (by omega)]
  exact em
theorem mFolL_z {H : Nat → Int32} {J t : Nat} : ∀ r to u, (mFolL H J t r to u).1 12 = u.1 12
  | 0, _, _ => rfl
  | r + 1, to, u => by
    unfold mFolL
    rw [mFolL_z r (to + 1)]
    split
    · exact (mWait_keep _ _ _ _).2.1
    · rfl
theorem mFollow_z {u : MS} {J t T z : Nat} (ez : u.1 12 = nI z) (hz : z ≤ 200) : ∃ z', z' ≤ 200 ∧ z' ≤ z + 1 ∧ (mFollow u J t T).1 12 = nI z' := by
  obtain ⟨z', h1, h2, h3⟩ := mFol2_z (J := J) (t := t) ez hz
  refine ⟨z', h1, h2, ?_⟩
  unfold mFollow
  split
  · exact h3
  · rw [mFolL_z]
    exact h3
theorem mHearB_z {u : MS} {t T z : Nat} (ez : u.1 12 = nI z) (hz : z ≤ 200) : ∃ z', z' ≤ 200 ∧ z' ≤ z + 1 ∧ (mHearB u t T).1 12 = nI z' := by
  unfold mHearB
  split
  · exact ⟨z, hz, by omega, ez⟩
  · exact mFollow_z (show (mHearA u t).1 12 = nI z from ez) hz

set_option maxRecDepth 100000 in
set_option maxHeartbeats 4000000 in
theorem c_hear (G : gG) (h : gH) (a : Nat → Nat) (u : MS) (hM : mRep G h a u) (t T p W z : Nat) (hd9 : mHand u t T p W z) : gMet yX7_hear wsX7_hear (gRm 4 1 6) G h [.ref (a 0), .ref (a 5)] (mPo G h a (mStC (some (.int (mHear u t T).2)) u (mHear u t T).1)) := by
  refine gMet_of (maxL := 4) (ret := (some .int)) (by decide) rfl (Nat.le_of_ble_eq_true rfl) ?_
  intro X hG hnL hB hE
  subst hG
  change gW X h 0 0 0 [(0, .ref (a 0)), (1, .ref (a 5))] []
  have hF : mFr h h := mFr.rf
  obtain ⟨et, ht, ep, hp8, eW, hW, ez, hz, hH, hw⟩ := hd9
  have hT := hw.2.1
  have eT := hw.1
  refine gI_aload_n hB 1 dX7_hear_0 rfl ?_
  refine gI_iconst (v := nI 1) hB dX7_hear_1 (by decide) ?_
  refine gM_ald hB hM 4 (by decide) 1 rfl (show 1 < 14 by omega) dX7_hear_2 ?_
  refine gI_topi hB (y := nI t) et ?_
  refine gI_istore_n hB ([(2, .int (nI t)), (0, .ref (a 0)), (1, .ref (a 5))]) hnL dX7_hear_3 (by decide) rfl ?_
  refine gI_aload_n hB 1 dX7_hear_4 rfl ?_
  refine gI_iload_n hB 0 dX7_hear_5 rfl ?_
  refine gI_bipush (v := nI 6) hB dX7_hear_6 (by decide) ?_
  refine gM_pure (n9 := 2) (As := [.int (nI t), .int (nI 6)]) (rest := []) hB hM (c_get X.2.1 h a u hM t 6 (by omega) (by omega)) (gCW.of ggX7_hear_X7_get rfl ⟨by decide, by decide, by decide +kernel⟩ ⟨Nat.le_of_ble_eq_true rfl, Nat.le_of_ble_eq_true rfl⟩) (by decide +kernel) (by decide +kernel) (by decide +kernel) (by decide +kernel) rfl rfl (Nat.le_of_ble_eq_true rfl) (by first | exact Nat.le_of_ble_eq_true rfl | (dsimp only [gRm]; omega)) (by first | exact Nat.le_of_ble_eq_true rfl | (dsimp only [gRm]; omega)) dX7_hear_8 ?_
  refine gI_aload_n hB 1 dX7_hear_11 rfl ?_
  refine gM_get hB hM 1 (v := .int (u.1 1)) (by decide +kernel) (by decide) (by decide +kernel) rfl rfl dX7_hear_12 ?_
  refine gI_icmp_ne hB 30 dX7_hear_15 (by decide) (fun c15_1 => ?_) (fun c15_1 => ?_)
  · skip
    refine gI_aload_n hB 1 dX7_hear_30 rfl ?_
    refine gI_iload_n hB 0 dX7_hear_31 rfl ?_
    refine gI_bipush (v := nI 6) hB dX7_hear_32 (by decide) ?_
    refine gI_aload_n hB 1 dX7_hear_34 rfl ?_
    refine gM_get hB hM 1 (v := .int (u.1 1)) (by decide +kernel) (by decide) (by decide +kernel) rfl rfl dX7_hear_35 ?_
    refine gM_call (n9 := 3) (As := [.int (nI t), .int (nI 6), .int (u.1 1)]) (rest := []) hB hM hF (c_set X.2.1 h a u hM t 6 (u.1 1) (by omega) (by omega)) (gCW.of ggX7_hear_X7_set rfl ⟨by decide, by decide, by decide +kernel⟩ ⟨Nat.le_of_ble_eq_true rfl, Nat.le_of_ble_eq_true rfl⟩) (by decide +kernel) (by decide +kernel) (by decide +kernel) (by decide +kernel) rfl rfl (Nat.le_of_ble_eq_true rfl) (by first | exact Nat.le_of_ble_eq_true rfl | (dsimp only [gRm]; omega)) (by first | exact Nat.le_of_ble_eq_true rfl | (dsimp only [gRm]; omega)) mSt.no dX7_hear_38 (fun v9 h u9 k9 n9 hM hF hp => ?_)
    obtain ⟨e9, rfl, rfl, rfl⟩ := hp
    cases e9
    change gW X h (0) (0) _ [(2, .int (nI t)), (0, .ref (a 0)), (1, .ref (a 5))] []
    refine gI_aload_n hB 1 dX7_hear_41 rfl ?_
    refine gI_iload_n hB 0 dX7_hear_42 rfl ?_
    refine gI_iconst (v := nI 4) hB dX7_hear_43 (by decide) ?_
    refine gI_aload_n hB 1 dX7_hear_44 rfl ?_
    refine gI_iload_n hB 0 dX7_hear_45 rfl ?_
    refine gI_iconst (v := nI 4) hB dX7_hear_46 (by decide) ?_
    refine gM_pure (n9 := 2) (As := [.int (nI t), .int (nI 4)]) (rest := [.int (nI 4), .int (nI t), .ref (a 0)]) hB hM (c_get X.2.1 h a (sa u 0 (upd (u.2 0) (7 * t + 6) (u.1 1))) hM t 4 (by omega) (by omega)) (gCW.of ggX7_hear_X7_get rfl ⟨by decide, by decide, by decide +kernel⟩ ⟨Nat.le_of_ble_eq_true rfl, Nat.le_of_ble_eq_true rfl⟩) (by decide +kernel) (by decide +kernel) (by decide +kernel) (by decide +kernel) rfl rfl (Nat.le_of_ble_eq_true rfl) (by first | exact Nat.le_of_ble_eq_true rfl | (dsimp only [gRm]; omega)) (by first | exact Nat.le_of_ble_eq_true rfl | (dsimp only [gRm]; omega)) dX7_hear_47 ?_
    refine gI_iconst (v := nI 1) hB dX7_hear_50 (by decide) ?_
    refine gI_iadd hB dX7_hear_51 ?_
    refine gM_call (n9 := 3) (As := [.int (nI t), .int (nI 4), .int (((upd (u.2 0) (7 * t + 6) (u.1 1)) (7 * t + 4)) + (nI 1))]) (rest := []) hB hM hF (c_set X.2.1 h a (sa u 0 (upd (u.2 0) (7 * t + 6) (u.1 1))) hM t 4 (((upd (u.2 0) (7 * t + 6) (u.1 1)) (7 * t + 4)) + (nI 1)) (by omega) (by omega)) (gCW.of ggX7_hear_X7_set rfl ⟨by decide, by decide, by decide +kernel⟩ ⟨Nat.le_of_ble_eq_true rfl, Nat.le_of_ble_eq_true rfl⟩) (by decide +kernel) (by decide +kernel) (by decide +kernel) (by decide +kernel) rfl rfl (Nat.le_of_ble_eq_true rfl) (by first | exact Nat.le_of_ble_eq_true rfl | (dsimp only [gRm]; omega)) (by first | exact Nat.le_of_ble_eq_true rfl | (dsimp only [gRm]; omega)) mSt.no dX7_hear_52 (fun v9 h u9 k9 n9 hM hF hp => ?_)
    obtain ⟨e9, rfl, rfl, rfl⟩ := hp
    cases e9
    change gW X h (0) (0) _ [(2, .int (nI t)), (0, .ref (a 0)), (1, .ref (a 5))] []
    refine gI_aload_n hB 1 dX7_hear_55 rfl ?_
    refine gI_dup hB dX7_hear_56 rfl ?_
    refine gM_get hB hM 8 (v := .int (u.1 8)) (by decide +kernel) (by decide) (by decide +kernel) rfl rfl dX7_hear_57 ?_
    refine gI_iconst (v := nI 1) hB dX7_hear_60 (by decide) ?_
    refine gI_iadd hB dX7_hear_61 ?_
    refine gM_put hB hM hF 8 (sg (sa (sa u 0 (upd (u.2 0) (7 * t + 6) (u.1 1))) 0 (upd (upd (u.2 0) (7 * t + 6) (u.1 1)) (7 * t + 4) (((upd (u.2 0) (7 * t + 6) (u.1 1)) (7 * t + 4)) + (nI 1)))) 8 ((u.1 8) + (nI 1))) (by decide +kernel) (by decide) (by decide +kernel) rfl rfl rfl rfl rfl rfl dX7_hear_62 (fun h hM hF => ?_)
    refine gI_aload_n hB 1 dX7_hear_65 rfl ?_
    refine gI_aload_n hB 1 dX7_hear_66 rfl ?_
    refine gM_get hB hM 11 (v := .int (u.1 11)) (by decide +kernel) (by decide) (by decide +kernel) rfl rfl dX7_hear_67 ?_
    refine gI_aload_n hB 2 dX7_hear_70 rfl ?_
    refine gI_iconst (v := nI 4) hB dX7_hear_71 (by decide) ?_
    refine gM_ald hB hM 4 (by decide) 4 rfl (show 4 < 14 by omega) dX7_hear_72 ?_
    refine gI_mmax hB (by decide +kernel) (by decide +kernel) (by decide +kernel) (by decide +kernel) (Nat.le_of_ble_eq_true rfl) (Nat.le_of_ble_eq_true rfl) (by first | exact Nat.le_of_ble_eq_true rfl | (dsimp only [gRm]; omega)) (by first | exact Nat.le_of_ble_eq_true rfl | (dsimp only [gRm]; omega)) dX7_hear_73 ?_
    refine gM_put hB hM hF 11 (sg (sg (sa (sa u 0 (upd (u.2 0) (7 * t + 6) (u.1 1))) 0 (upd (upd (u.2 0) (7 * t + 6) (u.1 1)) (7 * t + 4) (((upd (u.2 0) (7 * t + 6) (u.1 1)) (7 * t + 4)) + (nI 1)))) 8 ((u.1 8) + (nI 1))) 11 (if (u.1 11) < (u.2 4 4) then (u.2 4 4) else (u.1 11))) (by decide +kernel) (by decide) (by decide +kernel) rfl rfl rfl rfl rfl rfl dX7_hear_76 (fun h hM hF => ?_)
    have eu9 : (sg (sg (sa (sa u 0 (upd (u.2 0) (7 * t + 6) (u.1 1))) 0 (upd (upd (u.2 0) (7 * t + 6) (u.1 1)) (7 * t + 4) (((upd (u.2 0) (7 * t + 6) (u.1 1)) (7 * t + 4)) + (nI 1)))) 8 ((u.1 8) + (nI 1))) 11 (if (u.1 11) < (u.2 4 4) then (u.2 4 4) else (u.1 11))) = mHearA u t := rfl
    rw [eu9] at hM
    have hwA : mW (mHearA u t) T := mHearA_W hw ht
    obtain ⟨m, hm8, em⟩ := hwA.2.2 t ht
    refine gI_aload_n hB 1 dX7_hear_79 rfl ?_
    refine gI_iload_n hB 0 dX7_hear_80 rfl ?_
    refine gI_aload_n hB 2 dX7_hear_81 rfl ?_
    refine gI_iconst (v := nI 2) hB dX7_hear_82 (by decide) ?_
    refine gM_ald hB hM 4 (by decide) 2 rfl (show 2 < 14 by omega) dX7_hear_83 ?_
    refine gI_iconst (v := (-1)) hB dX7_hear_84 (by decide) ?_
    refine gI_icmp_ne hB 92 dX7_hear_85 (by decide) (fun c85_2 => ?_) (fun c85_2 => ?_)
    · skip
      refine gI_iconst (v := nI 1) hB dX7_hear_92 (by decide) ?_
      refine gI_topi hB (y := (if u.2 4 2 = -1 then nI 0 else nI 1)) (if_neg (show ¬ u.2 4 2 = -1 from c85_2)).symm ?_
      refine gI_aload_n hB 1 dX7_hear_93 rfl ?_
      refine gM_pure (n9 := 0) (As := []) (rest := [.int (if u.2 4 2 = -1 then nI 0 else nI 1), .int (nI t), .ref (a 0)]) hB hM (c_hour X.2.1 h a (mHearA u t) hM hH) (gCW.of ggX7_hear_X7_hour rfl ⟨by decide, by decide, by decide +kernel⟩ ⟨Nat.le_of_ble_eq_true rfl, Nat.le_of_ble_eq_true rfl⟩) (by decide +kernel) (by decide +kernel) (by decide +kernel) (by decide +kernel) rfl rfl (Nat.le_of_ble_eq_true rfl) (by first | exact Nat.le_of_ble_eq_true rfl | (dsimp only [gRm]; omega)) (by first | exact Nat.le_of_ble_eq_true rfl | (dsimp only [gRm]; omega)) dX7_hear_94 ?_
      refine gM_pure (n9 := 3) (As := [.int (nI t), .int (if u.2 4 2 = -1 then nI 0 else nI 1), .int (mHour (mHearA u t))]) (rest := []) hB hM (c_fitting X.2.1 h a (mHearA u t) T hM hwA t (if u.2 4 2 = -1 then nI 0 else nI 1) (mHour (mHearA u t)) ht) (gCW.of ggX7_hear_X7_fitting rfl ⟨by decide, by decide, by decide +kernel⟩ ⟨Nat.le_of_ble_eq_true rfl, Nat.le_of_ble_eq_true rfl⟩) (by decide +kernel) (by decide +kernel) (by decide +kernel) (by decide +kernel) rfl rfl (Nat.le_of_ble_eq_true rfl) (by first | exact Nat.le_of_ble_eq_true rfl | (dsimp only [gRm]; omega)) (by first | exact Nat.le_of_ble_eq_true rfl | (dsimp only [gRm]; omega)) dX7_hear_97 ?_
      refine gI_istore_n hB ([(3, .int (mFit (mHearA u t) t (if u.2 4 2 = -1 then nI 0 else nI 1) (mHour (mHearA u t)))), (2, .int (nI t)), (0, .ref (a 0)), (1, .ref (a 5))]) hnL dX7_hear_100 (by decide) rfl ?_
      change gW X h 0 0 101 [(3, .int (mFit (mHearA u t) t (if u.2 4 2 = -1 then nI 0 else nI 1) (mHour u))), (2, .int (nI t)), (0, .ref (a 0)), (1, .ref (a 5))] []
      rcases mFit_or (mHearA u t) t (if u.2 4 2 = -1 then nI 0 else nI 1) (mHour u) with eS | ⟨i, hi, eS⟩
      · skip
        skip
        rw [eS]
        refine gI_iload_n hB 0 dX7_hear_101 rfl ?_
        refine gI_iconst (v := (-1)) hB dX7_hear_102 (by decide) ?_
        refine gI_icmp_eq hB 116 dX7_hear_103 (by decide) (fun _ => ?_) (fun z => absurd (rfl) z)
        have eB : mHearA u t = mHearB u t T := by unfold mHearB; rw [if_pos (show mHearS u t = -1 from eS)]
        have hC : mC u (mHearB u t T) 0 0 := by rw [← eB]; exact mC.rf ez hz rfl
        rw [eB] at hM
        refine gI_aload_n hB 2 dX7_hear_116 rfl ?_
        refine gI_iload_n hB 1 dX7_hear_117 rfl ?_
        refine gI_iconst (v := nI 2) hB dX7_hear_118 (by decide) ?_
        refine gI_iconst (v := nI 0) hB dX7_hear_119 (by decide) ?_
        refine gI_aload_n hB 2 dX7_hear_120 rfl ?_
        refine gI_iload_n hB 1 dX7_hear_121 rfl ?_
        refine gI_iconst (v := nI 2) hB dX7_hear_122 (by decide) ?_
        refine gM_pure (n9 := 2) (As := [.int (nI t), .int (nI 2)]) (rest := [.int (nI 0), .int (nI 2), .int (nI t), .ref (a 0)]) hB hM (c_get X.2.1 h a (mHearB u t T) hM t 2 (by omega) (by omega)) (gCW.of ggX7_hear_X7_get rfl ⟨by decide, by decide, by decide +kernel⟩ ⟨Nat.le_of_ble_eq_true rfl, Nat.le_of_ble_eq_true rfl⟩) (by decide +kernel) (by decide +kernel) (by decide +kernel) (by decide +kernel) rfl rfl (Nat.le_of_ble_eq_true rfl) (by first | exact Nat.le_of_ble_eq_true rfl | (dsimp only [gRm]; omega)) (by first | exact Nat.le_of_ble_eq_true rfl | (dsimp only [gRm]; omega)) dX7_hear_123 ?_
        refine gI_iconst (v := nI 1) hB dX7_hear_126 (by decide) ?_
        refine gI_isub hB dX7_hear_127 ?_
        refine gI_mmax hB (by decide +kernel) (by decide +kernel) (by decide +kernel) (by decide +kernel) (Nat.le_of_ble_eq_true rfl) (Nat.le_of_ble_eq_true rfl) (by first | exact Nat.le_of_ble_eq_true rfl | (dsimp only [gRm]; omega)) (by first | exact Nat.le_of_ble_eq_true rfl | (dsimp only [gRm]; omega)) dX7_hear_128 ?_
        refine gM_call (n9 := 3) (As := [.int (nI t), .int (nI 2), .int (if (nI 0) < ((((mHearB u t T).2 0) (7 * t + 2)) - (nI 1)) then ((((mHearB u t T).2 0) (7 * t + 2)) - (nI 1)) else (nI 0))]) (rest := []) hB hM hF (c_set X.2.1 h a (mHearB u t T) hM t 2 (if (nI 0) < ((((mHearB u t T).2 0) (7 * t + 2)) - (nI 1)) then ((((mHearB u t T).2 0) (7 * t + 2)) - (nI 1)) else (nI 0)) (by omega) (by omega)) (gCW.of ggX7_hear_X7_set rfl ⟨by decide, by decide, by decide +kernel⟩ ⟨Nat.le_of_ble_eq_true rfl, Nat.le_of_ble_eq_true rfl⟩) (by decide +kernel) (by decide +kernel) (by decide +kernel) (by decide +kernel) rfl rfl (Nat.le_of_ble_eq_true rfl) (by first | exact Nat.le_of_ble_eq_true rfl | (dsimp only [gRm]; omega)) (by first | exact Nat.le_of_ble_eq_true rfl | (dsimp only [gRm]; omega)) mSt.no dX7_hear_131 (fun v9 h u9 k9 n9 hM hF hp => ?_)
        obtain ⟨e9, rfl, rfl, rfl⟩ := hp
        cases e9
        change gW X h (0) (0) _ [(3, .int (-1)), (2, .int (nI t)), (0, .ref (a 0)), (1, .ref (a 5))] []
        refine gI_iload_n hB 0 dX7_hear_134 rfl ?_
        refine gI_iconst (v := (-1)) hB dX7_hear_135 (by decide) ?_
        refine gI_icmp_eq hB 143 dX7_hear_136 (by decide) (fun _ => ?_) (fun z => absurd (rfl) z)
        refine gI_iconst (v := nI 1) hB dX7_hear_143 (by decide) ?_
        refine gI_iret hB hE dX7_hear_144 ?_
        have ef : mHear u t T = (mTire (mHearB u t T) t, nI 1) := by
          unfold mHear; rw [if_neg c15_1, if_pos (show mHearS u t = -1 from eS)]
        rw [ef]
        exact ⟨_, hM, hF, rfl, rfl, hC.to rfl⟩
      · skip
        rw [mMany_of hm8 em] at hi
        skip
        rw [eS]
        refine gI_iload_n hB 0 dX7_hear_101 rfl ?_
        refine gI_iconst (v := (-1)) hB dX7_hear_102 (by decide) ?_
        refine gI_icmp_eq hB 116 dX7_hear_103 (by decide) (fun z => absurd z (nI_nm1 (by omega))) (fun _ => ?_)
        refine gI_aload_n hB 2 dX7_hear_106 rfl ?_
        refine gI_aload_n hB 3 dX7_hear_107 rfl ?_
        refine gI_iload_n hB 1 dX7_hear_108 rfl ?_
        refine gI_iload_n hB 0 dX7_hear_109 rfl ?_
        refine gI_pureS (n9 := 2) (As := [.int (nI t), .int (nI i)]) (rest := [.ref (a 5), .ref (a 0)]) hB (c_at X.2.1 h t i) (gCW.of ggX7_hear_X7_at rfl ⟨by decide, by decide, by decide +kernel⟩ ⟨Nat.le_of_ble_eq_true rfl, Nat.le_of_ble_eq_true rfl⟩) (Or.inl (by decide +kernel)) (by decide +kernel) (by decide +kernel) rfl rfl (Nat.le_of_ble_eq_true rfl) (by first | exact Nat.le_of_ble_eq_true rfl | (dsimp only [gRm]; omega)) (by first | exact Nat.le_of_ble_eq_true rfl | (dsimp only [gRm]; omega)) dX7_hear_110 ?_
        refine gM_call (n9 := 2) (As := [.ref (a 5), .int (nI (9 * (8 * t + i)))]) (rest := []) hB hM hF (c_follow X.2.1 h a (mHearA u t) hM (9 * (8 * t + i)) t T p W z et ht hT eT ep hp8 eW hW ez hz (by omega)) (gCW.of ggX7_hear_X7_follow rfl ⟨by decide, by decide, by decide +kernel⟩ ⟨Nat.le_of_ble_eq_true rfl, Nat.le_of_ble_eq_true rfl⟩) (by decide +kernel) (by decide +kernel) (by decide +kernel) (by decide +kernel) rfl rfl (Nat.le_of_ble_eq_true rfl) (by first | exact Nat.le_of_ble_eq_true rfl | (dsimp only [gRm]; omega)) (by first | exact Nat.le_of_ble_eq_true rfl | (dsimp only [gRm]; omega)) mStC.no dX7_hear_113 (fun v9 h u9 k9 n9 hM hF hp => ?_)
        obtain ⟨e9, rfl, hc9⟩ := hp
        cases e9
        have eB : mFollow (mHearA u t) (9 * (8 * t + i)) t T = mHearB u t T := by unfold mHearB; rw [if_neg (show ¬ mHearS u t = -1 from fun z9 => nI_nm1 (by omega) (eS.symm.trans z9)), show mHearS u t = nI i from eS, mCl (by omega)]
        have hC : mC u (mHearB u t T) (0 + k9) (0 + n9) := by rw [← eB, Nat.zero_add, Nat.zero_add]; exact hc9
        rw [eB] at hM
        have hkn : k9 ≤ 1 ∧ n9 ≤ 6 := mC.small (mHearB_z ez hz) hC
        refine gI_aload_n hB 2 dX7_hear_116 rfl ?_
        refine gI_iload_n hB 1 dX7_hear_117 rfl ?_
        refine gI_iconst (v := nI 2) hB dX7_hear_118 (by decide) ?_
        refine gI_iconst (v := nI 0) hB dX7_hear_119 (by decide) ?_
        refine gI_aload_n hB 2 dX7_hear_120 rfl ?_
        refine gI_iload_n hB 1 dX7_hear_121 rfl ?_
        refine gI_iconst (v := nI 2) hB dX7_hear_122 (by decide) ?_
        refine gM_pure (n9 := 2) (As := [.int (nI t), .int (nI 2)]) (rest := [.int (nI 0), .int (nI 2), .int (nI t), .ref (a 0)]) hB hM (c_get X.2.1 h a (mHearB u t T) hM t 2 (by omega) (by omega)) (gCW.of ggX7_hear_X7_get rfl ⟨by decide, by decide, by decide +kernel⟩ ⟨Nat.le_of_ble_eq_true rfl, Nat.le_of_ble_eq_true rfl⟩) (by decide +kernel) (by decide +kernel) (by decide +kernel) (by decide +kernel) rfl rfl (Nat.le_of_ble_eq_true rfl) (by first | exact Nat.le_of_ble_eq_true rfl | (dsimp only [gRm]; omega)) (by first | exact Nat.le_of_ble_eq_true rfl | (dsimp only [gRm]; omega)) dX7_hear_123 ?_
        refine gI_iconst (v := nI 1) hB dX7_hear_126 (by decide) ?_
        refine gI_isub hB dX7_hear_127 ?_
        refine gI_mmax hB (by decide +kernel) (by decide +kernel) (by decide +kernel) (by decide +kernel) (Nat.le_of_ble_eq_true rfl) (Nat.le_of_ble_eq_true rfl) (by first | exact Nat.le_of_ble_eq_true rfl | (dsimp only [gRm]; omega)) (by first | exact Nat.le_of_ble_eq_true rfl | (dsimp only [gRm]; omega)) dX7_hear_128 ?_
        refine gM_call (n9 := 3) (As := [.int (nI t), .int (nI 2), .int (if (nI 0) < ((((mHearB u t T).2 0) (7 * t + 2)) - (nI 1)) then ((((mHearB u t T).2 0) (7 * t + 2)) - (nI 1)) else (nI 0))]) (rest := []) hB hM hF (c_set X.2.1 h a (mHearB u t T) hM t 2 (if (nI 0) < ((((mHearB u t T).2 0) (7 * t + 2)) - (nI 1)) then ((((mHearB u t T).2 0) (7 * t + 2)) - (nI 1)) else (nI 0)) (by omega) (by omega)) (gCW.of ggX7_hear_X7_set rfl ⟨by decide, by decide, by decide +kernel⟩ ⟨Nat.le_of_ble_eq_true rfl, Nat.le_of_ble_eq_true rfl⟩) (by decide +kernel) (by decide +kernel) (by decide +kernel) (by decide +kernel) rfl rfl (Nat.le_of_ble_eq_true rfl) (by first | exact Nat.le_of_ble_eq_true rfl | (dsimp only [gRm]; omega)) (by first | exact Nat.le_of_ble_eq_true rfl | (dsimp only [gRm]; omega)) mSt.no dX7_hear_131 (fun v9 h u9 k9 n9 hM hF hp => ?_)
        obtain ⟨e9, rfl, rfl, rfl⟩ := hp
        cases e9
        change gW X h (0 + k9) (0 + n9) _ [(3, .int (nI i)), (2, .int (nI t)), (0, .ref (a 0)), (1, .ref (a 5))] []
        refine gI_iload_n hB 0 dX7_hear_134 rfl ?_
        refine gI_iconst (v := (-1)) hB dX7_hear_135 (by decide) ?_
        refine gI_icmp_eq hB 143 dX7_hear_136 (by decide) (fun z => absurd z (nI_nm1 (by omega))) (fun _ => ?_)
        refine gI_iconst (v := nI 0) hB dX7_hear_139 (by decide) ?_
        refine gI_goto hB 144 dX7_hear_140 (by decide) ?_
        refine gI_iret hB hE dX7_hear_144 ?_
        have ef : mHear u t T = (mTire (mHearB u t T) t, nI 0) := by
          unfold mHear; rw [if_neg c15_1, if_neg (show ¬ mHearS u t = -1 from fun z9 => nI_nm1 (by omega) (eS.symm.trans z9))]
        rw [ef]
        exact ⟨_, hM, hF, rfl, rfl, hC.to rfl⟩
    · skip
      refine gI_iconst (v := nI 0) hB dX7_hear_88 (by decide) ?_
      refine gI_goto hB 93 dX7_hear_89 (by decide) ?_
      refine gI_topi hB (y := (if u.2 4 2 = -1 then nI 0 else nI 1)) (if_pos (show u.2 4 2 = -1 from c85_2)).symm ?_
      refine gI_aload_n hB 1 dX7_hear_93 rfl ?_
      refine gM_pure (n9 := 0) (As := []) (rest := [.int (if u.2 4 2 = -1 then nI 0 else nI 1), .int (nI t), .ref (a 0)]) hB hM (c_hour X.2.1 h a (mHearA u t) hM hH) (gCW.of ggX7_hear_X7_hour rfl ⟨by decide, by decide, by decide +kernel⟩ ⟨Nat.le_of_ble_eq_true rfl, Nat.le_of_ble_eq_true rfl⟩) (by decide +kernel) (by decide +kernel) (by decide +kernel) (by decide +kernel) rfl rfl (Nat.le_of_ble_eq_true rfl) (by first | exact Nat.le_of_ble_eq_true rfl | (dsimp only [gRm]; omega)) (by first | exact Nat.le_of_ble_eq_true rfl | (dsimp only [gRm]; omega)) dX7_hear_94 ?_
      refine gM_pure (n9 := 3) (As := [.int (nI t), .int (if u.2 4 2 = -1 then nI 0 else nI 1), .int (mHour (mHearA u t))]) (rest := []) hB hM (c_fitting X.2.1 h a (mHearA u t) T hM hwA t (if u.2 4 2 = -1 then nI 0 else nI 1) (mHour (mHearA u t)) ht) (gCW.of ggX7_hear_X7_fitting rfl ⟨by decide, by decide, by decide +kernel⟩ ⟨Nat.le_of_ble_eq_true rfl, Nat.le_of_ble_eq_true rfl⟩) (by decide +kernel) (by decide +kernel) (by decide +kernel) (by decide +kernel) rfl rfl (Nat.le_of_ble_eq_true rfl) (by first | exact Nat.le_of_ble_eq_true rfl | (dsimp only [gRm]; omega)) (by first | exact Nat.le_of_ble_eq_true rfl | (dsimp only [gRm]; omega)) dX7_hear_97 ?_
      refine gI_istore_n hB ([(3, .int (mFit (mHearA u t) t (if u.2 4 2 = -1 then nI 0 else nI 1) (mHour (mHearA u t)))), (2, .int (nI t)), (0, .ref (a 0)), (1, .ref (a 5))]) hnL dX7_hear_100 (by decide) rfl ?_
      change gW X h 0 0 101 [(3, .int (mFit (mHearA u t) t (if u.2 4 2 = -1 then nI 0 else nI 1) (mHour u))), (2, .int (nI t)), (0, .ref (a 0)), (1, .ref (a 5))] []
      rcases mFit_or (mHearA u t) t (if u.2 4 2 = -1 then nI 0 else nI 1) (mHour u) with eS | ⟨i, hi, eS⟩
      · skip
        skip
        rw [eS]
        refine gI_iload_n hB 0 dX7_hear_101 rfl ?_
        refine gI_iconst (v := (-1)) hB dX7_hear_102 (by decide) ?_
        refine gI_icmp_eq hB 116 dX7_hear_103 (by decide) (fun _ => ?_) (fun z => absurd (rfl) z)
        have eB : mHearA u t = mHearB u t T := by unfold mHearB; rw [if_pos (show mHearS u t = -1 from eS)]
        have hC : mC u (mHearB u t T) 0 0 := by rw [← eB]; exact mC.rf ez hz rfl
        rw [eB] at hM
        refine gI_aload_n hB 2 dX7_hear_116 rfl ?_
        refine gI_iload_n hB 1 dX7_hear_117 rfl ?_
        refine gI_iconst (v := nI 2) hB dX7_hear_118 (by decide) ?_
        refine gI_iconst (v := nI 0) hB dX7_hear_119 (by decide) ?_
        refine gI_aload_n hB 2 dX7_hear_120 rfl ?_
        refine gI_iload_n hB 1 dX7_hear_121 rfl ?_
        refine gI_iconst (v := nI 2) hB dX7_hear_122 (by decide) ?_
        refine gM_pure (n9 := 2) (As := [.int (nI t), .int (nI 2)]) (rest := [.int (nI 0), .int (nI 2), .int (nI t), .ref (a 0)]) hB hM (c_get X.2.1 h a (mHearB u t T) hM t 2 (by omega) (by omega)) (gCW.of ggX7_hear_X7_get rfl ⟨by decide, by decide, by decide +kernel⟩ ⟨Nat.le_of_ble_eq_true rfl, Nat.le_of_ble_eq_true rfl⟩) (by decide +kernel) (by decide +kernel) (by decide +kernel) (by decide +kernel) rfl rfl (Nat.le_of_ble_eq_true rfl) (by first | exact Nat.le_of_ble_eq_true rfl | (dsimp only [gRm]; omega)) (by first | exact Nat.le_of_ble_eq_true rfl | (dsimp only [gRm]; omega)) dX7_hear_123 ?_
        refine gI_iconst (v := nI 1) hB dX7_hear_126 (by decide) ?_
        refine gI_isub hB dX7_hear_127 ?_
        refine gI_mmax hB (by decide +kernel) (by decide +kernel) (by decide +kernel) (by decide +kernel) (Nat.le_of_ble_eq_true rfl) (Nat.le_of_ble_eq_true rfl) (by first | exact Nat.le_of_ble_eq_true rfl | (dsimp only [gRm]; omega)) (by first | exact Nat.le_of_ble_eq_true rfl | (dsimp only [gRm]; omega)) dX7_hear_128 ?_
        refine gM_call (n9 := 3) (As := [.int (nI t), .int (nI 2), .int (if (nI 0) < ((((mHearB u t T).2 0) (7 * t + 2)) - (nI 1)) then ((((mHearB u t T).2 0) (7 * t + 2)) - (nI 1)) else (nI 0))]) (rest := []) hB hM hF (c_set X.2.1 h a (mHearB u t T) hM t 2 (if (nI 0) < ((((mHearB u t T).2 0) (7 * t + 2)) - (nI 1)) then ((((mHearB u t T).2 0) (7 * t + 2)) - (nI 1)) else (nI 0)) (by omega) (by omega)) (gCW.of ggX7_hear_X7_set rfl ⟨by decide, by decide, by decide +kernel⟩ ⟨Nat.le_of_ble_eq_true rfl, Nat.le_of_ble_eq_true rfl⟩) (by decide +kernel) (by decide +kernel) (by decide +kernel) (by decide +kernel) rfl rfl (Nat.le_of_ble_eq_true rfl) (by first | exact Nat.le_of_ble_eq_true rfl | (dsimp only [gRm]; omega)) (by first | exact Nat.le_of_ble_eq_true rfl | (dsimp only [gRm]; omega)) mSt.no dX7_hear_131 (fun v9 h u9 k9 n9 hM hF hp => ?_)
        obtain ⟨e9, rfl, rfl, rfl⟩ := hp
        cases e9
        change gW X h (0) (0) _ [(3, .int (-1)), (2, .int (nI t)), (0, .ref (a 0)), (1, .ref (a 5))] []
        refine gI_iload_n hB 0 dX7_hear_134 rfl ?_
        refine gI_iconst (v := (-1)) hB dX7_hear_135 (by decide) ?_
        refine gI_icmp_eq hB 143 dX7_hear_136 (by decide) (fun _ => ?_) (fun z => absurd (rfl) z)
        refine gI_iconst (v := nI 1) hB dX7_hear_143 (by decide) ?_
        refine gI_iret hB hE dX7_hear_144 ?_
        have ef : mHear u t T = (mTire (mHearB u t T) t, nI 1) := by
          unfold mHear; rw [if_neg c15_1, if_pos (show mHearS u t = -1 from eS)]
        rw [ef]
        exact ⟨_, hM, hF, rfl, rfl, hC.to rfl⟩
      · skip
        rw [mMany_of hm8 em] at hi
        skip
        rw [eS]
        refine gI_iload_n hB 0 dX7_hear_101 rfl ?_
        refine gI_iconst (v := (-1)) hB dX7_hear_102 (by decide) ?_
        refine gI_icmp_eq hB 116 dX7_hear_103 (by decide) (fun z => absurd z (nI_nm1 (by omega))) (fun _ => ?_)
        refine gI_aload_n hB 2 dX7_hear_106 rfl ?_
        refine gI_aload_n hB 3 dX7_hear_107 rfl ?_
        refine gI_iload_n hB 1 dX7_hear_108 rfl ?_
        refine gI_iload_n hB 0 dX7_hear_109 rfl ?_
        refine gI_pureS (n9 := 2) (As := [.int (nI t), .int (nI i)]) (rest := [.ref (a 5), .ref (a 0)]) hB (c_at X.2.1 h t i) (gCW.of ggX7_hear_X7_at rfl ⟨by decide, by decide, by decide +kernel⟩ ⟨Nat.le_of_ble_eq_true rfl, Nat.le_of_ble_eq_true rfl⟩) (Or.inl (by decide +kernel)) (by decide +kernel) (by decide +kernel) rfl rfl (Nat.le_of_ble_eq_true rfl) (by first | exact Nat.le_of_ble_eq_true rfl | (dsimp only [gRm]; omega)) (by first | exact Nat.le_of_ble_eq_true rfl | (dsimp only [gRm]; omega)) dX7_hear_110 ?_
        refine gM_call (n9 := 2) (As := [.ref (a 5), .int (nI (9 * (8 * t + i)))]) (rest := []) hB hM hF (c_follow X.2.1 h a (mHearA u t) hM (9 * (8 * t + i)) t T p W z et ht hT eT ep hp8 eW hW ez hz (by omega)) (gCW.of ggX7_hear_X7_follow rfl ⟨by decide, by decide, by decide +kernel⟩ ⟨Nat.le_of_ble_eq_true rfl, Nat.le_of_ble_eq_true rfl⟩) (by decide +kernel) (by decide +kernel) (by decide +kernel) (by decide +kernel) rfl rfl (Nat.le_of_ble_eq_true rfl) (by first | exact Nat.le_of_ble_eq_true rfl | (dsimp only [gRm]; omega)) (by first | exact Nat.le_of_ble_eq_true rfl | (dsimp only [gRm]; omega)) mStC.no dX7_hear_113 (fun v9 h u9 k9 n9 hM hF hp => ?_)
        obtain ⟨e9, rfl, hc9⟩ := hp
        cases e9
        have eB : mFollow (mHearA u t) (9 * (8 * t + i)) t T = mHearB u t T := by unfold mHearB; rw [if_neg (show ¬ mHearS u t = -1 from fun z9 => nI_nm1 (by omega) (eS.symm.trans z9)), show mHearS u t = nI i from eS, mCl (by omega)]
        have hC : mC u (mHearB u t T) (0 + k9) (0 + n9) := by rw [← eB, Nat.zero_add, Nat.zero_add]; exact hc9
        rw [eB] at hM
        have hkn : k9 ≤ 1 ∧ n9 ≤ 6 := mC.small (mHearB_z ez hz) hC
        refine gI_aload_n hB 2 dX7_hear_116 rfl ?_
        refine gI_iload_n hB 1 dX7_hear_117 rfl ?_
        refine gI_iconst (v := nI 2) hB dX7_hear_118 (by decide) ?_
        refine gI_iconst (v := nI 0) hB dX7_hear_119 (by decide) ?_
        refine gI_aload_n hB 2 dX7_hear_120 rfl ?_
        refine gI_iload_n hB 1 dX7_hear_121 rfl ?_
        refine gI_iconst (v := nI 2) hB dX7_hear_122 (by decide) ?_
        refine gM_pure (n9 := 2) (As := [.int (nI t), .int (nI 2)]) (rest := [.int (nI 0), .int (nI 2), .int (nI t), .ref (a 0)]) hB hM (c_get X.2.1 h a (mHearB u t T) hM t 2 (by omega) (by omega)) (gCW.of ggX7_hear_X7_get rfl ⟨by decide, by decide, by decide +kernel⟩ ⟨Nat.le_of_ble_eq_true rfl, Nat.le_of_ble_eq_true rfl⟩) (by decide +kernel) (by decide +kernel) (by decide +kernel) (by decide +kernel) rfl rfl (Nat.le_of_ble_eq_true rfl) (by first | exact Nat.le_of_ble_eq_true rfl | (dsimp only [gRm]; omega)) (by first | exact Nat.le_of_ble_eq_true rfl | (dsimp only [gRm]; omega)) dX7_hear_123 ?_
        refine gI_iconst (v := nI 1) hB dX7_hear_126 (by decide) ?_
        refine gI_isub hB dX7_hear_127 ?_
        refine gI_mmax hB (by decide +kernel) (by decide +kernel) (by decide +kernel) (by decide +kernel) (Nat.le_of_ble_eq_true rfl) (Nat.le_of_ble_eq_true rfl) (by first | exact Nat.le_of_ble_eq_true rfl | (dsimp only [gRm]; omega)) (by first | exact Nat.le_of_ble_eq_true rfl | (dsimp only [gRm]; omega)) dX7_hear_128 ?_
        refine gM_call (n9 := 3) (As := [.int (nI t), .int (nI 2), .int (if (nI 0) < ((((mHearB u t T).2 0) (7 * t + 2)) - (nI 1)) then ((((mHearB u t T).2 0) (7 * t + 2)) - (nI 1)) else (nI 0))]) (rest := []) hB hM hF (c_set X.2.1 h a (mHearB u t T) hM t 2 (if (nI 0) < ((((mHearB u t T).2 0) (7 * t + 2)) - (nI 1)) then ((((mHearB u t T).2 0) (7 * t + 2)) - (nI 1)) else (nI 0)) (by omega) (by omega)) (gCW.of ggX7_hear_X7_set rfl ⟨by decide, by decide, by decide +kernel⟩ ⟨Nat.le_of_ble_eq_true rfl, Nat.le_of_ble_eq_true rfl⟩) (by decide +kernel) (by decide +kernel) (by decide +kernel) (by decide +kernel) rfl rfl (Nat.le_of_ble_eq_true rfl) (by first | exact Nat.le_of_ble_eq_true rfl | (dsimp only [gRm]; omega)) (by first | exact Nat.le_of_ble_eq_true rfl | (dsimp only [gRm]; omega)) mSt.no dX7_hear_131 (fun v9 h u9 k9 n9 hM hF hp => ?_)
        obtain ⟨e9, rfl, rfl, rfl⟩ := hp
        cases e9
        change gW X h (0 + k9) (0 + n9) _ [(3, .int (nI i)), (2, .int (nI t)), (0, .ref (a 0)), (1, .ref (a 5))] []
        refine gI_iload_n hB 0 dX7_hear_134 rfl ?_
        refine gI_iconst (v := (-1)) hB dX7_hear_135 (by decide) ?_
        refine gI_icmp_eq hB 143 dX7_hear_136 (by decide) (fun z => absurd z (nI_nm1 (by omega))) (fun _ => ?_)
        refine gI_iconst (v := nI 0) hB dX7_hear_139 (by decide) ?_
        refine gI_goto hB 144 dX7_hear_140 (by decide) ?_
        refine gI_iret hB hE dX7_hear_144 ?_
        have ef : mHear u t T = (mTire (mHearB u t T) t, nI 0) := by
          unfold mHear; rw [if_neg c15_1, if_neg (show ¬ mHearS u t = -1 from fun z9 => nI_nm1 (by omega) (eS.symm.trans z9))]
        rw [ef]
        exact ⟨_, hM, hF, rfl, rfl, hC.to rfl⟩
  · skip
    refine gI_aload_n hB 1 dX7_hear_18 rfl ?_
    refine gI_dup hB dX7_hear_19 rfl ?_
    refine gM_get hB hM 9 (v := .int (u.1 9)) (by decide +kernel) (by decide) (by decide +kernel) rfl rfl dX7_hear_20 ?_
    refine gI_iconst (v := nI 1) hB dX7_hear_23 (by decide) ?_
    refine gI_iadd hB dX7_hear_24 ?_
    refine gM_put hB hM hF 9 (sg u 9 ((u.1 9) + (nI 1))) (by decide +kernel) (by decide) (by decide +kernel) rfl rfl rfl rfl rfl rfl dX7_hear_25 (fun h hM hF => ?_)
    refine gI_iconst (v := nI 2) hB dX7_hear_28 (by decide) ?_
    refine gI_iret hB hE dX7_hear_29 ?_
    have ef : mHear u t T = (sg u 9 (u.1 9 + nI 1), nI 2) := by
      unfold mHear; rw [if_pos c15_1]
    rw [ef]
    exact ⟨_, hM, hF, rfl, rfl, mC.rf ez hz rfl⟩
