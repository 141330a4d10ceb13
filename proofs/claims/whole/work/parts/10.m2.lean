/-- the hour of the tick that is now -/
def mHour (u : MS) : Int32 := u.1 1 / u.1 2 - u.1 1 / u.1 2 / nI 24 * nI 24
def mNew (note pat : Int32) : Nat → Int32 := upd (upd (upd (upd (upd (upd (upd (fun _ => 0) 0 note) 1 pat) 2 pat) 3 (nI 0)) 4 (nI 0)) 5 (nI 0)) 6 (-1)
def mMoveIn (u : MS) (note pat : Int32) : MS × Int32 :=
  if mIn note (nI 0) (nI 87) ∧ mIn pat (nI 0) (nI 9) then
    if u.1 3 = nI 16 then mErr u (nI 2)
    else (sg (sa (sg u 0 (nI 0)) 0 (va_cpy (mNew note pat) (u.2 0) 0 (7 * (u.1 3).toNatClampNeg) 7)) 3 (nI ((u.1 3).toNatClampNeg + 1)), u.1 3)
  else mErr u (nI 1)
def mSetHour (u : MS) (t : Int32) : MS × Int32 := if mIn t (nI 5) (nI 500) then (sg (sg u 0 (nI 0)) 2 t, u.1 2) else mErr u (nI 1)
def mMany (u : MS) (t : Nat) : Nat := (u.2 0 (7 * t + 3)).toNatClampNeg
def mHab0 (p : Int32) : Nat → Int32 := upd (upd (upd (upd (upd (upd (upd (upd (upd (fun _ => 0) 0 (nI 0)) 1 (nI 23)) 2 (nI 2)) 3 (nI 0)) 4 (nI 1)) 5 p) 6 (nI 1)) 7 (nI 0)) 8 (nI 0)
def mAddHabit (u : MS) (p : Int32) : MS × Int32 :=
  if mTen u p then
    if u.2 0 (7 * p.toNatClampNeg + 3) = nI 8 then mErr u (nI 2)
    else (sa (sa (sg u 0 (nI 0)) 1 (va_cpy (mHab0 p) (u.2 1) 0 (9 * (8 * p.toNatClampNeg + mMany u p.toNatClampNeg)) 9)) 0 (upd (u.2 0) (7 * p.toNatClampNeg + 3) (nI (mMany u p.toNatClampNeg + 1))), nI (mMany u p.toNatClampNeg + 1))
  else mErr u (nI 1)
def m4 (x y z w : Int32) : Nat → Int32 := upd (upd (upd (upd (fun _ => 0) 0 x) 1 y) 2 z) 3 w
def mJ (p q : Int32) : Nat := 9 * (8 * p.toNatClampNeg + q.toNatClampNeg)
def mSetWhen (u : MS) (p q x y z w : Int32) : MS × Int32 :=
  if mHab u p q then
    if mIn x (nI 0) (nI 23) ∧ mIn y (nI 0) (nI 23) ∧ mIn z (nI 0) (nI 2) ∧ mIn w (nI 0) (nI 9) then (sa (sg u 0 (nI 0)) 1 (va_cpy (m4 x y z w) (u.2 1) 0 (mJ p q) 4), u.2 1 (mJ p q + 2))
    else mErr u (nI 2)
  else mErr u (nI 1)
def mSetWhat (u : MS) (p q x y z w : Int32) : MS × Int32 :=
  if mHab u p q ∧ mTen u y then
    if mIn x (nI 0) (nI 5) ∧ mIn z (nI 1) (nI 99) ∧ mIn w (-12) (nI 12) then (sa (sg u 0 (nI 0)) 1 (va_cpy (m4 x y z w) (u.2 1) 0 (mJ p q + 4) 4), u.2 1 (mJ p q + 4))
    else mErr u (nI 2)
  else mErr u (nI 1)
def mDrop (u : MS) (p q : Int32) : MS × Int32 :=
  if mHab u p q then (sa (sa (sg u 0 (nI 0)) 1 (va_cpy (u.2 1) (u.2 1) (9 * (8 * p.toNatClampNeg + (q.toNatClampNeg + 1))) (mJ p q) (9 * (mMany u p.toNatClampNeg - 1 - q.toNatClampNeg)))) 0 (upd (u.2 0) (7 * p.toNatClampNeg + 3) (nI (mMany u p.toNatClampNeg - 1))), nI (mMany u p.toNatClampNeg - 1))
  else mErr u (nI 1)
def mTenant (u : MS) (p w : Int32) : MS × Int32 := if mTen u p ∧ mIn w (nI 0) (nI 5) then (sg u 0 (nI 0), u.2 0 (7 * p.toNatClampNeg + w.toNatClampNeg)) else mErr u (nI 1)
def mHabit (u : MS) (p q w : Int32) : MS × Int32 := if mHab u p q ∧ mIn w (nI 0) (nI 8) then (sg u 0 (nI 0), u.2 1 (mJ p q + w.toNatClampNeg)) else mErr u (nI 1)

set_option maxRecDepth 100000 in
set_option maxHeartbeats 4000000 in
theorem c_isHabit (G : gG) (h : gH) (a : Nat → Nat) (u : MS) (T : Nat) (hM : mRep G h a u) (hw : mW u T) (p q : Int32) : gMet yX7_isHabit wsX7_isHabit (gRm 3 0 0) G h [.ref (a 0), .int p, .int q] (gRet h (some (.int (gbi (mHab u p q))))) := by
  refine gMet_of (maxL := 3) (ret := (some .boolean)) (by decide) rfl (Nat.le_of_ble_eq_true rfl) ?_
  intro X hG hnL hB hE
  subst hG
  change gW X h 0 0 0 [(0, .ref (a 0)), (1, .int p), (2, .int q)] []
  refine gI_aload_n hB 0 dX7_isHabit_0 rfl ?_
  refine gI_iload_n hB 1 dX7_isHabit_1 rfl ?_
  refine gM_pure (n9 := 1) (As := [.int p]) (rest := []) hB hM (c_isTenant X.2.1 h a u hM p) (gCW.of ggX7_isHabit_X7_isTenant rfl ⟨by decide, by decide, by decide +kernel⟩ ⟨Nat.le_of_ble_eq_true rfl, Nat.le_of_ble_eq_true rfl⟩) (by decide +kernel) (by decide +kernel) (by decide +kernel) (by decide +kernel) rfl rfl (Nat.le_of_ble_eq_true rfl) (by first | exact Nat.le_of_ble_eq_true rfl | (dsimp only [gRm]; omega)) (by first | exact Nat.le_of_ble_eq_true rfl | (dsimp only [gRm]; omega)) dX7_isHabit_2 ?_
  refine gI_if_eq hB 28 dX7_isHabit_5 (by decide) (fun c5_1 => ?_) (fun c5_1 => ?_)
  · skip
    have c5_1 := gbi_0.mp c5_1
    refine gI_iconst (v := nI 0) hB dX7_isHabit_28 (by decide) ?_
    refine gI_zret hB hE (by decide) dX7_isHabit_29 ?_
    exact ⟨by rw [gbi_f (fun z => c5_1 z.1)]; try rfl, rfl, rfl, rfl⟩
  · skip
    have c5_1 := gbi_n0 c5_1
    obtain ⟨t, ht, et⟩ := mTen_of hw c5_1
    subst et
    have hT := hw.2.1
    refine gI_iload_n hB 2 dX7_isHabit_8 rfl ?_
    refine gI_iconst (v := nI 0) hB dX7_isHabit_9 (by decide) ?_
    refine gI_aload_n hB 0 dX7_isHabit_10 rfl ?_
    refine gI_iload_n hB 1 dX7_isHabit_11 rfl ?_
    refine gI_iconst (v := nI 3) hB dX7_isHabit_12 (by decide) ?_
    refine gM_pure (n9 := 2) (As := [.int (nI t), .int (nI 3)]) (rest := [.int (nI 0), .int q]) hB hM (c_get X.2.1 h a u hM t 3 (by omega) (by omega)) (gCW.of ggX7_isHabit_X7_get rfl ⟨by decide, by decide, by decide +kernel⟩ ⟨Nat.le_of_ble_eq_true rfl, Nat.le_of_ble_eq_true rfl⟩) (by decide +kernel) (by decide +kernel) (by decide +kernel) (by decide +kernel) rfl rfl (Nat.le_of_ble_eq_true rfl) (by first | exact Nat.le_of_ble_eq_true rfl | (dsimp only [gRm]; omega)) (by first | exact Nat.le_of_ble_eq_true rfl | (dsimp only [gRm]; omega)) dX7_isHabit_13 ?_
    refine gI_iconst (v := nI 1) hB dX7_isHabit_16 (by decide) ?_
    refine gI_isub hB dX7_isHabit_17 ?_
    refine gI_pureS (n9 := 3) (As := [.int q, .int (nI 0), .int ((u.2 0 (7 * t + 3)) - (nI 1))]) (rest := []) hB (c_isIn X.2.1 h q (nI 0) ((u.2 0 (7 * t + 3)) - (nI 1))) (gCW.of ggX7_isHabit_X7_isIn rfl ⟨by decide, by decide, by decide +kernel⟩ ⟨Nat.le_of_ble_eq_true rfl, Nat.le_of_ble_eq_true rfl⟩) (Or.inl (by decide +kernel)) (by decide +kernel) (by decide +kernel) rfl rfl (Nat.le_of_ble_eq_true rfl) (by first | exact Nat.le_of_ble_eq_true rfl | (dsimp only [gRm]; omega)) (by first | exact Nat.le_of_ble_eq_true rfl | (dsimp only [gRm]; omega)) dX7_isHabit_18 ?_
    refine gI_if_eq hB 28 dX7_isHabit_21 (by decide) (fun c21_2 => ?_) (fun c21_2 => ?_)
    · skip
      have c21_2 := gbi_0.mp c21_2
      refine gI_iconst (v := nI 0) hB dX7_isHabit_28 (by decide) ?_
      refine gI_zret hB hE (by decide) dX7_isHabit_29 ?_
      exact ⟨by rw [gbi_f (fun z => c21_2 (by have := z.2; rw [mCl (by omega)] at this; exact this))]; try rfl, rfl, rfl, rfl⟩
    · skip
      have c21_2 := gbi_n0 c21_2
      refine gI_iconst (v := nI 1) hB dX7_isHabit_24 (by decide) ?_
      refine gI_goto hB 29 dX7_isHabit_25 (by decide) ?_
      refine gI_zret hB hE (by decide) dX7_isHabit_29 ?_
      exact ⟨by rw [gbi_t (show mHab u (nI t) q from ⟨c5_1, by rw [mCl (by omega)]; exact c21_2⟩)]; try rfl, rfl, rfl, rfl⟩

set_option maxRecDepth 100000 in
set_option maxHeartbeats 4000000 in
theorem c_hour (G : gG) (h : gH) (a : Nat → Nat) (u : MS) (hM : mRep G h a u) (hne : ¬ u.1 2 = 0) : gMet yX7_hour wsX7_hour (gRm 1 0 0) G h [.ref (a 0)] (gRet h (some (.int (mHour u)))) := by
  refine gMet_of (maxL := 1) (ret := (some .int)) (by decide) rfl (Nat.le_of_ble_eq_true rfl) ?_
  intro X hG hnL hB hE
  subst hG
  change gW X h 0 0 0 [(0, .ref (a 0))] []
  refine gI_aload_n hB 0 dX7_hour_0 rfl ?_
  refine gM_get hB hM 1 (v := .int (u.1 1)) (by decide +kernel) (by decide) (by decide +kernel) rfl rfl dX7_hour_1 ?_
  refine gI_aload_n hB 0 dX7_hour_4 rfl ?_
  refine gM_get hB hM 2 (v := .int (u.1 2)) (by decide +kernel) (by decide) (by decide +kernel) rfl rfl dX7_hour_5 ?_
  refine gI_idiv hB dX7_hour_8 hne ?_
  refine gI_bipush (v := nI 24) hB dX7_hour_9 (by decide) ?_
  refine gI_irem hB dX7_hour_11 (by decide) ?_
  refine gI_iret hB hE dX7_hour_12 ?_
  exact gRet.rfl'

set_option maxRecDepth 100000 in
set_option maxHeartbeats 4000000 in
theorem c_moveIn (G : gG) (h : gH) (a : Nat → Nat) (u : MS) (T : Nat) (hM : mRep G h a u) (hw : mW u T) (note pat : Int32) : gMet yX7_moveIn wsX7_moveIn (gRm 2 1 7) G h [.ref (a 0), .int note, .int pat] (mPo G h a (mSp (mMoveIn u note pat) 1 7)) := by
  refine gMet_of (maxL := 4) (ret := (some .int)) (by decide) rfl (Nat.le_of_ble_eq_true rfl) ?_
  intro X hG hnL hB hE
  subst hG
  change gW X h 0 0 0 [(0, .ref (a 0)), (1, .int note), (2, .int pat)] []
  have hF : mFr h h := mFr.rf
  have hT := hw.2.1
  refine gI_aload_n hB 0 dX7_moveIn_0 rfl ?_
  refine gI_iconst (v := nI 0) hB dX7_moveIn_1 (by decide) ?_
  refine gM_put hB hM hF 0 (sg u 0 (nI 0)) (by decide +kernel) (by decide) (by decide +kernel) rfl rfl rfl rfl rfl rfl dX7_moveIn_2 (fun h hM hF => ?_)
  refine gI_iload_n hB 1 dX7_moveIn_5 rfl ?_
  refine gI_iconst (v := nI 0) hB dX7_moveIn_6 (by decide) ?_
  refine gI_bipush (v := nI 87) hB dX7_moveIn_7 (by decide) ?_
  refine gI_pureS (n9 := 3) (As := [.int note, .int (nI 0), .int (nI 87)]) (rest := []) hB (c_isIn X.2.1 h note (nI 0) (nI 87)) (gCW.of ggX7_moveIn_X7_isIn rfl ⟨by decide, by decide, by decide +kernel⟩ ⟨Nat.le_of_ble_eq_true rfl, Nat.le_of_ble_eq_true rfl⟩) (Or.inl (by decide +kernel)) (by decide +kernel) (by decide +kernel) rfl rfl (Nat.le_of_ble_eq_true rfl) (by first | exact Nat.le_of_ble_eq_true rfl | (dsimp only [gRm]; omega)) (by first | exact Nat.le_of_ble_eq_true rfl | (dsimp only [gRm]; omega)) dX7_moveIn_9 ?_
  refine gI_if_eq hB 25 dX7_moveIn_12 (by decide) (fun c12_1 => ?_) (fun c12_1 => ?_)
  · skip
    have c12_1 := gbi_0.mp c12_1
    refine gI_aload_n hB 0 dX7_moveIn_25 rfl ?_
    refine gI_iconst (v := nI 1) hB dX7_moveIn_26 (by decide) ?_
    refine gM_call (n9 := 1) (As := [.int (nI 1)]) (rest := []) hB hM hF (c_fail X.2.1 h a (sg u 0 (nI 0)) hM (nI 1)) (gCW.of ggX7_moveIn_X7_fail rfl ⟨by decide, by decide, by decide +kernel⟩ ⟨Nat.le_of_ble_eq_true rfl, Nat.le_of_ble_eq_true rfl⟩) (by decide +kernel) (by decide +kernel) (by decide +kernel) (by decide +kernel) rfl rfl (Nat.le_of_ble_eq_true rfl) (by first | exact Nat.le_of_ble_eq_true rfl | (dsimp only [gRm]; omega)) (by first | exact Nat.le_of_ble_eq_true rfl | (dsimp only [gRm]; omega)) mSt.no dX7_moveIn_27 (fun v9 h u9 k9 n9 hM hF hp => ?_)
    obtain ⟨e9, rfl, rfl, rfl⟩ := hp
    cases e9
    change gW X h (0) (0) _ _ (.int (nI 0) :: _)
    refine gI_iret hB hE dX7_moveIn_30 ?_
    refine ⟨_, hM, hF, ?_⟩
    have e9 : mMoveIn u note pat = ((sg (sg u 0 (nI 0)) 0 (nI 1)), (nI 0)) := by
      unfold mMoveIn; rw [if_neg (fun z => c12_1 z.1)]; try rfl
    rw [e9]
    exact ⟨rfl, rfl, by omega, by omega⟩
  · skip
    have c12_1 := gbi_n0 c12_1
    refine gI_iload_n hB 2 dX7_moveIn_15 rfl ?_
    refine gI_iconst (v := nI 0) hB dX7_moveIn_16 (by decide) ?_
    refine gI_bipush (v := nI 9) hB dX7_moveIn_17 (by decide) ?_
    refine gI_pureS (n9 := 3) (As := [.int pat, .int (nI 0), .int (nI 9)]) (rest := []) hB (c_isIn X.2.1 h pat (nI 0) (nI 9)) (gCW.of ggX7_moveIn_X7_isIn rfl ⟨by decide, by decide, by decide +kernel⟩ ⟨Nat.le_of_ble_eq_true rfl, Nat.le_of_ble_eq_true rfl⟩) (Or.inl (by decide +kernel)) (by decide +kernel) (by decide +kernel) rfl rfl (Nat.le_of_ble_eq_true rfl) (by first | exact Nat.le_of_ble_eq_true rfl | (dsimp only [gRm]; omega)) (by first | exact Nat.le_of_ble_eq_true rfl | (dsimp only [gRm]; omega)) dX7_moveIn_19 ?_
    refine gI_if_ne hB 31 dX7_moveIn_22 (by decide) (fun c22_2 => ?_) (fun c22_2 => ?_)
    · skip
      have c22_2 := gbi_n0 c22_2
      refine gI_aload_n hB 0 dX7_moveIn_31 rfl ?_
      refine gM_get hB hM 3 (v := .int (u.1 3)) (by decide +kernel) (by decide) (by decide +kernel) rfl rfl dX7_moveIn_32 ?_
      refine gI_topi hB (y := nI T) hw.1 ?_
      refine gI_bipush (v := nI 16) hB dX7_moveIn_35 (by decide) ?_
      refine gI_icmp_ne hB 46 dX7_moveIn_37 (by decide) (fun c37_3 => ?_) (fun c37_3 => ?_)
      · skip
        have c37_3 := mt (nI_eq (by omega) (by omega)).mpr c37_3
        refine gI_bipush (v := nI 7) hB dX7_moveIn_46 (by decide) ?_
        refine gM_new hB hM hF 7 rfl (by decide) (by decide +kernel) (by first | exact Nat.le_of_ble_eq_true rfl | (dsimp only [gRm]; omega)) (by first | exact Nat.le_of_ble_eq_true rfl | (dsimp only [gRm]; omega)) dX7_moveIn_48 (fun q4 h hM hF hq4 => ?_)
        refine gI_dup hB dX7_moveIn_50 rfl ?_
        refine gI_iconst (v := nI 0) hB dX7_moveIn_51 (by decide) ?_
        refine gI_iload_n hB 1 dX7_moveIn_52 rfl ?_
        refine gM_tast hB hM hF hq4 (by decide) 0 rfl (by decide) dX7_moveIn_53 (fun h hM hF hq4 => ?_)
        refine gI_dup hB dX7_moveIn_54 rfl ?_
        refine gI_iconst (v := nI 1) hB dX7_moveIn_55 (by decide) ?_
        refine gI_iload_n hB 2 dX7_moveIn_56 rfl ?_
        refine gM_tast hB hM hF hq4 (by decide) 1 rfl (by decide) dX7_moveIn_57 (fun h hM hF hq4 => ?_)
        refine gI_dup hB dX7_moveIn_58 rfl ?_
        refine gI_iconst (v := nI 2) hB dX7_moveIn_59 (by decide) ?_
        refine gI_iload_n hB 2 dX7_moveIn_60 rfl ?_
        refine gM_tast hB hM hF hq4 (by decide) 2 rfl (by decide) dX7_moveIn_61 (fun h hM hF hq4 => ?_)
        refine gI_dup hB dX7_moveIn_62 rfl ?_
        refine gI_iconst (v := nI 3) hB dX7_moveIn_63 (by decide) ?_
        refine gI_iconst (v := nI 0) hB dX7_moveIn_64 (by decide) ?_
        refine gM_tast hB hM hF hq4 (by decide) 3 rfl (by decide) dX7_moveIn_65 (fun h hM hF hq4 => ?_)
        refine gI_dup hB dX7_moveIn_66 rfl ?_
        refine gI_iconst (v := nI 4) hB dX7_moveIn_67 (by decide) ?_
        refine gI_iconst (v := nI 0) hB dX7_moveIn_68 (by decide) ?_
        refine gM_tast hB hM hF hq4 (by decide) 4 rfl (by decide) dX7_moveIn_69 (fun h hM hF hq4 => ?_)
        refine gI_dup hB dX7_moveIn_70 rfl ?_
        refine gI_iconst (v := nI 5) hB dX7_moveIn_71 (by decide) ?_
        refine gI_iconst (v := nI 0) hB dX7_moveIn_72 (by decide) ?_
        refine gM_tast hB hM hF hq4 (by decide) 5 rfl (by decide) dX7_moveIn_73 (fun h hM hF hq4 => ?_)
        refine gI_dup hB dX7_moveIn_74 rfl ?_
        refine gI_bipush (v := nI 6) hB dX7_moveIn_75 (by decide) ?_
        refine gI_iconst (v := (-1)) hB dX7_moveIn_77 (by decide) ?_
        refine gM_tast hB hM hF hq4 (by decide) 6 rfl (by decide) dX7_moveIn_78 (fun h hM hF hq4 => ?_)
        refine gI_astore_n hB ([(3, .ref q4), (0, .ref (a 0)), (1, .int note), (2, .int pat)]) hnL dX7_moveIn_79 (by decide) rfl ?_
        refine gI_aload_n hB 0 dX7_moveIn_80 rfl ?_
        refine gI_iconst (v := nI 0) hB dX7_moveIn_81 (by decide) ?_
        refine gI_aload_n hB 1 dX7_moveIn_82 rfl ?_
        refine gM_get hB hM 4 (v := .ref (a 1)) (by decide +kernel) (by decide) (by decide +kernel) rfl rfl dX7_moveIn_83 ?_
        refine gI_bipush (v := nI 7) hB dX7_moveIn_86 (by decide) ?_
        refine gI_aload_n hB 1 dX7_moveIn_88 rfl ?_
        refine gM_get hB hM 3 (v := .int (u.1 3)) (by decide +kernel) (by decide) (by decide +kernel) rfl rfl dX7_moveIn_89 ?_
        refine gI_topi hB (y := nI T) hw.1 ?_
        refine gI_imulN hB dX7_moveIn_92 ?_
        refine gI_bipush (v := nI 7) hB dX7_moveIn_93 (by decide) ?_
        refine gM_copyT hB hM hF 0 (by decide) hq4 (by decide) 0 (7 * T) 7 rfl rfl rfl (by decide +kernel) (by decide +kernel) (by decide +kernel) (by decide +kernel) (show 0 + 7 ≤ 7 by omega) (show (7 * T) + 7 ≤ 112 by omega) (Nat.le_of_ble_eq_true rfl) (Nat.le_of_ble_eq_true rfl) dX7_moveIn_95 (fun h hM hF => ?_)
        refine gI_aload_n hB 1 dX7_moveIn_98 rfl ?_
        refine gI_dup hB dX7_moveIn_99 rfl ?_
        refine gM_get hB hM 3 (v := .int (u.1 3)) (by decide +kernel) (by decide) (by decide +kernel) rfl rfl dX7_moveIn_100 ?_
        refine gI_topi hB (y := nI T) hw.1 ?_
        refine gI_iconst (v := nI 1) hB dX7_moveIn_103 (by decide) ?_
        refine gI_iaddN hB dX7_moveIn_104 ?_
        refine gM_put hB hM hF 3 (sg (sa (sg u 0 (nI 0)) 0 (va_cpy (upd (upd (upd (upd (upd (upd (upd (fun _ => 0) 0 note) 1 pat) 2 pat) 3 (nI 0)) 4 (nI 0)) 5 (nI 0)) 6 (-1)) (u.2 0) 0 (7 * T) 7)) 3 (nI (T + 1))) (by decide +kernel) (by decide) (by decide +kernel) rfl rfl rfl rfl rfl rfl dX7_moveIn_105 (fun h hM hF => ?_)
        refine gI_aload_n hB 1 dX7_moveIn_108 rfl ?_
        refine gM_get hB hM 3 (v := .int ((nI (T + 1)))) (by decide +kernel) (by decide) (by decide +kernel) rfl rfl dX7_moveIn_109 ?_
        refine gI_iconst (v := nI 1) hB dX7_moveIn_112 (by decide) ?_
        refine gI_isubN hB (by omega) dX7_moveIn_113 ?_
        refine gI_iret hB hE dX7_moveIn_114 ?_
        refine ⟨_, hM, hF, ?_⟩
        have e9 : mMoveIn u note pat = ((sg (sa (sg u 0 (nI 0)) 0 (va_cpy (upd (upd (upd (upd (upd (upd (upd (fun _ => 0) 0 note) 1 pat) 2 pat) 3 (nI 0)) 4 (nI 0)) 5 (nI 0)) 6 (-1)) (u.2 0) 0 (7 * T) 7)) 3 (nI (T + 1))), (nI ((T + 1) - 1))) := by
          unfold mMoveIn; rw [if_pos ⟨c12_1, c22_2⟩, if_neg (by rw [hw.1]; exact fun z => c37_3 ((nI_eq (by omega) (by omega)).mp z)), hw.1, mCl (by omega)]; try rfl
        rw [e9]
        exact ⟨rfl, rfl, by omega, by omega⟩
      · skip
        have c37_3 := (nI_eq (by omega) (by omega)).mp c37_3
        refine gI_aload_n hB 0 dX7_moveIn_40 rfl ?_
        refine gI_iconst (v := nI 2) hB dX7_moveIn_41 (by decide) ?_
        refine gM_call (n9 := 1) (As := [.int (nI 2)]) (rest := []) hB hM hF (c_fail X.2.1 h a (sg u 0 (nI 0)) hM (nI 2)) (gCW.of ggX7_moveIn_X7_fail rfl ⟨by decide, by decide, by decide +kernel⟩ ⟨Nat.le_of_ble_eq_true rfl, Nat.le_of_ble_eq_true rfl⟩) (by decide +kernel) (by decide +kernel) (by decide +kernel) (by decide +kernel) rfl rfl (Nat.le_of_ble_eq_true rfl) (by first | exact Nat.le_of_ble_eq_true rfl | (dsimp only [gRm]; omega)) (by first | exact Nat.le_of_ble_eq_true rfl | (dsimp only [gRm]; omega)) mSt.no dX7_moveIn_42 (fun v9 h u9 k9 n9 hM hF hp => ?_)
        obtain ⟨e9, rfl, rfl, rfl⟩ := hp
        cases e9
        change gW X h (0) (0) _ _ (.int (nI 0) :: _)
        refine gI_iret hB hE dX7_moveIn_45 ?_
        refine ⟨_, hM, hF, ?_⟩
        have e9 : mMoveIn u note pat = ((sg (sg u 0 (nI 0)) 0 (nI 2)), (nI 0)) := by
          unfold mMoveIn; rw [if_pos ⟨c12_1, c22_2⟩, if_pos (hw.1.trans (congrArg nI c37_3))]; try rfl
        rw [e9]
        exact ⟨rfl, rfl, by omega, by omega⟩
    · skip
      have c22_2 := gbi_0.mp c22_2
      refine gI_aload_n hB 0 dX7_moveIn_25 rfl ?_
      refine gI_iconst (v := nI 1) hB dX7_moveIn_26 (by decide) ?_
      refine gM_call (n9 := 1) (As := [.int (nI 1)]) (rest := []) hB hM hF (c_fail X.2.1 h a (sg u 0 (nI 0)) hM (nI 1)) (gCW.of ggX7_moveIn_X7_fail rfl ⟨by decide, by decide, by decide +kernel⟩ ⟨Nat.le_of_ble_eq_true rfl, Nat.le_of_ble_eq_true rfl⟩) (by decide +kernel) (by decide +kernel) (by decide +kernel) (by decide +kernel) rfl rfl (Nat.le_of_ble_eq_true rfl) (by first | exact Nat.le_of_ble_eq_true rfl | (dsimp only [gRm]; omega)) (by first | exact Nat.le_of_ble_eq_true rfl | (dsimp only [gRm]; omega)) mSt.no dX7_moveIn_27 (fun v9 h u9 k9 n9 hM hF hp => ?_)
      obtain ⟨e9, rfl, rfl, rfl⟩ := hp
      cases e9
      change gW X h (0) (0) _ _ (.int (nI 0) :: _)
      refine gI_iret hB hE dX7_moveIn_30 ?_
      refine ⟨_, hM, hF, ?_⟩
      have e9 : mMoveIn u note pat = ((sg (sg u 0 (nI 0)) 0 (nI 1)), (nI 0)) := by
        unfold mMoveIn; rw [if_neg (fun z => c22_2 z.2)]; try rfl
      rw [e9]
      exact ⟨rfl, rfl, by omega, by omega⟩

set_option maxRecDepth 100000 in
set_option maxHeartbeats 4000000 in
theorem c_setHour (G : gG) (h : gH) (a : Nat → Nat) (u : MS) (hM : mRep G h a u) (t : Int32) : gMet yX7_setHour wsX7_setHour (gRm 2 0 0) G h [.ref (a 0), .int t] (mPo G h a (mSp (mSetHour u t) 0 0)) := by
  refine gMet_of (maxL := 3) (ret := (some .int)) (by decide) rfl (Nat.le_of_ble_eq_true rfl) ?_
  intro X hG hnL hB hE
  subst hG
  change gW X h 0 0 0 [(0, .ref (a 0)), (1, .int t)] []
  have hF : mFr h h := mFr.rf
  refine gI_aload_n hB 0 dX7_setHour_0 rfl ?_
  refine gI_iconst (v := nI 0) hB dX7_setHour_1 (by decide) ?_
  refine gM_put hB hM hF 0 (sg u 0 (nI 0)) (by decide +kernel) (by decide) (by decide +kernel) rfl rfl rfl rfl rfl rfl dX7_setHour_2 (fun h hM hF => ?_)
  refine gI_iload_n hB 1 dX7_setHour_5 rfl ?_
  refine gI_iconst (v := nI 5) hB dX7_setHour_6 (by decide) ?_
  refine gI_sipush (v := nI 500) hB dX7_setHour_7 (by decide) ?_
  refine gI_pureS (n9 := 3) (As := [.int t, .int (nI 5), .int (nI 500)]) (rest := []) hB (c_isIn X.2.1 h t (nI 5) (nI 500)) (gCW.of ggX7_setHour_X7_isIn rfl ⟨by decide, by decide, by decide +kernel⟩ ⟨Nat.le_of_ble_eq_true rfl, Nat.le_of_ble_eq_true rfl⟩) (Or.inl (by decide +kernel)) (by decide +kernel) (by decide +kernel) rfl rfl (Nat.le_of_ble_eq_true rfl) (by first | exact Nat.le_of_ble_eq_true rfl | (dsimp only [gRm]; omega)) (by first | exact Nat.le_of_ble_eq_true rfl | (dsimp only [gRm]; omega)) dX7_setHour_10 ?_
  refine gI_if_ne hB 22 dX7_setHour_13 (by decide) (fun c13_1 => ?_) (fun c13_1 => ?_)
  · skip
    have c13_1 := gbi_n0 c13_1
    refine gI_aload_n hB 0 dX7_setHour_22 rfl ?_
    refine gM_get hB hM 2 (v := .int (u.1 2)) (by decide +kernel) (by decide) (by decide +kernel) rfl rfl dX7_setHour_23 ?_
    refine gI_istore_n hB ([(2, .int (u.1 2)), (0, .ref (a 0)), (1, .int t)]) hnL dX7_setHour_26 (by decide) rfl ?_
    refine gI_aload_n hB 1 dX7_setHour_27 rfl ?_
    refine gI_iload_n hB 2 dX7_setHour_28 rfl ?_
    refine gM_put hB hM hF 2 (sg (sg u 0 (nI 0)) 2 t) (by decide +kernel) (by decide) (by decide +kernel) rfl rfl rfl rfl rfl rfl dX7_setHour_29 (fun h hM hF => ?_)
    refine gI_iload_n hB 0 dX7_setHour_32 rfl ?_
    refine gI_iret hB hE dX7_setHour_33 ?_
    refine ⟨_, hM, hF, ?_⟩
    have e9 : mSetHour u t = ((sg (sg u 0 (nI 0)) 2 t), (u.1 2)) := by
      unfold mSetHour; rw [if_pos c13_1]; try rfl
    rw [e9]
    exact ⟨rfl, rfl, by omega, by omega⟩
  · skip
    have c13_1 := gbi_0.mp c13_1
    refine gI_aload_n hB 0 dX7_setHour_16 rfl ?_
    refine gI_iconst (v := nI 1) hB dX7_setHour_17 (by decide) ?_
    refine gM_call (n9 := 1) (As := [.int (nI 1)]) (rest := []) hB hM hF (c_fail X.2.1 h a (sg u 0 (nI 0)) hM (nI 1)) (gCW.of ggX7_setHour_X7_fail rfl ⟨by decide, by decide, by decide +kernel⟩ ⟨Nat.le_of_ble_eq_true rfl, Nat.le_of_ble_eq_true rfl⟩) (by decide +kernel) (by decide +kernel) (by decide +kernel) (by decide +kernel) rfl rfl (Nat.le_of_ble_eq_true rfl) (by first | exact Nat.le_of_ble_eq_true rfl | (dsimp only [gRm]; omega)) (by first | exact Nat.le_of_ble_eq_true rfl | (dsimp only [gRm]; omega)) mSt.no dX7_setHour_18 (fun v9 h u9 k9 n9 hM hF hp => ?_)
    obtain ⟨e9, rfl, rfl, rfl⟩ := hp
    cases e9
    change gW X h (0) (0) _ _ (.int (nI 0) :: _)
    refine gI_iret hB hE dX7_setHour_21 ?_
    refine ⟨_, hM, hF, ?_⟩
    have e9 : mSetHour u t = ((sg (sg u 0 (nI 0)) 0 (nI 1)), (nI 0)) := by
      unfold mSetHour; rw [if_neg c13_1]; try rfl
    rw [e9]
    exact ⟨rfl, rfl, by omega, by omega⟩
