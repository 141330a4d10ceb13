theorem mFitL_sg (u : MS) (i : Nat) (v : Int32) (t : Nat) (s x : Int32) : ∀ r j, mFitL (sg u i v) t s x r j = mFitL u t s x r j
  | 0, _ => rfl
  | r + 1, j => by
    unfold mFitL
    rw [mFitL_sg u i v t s x r (j + 1)]
    rfl
theorem mFit_sg (u : MS) (i : Nat) (v : Int32) (t : Nat) (s x : Int32) : mFit (sg u i v) t s x = mFit u t s x := mFitL_sg u i v t s x _ _
def mCnt (u : MS) (i : Nat) : Int32 := match i with
  | 0 => u.1 1
  | 1 => mHour u
  | 2 => u.1 3
  | 3 => u.1 6
  | 4 => u.1 8
  | 5 => u.1 9
  | 6 => u.1 10
  | 7 => u.1 11
  | _ => u.1 2
def mCount (u : MS) (p : Int32) : MS × Int32 := if mIn p (nI 0) (nI 8) then (sg u 0 (nI 0), mCnt u p.toNatClampNeg) else mErr u (nI 1)
def mWaiting (u : MS) (p q : Int32) : MS × Int32 := if mIn p (nI 0) (u.1 6 - nI 1) ∧ mIn q (nI 0) (nI 4) then (sg u 0 (nI 0), u.2 2 (14 * p.toNatClampNeg + q.toNatClampNeg)) else mErr u (nI 1)
def mFitsC (u : MS) (p s x : Int32) : MS × Int32 := if mTen u p then (if mIn s (nI 0) (nI 1) ∧ mIn x (nI 0) (nI 23) then (sg u 0 (nI 0), mFit u p.toNatClampNeg s x) else mErr u (nI 2)) else mErr u (nI 1)
def mSung (u : MS) (p q : Int32) : MS × Int32 := if mIn p (nI 0) (u.1 12 - nI 1) ∧ mIn q (nI 0) (nI 5) then (sg u 0 (nI 0), u.2 3 (15 * p.toNatClampNeg + q.toNatClampNeg)) else mErr u (nI 1)
def mThrough (u : MS) (p q : Int32) : MS × Int32 := if mIn p (nI 0) (u.1 12 - nI 1) ∧ mIn q (nI 0) (u.2 3 (15 * p.toNatClampNeg + 4)) then (sg u 0 (nI 0), u.2 3 (15 * p.toNatClampNeg + 6 + q.toNatClampNeg)) else mErr u (nI 1)
abbrev mSnd (u : MS) (n : Nat) (x : Int32) : Prop := u.2 3 (15 * n) ≤ x ∧ x - u.2 3 (15 * n) < u.2 3 (15 * n + 1)
def mPair (x y : Int32) : Int32 :=
  if ((if 0 ≤ x - y then x - y else 0 - (x - y)) - (if 0 ≤ x - y then x - y else 0 - (x - y)) / nI 12 * nI 12) = 0 ∨ mIn ((if 0 ≤ x - y then x - y else 0 - (x - y)) - (if 0 ≤ x - y then x - y else 0 - (x - y)) / nI 12 * nI 12) (nI 3) (nI 5) ∨ mIn ((if 0 ≤ x - y then x - y else 0 - (x - y)) - (if 0 ≤ x - y then x - y else 0 - (x - y)) / nI 12 * nI 12) (nI 7) (nI 9) then nI 1 else -1
def mHarB (u : MS) (x : Int32) (a : Nat) : Nat → Int32
  | 0 => 0
  | b + 1 => mHarB u x a b + if mSnd u b x then mPair (u.2 3 (15 * a + 2)) (u.2 3 (15 * b + 2)) else 0
def mHarA (u : MS) (x : Int32) : Nat → Int32
  | 0 => 0
  | a + 1 => mHarA u x a + if mSnd u a x then mHarB u x a a else 0

set_option maxRecDepth 100000 in
set_option maxHeartbeats 4000000 in
theorem c_counted (G : gG) (h : gH) (a : Nat → Nat) (u : MS) (T W z : Nat) (hM : mRep G h a u) (o : mOk u T W z) (i : Nat) (hi : i ≤ 8) : gMet yX7_counted wsX7_counted (gRm 2 0 0) G h [.ref (a 0), .int (nI i)] (gRet h (some (.int (mCnt u i)))) := by
  refine gMet_of (maxL := 2) (ret := (some .int)) (by decide) rfl (Nat.le_of_ble_eq_true rfl) ?_
  intro X hG hnL hB hE
  subst hG
  change gW X h 0 0 0 [(0, .ref (a 0)), (1, .int (nI i))] []
  refine gI_iload_n hB 1 dX7_counted_0 rfl ?_
  rcases (show i = 0 ∨ i = 1 ∨ i = 2 ∨ i = 3 ∨ i = 4 ∨ i = 5 ∨ i = 6 ∨ i = 7 ∨ i = 8 by omega) with rfl | rfl | rfl | rfl | rfl | rfl | rfl | rfl | rfl
  · skip
    refine gI_tableIn hB 48 dX7_counted_1 (by decide) (by decide) rfl (by decide) ?_
    refine gI_aload_n hB 0 dX7_counted_48 rfl ?_
    refine gM_get hB hM 1 (v := .int (u.1 1)) (by decide +kernel) (by decide) (by decide +kernel) rfl rfl dX7_counted_49 ?_
    refine gI_iret hB hE dX7_counted_52 ?_
    exact gRet.rfl'
  · skip
    refine gI_tableIn hB 53 dX7_counted_1 (by decide) (by decide) rfl (by decide) ?_
    refine gI_aload_n hB 0 dX7_counted_53 rfl ?_
    refine gM_pure (n9 := 0) (As := []) (rest := []) hB hM (c_hour X.2.1 h a u hM o.hour) (gCW.of ggX7_counted_X7_hour rfl ⟨by decide, by decide, by decide +kernel⟩ ⟨Nat.le_of_ble_eq_true rfl, Nat.le_of_ble_eq_true rfl⟩) (by decide +kernel) (by decide +kernel) (by decide +kernel) (by decide +kernel) rfl rfl (Nat.le_of_ble_eq_true rfl) (by first | exact Nat.le_of_ble_eq_true rfl | (dsimp only [gRm]; omega)) (by first | exact Nat.le_of_ble_eq_true rfl | (dsimp only [gRm]; omega)) dX7_counted_54 ?_
    refine gI_iret hB hE dX7_counted_57 ?_
    exact gRet.rfl'
  · skip
    refine gI_tableIn hB 58 dX7_counted_1 (by decide) (by decide) rfl (by decide) ?_
    refine gI_aload_n hB 0 dX7_counted_58 rfl ?_
    refine gM_get hB hM 3 (v := .int (u.1 3)) (by decide +kernel) (by decide) (by decide +kernel) rfl rfl dX7_counted_59 ?_
    refine gI_iret hB hE dX7_counted_62 ?_
    exact gRet.rfl'
  · skip
    refine gI_tableIn hB 63 dX7_counted_1 (by decide) (by decide) rfl (by decide) ?_
    refine gI_aload_n hB 0 dX7_counted_63 rfl ?_
    refine gM_get hB hM 6 (v := .int (u.1 6)) (by decide +kernel) (by decide) (by decide +kernel) rfl rfl dX7_counted_64 ?_
    refine gI_iret hB hE dX7_counted_67 ?_
    exact gRet.rfl'
  · skip
    refine gI_tableIn hB 68 dX7_counted_1 (by decide) (by decide) rfl (by decide) ?_
    refine gI_aload_n hB 0 dX7_counted_68 rfl ?_
    refine gM_get hB hM 8 (v := .int (u.1 8)) (by decide +kernel) (by decide) (by decide +kernel) rfl rfl dX7_counted_69 ?_
    refine gI_iret hB hE dX7_counted_72 ?_
    exact gRet.rfl'
  · skip
    refine gI_tableIn hB 73 dX7_counted_1 (by decide) (by decide) rfl (by decide) ?_
    refine gI_aload_n hB 0 dX7_counted_73 rfl ?_
    refine gM_get hB hM 9 (v := .int (u.1 9)) (by decide +kernel) (by decide) (by decide +kernel) rfl rfl dX7_counted_74 ?_
    refine gI_iret hB hE dX7_counted_77 ?_
    exact gRet.rfl'
  · skip
    refine gI_tableIn hB 78 dX7_counted_1 (by decide) (by decide) rfl (by decide) ?_
    refine gI_aload_n hB 0 dX7_counted_78 rfl ?_
    refine gM_get hB hM 10 (v := .int (u.1 10)) (by decide +kernel) (by decide) (by decide +kernel) rfl rfl dX7_counted_79 ?_
    refine gI_iret hB hE dX7_counted_82 ?_
    exact gRet.rfl'
  · skip
    refine gI_tableIn hB 83 dX7_counted_1 (by decide) (by decide) rfl (by decide) ?_
    refine gI_aload_n hB 0 dX7_counted_83 rfl ?_
    refine gM_get hB hM 11 (v := .int (u.1 11)) (by decide +kernel) (by decide) (by decide +kernel) rfl rfl dX7_counted_84 ?_
    refine gI_iret hB hE dX7_counted_87 ?_
    exact gRet.rfl'
  · skip
    refine gI_tableOut hB 88 dX7_counted_1 (by decide) (by decide) ?_
    refine gI_aload_n hB 0 dX7_counted_88 rfl ?_
    refine gM_get hB hM 2 (v := .int (u.1 2)) (by decide +kernel) (by decide) (by decide +kernel) rfl rfl dX7_counted_89 ?_
    refine gI_iret hB hE dX7_counted_92 ?_
    exact gRet.rfl'

set_option maxRecDepth 100000 in
set_option maxHeartbeats 4000000 in
theorem c_count (G : gG) (h : gH) (a : Nat → Nat) (u : MS) (T W z : Nat) (hM : mRep G h a u) (o : mOk u T W z) (p : Int32) : gMet yX7_count wsX7_count (gRm 3 0 0) G h [.ref (a 0), .int p] (mPo G h a (mSp (mCount u p) 0 0)) := by
  refine gMet_of (maxL := 2) (ret := (some .int)) (by decide) rfl (Nat.le_of_ble_eq_true rfl) ?_
  intro X hG hnL hB hE
  subst hG
  change gW X h 0 0 0 [(0, .ref (a 0)), (1, .int p)] []
  have hF : mFr h h := mFr.rf
  have hw := o.W
  have hT := o.2.1
  have hW60 := o.2.2.2.1
  have hz200 := o.2.2.2.2.2.1
  have ez := o.2.2.2.2.1
  have eW := o.2.2.1
  refine gI_aload_n hB 0 dX7_count_0 rfl ?_
  refine gI_iconst (v := nI 0) hB dX7_count_1 (by decide) ?_
  refine gM_put hB hM hF 0 (sg u 0 (nI 0)) (by decide +kernel) (by decide) (by decide +kernel) rfl rfl rfl rfl rfl rfl dX7_count_2 (fun h hM hF => ?_)
  refine gI_iload_n hB 1 dX7_count_5 rfl ?_
  refine gI_iconst (v := nI 0) hB dX7_count_6 (by decide) ?_
  refine gI_bipush (v := nI 8) hB dX7_count_7 (by decide) ?_
  refine gI_pureS (n9 := 3) (As := [.int p, .int (nI 0), .int (nI 8)]) (rest := []) hB (c_isIn X.2.1 h p (nI 0) (nI 8)) (gCW.of ggX7_count_X7_isIn rfl ⟨by decide, by decide, by decide +kernel⟩ ⟨Nat.le_of_ble_eq_true rfl, Nat.le_of_ble_eq_true rfl⟩) (Or.inl (by decide +kernel)) (by decide +kernel) (by decide +kernel) rfl rfl (Nat.le_of_ble_eq_true rfl) (by first | exact Nat.le_of_ble_eq_true rfl | (dsimp only [gRm]; omega)) (by first | exact Nat.le_of_ble_eq_true rfl | (dsimp only [gRm]; omega)) dX7_count_9 ?_
  refine gI_if_eq hB 23 dX7_count_12 (by decide) (fun c12_1 => ?_) (fun c12_1 => ?_)
  · skip
    have c12_1 := gbi_0.mp c12_1
    refine gI_aload_n hB 0 dX7_count_23 rfl ?_
    refine gI_iconst (v := nI 1) hB dX7_count_24 (by decide) ?_
    refine gM_call (n9 := 1) (As := [.int (nI 1)]) (rest := []) hB hM hF (c_fail X.2.1 h a (sg u 0 (nI 0)) hM (nI 1)) (gCW.of ggX7_count_X7_fail rfl ⟨by decide, by decide, by decide +kernel⟩ ⟨Nat.le_of_ble_eq_true rfl, Nat.le_of_ble_eq_true rfl⟩) (by decide +kernel) (by decide +kernel) (by decide +kernel) (by decide +kernel) rfl rfl (Nat.le_of_ble_eq_true rfl) (by first | exact Nat.le_of_ble_eq_true rfl | (dsimp only [gRm]; omega)) (by first | exact Nat.le_of_ble_eq_true rfl | (dsimp only [gRm]; omega)) mSt.no dX7_count_25 (fun v9 h u9 k9 n9 hM hF hp => ?_)
    obtain ⟨e9, rfl, rfl, rfl⟩ := hp
    cases e9
    change gW X h (0) (0) _ _ (.int (nI 0) :: _)
    refine gI_iret hB hE dX7_count_28 ?_
    refine ⟨_, hM, hF, ?_⟩
    have e9 : mCount u p = ((sg (sg u 0 (nI 0)) 0 (nI 1)), (nI 0)) := by
      unfold mCount; rw [if_neg c12_1]; try rfl
    rw [e9]
    exact ⟨rfl, rfl, by omega, by omega⟩
  · skip
    have c12_1 := gbi_n0 c12_1
    have hh := c12_1
    obtain ⟨i, hi, ei⟩ := mIn_lit (by omega) c12_1
    subst ei
    refine gI_aload_n hB 0 dX7_count_15 rfl ?_
    refine gI_iload_n hB 1 dX7_count_16 rfl ?_
    refine gM_pure (n9 := 1) (As := [.int (nI i)]) (rest := []) hB hM (c_counted X.2.1 h a (sg u 0 (nI 0)) T W z hM (o.tab rfl rfl rfl rfl (fun _ _ ot => ot) rfl rfl) i (by omega)) (gCW.of ggX7_count_X7_counted rfl ⟨by decide, by decide, by decide +kernel⟩ ⟨Nat.le_of_ble_eq_true rfl, Nat.le_of_ble_eq_true rfl⟩) (by decide +kernel) (by decide +kernel) (by decide +kernel) (by decide +kernel) rfl rfl (Nat.le_of_ble_eq_true rfl) (by first | exact Nat.le_of_ble_eq_true rfl | (dsimp only [gRm]; omega)) (by first | exact Nat.le_of_ble_eq_true rfl | (dsimp only [gRm]; omega)) dX7_count_17 ?_
    refine gI_goto hB 28 dX7_count_20 (by decide) ?_
    refine gI_iret hB hE dX7_count_28 ?_
    refine ⟨_, hM, hF, ?_⟩
    have e9 : mCount u (nI i) = ((sg u 0 (nI 0)), (mCnt (sg u 0 (nI 0)) i)) := by
      unfold mCount; rw [if_pos hh, mCl (by omega)]; try rfl
    rw [e9]
    exact ⟨rfl, rfl, by omega, by omega⟩

set_option maxRecDepth 100000 in
set_option maxHeartbeats 4000000 in
theorem c_waiting (G : gG) (h : gH) (a : Nat → Nat) (u : MS) (T W z : Nat) (hM : mRep G h a u) (o : mOk u T W z) (p q : Int32) : gMet yX7_waiting wsX7_waiting (gRm 2 0 0) G h [.ref (a 0), .int p, .int q] (mPo G h a (mSp (mWaiting u p q) 0 0)) := by
  refine gMet_of (maxL := 3) (ret := (some .int)) (by decide) rfl (Nat.le_of_ble_eq_true rfl) ?_
  intro X hG hnL hB hE
  subst hG
  change gW X h 0 0 0 [(0, .ref (a 0)), (1, .int p), (2, .int q)] []
  have hF : mFr h h := mFr.rf
  have hw := o.W
  have hT := o.2.1
  have hW60 := o.2.2.2.1
  have hz200 := o.2.2.2.2.2.1
  have ez := o.2.2.2.2.1
  have eW := o.2.2.1
  refine gI_aload_n hB 0 dX7_waiting_0 rfl ?_
  refine gI_iconst (v := nI 0) hB dX7_waiting_1 (by decide) ?_
  refine gM_put hB hM hF 0 (sg u 0 (nI 0)) (by decide +kernel) (by decide) (by decide +kernel) rfl rfl rfl rfl rfl rfl dX7_waiting_2 (fun h hM hF => ?_)
  refine gI_iload_n hB 1 dX7_waiting_5 rfl ?_
  refine gI_iconst (v := nI 0) hB dX7_waiting_6 (by decide) ?_
  refine gI_aload_n hB 0 dX7_waiting_7 rfl ?_
  refine gM_get hB hM 6 (v := .int (u.1 6)) (by decide +kernel) (by decide) (by decide +kernel) rfl rfl dX7_waiting_8 ?_
  refine gI_iconst (v := nI 1) hB dX7_waiting_11 (by decide) ?_
  refine gI_isub hB dX7_waiting_12 ?_
  refine gI_pureS (n9 := 3) (As := [.int p, .int (nI 0), .int ((u.1 6) - (nI 1))]) (rest := []) hB (c_isIn X.2.1 h p (nI 0) ((u.1 6) - (nI 1))) (gCW.of ggX7_waiting_X7_isIn rfl ⟨by decide, by decide, by decide +kernel⟩ ⟨Nat.le_of_ble_eq_true rfl, Nat.le_of_ble_eq_true rfl⟩) (Or.inl (by decide +kernel)) (by decide +kernel) (by decide +kernel) rfl rfl (Nat.le_of_ble_eq_true rfl) (by first | exact Nat.le_of_ble_eq_true rfl | (dsimp only [gRm]; omega)) (by first | exact Nat.le_of_ble_eq_true rfl | (dsimp only [gRm]; omega)) dX7_waiting_13 ?_
  refine gI_if_eq hB 42 dX7_waiting_16 (by decide) (fun c16_1 => ?_) (fun c16_1 => ?_)
  · skip
    have c16_1 := gbi_0.mp c16_1
    refine gI_aload_n hB 0 dX7_waiting_42 rfl ?_
    refine gI_iconst (v := nI 1) hB dX7_waiting_43 (by decide) ?_
    refine gM_call (n9 := 1) (As := [.int (nI 1)]) (rest := []) hB hM hF (c_fail X.2.1 h a (sg u 0 (nI 0)) hM (nI 1)) (gCW.of ggX7_waiting_X7_fail rfl ⟨by decide, by decide, by decide +kernel⟩ ⟨Nat.le_of_ble_eq_true rfl, Nat.le_of_ble_eq_true rfl⟩) (by decide +kernel) (by decide +kernel) (by decide +kernel) (by decide +kernel) rfl rfl (Nat.le_of_ble_eq_true rfl) (by first | exact Nat.le_of_ble_eq_true rfl | (dsimp only [gRm]; omega)) (by first | exact Nat.le_of_ble_eq_true rfl | (dsimp only [gRm]; omega)) mSt.no dX7_waiting_44 (fun v9 h u9 k9 n9 hM hF hp => ?_)
    obtain ⟨e9, rfl, rfl, rfl⟩ := hp
    cases e9
    change gW X h (0) (0) _ _ (.int (nI 0) :: _)
    refine gI_iret hB hE dX7_waiting_47 ?_
    refine ⟨_, hM, hF, ?_⟩
    have e9 : mWaiting u p q = ((sg (sg u 0 (nI 0)) 0 (nI 1)), (nI 0)) := by
      unfold mWaiting; rw [if_neg (fun z9 => c16_1 z9.1)]; try rfl
    rw [e9]
    exact ⟨rfl, rfl, by omega, by omega⟩
  · skip
    have c16_1 := gbi_n0 c16_1
    have hp9 := c16_1
    obtain ⟨i, hi, ei⟩ := mIn_of (m := W) (by omega) (by rw [show u.1 6 = nI W from eW] at hp9; exact hp9)
    subst ei
    refine gI_iload_n hB 2 dX7_waiting_19 rfl ?_
    refine gI_iconst (v := nI 0) hB dX7_waiting_20 (by decide) ?_
    refine gI_iconst (v := nI 4) hB dX7_waiting_21 (by decide) ?_
    refine gI_pureS (n9 := 3) (As := [.int q, .int (nI 0), .int (nI 4)]) (rest := []) hB (c_isIn X.2.1 h q (nI 0) (nI 4)) (gCW.of ggX7_waiting_X7_isIn rfl ⟨by decide, by decide, by decide +kernel⟩ ⟨Nat.le_of_ble_eq_true rfl, Nat.le_of_ble_eq_true rfl⟩) (Or.inl (by decide +kernel)) (by decide +kernel) (by decide +kernel) rfl rfl (Nat.le_of_ble_eq_true rfl) (by first | exact Nat.le_of_ble_eq_true rfl | (dsimp only [gRm]; omega)) (by first | exact Nat.le_of_ble_eq_true rfl | (dsimp only [gRm]; omega)) dX7_waiting_22 ?_
    refine gI_if_eq hB 42 dX7_waiting_25 (by decide) (fun c25_2 => ?_) (fun c25_2 => ?_)
    · skip
      have c25_2 := gbi_0.mp c25_2
      refine gI_aload_n hB 0 dX7_waiting_42 rfl ?_
      refine gI_iconst (v := nI 1) hB dX7_waiting_43 (by decide) ?_
      refine gM_call (n9 := 1) (As := [.int (nI 1)]) (rest := []) hB hM hF (c_fail X.2.1 h a (sg u 0 (nI 0)) hM (nI 1)) (gCW.of ggX7_waiting_X7_fail rfl ⟨by decide, by decide, by decide +kernel⟩ ⟨Nat.le_of_ble_eq_true rfl, Nat.le_of_ble_eq_true rfl⟩) (by decide +kernel) (by decide +kernel) (by decide +kernel) (by decide +kernel) rfl rfl (Nat.le_of_ble_eq_true rfl) (by first | exact Nat.le_of_ble_eq_true rfl | (dsimp only [gRm]; omega)) (by first | exact Nat.le_of_ble_eq_true rfl | (dsimp only [gRm]; omega)) mSt.no dX7_waiting_44 (fun v9 h u9 k9 n9 hM hF hp => ?_)
      obtain ⟨e9, rfl, rfl, rfl⟩ := hp
      cases e9
      change gW X h (0) (0) _ _ (.int (nI 0) :: _)
      refine gI_iret hB hE dX7_waiting_47 ?_
      refine ⟨_, hM, hF, ?_⟩
      have e9 : mWaiting u (nI i) q = ((sg (sg u 0 (nI 0)) 0 (nI 1)), (nI 0)) := by
        unfold mWaiting; rw [if_neg (fun z9 => c25_2 z9.2)]; try rfl
      rw [e9]
      exact ⟨rfl, rfl, by omega, by omega⟩
    · skip
      have c25_2 := gbi_n0 c25_2
      have hq9 := c25_2
      obtain ⟨j, hj, ej⟩ := mIn_lit (by omega) c25_2
      subst ej
      refine gI_aload_n hB 0 dX7_waiting_28 rfl ?_
      refine gM_get hB hM 7 (v := .ref (a 3)) (by decide +kernel) (by decide) (by decide +kernel) rfl rfl dX7_waiting_29 ?_
      refine gI_bipush (v := nI 14) hB dX7_waiting_32 (by decide) ?_
      refine gI_iload_n hB 1 dX7_waiting_34 rfl ?_
      refine gI_imulN hB dX7_waiting_35 ?_
      refine gI_iload_n hB 2 dX7_waiting_36 rfl ?_
      refine gI_iaddN hB dX7_waiting_37 ?_
      refine gM_ald hB hM 2 (by decide) ((14 * i) + j) rfl (show (14 * i) + j < 840 by omega) dX7_waiting_38 ?_
      refine gI_goto hB 47 dX7_waiting_39 (by decide) ?_
      refine gI_iret hB hE dX7_waiting_47 ?_
      refine ⟨_, hM, hF, ?_⟩
      have e9 : mWaiting u (nI i) (nI j) = ((sg u 0 (nI 0)), (u.2 2 ((14 * i) + j))) := by
        unfold mWaiting; rw [if_pos ⟨hp9, hq9⟩, mCl (by omega), mCl (by omega)]; try rfl
      rw [e9]
      exact ⟨rfl, rfl, by omega, by omega⟩

set_option maxRecDepth 100000 in
set_option maxHeartbeats 4000000 in
theorem c_sung (G : gG) (h : gH) (a : Nat → Nat) (u : MS) (T W z : Nat) (hM : mRep G h a u) (o : mOk u T W z) (p q : Int32) : gMet yX7_sung wsX7_sung (gRm 2 0 0) G h [.ref (a 0), .int p, .int q] (mPo G h a (mSp (mSung u p q) 0 0)) := by
  refine gMet_of (maxL := 3) (ret := (some .int)) (by decide) rfl (Nat.le_of_ble_eq_true rfl) ?_
  intro X hG hnL hB hE
  subst hG
  change gW X h 0 0 0 [(0, .ref (a 0)), (1, .int p), (2, .int q)] []
  have hF : mFr h h := mFr.rf
  have hw := o.W
  have hT := o.2.1
  have hW60 := o.2.2.2.1
  have hz200 := o.2.2.2.2.2.1
  have ez := o.2.2.2.2.1
  have eW := o.2.2.1
  refine gI_aload_n hB 0 dX7_sung_0 rfl ?_
  refine gI_iconst (v := nI 0) hB dX7_sung_1 (by decide) ?_
  refine gM_put hB hM hF 0 (sg u 0 (nI 0)) (by decide +kernel) (by decide) (by decide +kernel) rfl rfl rfl rfl rfl rfl dX7_sung_2 (fun h hM hF => ?_)
  refine gI_iload_n hB 1 dX7_sung_5 rfl ?_
  refine gI_iconst (v := nI 0) hB dX7_sung_6 (by decide) ?_
  refine gI_aload_n hB 0 dX7_sung_7 rfl ?_
  refine gM_get hB hM 12 (v := .int (u.1 12)) (by decide +kernel) (by decide) (by decide +kernel) rfl rfl dX7_sung_8 ?_
  refine gI_iconst (v := nI 1) hB dX7_sung_11 (by decide) ?_
  refine gI_isub hB dX7_sung_12 ?_
  refine gI_pureS (n9 := 3) (As := [.int p, .int (nI 0), .int ((u.1 12) - (nI 1))]) (rest := []) hB (c_isIn X.2.1 h p (nI 0) ((u.1 12) - (nI 1))) (gCW.of ggX7_sung_X7_isIn rfl ⟨by decide, by decide, by decide +kernel⟩ ⟨Nat.le_of_ble_eq_true rfl, Nat.le_of_ble_eq_true rfl⟩) (Or.inl (by decide +kernel)) (by decide +kernel) (by decide +kernel) rfl rfl (Nat.le_of_ble_eq_true rfl) (by first | exact Nat.le_of_ble_eq_true rfl | (dsimp only [gRm]; omega)) (by first | exact Nat.le_of_ble_eq_true rfl | (dsimp only [gRm]; omega)) dX7_sung_13 ?_
  refine gI_if_eq hB 42 dX7_sung_16 (by decide) (fun c16_1 => ?_) (fun c16_1 => ?_)
  · skip
    have c16_1 := gbi_0.mp c16_1
    refine gI_aload_n hB 0 dX7_sung_42 rfl ?_
    refine gI_iconst (v := nI 1) hB dX7_sung_43 (by decide) ?_
    refine gM_call (n9 := 1) (As := [.int (nI 1)]) (rest := []) hB hM hF (c_fail X.2.1 h a (sg u 0 (nI 0)) hM (nI 1)) (gCW.of ggX7_sung_X7_fail rfl ⟨by decide, by decide, by decide +kernel⟩ ⟨Nat.le_of_ble_eq_true rfl, Nat.le_of_ble_eq_true rfl⟩) (by decide +kernel) (by decide +kernel) (by decide +kernel) (by decide +kernel) rfl rfl (Nat.le_of_ble_eq_true rfl) (by first | exact Nat.le_of_ble_eq_true rfl | (dsimp only [gRm]; omega)) (by first | exact Nat.le_of_ble_eq_true rfl | (dsimp only [gRm]; omega)) mSt.no dX7_sung_44 (fun v9 h u9 k9 n9 hM hF hp => ?_)
    obtain ⟨e9, rfl, rfl, rfl⟩ := hp
    cases e9
    change gW X h (0) (0) _ _ (.int (nI 0) :: _)
    refine gI_iret hB hE dX7_sung_47 ?_
    refine ⟨_, hM, hF, ?_⟩
    have e9 : mSung u p q = ((sg (sg u 0 (nI 0)) 0 (nI 1)), (nI 0)) := by
      unfold mSung; rw [if_neg (fun z9 => c16_1 z9.1)]; try rfl
    rw [e9]
    exact ⟨rfl, rfl, by omega, by omega⟩
  · skip
    have c16_1 := gbi_n0 c16_1
    have hp9 := c16_1
    obtain ⟨i, hi, ei⟩ := mIn_of (m := z) (by omega) (by rw [show u.1 12 = nI z from ez] at hp9; exact hp9)
    subst ei
    refine gI_iload_n hB 2 dX7_sung_19 rfl ?_
    refine gI_iconst (v := nI 0) hB dX7_sung_20 (by decide) ?_
    refine gI_iconst (v := nI 5) hB dX7_sung_21 (by decide) ?_
    refine gI_pureS (n9 := 3) (As := [.int q, .int (nI 0), .int (nI 5)]) (rest := []) hB (c_isIn X.2.1 h q (nI 0) (nI 5)) (gCW.of ggX7_sung_X7_isIn rfl ⟨by decide, by decide, by decide +kernel⟩ ⟨Nat.le_of_ble_eq_true rfl, Nat.le_of_ble_eq_true rfl⟩) (Or.inl (by decide +kernel)) (by decide +kernel) (by decide +kernel) rfl rfl (Nat.le_of_ble_eq_true rfl) (by first | exact Nat.le_of_ble_eq_true rfl | (dsimp only [gRm]; omega)) (by first | exact Nat.le_of_ble_eq_true rfl | (dsimp only [gRm]; omega)) dX7_sung_22 ?_
    refine gI_if_eq hB 42 dX7_sung_25 (by decide) (fun c25_2 => ?_) (fun c25_2 => ?_)
    · skip
      have c25_2 := gbi_0.mp c25_2
      refine gI_aload_n hB 0 dX7_sung_42 rfl ?_
      refine gI_iconst (v := nI 1) hB dX7_sung_43 (by decide) ?_
      refine gM_call (n9 := 1) (As := [.int (nI 1)]) (rest := []) hB hM hF (c_fail X.2.1 h a (sg u 0 (nI 0)) hM (nI 1)) (gCW.of ggX7_sung_X7_fail rfl ⟨by decide, by decide, by decide +kernel⟩ ⟨Nat.le_of_ble_eq_true rfl, Nat.le_of_ble_eq_true rfl⟩) (by decide +kernel) (by decide +kernel) (by decide +kernel) (by decide +kernel) rfl rfl (Nat.le_of_ble_eq_true rfl) (by first | exact Nat.le_of_ble_eq_true rfl | (dsimp only [gRm]; omega)) (by first | exact Nat.le_of_ble_eq_true rfl | (dsimp only [gRm]; omega)) mSt.no dX7_sung_44 (fun v9 h u9 k9 n9 hM hF hp => ?_)
      obtain ⟨e9, rfl, rfl, rfl⟩ := hp
      cases e9
      change gW X h (0) (0) _ _ (.int (nI 0) :: _)
      refine gI_iret hB hE dX7_sung_47 ?_
      refine ⟨_, hM, hF, ?_⟩
      have e9 : mSung u (nI i) q = ((sg (sg u 0 (nI 0)) 0 (nI 1)), (nI 0)) := by
        unfold mSung; rw [if_neg (fun z9 => c25_2 z9.2)]; try rfl
      rw [e9]
      exact ⟨rfl, rfl, by omega, by omega⟩
    · skip
      have c25_2 := gbi_n0 c25_2
      have hq9 := c25_2
      obtain ⟨j, hj, ej⟩ := mIn_lit (by omega) c25_2
      subst ej
      refine gI_aload_n hB 0 dX7_sung_28 rfl ?_
      refine gM_get hB hM 13 (v := .ref (a 4)) (by decide +kernel) (by decide) (by decide +kernel) rfl rfl dX7_sung_29 ?_
      refine gI_bipush (v := nI 15) hB dX7_sung_32 (by decide) ?_
      refine gI_iload_n hB 1 dX7_sung_34 rfl ?_
      refine gI_imulN hB dX7_sung_35 ?_
      refine gI_iload_n hB 2 dX7_sung_36 rfl ?_
      refine gI_iaddN hB dX7_sung_37 ?_
      refine gM_ald hB hM 3 (by decide) ((15 * i) + j) rfl (show (15 * i) + j < 3000 by omega) dX7_sung_38 ?_
      refine gI_goto hB 47 dX7_sung_39 (by decide) ?_
      refine gI_iret hB hE dX7_sung_47 ?_
      refine ⟨_, hM, hF, ?_⟩
      have e9 : mSung u (nI i) (nI j) = ((sg u 0 (nI 0)), (u.2 3 ((15 * i) + j))) := by
        unfold mSung; rw [if_pos ⟨hp9, hq9⟩, mCl (by omega), mCl (by omega)]; try rfl
      rw [e9]
      exact ⟨rfl, rfl, by omega, by omega⟩

set_option maxRecDepth 100000 in
set_option maxHeartbeats 4000000 in
theorem c_through (G : gG) (h : gH) (a : Nat → Nat) (u : MS) (T W z : Nat) (hM : mRep G h a u) (o : mOk u T W z) (p q : Int32) : gMet yX7_through wsX7_through (gRm 2 0 0) G h [.ref (a 0), .int p, .int q] (mPo G h a (mSp (mThrough u p q) 0 0)) := by
  refine gMet_of (maxL := 3) (ret := (some .int)) (by decide) rfl (Nat.le_of_ble_eq_true rfl) ?_
  intro X hG hnL hB hE
  subst hG
  change gW X h 0 0 0 [(0, .ref (a 0)), (1, .int p), (2, .int q)] []
  have hF : mFr h h := mFr.rf
  have hw := o.W
  have hT := o.2.1
  have hW60 := o.2.2.2.1
  have hz200 := o.2.2.2.2.2.1
  have ez := o.2.2.2.2.1
  have eW := o.2.2.1
  refine gI_aload_n hB 0 dX7_through_0 rfl ?_
  refine gI_iconst (v := nI 0) hB dX7_through_1 (by decide) ?_
  refine gM_put hB hM hF 0 (sg u 0 (nI 0)) (by decide +kernel) (by decide) (by decide +kernel) rfl rfl rfl rfl rfl rfl dX7_through_2 (fun h hM hF => ?_)
  refine gI_iload_n hB 1 dX7_through_5 rfl ?_
  refine gI_iconst (v := nI 0) hB dX7_through_6 (by decide) ?_
  refine gI_aload_n hB 0 dX7_through_7 rfl ?_
  refine gM_get hB hM 12 (v := .int (u.1 12)) (by decide +kernel) (by decide) (by decide +kernel) rfl rfl dX7_through_8 ?_
  refine gI_iconst (v := nI 1) hB dX7_through_11 (by decide) ?_
  refine gI_isub hB dX7_through_12 ?_
  refine gI_pureS (n9 := 3) (As := [.int p, .int (nI 0), .int ((u.1 12) - (nI 1))]) (rest := []) hB (c_isIn X.2.1 h p (nI 0) ((u.1 12) - (nI 1))) (gCW.of ggX7_through_X7_isIn rfl ⟨by decide, by decide, by decide +kernel⟩ ⟨Nat.le_of_ble_eq_true rfl, Nat.le_of_ble_eq_true rfl⟩) (Or.inl (by decide +kernel)) (by decide +kernel) (by decide +kernel) rfl rfl (Nat.le_of_ble_eq_true rfl) (by first | exact Nat.le_of_ble_eq_true rfl | (dsimp only [gRm]; omega)) (by first | exact Nat.le_of_ble_eq_true rfl | (dsimp only [gRm]; omega)) dX7_through_13 ?_
  refine gI_if_eq hB 55 dX7_through_16 (by decide) (fun c16_1 => ?_) (fun c16_1 => ?_)
  · skip
    have c16_1 := gbi_0.mp c16_1
    refine gI_aload_n hB 0 dX7_through_55 rfl ?_
    refine gI_iconst (v := nI 1) hB dX7_through_56 (by decide) ?_
    refine gM_call (n9 := 1) (As := [.int (nI 1)]) (rest := []) hB hM hF (c_fail X.2.1 h a (sg u 0 (nI 0)) hM (nI 1)) (gCW.of ggX7_through_X7_fail rfl ⟨by decide, by decide, by decide +kernel⟩ ⟨Nat.le_of_ble_eq_true rfl, Nat.le_of_ble_eq_true rfl⟩) (by decide +kernel) (by decide +kernel) (by decide +kernel) (by decide +kernel) rfl rfl (Nat.le_of_ble_eq_true rfl) (by first | exact Nat.le_of_ble_eq_true rfl | (dsimp only [gRm]; omega)) (by first | exact Nat.le_of_ble_eq_true rfl | (dsimp only [gRm]; omega)) mSt.no dX7_through_57 (fun v9 h u9 k9 n9 hM hF hp => ?_)
    obtain ⟨e9, rfl, rfl, rfl⟩ := hp
    cases e9
    change gW X h (0) (0) _ _ (.int (nI 0) :: _)
    refine gI_iret hB hE dX7_through_60 ?_
    refine ⟨_, hM, hF, ?_⟩
    have e9 : mThrough u p q = ((sg (sg u 0 (nI 0)) 0 (nI 1)), (nI 0)) := by
      unfold mThrough; rw [if_neg (fun z9 => c16_1 z9.1)]; try rfl
    rw [e9]
    exact ⟨rfl, rfl, by omega, by omega⟩
  · skip
    have c16_1 := gbi_n0 c16_1
    have hp9 := c16_1
    obtain ⟨i, hi, ei⟩ := mIn_of (m := z) (by omega) (by rw [show u.1 12 = nI z from ez] at hp9; exact hp9)
    subst ei
    refine gI_iload_n hB 2 dX7_through_19 rfl ?_
    refine gI_iconst (v := nI 0) hB dX7_through_20 (by decide) ?_
    refine gI_aload_n hB 0 dX7_through_21 rfl ?_
    refine gM_get hB hM 13 (v := .ref (a 4)) (by decide +kernel) (by decide) (by decide +kernel) rfl rfl dX7_through_22 ?_
    refine gI_bipush (v := nI 15) hB dX7_through_25 (by decide) ?_
    refine gI_iload_n hB 1 dX7_through_27 rfl ?_
    refine gI_imulN hB dX7_through_28 ?_
    refine gI_iconst (v := nI 4) hB dX7_through_29 (by decide) ?_
    refine gI_iaddN hB dX7_through_30 ?_
    refine gM_ald hB hM 3 (by decide) ((15 * i) + 4) rfl (show (15 * i) + 4 < 3000 by omega) dX7_through_31 ?_
    refine gI_pureS (n9 := 3) (As := [.int q, .int (nI 0), .int (u.2 3 ((15 * i) + 4))]) (rest := []) hB (c_isIn X.2.1 h q (nI 0) (u.2 3 ((15 * i) + 4))) (gCW.of ggX7_through_X7_isIn rfl ⟨by decide, by decide, by decide +kernel⟩ ⟨Nat.le_of_ble_eq_true rfl, Nat.le_of_ble_eq_true rfl⟩) (Or.inl (by decide +kernel)) (by decide +kernel) (by decide +kernel) rfl rfl (Nat.le_of_ble_eq_true rfl) (by first | exact Nat.le_of_ble_eq_true rfl | (dsimp only [gRm]; omega)) (by first | exact Nat.le_of_ble_eq_true rfl | (dsimp only [gRm]; omega)) dX7_through_32 ?_
    refine gI_if_eq hB 55 dX7_through_35 (by decide) (fun c35_2 => ?_) (fun c35_2 => ?_)
    · skip
      have c35_2 := gbi_0.mp c35_2
      refine gI_aload_n hB 0 dX7_through_55 rfl ?_
      refine gI_iconst (v := nI 1) hB dX7_through_56 (by decide) ?_
      refine gM_call (n9 := 1) (As := [.int (nI 1)]) (rest := []) hB hM hF (c_fail X.2.1 h a (sg u 0 (nI 0)) hM (nI 1)) (gCW.of ggX7_through_X7_fail rfl ⟨by decide, by decide, by decide +kernel⟩ ⟨Nat.le_of_ble_eq_true rfl, Nat.le_of_ble_eq_true rfl⟩) (by decide +kernel) (by decide +kernel) (by decide +kernel) (by decide +kernel) rfl rfl (Nat.le_of_ble_eq_true rfl) (by first | exact Nat.le_of_ble_eq_true rfl | (dsimp only [gRm]; omega)) (by first | exact Nat.le_of_ble_eq_true rfl | (dsimp only [gRm]; omega)) mSt.no dX7_through_57 (fun v9 h u9 k9 n9 hM hF hp => ?_)
      obtain ⟨e9, rfl, rfl, rfl⟩ := hp
      cases e9
      change gW X h (0) (0) _ _ (.int (nI 0) :: _)
      refine gI_iret hB hE dX7_through_60 ?_
      refine ⟨_, hM, hF, ?_⟩
      have e9 : mThrough u (nI i) q = ((sg (sg u 0 (nI 0)) 0 (nI 1)), (nI 0)) := by
        unfold mThrough; rw [if_neg (fun z9 => c35_2 (by have := z9.2; rw [mCl (by omega)] at this; exact this))]; try rfl
      rw [e9]
      exact ⟨rfl, rfl, by omega, by omega⟩
    · skip
      have c35_2 := gbi_n0 c35_2
      have hq9 := c35_2
      obtain ⟨-, p4, hp4, ep4, -⟩ := o.2.2.2.2.2.2.2.2.2 i hi
      obtain ⟨j, hj, ej⟩ := mIn_lit (m := p4) (by omega) (by rw [show u.2 3 (15 * i + 4) = nI p4 from ep4] at hq9; exact hq9)
      subst ej
      refine gI_aload_n hB 0 dX7_through_38 rfl ?_
      refine gM_get hB hM 13 (v := .ref (a 4)) (by decide +kernel) (by decide) (by decide +kernel) rfl rfl dX7_through_39 ?_
      refine gI_bipush (v := nI 15) hB dX7_through_42 (by decide) ?_
      refine gI_iload_n hB 1 dX7_through_44 rfl ?_
      refine gI_imulN hB dX7_through_45 ?_
      refine gI_bipush (v := nI 6) hB dX7_through_46 (by decide) ?_
      refine gI_iaddN hB dX7_through_48 ?_
      refine gI_iload_n hB 2 dX7_through_49 rfl ?_
      refine gI_iaddN hB dX7_through_50 ?_
      refine gM_ald hB hM 3 (by decide) (((15 * i) + 6) + j) rfl (show ((15 * i) + 6) + j < 3000 by omega) dX7_through_51 ?_
      refine gI_goto hB 60 dX7_through_52 (by decide) ?_
      refine gI_iret hB hE dX7_through_60 ?_
      refine ⟨_, hM, hF, ?_⟩
      have e9 : mThrough u (nI i) (nI j) = ((sg u 0 (nI 0)), (u.2 3 (((15 * i) + 6) + j))) := by
        unfold mThrough; rw [if_pos ⟨hp9, by rw [mCl (by omega)]; exact hq9⟩, mCl (by omega), mCl (by omega)]; try rfl
      rw [e9]
      exact ⟨rfl, rfl, by omega, by omega⟩

set_option maxRecDepth 100000 in
set_option maxHeartbeats 4000000 in
theorem c_fits (G : gG) (h : gH) (a : Nat → Nat) (u : MS) (T W z : Nat) (hM : mRep G h a u) (o : mOk u T W z) (p s x : Int32) : gMet yX7_fits wsX7_fits (gRm 3 0 0) G h [.ref (a 0), .int p, .int s, .int x] (mPo G h a (mSp (mFitsC u p s x) 0 0)) := by
  refine gMet_of (maxL := 4) (ret := (some .int)) (by decide) rfl (Nat.le_of_ble_eq_true rfl) ?_
  intro X hG hnL hB hE
  subst hG
  change gW X h 0 0 0 [(0, .ref (a 0)), (1, .int p), (2, .int s), (3, .int x)] []
  have hF : mFr h h := mFr.rf
  have hw := o.W
  have hT := o.2.1
  have hW60 := o.2.2.2.1
  have hz200 := o.2.2.2.2.2.1
  have ez := o.2.2.2.2.1
  have eW := o.2.2.1
  refine gI_aload_n hB 0 dX7_fits_0 rfl ?_
  refine gI_iconst (v := nI 0) hB dX7_fits_1 (by decide) ?_
  refine gM_put hB hM hF 0 (sg u 0 (nI 0)) (by decide +kernel) (by decide) (by decide +kernel) rfl rfl rfl rfl rfl rfl dX7_fits_2 (fun h hM hF => ?_)
  refine gI_aload_n hB 0 dX7_fits_5 rfl ?_
  refine gI_iload_n hB 1 dX7_fits_6 rfl ?_
  refine gM_pure (n9 := 1) (As := [.int p]) (rest := []) hB hM (c_isTenant X.2.1 h a (sg u 0 (nI 0)) hM p) (gCW.of ggX7_fits_X7_isTenant rfl ⟨by decide, by decide, by decide +kernel⟩ ⟨Nat.le_of_ble_eq_true rfl, Nat.le_of_ble_eq_true rfl⟩) (by decide +kernel) (by decide +kernel) (by decide +kernel) (by decide +kernel) rfl rfl (Nat.le_of_ble_eq_true rfl) (by first | exact Nat.le_of_ble_eq_true rfl | (dsimp only [gRm]; omega)) (by first | exact Nat.le_of_ble_eq_true rfl | (dsimp only [gRm]; omega)) dX7_fits_7 ?_
  refine gI_topi hB (y := gbi (mTen u p)) rfl ?_
  refine gI_if_ne hB 19 dX7_fits_10 (by decide) (fun c10_1 => ?_) (fun c10_1 => ?_)
  · skip
    have c10_1 := gbi_n0 c10_1
    have hh := c10_1
    obtain ⟨t, ht, et⟩ := mTen_of hw c10_1
    subst et
    refine gI_iload_n hB 2 dX7_fits_19 rfl ?_
    refine gI_iconst (v := nI 0) hB dX7_fits_20 (by decide) ?_
    refine gI_iconst (v := nI 1) hB dX7_fits_21 (by decide) ?_
    refine gI_pureS (n9 := 3) (As := [.int s, .int (nI 0), .int (nI 1)]) (rest := []) hB (c_isIn X.2.1 h s (nI 0) (nI 1)) (gCW.of ggX7_fits_X7_isIn rfl ⟨by decide, by decide, by decide +kernel⟩ ⟨Nat.le_of_ble_eq_true rfl, Nat.le_of_ble_eq_true rfl⟩) (Or.inl (by decide +kernel)) (by decide +kernel) (by decide +kernel) rfl rfl (Nat.le_of_ble_eq_true rfl) (by first | exact Nat.le_of_ble_eq_true rfl | (dsimp only [gRm]; omega)) (by first | exact Nat.le_of_ble_eq_true rfl | (dsimp only [gRm]; omega)) dX7_fits_22 ?_
    refine gI_if_eq hB 38 dX7_fits_25 (by decide) (fun c25_2 => ?_) (fun c25_2 => ?_)
    · skip
      have c25_2 := gbi_0.mp c25_2
      refine gI_aload_n hB 0 dX7_fits_38 rfl ?_
      refine gI_iconst (v := nI 2) hB dX7_fits_39 (by decide) ?_
      refine gM_call (n9 := 1) (As := [.int (nI 2)]) (rest := []) hB hM hF (c_fail X.2.1 h a (sg u 0 (nI 0)) hM (nI 2)) (gCW.of ggX7_fits_X7_fail rfl ⟨by decide, by decide, by decide +kernel⟩ ⟨Nat.le_of_ble_eq_true rfl, Nat.le_of_ble_eq_true rfl⟩) (by decide +kernel) (by decide +kernel) (by decide +kernel) (by decide +kernel) rfl rfl (Nat.le_of_ble_eq_true rfl) (by first | exact Nat.le_of_ble_eq_true rfl | (dsimp only [gRm]; omega)) (by first | exact Nat.le_of_ble_eq_true rfl | (dsimp only [gRm]; omega)) mSt.no dX7_fits_40 (fun v9 h u9 k9 n9 hM hF hp => ?_)
      obtain ⟨e9, rfl, rfl, rfl⟩ := hp
      cases e9
      change gW X h (0) (0) _ _ (.int (nI 0) :: _)
      refine gI_iret hB hE dX7_fits_43 ?_
      refine ⟨_, hM, hF, ?_⟩
      have e9 : mFitsC u (nI t) s x = ((sg (sg u 0 (nI 0)) 0 (nI 2)), (nI 0)) := by
        unfold mFitsC; rw [if_pos hh, if_neg (fun z9 => c25_2 z9.1)]; try rfl
      rw [e9]
      exact ⟨rfl, rfl, by omega, by omega⟩
    · skip
      have c25_2 := gbi_n0 c25_2
      refine gI_iload_n hB 3 dX7_fits_28 rfl ?_
      refine gI_iconst (v := nI 0) hB dX7_fits_29 (by decide) ?_
      refine gI_bipush (v := nI 23) hB dX7_fits_30 (by decide) ?_
      refine gI_pureS (n9 := 3) (As := [.int x, .int (nI 0), .int (nI 23)]) (rest := []) hB (c_isIn X.2.1 h x (nI 0) (nI 23)) (gCW.of ggX7_fits_X7_isIn rfl ⟨by decide, by decide, by decide +kernel⟩ ⟨Nat.le_of_ble_eq_true rfl, Nat.le_of_ble_eq_true rfl⟩) (Or.inl (by decide +kernel)) (by decide +kernel) (by decide +kernel) rfl rfl (Nat.le_of_ble_eq_true rfl) (by first | exact Nat.le_of_ble_eq_true rfl | (dsimp only [gRm]; omega)) (by first | exact Nat.le_of_ble_eq_true rfl | (dsimp only [gRm]; omega)) dX7_fits_32 ?_
      refine gI_if_ne hB 44 dX7_fits_35 (by decide) (fun c35_3 => ?_) (fun c35_3 => ?_)
      · skip
        have c35_3 := gbi_n0 c35_3
        refine gI_aload_n hB 0 dX7_fits_44 rfl ?_
        refine gI_iload_n hB 1 dX7_fits_45 rfl ?_
        refine gI_iload_n hB 2 dX7_fits_46 rfl ?_
        refine gI_iload_n hB 3 dX7_fits_47 rfl ?_
        refine gM_pure (n9 := 3) (As := [.int (nI t), .int s, .int x]) (rest := []) hB hM (c_fitting X.2.1 h a (sg u 0 (nI 0)) T hM (show mW (sg u 0 (nI 0)) T from hw) t s x ht) (gCW.of ggX7_fits_X7_fitting rfl ⟨by decide, by decide, by decide +kernel⟩ ⟨Nat.le_of_ble_eq_true rfl, Nat.le_of_ble_eq_true rfl⟩) (by decide +kernel) (by decide +kernel) (by decide +kernel) (by decide +kernel) rfl rfl (Nat.le_of_ble_eq_true rfl) (by first | exact Nat.le_of_ble_eq_true rfl | (dsimp only [gRm]; omega)) (by first | exact Nat.le_of_ble_eq_true rfl | (dsimp only [gRm]; omega)) dX7_fits_48 ?_
        refine gI_iret hB hE dX7_fits_51 ?_
        refine ⟨_, hM, hF, ?_⟩
        have e9 : mFitsC u (nI t) s x = ((sg u 0 (nI 0)), (mFit (sg u 0 (nI 0)) t s x)) := by
          unfold mFitsC; rw [if_pos hh, if_pos ⟨c25_2, c35_3⟩, mCl (by omega), ← mFit_sg u 0 (nI 0)]; try rfl
        rw [e9]
        exact ⟨rfl, rfl, by omega, by omega⟩
      · skip
        have c35_3 := gbi_0.mp c35_3
        refine gI_aload_n hB 0 dX7_fits_38 rfl ?_
        refine gI_iconst (v := nI 2) hB dX7_fits_39 (by decide) ?_
        refine gM_call (n9 := 1) (As := [.int (nI 2)]) (rest := []) hB hM hF (c_fail X.2.1 h a (sg u 0 (nI 0)) hM (nI 2)) (gCW.of ggX7_fits_X7_fail rfl ⟨by decide, by decide, by decide +kernel⟩ ⟨Nat.le_of_ble_eq_true rfl, Nat.le_of_ble_eq_true rfl⟩) (by decide +kernel) (by decide +kernel) (by decide +kernel) (by decide +kernel) rfl rfl (Nat.le_of_ble_eq_true rfl) (by first | exact Nat.le_of_ble_eq_true rfl | (dsimp only [gRm]; omega)) (by first | exact Nat.le_of_ble_eq_true rfl | (dsimp only [gRm]; omega)) mSt.no dX7_fits_40 (fun v9 h u9 k9 n9 hM hF hp => ?_)
        obtain ⟨e9, rfl, rfl, rfl⟩ := hp
        cases e9
        change gW X h (0) (0) _ _ (.int (nI 0) :: _)
        refine gI_iret hB hE dX7_fits_43 ?_
        refine ⟨_, hM, hF, ?_⟩
        have e9 : mFitsC u (nI t) s x = ((sg (sg u 0 (nI 0)) 0 (nI 2)), (nI 0)) := by
          unfold mFitsC; rw [if_pos hh, if_neg (fun z9 => c35_3 z9.2)]; try rfl
        rw [e9]
        exact ⟨rfl, rfl, by omega, by omega⟩
  · skip
    have c10_1 := gbi_0.mp c10_1
    refine gI_aload_n hB 0 dX7_fits_13 rfl ?_
    refine gI_iconst (v := nI 1) hB dX7_fits_14 (by decide) ?_
    refine gM_call (n9 := 1) (As := [.int (nI 1)]) (rest := []) hB hM hF (c_fail X.2.1 h a (sg u 0 (nI 0)) hM (nI 1)) (gCW.of ggX7_fits_X7_fail rfl ⟨by decide, by decide, by decide +kernel⟩ ⟨Nat.le_of_ble_eq_true rfl, Nat.le_of_ble_eq_true rfl⟩) (by decide +kernel) (by decide +kernel) (by decide +kernel) (by decide +kernel) rfl rfl (Nat.le_of_ble_eq_true rfl) (by first | exact Nat.le_of_ble_eq_true rfl | (dsimp only [gRm]; omega)) (by first | exact Nat.le_of_ble_eq_true rfl | (dsimp only [gRm]; omega)) mSt.no dX7_fits_15 (fun v9 h u9 k9 n9 hM hF hp => ?_)
    obtain ⟨e9, rfl, rfl, rfl⟩ := hp
    cases e9
    change gW X h (0) (0) _ _ (.int (nI 0) :: _)
    refine gI_iret hB hE dX7_fits_18 ?_
    refine ⟨_, hM, hF, ?_⟩
    have e9 : mFitsC u p s x = ((sg (sg u 0 (nI 0)) 0 (nI 1)), (nI 0)) := by
      unfold mFitsC; rw [if_neg c10_1]; try rfl
    rw [e9]
    exact ⟨rfl, rfl, by omega, by omega⟩

set_option maxRecDepth 100000 in
set_option maxHeartbeats 4000000 in
theorem c_isSounding (G : gG) (h : gH) (a : Nat → Nat) (u : MS) (hM : mRep G h a u) (n : Nat) (x : Int32) (hn : n < 200) : gMet yX7_isSounding wsX7_isSounding (gRm 1 0 0) G h [.ref (a 0), .int (nI n), .int x] (gRet h (some (.int (gbi (mSnd u n x))))) := by
  refine gMet_of (maxL := 3) (ret := (some .boolean)) (by decide) rfl (Nat.le_of_ble_eq_true rfl) ?_
  intro X hG hnL hB hE
  subst hG
  change gW X h 0 0 0 [(0, .ref (a 0)), (1, .int (nI n)), (2, .int x)] []
  refine gI_aload_n hB 0 dX7_isSounding_0 rfl ?_
  refine gM_get hB hM 13 (v := .ref (a 4)) (by decide +kernel) (by decide) (by decide +kernel) rfl rfl dX7_isSounding_1 ?_
  refine gI_bipush (v := nI 15) hB dX7_isSounding_4 (by decide) ?_
  refine gI_iload_n hB 1 dX7_isSounding_6 rfl ?_
  refine gI_imulN hB dX7_isSounding_7 ?_
  refine gM_ald hB hM 3 (by decide) (15 * n) rfl (show 15 * n < 3000 by omega) dX7_isSounding_8 ?_
  refine gI_iload_n hB 2 dX7_isSounding_9 rfl ?_
  refine gI_icmp_gt hB 42 dX7_isSounding_10 (by decide) (fun c10_1 => ?_) (fun c10_1 => ?_)
  · skip
    refine gI_iconst (v := nI 0) hB dX7_isSounding_42 (by decide) ?_
    refine gI_zret hB hE (by decide) dX7_isSounding_43 ?_
    exact ⟨by rw [gbi_f (fun z9 => absurd c10_1 (Int32.not_lt.mpr z9.1))]; rfl, rfl, rfl, rfl⟩
  · skip
    refine gI_iload_n hB 2 dX7_isSounding_13 rfl ?_
    refine gI_aload_n hB 0 dX7_isSounding_14 rfl ?_
    refine gM_get hB hM 13 (v := .ref (a 4)) (by decide +kernel) (by decide) (by decide +kernel) rfl rfl dX7_isSounding_15 ?_
    refine gI_bipush (v := nI 15) hB dX7_isSounding_18 (by decide) ?_
    refine gI_iload_n hB 1 dX7_isSounding_20 rfl ?_
    refine gI_imulN hB dX7_isSounding_21 ?_
    refine gM_ald hB hM 3 (by decide) (15 * n) rfl (show 15 * n < 3000 by omega) dX7_isSounding_22 ?_
    refine gI_isub hB dX7_isSounding_23 ?_
    refine gI_aload_n hB 0 dX7_isSounding_24 rfl ?_
    refine gM_get hB hM 13 (v := .ref (a 4)) (by decide +kernel) (by decide) (by decide +kernel) rfl rfl dX7_isSounding_25 ?_
    refine gI_bipush (v := nI 15) hB dX7_isSounding_28 (by decide) ?_
    refine gI_iload_n hB 1 dX7_isSounding_30 rfl ?_
    refine gI_imulN hB dX7_isSounding_31 ?_
    refine gI_iconst (v := nI 1) hB dX7_isSounding_32 (by decide) ?_
    refine gI_iaddN hB dX7_isSounding_33 ?_
    refine gM_ald hB hM 3 (by decide) ((15 * n) + 1) rfl (show (15 * n) + 1 < 3000 by omega) dX7_isSounding_34 ?_
    refine gI_icmp_ge hB 42 dX7_isSounding_35 (by decide) (fun c35_2 => ?_) (fun c35_2 => ?_)
    · skip
      refine gI_iconst (v := nI 0) hB dX7_isSounding_42 (by decide) ?_
      refine gI_zret hB hE (by decide) dX7_isSounding_43 ?_
      exact ⟨by rw [gbi_f (fun z9 => absurd z9.2 (Int32.not_lt.mpr c35_2))]; rfl, rfl, rfl, rfl⟩
    · skip
      refine gI_iconst (v := nI 1) hB dX7_isSounding_38 (by decide) ?_
      refine gI_goto hB 43 dX7_isSounding_39 (by decide) ?_
      refine gI_zret hB hE (by decide) dX7_isSounding_43 ?_
      exact ⟨by rw [gbi_t ⟨Int32.not_lt.mp c10_1, Int32.not_le.mp c35_2⟩]; rfl, rfl, rfl, rfl⟩

set_option maxRecDepth 100000 in
set_option maxHeartbeats 4000000 in
theorem c_harmony (G : gG) (h : gH) (a : Nat → Nat) (u : MS) (hM : mRep G h a u) (z : Nat) (ez : u.1 12 = nI z) (hz : z ≤ 200) (x : Int32) : gMet yX7_harmony wsX7_harmony (gRm 2 0 0) G h [.ref (a 0), .int x] (gRet h (some (.int (mHarA u x z)))) := by
  refine gMet_of (maxL := 6) (ret := (some .int)) (by decide) rfl (Nat.le_of_ble_eq_true rfl) ?_
  intro X hG hnL hB hE
  subst hG
  change gW X h 0 0 0 [(0, .ref (a 0)), (1, .int x)] []
  refine gI_iconst (v := nI 0) hB dX7_harmony_0 (by decide) ?_
  refine gI_istore_n hB ([(2, .int (nI 0)), (0, .ref (a 0)), (1, .int x)]) hnL dX7_harmony_1 (by decide) rfl ?_
  refine gI_iconst (v := nI 0) hB dX7_harmony_2 (by decide) ?_
  refine gI_istore_n hB ([(3, .int (nI 0)), (2, .int (nI 0)), (0, .ref (a 0)), (1, .int x)]) hnL dX7_harmony_3 (by decide) rfl ?_
  have la : ∀ (r_la : Nat) (i : Nat) (s : Int32), z + 1 ≤ i + r_la → i ≤ z → s = mHarA u x i → gW X h 0 0 4 [(3, .int (nI i)), (2, .int (s)), (0, .ref (a 0)), (1, .int x)] [] := by
    intro r_la
    induction r_la with
    | zero => intro i s hfu hi hinv; exact absurd hfu (by omega)
    | succ r_la ih_la =>
      intro i s hfu hi hinv
      refine gI_iload_n hB 0 dX7_harmony_4 rfl ?_
      refine gI_aload_n hB 2 dX7_harmony_5 rfl ?_
      refine gM_get hB hM 12 (v := .int (u.1 12)) (by decide +kernel) (by decide) (by decide +kernel) rfl rfl dX7_harmony_6 ?_
      refine gI_topi hB (y := nI z) ez ?_
      refine gI_icmp_ge hB 125 dX7_harmony_9 (by decide) (fun c9_1 => ?_) (fun c9_1 => ?_)
      · skip
        have c9_1 := (nI_leI (by omega) (by omega)).mp c9_1
        refine gI_iload_n hB 1 dX7_harmony_125 rfl ?_
        refine gI_iret hB hE dX7_harmony_126 ?_
        exact ⟨by rw [hinv, show i = z by omega], rfl, rfl, rfl⟩
      · skip
        have c9_1 := mt (nI_leI (by omega) (by omega)).mpr c9_1
        refine gI_aload_n hB 2 dX7_harmony_12 rfl ?_
        refine gI_iload_n hB 0 dX7_harmony_13 rfl ?_
        refine gI_iload_n hB 3 dX7_harmony_14 rfl ?_
        refine gM_pure (n9 := 2) (As := [.int (nI i), .int x]) (rest := []) hB hM (c_isSounding X.2.1 h a u hM i x (by omega)) (gCW.of ggX7_harmony_X7_isSounding rfl ⟨by decide, by decide, by decide +kernel⟩ ⟨Nat.le_of_ble_eq_true rfl, Nat.le_of_ble_eq_true rfl⟩) (by decide +kernel) (by decide +kernel) (by decide +kernel) (by decide +kernel) rfl rfl (Nat.le_of_ble_eq_true rfl) (by first | exact Nat.le_of_ble_eq_true rfl | (dsimp only [gRm]; omega)) (by first | exact Nat.le_of_ble_eq_true rfl | (dsimp only [gRm]; omega)) dX7_harmony_15 ?_
        refine gI_if_ne hB 24 dX7_harmony_18 (by decide) (fun c18_2 => ?_) (fun c18_2 => ?_)
        · skip
          have c18_2 := gbi_n0 c18_2
          have hsa := c18_2
          refine gI_iconst (v := nI 0) hB dX7_harmony_24 (by decide) ?_
          refine gI_istore hB ([(4, .int (nI 0)), (3, .int (nI i)), (2, .int (s)), (0, .ref (a 0)), (1, .int x)]) hnL dX7_harmony_25 (by decide) rfl ?_
          have lb : ∀ (r_lb : Nat) (b : Nat) (t : Int32), i + 1 ≤ b + r_lb → b ≤ i → t = mHarA u x i + mHarB u x i b → gW X h 0 0 27 [(4, .int (nI b)), (3, .int (nI i)), (2, .int (t)), (0, .ref (a 0)), (1, .int x)] [] := by
            intro r_lb
            induction r_lb with
            | zero => intro b t hfu hb9 hb; exact absurd hfu (by omega)
            | succ r_lb ih_lb =>
              intro b t hfu hb9 hb
              refine gI_iload hB 0 dX7_harmony_27 rfl ?_
              refine gI_iload_n hB 1 dX7_harmony_29 rfl ?_
              refine gI_icmp_ge hB 119 dX7_harmony_30 (by decide) (fun c30_3 => ?_) (fun c30_3 => ?_)
              · skip
                have c30_3 := (nI_leI (by omega) (by omega)).mp c30_3
                refine gI_iinc hB 1 ([(3, .int (nI (i + 1))), (4, .int (nI b)), (2, .int (t)), (0, .ref (a 0)), (1, .int x)]) hnL dX7_harmony_119 rfl (nI_1 (i)) (by decide) rfl ?_
                refine gI_goto hB 4 dX7_harmony_122 (by decide) ?_
                refine gI_loc [0, 2, 3, 4] rfl ?_
                exact ih_la (i + 1) t (by omega) (by omega) (by rw [mHarA, if_pos hsa, hb, show b = i by omega])
              · skip
                have c30_3 := mt (nI_leI (by omega) (by omega)).mpr c30_3
                refine gI_aload_n hB 3 dX7_harmony_33 rfl ?_
                refine gI_iload hB 0 dX7_harmony_34 rfl ?_
                refine gI_iload_n hB 4 dX7_harmony_36 rfl ?_
                refine gM_pure (n9 := 2) (As := [.int (nI b), .int x]) (rest := []) hB hM (c_isSounding X.2.1 h a u hM b x (by omega)) (gCW.of ggX7_harmony_X7_isSounding rfl ⟨by decide, by decide, by decide +kernel⟩ ⟨Nat.le_of_ble_eq_true rfl, Nat.le_of_ble_eq_true rfl⟩) (by decide +kernel) (by decide +kernel) (by decide +kernel) (by decide +kernel) rfl rfl (Nat.le_of_ble_eq_true rfl) (by first | exact Nat.le_of_ble_eq_true rfl | (dsimp only [gRm]; omega)) (by first | exact Nat.le_of_ble_eq_true rfl | (dsimp only [gRm]; omega)) dX7_harmony_37 ?_
                refine gI_if_ne hB 46 dX7_harmony_40 (by decide) (fun c40_4 => ?_) (fun c40_4 => ?_)
                · skip
                  have c40_4 := gbi_n0 c40_4
                  refine gI_aload_n hB 3 dX7_harmony_46 rfl ?_
                  refine gM_get hB hM 13 (v := .ref (a 4)) (by decide +kernel) (by decide) (by decide +kernel) rfl rfl dX7_harmony_47 ?_
                  refine gI_bipush (v := nI 15) hB dX7_harmony_50 (by decide) ?_
                  refine gI_iload_n hB 1 dX7_harmony_52 rfl ?_
                  refine gI_imulN hB dX7_harmony_53 ?_
                  refine gI_iconst (v := nI 2) hB dX7_harmony_54 (by decide) ?_
                  refine gI_iaddN hB dX7_harmony_55 ?_
                  refine gM_ald hB hM 3 (by decide) ((15 * i) + 2) rfl (show (15 * i) + 2 < 3000 by omega) dX7_harmony_56 ?_
                  refine gI_aload_n hB 3 dX7_harmony_57 rfl ?_
                  refine gM_get hB hM 13 (v := .ref (a 4)) (by decide +kernel) (by decide) (by decide +kernel) rfl rfl dX7_harmony_58 ?_
                  refine gI_bipush (v := nI 15) hB dX7_harmony_61 (by decide) ?_
                  refine gI_iload hB 0 dX7_harmony_63 rfl ?_
                  refine gI_imulN hB dX7_harmony_65 ?_
                  refine gI_iconst (v := nI 2) hB dX7_harmony_66 (by decide) ?_
                  refine gI_iaddN hB dX7_harmony_67 ?_
                  refine gM_ald hB hM 3 (by decide) ((15 * b) + 2) rfl (show (15 * b) + 2 < 3000 by omega) dX7_harmony_68 ?_
                  refine gI_isub hB dX7_harmony_69 ?_
                  refine gI_mabs hB (by decide +kernel) (by decide +kernel) (by decide +kernel) (by decide +kernel) (Nat.le_of_ble_eq_true rfl) (Nat.le_of_ble_eq_true rfl) (by first | exact Nat.le_of_ble_eq_true rfl | (dsimp only [gRm]; omega)) (by first | exact Nat.le_of_ble_eq_true rfl | (dsimp only [gRm]; omega)) dX7_harmony_70 ?_
                  refine gI_bipush (v := nI 12) hB dX7_harmony_73 (by decide) ?_
                  refine gI_irem hB dX7_harmony_75 (by decide) ?_
                  refine gI_istore hB ([(5, .int ((if 0 ≤ ((u.2 3 ((15 * i) + 2)) - (u.2 3 ((15 * b) + 2))) then ((u.2 3 ((15 * i) + 2)) - (u.2 3 ((15 * b) + 2))) else 0 - ((u.2 3 ((15 * i) + 2)) - (u.2 3 ((15 * b) + 2)))) - (if 0 ≤ ((u.2 3 ((15 * i) + 2)) - (u.2 3 ((15 * b) + 2))) then ((u.2 3 ((15 * i) + 2)) - (u.2 3 ((15 * b) + 2))) else 0 - ((u.2 3 ((15 * i) + 2)) - (u.2 3 ((15 * b) + 2)))) / (nI 12) * (nI 12))), (4, .int (nI b)), (3, .int (nI i)), (2, .int (t)), (0, .ref (a 0)), (1, .int x)]) hnL dX7_harmony_76 (by decide) rfl ?_
                  refine gI_iload_n hB 3 dX7_harmony_78 rfl ?_
                  refine gI_iload hB 0 dX7_harmony_79 rfl ?_
                  refine gI_if_eq hB 106 dX7_harmony_81 (by decide) (fun c81_5 => ?_) (fun c81_5 => ?_)
                  · skip
                    refine gI_iconst (v := nI 1) hB dX7_harmony_106 (by decide) ?_
                    refine gI_goto hB 111 dX7_harmony_107 (by decide) ?_
                    refine gI_iadd hB dX7_harmony_111 ?_
                    refine gI_istore_n hB ([(2, .int ((t) + (nI 1))), (5, .int ((if 0 ≤ ((u.2 3 ((15 * i) + 2)) - (u.2 3 ((15 * b) + 2))) then ((u.2 3 ((15 * i) + 2)) - (u.2 3 ((15 * b) + 2))) else 0 - ((u.2 3 ((15 * i) + 2)) - (u.2 3 ((15 * b) + 2)))) - (if 0 ≤ ((u.2 3 ((15 * i) + 2)) - (u.2 3 ((15 * b) + 2))) then ((u.2 3 ((15 * i) + 2)) - (u.2 3 ((15 * b) + 2))) else 0 - ((u.2 3 ((15 * i) + 2)) - (u.2 3 ((15 * b) + 2)))) / (nI 12) * (nI 12))), (4, .int (nI b)), (3, .int (nI i)), (0, .ref (a 0)), (1, .int x)]) hnL dX7_harmony_112 (by decide) rfl ?_
                    refine gI_iinc hB 2 ([(4, .int (nI (b + 1))), (2, .int ((t) + (nI 1))), (5, .int ((if 0 ≤ ((u.2 3 ((15 * i) + 2)) - (u.2 3 ((15 * b) + 2))) then ((u.2 3 ((15 * i) + 2)) - (u.2 3 ((15 * b) + 2))) else 0 - ((u.2 3 ((15 * i) + 2)) - (u.2 3 ((15 * b) + 2)))) - (if 0 ≤ ((u.2 3 ((15 * i) + 2)) - (u.2 3 ((15 * b) + 2))) then ((u.2 3 ((15 * i) + 2)) - (u.2 3 ((15 * b) + 2))) else 0 - ((u.2 3 ((15 * i) + 2)) - (u.2 3 ((15 * b) + 2)))) / (nI 12) * (nI 12))), (3, .int (nI i)), (0, .ref (a 0)), (1, .int x)]) hnL dX7_harmony_113 rfl (nI_1 (b)) (by decide) rfl ?_
                    refine gI_goto hB 27 dX7_harmony_116 (by decide) ?_
                    refine gI_loc [0, 3, 1, 4, 5] rfl ?_
                    exact ih_lb (b + 1) ((t) + (nI 1)) (by omega) (by omega) (by rw [mHarB, if_pos c40_4, ← Int32.add_assoc, ← hb]; unfold mPair; rw [if_pos (Or.inl c81_5)])
                  · skip
                    refine gI_iload hB 0 dX7_harmony_84 rfl ?_
                    refine gI_iconst (v := nI 3) hB dX7_harmony_86 (by decide) ?_
                    refine gI_iconst (v := nI 5) hB dX7_harmony_87 (by decide) ?_
                    refine gI_pureS (n9 := 3) (As := [.int ((if 0 ≤ ((u.2 3 ((15 * i) + 2)) - (u.2 3 ((15 * b) + 2))) then ((u.2 3 ((15 * i) + 2)) - (u.2 3 ((15 * b) + 2))) else 0 - ((u.2 3 ((15 * i) + 2)) - (u.2 3 ((15 * b) + 2)))) - (if 0 ≤ ((u.2 3 ((15 * i) + 2)) - (u.2 3 ((15 * b) + 2))) then ((u.2 3 ((15 * i) + 2)) - (u.2 3 ((15 * b) + 2))) else 0 - ((u.2 3 ((15 * i) + 2)) - (u.2 3 ((15 * b) + 2)))) / (nI 12) * (nI 12)), .int (nI 3), .int (nI 5)]) (rest := [.int (t)]) hB (c_isIn X.2.1 h ((if 0 ≤ ((u.2 3 ((15 * i) + 2)) - (u.2 3 ((15 * b) + 2))) then ((u.2 3 ((15 * i) + 2)) - (u.2 3 ((15 * b) + 2))) else 0 - ((u.2 3 ((15 * i) + 2)) - (u.2 3 ((15 * b) + 2)))) - (if 0 ≤ ((u.2 3 ((15 * i) + 2)) - (u.2 3 ((15 * b) + 2))) then ((u.2 3 ((15 * i) + 2)) - (u.2 3 ((15 * b) + 2))) else 0 - ((u.2 3 ((15 * i) + 2)) - (u.2 3 ((15 * b) + 2)))) / (nI 12) * (nI 12)) (nI 3) (nI 5)) (gCW.of ggX7_harmony_X7_isIn rfl ⟨by decide, by decide, by decide +kernel⟩ ⟨Nat.le_of_ble_eq_true rfl, Nat.le_of_ble_eq_true rfl⟩) (Or.inl (by decide +kernel)) (by decide +kernel) (by decide +kernel) rfl rfl (Nat.le_of_ble_eq_true rfl) (by first | exact Nat.le_of_ble_eq_true rfl | (dsimp only [gRm]; omega)) (by first | exact Nat.le_of_ble_eq_true rfl | (dsimp only [gRm]; omega)) dX7_harmony_88 ?_
                    refine gI_if_ne hB 106 dX7_harmony_91 (by decide) (fun c91_6 => ?_) (fun c91_6 => ?_)
                    · skip
                      have c91_6 := gbi_n0 c91_6
                      refine gI_iconst (v := nI 1) hB dX7_harmony_106 (by decide) ?_
                      refine gI_goto hB 111 dX7_harmony_107 (by decide) ?_
                      refine gI_iadd hB dX7_harmony_111 ?_
                      refine gI_istore_n hB ([(2, .int ((t) + (nI 1))), (5, .int ((if 0 ≤ ((u.2 3 ((15 * i) + 2)) - (u.2 3 ((15 * b) + 2))) then ((u.2 3 ((15 * i) + 2)) - (u.2 3 ((15 * b) + 2))) else 0 - ((u.2 3 ((15 * i) + 2)) - (u.2 3 ((15 * b) + 2)))) - (if 0 ≤ ((u.2 3 ((15 * i) + 2)) - (u.2 3 ((15 * b) + 2))) then ((u.2 3 ((15 * i) + 2)) - (u.2 3 ((15 * b) + 2))) else 0 - ((u.2 3 ((15 * i) + 2)) - (u.2 3 ((15 * b) + 2)))) / (nI 12) * (nI 12))), (4, .int (nI b)), (3, .int (nI i)), (0, .ref (a 0)), (1, .int x)]) hnL dX7_harmony_112 (by decide) rfl ?_
                      refine gI_iinc hB 2 ([(4, .int (nI (b + 1))), (2, .int ((t) + (nI 1))), (5, .int ((if 0 ≤ ((u.2 3 ((15 * i) + 2)) - (u.2 3 ((15 * b) + 2))) then ((u.2 3 ((15 * i) + 2)) - (u.2 3 ((15 * b) + 2))) else 0 - ((u.2 3 ((15 * i) + 2)) - (u.2 3 ((15 * b) + 2)))) - (if 0 ≤ ((u.2 3 ((15 * i) + 2)) - (u.2 3 ((15 * b) + 2))) then ((u.2 3 ((15 * i) + 2)) - (u.2 3 ((15 * b) + 2))) else 0 - ((u.2 3 ((15 * i) + 2)) - (u.2 3 ((15 * b) + 2)))) / (nI 12) * (nI 12))), (3, .int (nI i)), (0, .ref (a 0)), (1, .int x)]) hnL dX7_harmony_113 rfl (nI_1 (b)) (by decide) rfl ?_
                      refine gI_goto hB 27 dX7_harmony_116 (by decide) ?_
                      refine gI_loc [0, 3, 1, 4, 5] rfl ?_
                      exact ih_lb (b + 1) ((t) + (nI 1)) (by omega) (by omega) (by rw [mHarB, if_pos c40_4, ← Int32.add_assoc, ← hb]; unfold mPair; rw [if_pos (Or.inr (Or.inl c91_6))])
                    · skip
                      have c91_6 := gbi_0.mp c91_6
                      refine gI_iload hB 0 dX7_harmony_94 rfl ?_
                      refine gI_bipush (v := nI 7) hB dX7_harmony_96 (by decide) ?_
                      refine gI_bipush (v := nI 9) hB dX7_harmony_98 (by decide) ?_
                      refine gI_pureS (n9 := 3) (As := [.int ((if 0 ≤ ((u.2 3 ((15 * i) + 2)) - (u.2 3 ((15 * b) + 2))) then ((u.2 3 ((15 * i) + 2)) - (u.2 3 ((15 * b) + 2))) else 0 - ((u.2 3 ((15 * i) + 2)) - (u.2 3 ((15 * b) + 2)))) - (if 0 ≤ ((u.2 3 ((15 * i) + 2)) - (u.2 3 ((15 * b) + 2))) then ((u.2 3 ((15 * i) + 2)) - (u.2 3 ((15 * b) + 2))) else 0 - ((u.2 3 ((15 * i) + 2)) - (u.2 3 ((15 * b) + 2)))) / (nI 12) * (nI 12)), .int (nI 7), .int (nI 9)]) (rest := [.int (t)]) hB (c_isIn X.2.1 h ((if 0 ≤ ((u.2 3 ((15 * i) + 2)) - (u.2 3 ((15 * b) + 2))) then ((u.2 3 ((15 * i) + 2)) - (u.2 3 ((15 * b) + 2))) else 0 - ((u.2 3 ((15 * i) + 2)) - (u.2 3 ((15 * b) + 2)))) - (if 0 ≤ ((u.2 3 ((15 * i) + 2)) - (u.2 3 ((15 * b) + 2))) then ((u.2 3 ((15 * i) + 2)) - (u.2 3 ((15 * b) + 2))) else 0 - ((u.2 3 ((15 * i) + 2)) - (u.2 3 ((15 * b) + 2)))) / (nI 12) * (nI 12)) (nI 7) (nI 9)) (gCW.of ggX7_harmony_X7_isIn rfl ⟨by decide, by decide, by decide +kernel⟩ ⟨Nat.le_of_ble_eq_true rfl, Nat.le_of_ble_eq_true rfl⟩) (Or.inl (by decide +kernel)) (by decide +kernel) (by decide +kernel) rfl rfl (Nat.le_of_ble_eq_true rfl) (by first | exact Nat.le_of_ble_eq_true rfl | (dsimp only [gRm]; omega)) (by first | exact Nat.le_of_ble_eq_true rfl | (dsimp only [gRm]; omega)) dX7_harmony_100 ?_
                      refine gI_if_eq hB 110 dX7_harmony_103 (by decide) (fun c103_7 => ?_) (fun c103_7 => ?_)
                      · skip
                        have c103_7 := gbi_0.mp c103_7
                        refine gI_iconst (v := (-1)) hB dX7_harmony_110 (by decide) ?_
                        refine gI_iadd hB dX7_harmony_111 ?_
                        refine gI_istore_n hB ([(2, .int ((t) + (-1))), (5, .int ((if 0 ≤ ((u.2 3 ((15 * i) + 2)) - (u.2 3 ((15 * b) + 2))) then ((u.2 3 ((15 * i) + 2)) - (u.2 3 ((15 * b) + 2))) else 0 - ((u.2 3 ((15 * i) + 2)) - (u.2 3 ((15 * b) + 2)))) - (if 0 ≤ ((u.2 3 ((15 * i) + 2)) - (u.2 3 ((15 * b) + 2))) then ((u.2 3 ((15 * i) + 2)) - (u.2 3 ((15 * b) + 2))) else 0 - ((u.2 3 ((15 * i) + 2)) - (u.2 3 ((15 * b) + 2)))) / (nI 12) * (nI 12))), (4, .int (nI b)), (3, .int (nI i)), (0, .ref (a 0)), (1, .int x)]) hnL dX7_harmony_112 (by decide) rfl ?_
                        refine gI_iinc hB 2 ([(4, .int (nI (b + 1))), (2, .int ((t) + (-1))), (5, .int ((if 0 ≤ ((u.2 3 ((15 * i) + 2)) - (u.2 3 ((15 * b) + 2))) then ((u.2 3 ((15 * i) + 2)) - (u.2 3 ((15 * b) + 2))) else 0 - ((u.2 3 ((15 * i) + 2)) - (u.2 3 ((15 * b) + 2)))) - (if 0 ≤ ((u.2 3 ((15 * i) + 2)) - (u.2 3 ((15 * b) + 2))) then ((u.2 3 ((15 * i) + 2)) - (u.2 3 ((15 * b) + 2))) else 0 - ((u.2 3 ((15 * i) + 2)) - (u.2 3 ((15 * b) + 2)))) / (nI 12) * (nI 12))), (3, .int (nI i)), (0, .ref (a 0)), (1, .int x)]) hnL dX7_harmony_113 rfl (nI_1 (b)) (by decide) rfl ?_
                        refine gI_goto hB 27 dX7_harmony_116 (by decide) ?_
                        refine gI_loc [0, 3, 1, 4, 5] rfl ?_
                        exact ih_lb (b + 1) ((t) + (-1)) (by omega) (by omega) (by rw [mHarB, if_pos c40_4, ← Int32.add_assoc, ← hb]; unfold mPair; rw [if_neg (fun z9 => z9.elim (fun y => c81_5 y) (fun y => y.elim (fun q => c91_6 q) (fun q => c103_7 q)))])
                      · skip
                        have c103_7 := gbi_n0 c103_7
                        refine gI_iconst (v := nI 1) hB dX7_harmony_106 (by decide) ?_
                        refine gI_goto hB 111 dX7_harmony_107 (by decide) ?_
                        refine gI_iadd hB dX7_harmony_111 ?_
                        refine gI_istore_n hB ([(2, .int ((t) + (nI 1))), (5, .int ((if 0 ≤ ((u.2 3 ((15 * i) + 2)) - (u.2 3 ((15 * b) + 2))) then ((u.2 3 ((15 * i) + 2)) - (u.2 3 ((15 * b) + 2))) else 0 - ((u.2 3 ((15 * i) + 2)) - (u.2 3 ((15 * b) + 2)))) - (if 0 ≤ ((u.2 3 ((15 * i) + 2)) - (u.2 3 ((15 * b) + 2))) then ((u.2 3 ((15 * i) + 2)) - (u.2 3 ((15 * b) + 2))) else 0 - ((u.2 3 ((15 * i) + 2)) - (u.2 3 ((15 * b) + 2)))) / (nI 12) * (nI 12))), (4, .int (nI b)), (3, .int (nI i)), (0, .ref (a 0)), (1, .int x)]) hnL dX7_harmony_112 (by decide) rfl ?_
                        refine gI_iinc hB 2 ([(4, .int (nI (b + 1))), (2, .int ((t) + (nI 1))), (5, .int ((if 0 ≤ ((u.2 3 ((15 * i) + 2)) - (u.2 3 ((15 * b) + 2))) then ((u.2 3 ((15 * i) + 2)) - (u.2 3 ((15 * b) + 2))) else 0 - ((u.2 3 ((15 * i) + 2)) - (u.2 3 ((15 * b) + 2)))) - (if 0 ≤ ((u.2 3 ((15 * i) + 2)) - (u.2 3 ((15 * b) + 2))) then ((u.2 3 ((15 * i) + 2)) - (u.2 3 ((15 * b) + 2))) else 0 - ((u.2 3 ((15 * i) + 2)) - (u.2 3 ((15 * b) + 2)))) / (nI 12) * (nI 12))), (3, .int (nI i)), (0, .ref (a 0)), (1, .int x)]) hnL dX7_harmony_113 rfl (nI_1 (b)) (by decide) rfl ?_
                        refine gI_goto hB 27 dX7_harmony_116 (by decide) ?_
                        refine gI_loc [0, 3, 1, 4, 5] rfl ?_
                        exact ih_lb (b + 1) ((t) + (nI 1)) (by omega) (by omega) (by rw [mHarB, if_pos c40_4, ← Int32.add_assoc, ← hb]; unfold mPair; rw [if_pos (Or.inr (Or.inr c103_7))])
                · skip
                  have c40_4 := gbi_0.mp c40_4
                  refine gI_goto hB 113 dX7_harmony_43 (by decide) ?_
                  refine gI_iinc hB 0 ([(4, .int (nI (b + 1))), (3, .int (nI i)), (2, .int (t)), (0, .ref (a 0)), (1, .int x)]) hnL dX7_harmony_113 rfl (nI_1 (b)) (by decide) rfl ?_
                  refine gI_goto hB 27 dX7_harmony_116 (by decide) ?_
                  refine gI_loc [0, 1, 2, 3, 4] rfl ?_
                  exact ih_lb (b + 1) t (by omega) (by omega) (by rw [mHarB, if_neg c40_4, Int32.add_zero]; exact hb)
          refine gI_loc [0, 1, 2, 3, 4] rfl ?_
          exact lb (i + 1) 0 s (by omega) (by omega) (by rw [mHarB, Int32.add_zero]; exact hinv)
        · skip
          have c18_2 := gbi_0.mp c18_2
          refine gI_goto hB 119 dX7_harmony_21 (by decide) ?_
          refine gI_iinc hB 0 ([(3, .int (nI (i + 1))), (2, .int (s)), (0, .ref (a 0)), (1, .int x)]) hnL dX7_harmony_119 rfl (nI_1 (i)) (by decide) rfl ?_
          refine gI_goto hB 4 dX7_harmony_122 (by decide) ?_
          refine gI_loc [0, 1, 2, 3] rfl ?_
          exact ih_la (i + 1) s (by omega) (by omega) (by rw [mHarA, if_neg c18_2, Int32.add_zero]; exact hinv)
  refine gI_loc [0, 1, 2, 3] rfl ?_
  exact la (z + 1) 0 0 (by omega) (by omega) rfl
