/-! the reference's methods, as functions of its state -/
abbrev mIn (v lo hi : Int32) : Prop := lo ≤ v ∧ v ≤ hi
abbrev mTen (u : MS) (p : Int32) : Prop := mIn p (nI 0) (u.1 3 - nI 1)
abbrev mHab (u : MS) (p q : Int32) : Prop := mTen u p ∧ mIn q (nI 0) (u.2 0 (7 * p.toNatClampNeg + 3) - nI 1)
def mW (u : MS) (T : Nat) : Prop := u.1 3 = nI T ∧ T ≤ 16 ∧ ∀ t, t < T → ∃ m, m ≤ 8 ∧ u.2 0 (7 * t + 3) = nI m
def mSt (ov : Option Value) (u1 : MS) : gR → MS → Nat → Nat → Prop := fun r u' k n => r = .inl ov ∧ u' = u1 ∧ k = 0 ∧ n = 0
theorem mSt.no {ov : Option Value} {u1 : MS} : ∀ E u' k n, ¬ mSt ov u1 (.inr E) u' k n := fun _ _ _ _ h => by cases h.1
/-- an answer and a state, at no more than this cost -/
def mSp (s : MS × Int32) (kc nc : Nat) : gR → MS → Nat → Nat → Prop := fun r u' k n => r = .inl (some (.int s.2)) ∧ u' = s.1 ∧ k ≤ kc ∧ n ≤ nc
theorem mSp.no {s : MS × Int32} {kc nc : Nat} : ∀ E u' k n, ¬ mSp s kc nc (.inr E) u' k n := fun _ _ _ _ h => by cases h.1
theorem nI_m1 (m : Nat) : nI (m + 1) - nI 1 = nI m := by
  rw [show nI 1 = (1 : Int32) from rfl]
  exact nI_pred m
theorem mIn_of {q : Int32} {m : Nat} (hm : m < 2 ^ 30) (h : mIn q (nI 0) (nI m - nI 1)) : ∃ j, j < m ∧ q = nI j := by
  obtain ⟨h1, h2⟩ := h
  have h0 : ¬ q < 0 := Int32.not_lt.mpr h1
  obtain ⟨j, hj, rfl⟩ := nI_of h0
  cases m with
  | zero => exact absurd (Int32.le_trans h1 h2) (by decide)
  | succ m =>
    rw [nI_m1 m] at h2
    exact ⟨j, by have := (nI_leI hj (by omega)).mp h2; omega, rfl⟩
theorem mIn_nI {j m : Nat} (hm : m < 2 ^ 30) (h : j < m) : mIn (nI j) (nI 0) (nI m - nI 1) := by
  cases m with
  | zero => omega
  | succ m =>
    rw [nI_m1 m]
    exact ⟨nI_le (a := 0) (b := j) (by omega) (by omega), nI_le (a := j) (b := m) (by omega) (by omega)⟩
theorem mIn_lit {q : Int32} {m : Nat} (hm : m < 2 ^ 29) (h : mIn q (nI 0) (nI m)) : ∃ j, j ≤ m ∧ q = nI j := by
  obtain ⟨j, hj, e⟩ := mIn_of (m := m + 1) (by omega) (by rw [nI_m1 m]; exact h)
  exact ⟨j, by omega, e⟩
theorem mTen_of {u : MS} {p : Int32} {T : Nat} (w : mW u T) (h : mTen u p) : ∃ t, t < T ∧ p = nI t := by
  unfold mTen at h
  rw [w.1] at h
  exact mIn_of (by have := w.2.1; omega) h
theorem mTen_nI {u : MS} {t T : Nat} (w : mW u T) (h : t < T) : mTen u (nI t) := by
  unfold mTen
  rw [w.1]
  exact mIn_nI (by have := w.2.1; omega) h
theorem mCl {t : Nat} (h : t < 100000) : (nI t).toNatClampNeg = t := nI_clamp (by omega)
def mErr (u : MS) (c : Int32) : MS × Int32 := (sg (sg u 0 (nI 0)) 0 c, nI 0)

set_option maxRecDepth 100000 in
set_option maxHeartbeats 4000000 in
theorem c_isIn (G : gG) (h : gH) (v lo hi : Int32) : gMet yX7_isIn wsX7_isIn (gRm 1 0 0) G h [.int v, .int lo, .int hi] (gRet h (some (.int (gbi (mIn v lo hi))))) := by
  refine gMet_of (maxL := 3) (ret := (some .boolean)) (by decide) rfl (Nat.le_of_ble_eq_true rfl) ?_
  intro X hG hnL hB hE
  subst hG
  change gW X h 0 0 0 [(0, .int v), (1, .int lo), (2, .int hi)] []
  refine gI_iload_n hB 0 dX7_isIn_0 rfl ?_
  refine gI_iload_n hB 1 dX7_isIn_1 rfl ?_
  refine gI_icmp_lt hB 14 dX7_isIn_2 (by decide) (fun c2_1 => ?_) (fun c2_1 => ?_)
  · skip
    refine gI_iconst (v := nI 0) hB dX7_isIn_14 (by decide) ?_
    refine gI_zret hB hE (by decide) dX7_isIn_15 ?_
    exact ⟨by rw [gbi_f (fun z => absurd c2_1 (Int32.not_lt.mpr z.1))]; rfl, rfl, rfl, rfl⟩
  · skip
    refine gI_iload_n hB 0 dX7_isIn_5 rfl ?_
    refine gI_iload_n hB 2 dX7_isIn_6 rfl ?_
    refine gI_icmp_gt hB 14 dX7_isIn_7 (by decide) (fun c7_2 => ?_) (fun c7_2 => ?_)
    · skip
      refine gI_iconst (v := nI 0) hB dX7_isIn_14 (by decide) ?_
      refine gI_zret hB hE (by decide) dX7_isIn_15 ?_
      exact ⟨by rw [gbi_f (fun z => absurd c7_2 (Int32.not_lt.mpr z.2))]; rfl, rfl, rfl, rfl⟩
    · skip
      refine gI_iconst (v := nI 1) hB dX7_isIn_10 (by decide) ?_
      refine gI_goto hB 15 dX7_isIn_11 (by decide) ?_
      refine gI_zret hB hE (by decide) dX7_isIn_15 ?_
      exact ⟨by rw [gbi_t ⟨Int32.not_lt.mp c2_1, Int32.not_lt.mp c7_2⟩]; rfl, rfl, rfl, rfl⟩

set_option maxRecDepth 100000 in
set_option maxHeartbeats 4000000 in
theorem c_fail (G : gG) (h : gH) (a : Nat → Nat) (u : MS) (hM : mRep G h a u) (z : Int32) : gMet yX7_fail wsX7_fail (gRm 1 0 0) G h [.ref (a 0), .int z] (mPo G h a (mSt (some (.int (nI 0))) (sg u 0 z))) := by
  refine gMet_of (maxL := 2) (ret := (some .int)) (by decide) rfl (Nat.le_of_ble_eq_true rfl) ?_
  intro X hG hnL hB hE
  subst hG
  change gW X h 0 0 0 [(0, .ref (a 0)), (1, .int z)] []
  have hF : mFr h h := mFr.rf
  refine gI_aload_n hB 0 dX7_fail_0 rfl ?_
  refine gI_iload_n hB 1 dX7_fail_1 rfl ?_
  refine gM_put hB hM hF 0 (sg u 0 z) (by decide +kernel) (by decide) (by decide +kernel) rfl rfl rfl rfl rfl rfl dX7_fail_2 (fun h hM hF => ?_)
  refine gI_iconst (v := nI 0) hB dX7_fail_5 (by decide) ?_
  refine gI_iret hB hE dX7_fail_6 ?_
  exact ⟨_, hM, hF, rfl, rfl, rfl, rfl⟩

set_option maxRecDepth 100000 in
set_option maxHeartbeats 4000000 in
theorem c_thrown (G : gG) (h : gH) (a : Nat → Nat) (u : MS) (hM : mRep G h a u) : gMet yX7_thrown wsX7_thrown (gRm 1 0 0) G h [.ref (a 0)] (gRet h (some (.int (u.1 0)))) := by
  refine gMet_of (maxL := 1) (ret := (some .int)) (by decide) rfl (Nat.le_of_ble_eq_true rfl) ?_
  intro X hG hnL hB hE
  subst hG
  change gW X h 0 0 0 [(0, .ref (a 0))] []
  refine gI_aload_n hB 0 dX7_thrown_0 rfl ?_
  refine gM_get hB hM 0 (v := .int (u.1 0)) (by decide +kernel) (by decide) (by decide +kernel) rfl rfl dX7_thrown_1 ?_
  refine gI_iret hB hE dX7_thrown_4 ?_
  exact gRet.rfl'

set_option maxRecDepth 100000 in
set_option maxHeartbeats 4000000 in
theorem c_isTenant (G : gG) (h : gH) (a : Nat → Nat) (u : MS) (hM : mRep G h a u) (p : Int32) : gMet yX7_isTenant wsX7_isTenant (gRm 2 0 0) G h [.ref (a 0), .int p] (gRet h (some (.int (gbi (mTen u p))))) := by
  refine gMet_of (maxL := 2) (ret := (some .boolean)) (by decide) rfl (Nat.le_of_ble_eq_true rfl) ?_
  intro X hG hnL hB hE
  subst hG
  change gW X h 0 0 0 [(0, .ref (a 0)), (1, .int p)] []
  refine gI_iload_n hB 1 dX7_isTenant_0 rfl ?_
  refine gI_iconst (v := nI 0) hB dX7_isTenant_1 (by decide) ?_
  refine gI_aload_n hB 0 dX7_isTenant_2 rfl ?_
  refine gM_get hB hM 3 (v := .int (u.1 3)) (by decide +kernel) (by decide) (by decide +kernel) rfl rfl dX7_isTenant_3 ?_
  refine gI_iconst (v := nI 1) hB dX7_isTenant_6 (by decide) ?_
  refine gI_isub hB dX7_isTenant_7 ?_
  refine gI_pureS (n9 := 3) (As := [.int p, .int (nI 0), .int ((u.1 3) - (nI 1))]) (rest := []) hB (c_isIn X.2.1 h p (nI 0) ((u.1 3) - (nI 1))) (gCW.of ggX7_isTenant_X7_isIn rfl ⟨by decide, by decide, by decide +kernel⟩ ⟨Nat.le_of_ble_eq_true rfl, Nat.le_of_ble_eq_true rfl⟩) (Or.inl (by decide +kernel)) (by decide +kernel) (by decide +kernel) rfl rfl (Nat.le_of_ble_eq_true rfl) (by first | exact Nat.le_of_ble_eq_true rfl | (dsimp only [gRm]; omega)) (by first | exact Nat.le_of_ble_eq_true rfl | (dsimp only [gRm]; omega)) dX7_isTenant_8 ?_
  refine gI_zret hB hE gbi_nar dX7_isTenant_11 ?_
  exact gRet.rfl'

set_option maxRecDepth 100000 in
set_option maxHeartbeats 4000000 in
theorem c_get (G : gG) (h : gH) (a : Nat → Nat) (u : MS) (hM : mRep G h a u) (t w : Nat) (ht : t < 16) (hw : w < 7) : gMet yX7_get wsX7_get (gRm 1 0 0) G h [.ref (a 0), .int (nI t), .int (nI w)] (gRet h (some (.int (u.2 0 (7 * t + w))))) := by
  refine gMet_of (maxL := 3) (ret := (some .int)) (by decide) rfl (Nat.le_of_ble_eq_true rfl) ?_
  intro X hG hnL hB hE
  subst hG
  change gW X h 0 0 0 [(0, .ref (a 0)), (1, .int (nI t)), (2, .int (nI w))] []
  refine gI_aload_n hB 0 dX7_get_0 rfl ?_
  refine gM_get hB hM 4 (v := .ref (a 1)) (by decide +kernel) (by decide) (by decide +kernel) rfl rfl dX7_get_1 ?_
  refine gI_bipush (v := nI 7) hB dX7_get_4 (by decide) ?_
  refine gI_iload_n hB 1 dX7_get_6 rfl ?_
  refine gI_imulN hB dX7_get_7 ?_
  refine gI_iload_n hB 2 dX7_get_8 rfl ?_
  refine gI_iaddN hB dX7_get_9 ?_
  refine gM_ald hB hM 0 (by decide) ((7 * t) + w) rfl (show (7 * t) + w < 112 by omega) dX7_get_10 ?_
  refine gI_iret hB hE dX7_get_11 ?_
  exact gRet.rfl'

set_option maxRecDepth 100000 in
set_option maxHeartbeats 4000000 in
theorem c_set (G : gG) (h : gH) (a : Nat → Nat) (u : MS) (hM : mRep G h a u) (t w : Nat) (v : Int32) (ht : t < 16) (hw : w < 7) : gMet yX7_set wsX7_set (gRm 1 0 0) G h [.ref (a 0), .int (nI t), .int (nI w), .int v] (mPo G h a (mSt none (sa u 0 (upd (u.2 0) (7 * t + w) v)))) := by
  refine gMet_of (maxL := 4) (ret := none) (by decide) rfl (Nat.le_of_ble_eq_true rfl) ?_
  intro X hG hnL hB hE
  subst hG
  change gW X h 0 0 0 [(0, .ref (a 0)), (1, .int (nI t)), (2, .int (nI w)), (3, .int v)] []
  have hF : mFr h h := mFr.rf
  refine gI_aload_n hB 0 dX7_set_0 rfl ?_
  refine gM_get hB hM 4 (v := .ref (a 1)) (by decide +kernel) (by decide) (by decide +kernel) rfl rfl dX7_set_1 ?_
  refine gI_bipush (v := nI 7) hB dX7_set_4 (by decide) ?_
  refine gI_iload_n hB 1 dX7_set_6 rfl ?_
  refine gI_imulN hB dX7_set_7 ?_
  refine gI_iload_n hB 2 dX7_set_8 rfl ?_
  refine gI_iaddN hB dX7_set_9 ?_
  refine gI_iload_n hB 3 dX7_set_10 rfl ?_
  refine gM_ast hB hM hF 0 (by decide) ((7 * t) + w) rfl (show (7 * t) + w < 112 by omega) dX7_set_11 (fun h hM hF => ?_)
  refine gI_vret hB hE dX7_set_12 ?_
  exact ⟨_, hM, hF, rfl, rfl, rfl, rfl⟩

set_option maxRecDepth 100000 in
set_option maxHeartbeats 4000000 in
theorem c_at (G : gG) (h : gH) (t j : Nat) : gMet yX7_at wsX7_at (gRm 1 0 0) G h [.int (nI t), .int (nI j)] (gRet h (some (.int (nI (9 * (8 * t + j)))))) := by
  refine gMet_of (maxL := 2) (ret := (some .int)) (by decide) rfl (Nat.le_of_ble_eq_true rfl) ?_
  intro X hG hnL hB hE
  subst hG
  change gW X h 0 0 0 [(0, .int (nI t)), (1, .int (nI j))] []
  refine gI_bipush (v := nI 9) hB dX7_at_0 (by decide) ?_
  refine gI_bipush (v := nI 8) hB dX7_at_2 (by decide) ?_
  refine gI_iload_n hB 0 dX7_at_4 rfl ?_
  refine gI_imulN hB dX7_at_5 ?_
  refine gI_iload_n hB 1 dX7_at_6 rfl ?_
  refine gI_iaddN hB dX7_at_7 ?_
  refine gI_imulN hB dX7_at_8 ?_
  refine gI_iret hB hE dX7_at_9 ?_
  exact gRet.rfl'
