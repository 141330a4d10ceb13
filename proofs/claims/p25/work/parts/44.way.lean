abbrev bl (s : Int64) (i : Nat) : Bool := s.toBitVec.getLsbD i
theorem bl_or (s x : Int64) (i : Nat) : bl (s ||| x) i = (bl s i || bl x i) := by
  show (s ||| x).toBitVec.getLsbD i = _
  rw [Int64.toBitVec_or, BitVec.getLsbD_or]
theorem bl_shl (x : Int64) {p m : Nat} (hp : p ≤ 8) (hm : m < 64) : bl (x <<< ((nI p * nI 4).toInt64 &&& 63)) m = (decide (4 * p ≤ m) && bl x (m - 4 * p)) := by
  have e : ((nI p * nI 4).toInt64 &&& 63).toBitVec.smod 64 = BitVec.ofNat 64 (4 * p) := by
    have key : ∀ p : Fin 9, ((nI p.val * nI 4).toInt64 &&& 63).toBitVec.smod 64 = BitVec.ofNat 64 (4 * p.val) := by decide +kernel
    exact key ⟨p, by omega⟩
  show (x <<< ((nI p * nI 4).toInt64 &&& 63)).toBitVec.getLsbD m = _
  rw [Int64.toBitVec_shiftLeft, e, BitVec.shiftLeft_eq', BitVec.getLsbD_shiftLeft, BitVec.toNat_ofNat, Nat.mod_eq_of_lt (show 4 * p < 2 ^ 64 by omega)]
  by_cases c : 4 * p ≤ m
  · rw [decide_eq_true c, decide_eq_true hm, decide_eq_false (show ¬ m < 4 * p by omega)]
    rfl
  · rw [decide_eq_false c, decide_eq_true hm, decide_eq_true (show m < 4 * p by omega)]
    rfl
theorem bl_shr (x : Int64) {i n : Nat} (hi : i ≤ 8) (hn : n < 31) : bl (x >>> ((nI (i * 4)).toInt64 &&& 63)) n = bl x (4 * i + n) := by
  have e : ((nI (i * 4)).toInt64 &&& 63).toBitVec.smod 64 = BitVec.ofNat 64 (4 * i) := by
    have key : ∀ i : Fin 9, ((nI (i.val * 4)).toInt64 &&& 63).toBitVec.smod 64 = BitVec.ofNat 64 (4 * i.val) := by decide +kernel
    exact key ⟨i, by omega⟩
  show (x >>> ((nI (i * 4)).toInt64 &&& 63)).toBitVec.getLsbD n = _
  rw [Int64.toBitVec_shiftRight, e, BitVec.sshiftRight_eq', BitVec.getLsbD_sshiftRight, BitVec.toNat_ofNat, Nat.mod_eq_of_lt (show 4 * i < 2 ^ 64 by omega)]
  rw [decide_eq_false (show ¬ 64 ≤ n by omega), if_pos (show 4 * i + n < 64 by omega)]
  rfl
theorem bl_nI {w m : Nat} (hw : w < 16) (hm : m < 64) : bl (nI w).toInt64 m = (decide (m < 4) && bt (nI w) m) := by
  have key : ∀ w : Fin 16, ∀ m : Fin 64, bl (nI w.val).toInt64 m.val = (decide (m.val < 4) && bt (nI w.val) m.val) := by decide +kernel
  exact key ⟨w, hw⟩ ⟨m, hm⟩
theorem bt_hi {w m : Nat} (hw : w < 16) (hm : m < 32) (h4 : 4 ≤ m) : bt (nI w) m = false := by
  have key : ∀ w : Fin 16, ∀ m : Fin 32, 4 ≤ m.val → bt (nI w.val) m.val = false := by decide +kernel
  exact key ⟨w, hw⟩ ⟨m, hm⟩ h4
/-- the bits of a way -/
theorem wWay_bl {R : Nat → Int32} {b : Nat} : ∀ p, p ≤ 8 → (∀ i, i ≤ p → ∃ w, w < 16 ∧ R (b + i) = nI w) → ∀ m, m < 64 → bl (wWay R b p) m = (decide (m / 4 ≤ p) && bt (R (b + m / 4)) (m % 4))
  | 0, _, h, m, hm => by
    obtain ⟨w, hw, ew⟩ := h 0 (Nat.le_refl 0)
    show bl (R b).toInt64 m = _
    rw [Nat.add_zero] at ew
    rw [ew, bl_nI hw hm]
    by_cases c : m < 4
    · rw [decide_eq_true c, decide_eq_true (show m / 4 ≤ 0 by omega), show m / 4 = 0 by omega, Nat.add_zero, ew, show m % 4 = m by omega]
    · rw [decide_eq_false c, decide_eq_false (show ¬ m / 4 ≤ 0 by omega)]
      rfl
  | p + 1, hp, h, m, hm => by
    have ih := wWay_bl (R := R) (b := b) p (by omega) (fun i hi => h i (by omega)) m hm
    obtain ⟨w, hw, ew⟩ := h (p + 1) (Nat.le_refl _)
    rw [wWay, bl_or, ih, show b + p + 1 = b + (p + 1) by omega, ew, bl_shl _ hp hm]
    by_cases c : 4 * (p + 1) ≤ m
    · rw [decide_eq_true c, decide_eq_false (show ¬ m / 4 ≤ p by omega), bl_nI hw (by omega)]
      by_cases c2 : m - 4 * (p + 1) < 4
      · rw [decide_eq_true c2, decide_eq_true (show m / 4 ≤ p + 1 by omega), show m / 4 = p + 1 by omega, ew, show m % 4 = m - 4 * (p + 1) by omega]
        rfl
      · rw [decide_eq_false c2, decide_eq_false (show ¬ m / 4 ≤ p + 1 by omega)]
        rfl
    · rw [decide_eq_false c, decide_eq_true (show m / 4 ≤ p by omega), decide_eq_true (show m / 4 ≤ p + 1 by omega), Bool.false_and, Bool.or_false]
/-- the tenant at the hop i of a way -/
theorem wWay_at {R : Nat → Int32} {b p i : Nat} (hp : p ≤ 8) (h : ∀ i, i ≤ p → ∃ w, w < 16 ∧ R (b + i) = nI w) (hi : i ≤ p) : (wWay R b p >>> ((nI (i * 4)).toInt64 &&& 63)).toInt32 &&& nI 15 = R (b + i) := by
  obtain ⟨w, hw, ew⟩ := h i hi
  refine bt_ext (fun n hn => ?_)
  rw [bt_and, ew]
  have e15 : bt (nI 15) n = decide (n < 4) := by
    have key : ∀ n : Fin 32, bt (nI 15) n.val = decide (n.val < 4) := by decide +kernel
    exact key ⟨n, hn⟩
  rw [e15]
  by_cases c : n < 4
  · rw [decide_eq_true c, Bool.and_true]
    have e1 : bt ((wWay R b p >>> ((nI (i * 4)).toInt64 &&& 63)).toInt32) n = bl (wWay R b p >>> ((nI (i * 4)).toInt64 &&& 63)) n := by
      show ((wWay R b p >>> ((nI (i * 4)).toInt64 &&& 63)).toInt32).toBitVec.getLsbD n = _
      rw [Int64.toBitVec_toInt32, BitVec.getLsbD_signExtend]
      simp [hn, show n < 64 by omega]
    rw [e1, bl_shr _ (by omega) (by omega), wWay_bl p hp h _ (by omega), show (4 * i + n) / 4 = i by omega, show (4 * i + n) % 4 = n by omega, decide_eq_true hi, Bool.true_and, ew]
  · rw [decide_eq_false c, Bool.and_false, bt_hi hw hn (by omega)]

