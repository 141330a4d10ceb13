def mSnM (u : MS) (x : Int32) : Nat → Nat
  | 0 => 0
  | n + 1 => if mSnd u n x then mSnM u x n + 1 else mSnM u x n
theorem mSnM_le (u : MS) (x : Int32) : ∀ n, mSnM u x n ≤ n
  | 0 => Nat.le_refl 0
  | n + 1 => by
    have := mSnM_le u x n
    unfold mSnM
    split <;> omega
def mSnL (u : MS) (x : Int32) : Nat → Int32
  | 0 => -1
  | n + 1 => if mSnd u n x then (if mSnM u x n = 0 then u.2 3 (15 * n + 2) else if u.2 3 (15 * n + 2) < mSnL u x n then u.2 3 (15 * n + 2) else mSnL u x n) else mSnL u x n
def mSnG (u : MS) (x : Int32) : Nat → Int32
  | 0 => -1
  | n + 1 => if mSnd u n x then (if mSnG u x n < u.2 3 (15 * n + 2) then u.2 3 (15 * n + 2) else mSnG u x n) else mSnG u x n
def mKept (u : MS) : Nat := (u.1 12).toNatClampNeg
def mSounds (u : MS) (x q : Int32) : MS × Int32 :=
  if x < 0 then mErr u (nI 1) else if mIn q (nI 0) (nI 3) then (sg u 0 (nI 0), if q = nI 3 then mHarA u x (mKept u) else if q = 0 then nI (mSnM u x (mKept u)) else if q = nI 1 then mSnL u x (mKept u) else mSnG u x (mKept u)) else mErr u (nI 2)
theorem mHarB_sg (u : MS) (i : Nat) (v x : Int32) (a : Nat) : ∀ b, mHarB (sg u i v) x a b = mHarB u x a b
  | 0 => rfl
  | b + 1 => by
    unfold mHarB
    rw [mHarB_sg u i v x a b]
    rfl
theorem mHarA_sg (u : MS) (i : Nat) (v x : Int32) : ∀ a, mHarA (sg u i v) x a = mHarA u x a
  | 0 => rfl
  | a + 1 => by
    unfold mHarA
    rw [mHarA_sg u i v x a, mHarB_sg]
    rfl
/-- the best tick among the first notes, and its harmony -/
def mBestL (u : MS) : Nat → Int32 × Int32
  | 0 => (-1, 0)
  | n + 1 => if (0 < n ∧ u.2 3 (15 * n) = u.2 3 (15 * (n - 1))) ∨ ((mBestL u n).1 ≠ -1 ∧ mHarA u (u.2 3 (15 * n)) (mKept u) ≤ (mBestL u n).2) then mBestL u n else (u.2 3 (15 * n), mHarA u (u.2 3 (15 * n)) (mKept u))
def mBest (u : MS) : MS × Int32 := (sg u 0 (nI 0), (mBestL u (mKept u)).1)
def mEmpty (u : MS) : MS × Int32 := (sg (sg (sg u 0 (nI 0)) 12 (nI 0)) 10 (nI 0), u.1 12)
def mBit (x : Int32) : Int32 := nI 1 <<< (x &&& 31)
def mAll (T : Nat) : Int32 := mBit (nI T) - nI 1
/-- at whom the habit rings -/
def mRung (H : Nat → Int32) (J T t : Nat) : Int32 :=
  if H (J + 4) = nI 2 ∨ H (J + 4) = nI 4 then mBit (H (J + 5))
  else if H (J + 4) = nI 3 then (mBit (nI (t + 1)) ||| mBit (nI t) >>> (nI 1 &&& 31)) &&& mAll T
  else if H (J + 4) = nI 5 then mAll T &&& (mBit (nI t) ^^^ -1)
  else 0
def mNx (H : Nat → Int32) (T t : Nat) : Nat → Int32
  | 0 => 0
  | j + 1 => mNx H T t j ||| mRung H (9 * (8 * t + j)) T t
def mNext (u : MS) (T t : Nat) : Int32 := mNx (u.2 1) T t (mMany u t)
abbrev mIsIn (s : Int32) (t : Nat) : Prop := s >>> (nI t &&& 31) &&& nI 1 = nI 1
def mNo (u : MS) (T : Nat) (s : Int32) : Nat → Int32
  | 0 => 0
  | t + 1 => if mIsIn s t then mNo u T s t ||| mNext u T t else mNo u T s t
def mReachL (u : MS) (T : Nat) (s : Int32) : Nat → Int32
  | 0 => s
  | k + 1 => mReachL u T s k ||| mNo u T (mReachL u T s k) T
def mReach (u : MS) (p : Int32) : MS × Int32 := if mTen u p then (sg u 0 (nI 0), mReachL u (u.1 3).toNatClampNeg (mNext u (u.1 3).toNatClampNeg p.toNatClampNeg) (u.1 3).toNatClampNeg) else mErr u (nI 1)
def mHopL (u : MS) (T : Nat) (q : Int32) : Nat → Nat → Int32 → Int32
  | 0, _, _ => -1
  | r + 1, m, s => if s >>> (q &&& 31) &&& nI 1 = 0 then mHopL u T q r (m + 1) (s ||| mNo u T s T) else nI m
def mHops (u : MS) (p q : Int32) : MS × Int32 := if mTen u p ∧ mTen u q then (sg u 0 (nI 0), mHopL u (u.1 3).toNatClampNeg q (u.1 3).toNatClampNeg 1 (mNext u (u.1 3).toNatClampNeg p.toNatClampNeg)) else mErr u (nI 1)
def mSum (u : MS) : Nat → Int32
  | 0 => 0
  | t + 1 => mSum u t + u.2 0 (7 * t + 2)
def mPatV (u : MS) : UInt64 := if u.1 3 = 0 then FP.dconst0 else FP.ddiv (FP.i2d (mSum u (u.1 3).toNatClampNeg)) (FP.i2d (u.1 3))
def dF (d : Int64) (f : Nat → Int32) : Nat → Int64
  | 0 => d
  | i + 1 => dF d f i * 31 + (f i).toInt64
def mDgH (u : MS) (t : Nat) (d : Int64) : Nat → Int64
  | 0 => d
  | j + 1 => dF (mDgH u t d j) (fun i => u.2 1 (9 * (8 * t + j) + i)) 9
def mDgT (u : MS) (d : Int64) : Nat → Int64
  | 0 => d
  | t + 1 => mDgH u t (dF (mDgT u d t) (fun i => u.2 0 (7 * t + i)) 6) (mMany u t)
def mDgR (u : MS) (d : Int64) : Nat → Int64
  | 0 => d
  | k + 1 => dF (mDgR u d k) (fun i => u.2 2 (14 * k + i)) 5
def mDgN (u : MS) (d : Int64) : Nat → Int64
  | 0 => d
  | n + 1 => dF (mDgN u d n) (fun i => u.2 3 (15 * n + i)) 6
def mDig (u : MS) : Int64 := mDgN u (mDgR u (mDgT u (dF 439 (mCnt u) 9) (u.1 3).toNatClampNeg) (u.1 6).toNatClampNeg) (mKept u)
def mSpV (u1 : MS) (v : Value) : gR → MS → Nat → Nat → Prop := fun r u' k n => r = .inl (some v) ∧ u' = u1 ∧ k ≤ 0 ∧ n ≤ 0
theorem or_0 (s : Int32) : s ||| 0 = s := by
  apply Int32.toBitVec_inj.mp
  simp
theorem mSum_le {u : MS} {T W z : Nat} (o : mOk u T W z) : ∀ t, t ≤ T → ∃ y, y ≤ 9 * t ∧ mSum u t = nI y
  | 0, _ => ⟨0, by omega, rfl⟩
  | t + 1, h => by
    obtain ⟨y, hy, e⟩ := mSum_le o t (by omega)
    obtain ⟨m, -, -, ⟨p, hp, ep⟩, -⟩ := o.2.2.2.2.2.2.2.1 t (by omega)
    refine ⟨y + p, by omega, ?_⟩
    unfold mSum
    rw [e, ep]
    exact (nI_add y p)
theorem pat_nan {y T : Nat} (hy : y ≤ 144) (h0 : 0 < T) (hT : T ≤ 16) : vf_n64 (FP.ddiv (FP.i2d (nI y)) (FP.i2d (nI T))) := by
  have key : ∀ y : Fin 145, ∀ T : Fin 16, vf_n64 (FP.ddiv (FP.i2d (nI y.val)) (FP.i2d (nI (T.val + 1)))) := by
    unfold vf_n64
    decide +kernel
  have := key ⟨y, by omega⟩ ⟨T - 1, by omega⟩
  rw [show T - 1 + 1 = T by omega] at this
  exact this

