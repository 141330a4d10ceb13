theorem mFitL_sg (u : MS) (i : Nat) (v : Int32) (t : Nat) (s x : Int32) : ∀ r j, mFitL (sg u i v) t s x r j = mFitL u t s x r j
  | 0, _ => rfl
  | r + 1, j => by
    unfold mFitL
    rw [mFitL_sg u i v t s x r (j + 1)]
    rfl
theorem mFit_sg (u : MS) (i : Nat) (v : Int32) (t : Nat) (s x : Int32) : mFit (sg u i v) t s x = mFit u t s x := mFitL_sg u i v t s x _ _
def mCnt (u : MS) (i : Nat) : Int32 := match i with
  | 0 => u.1 1
  | 1 => mHour u
  | 2 => u.1 3
  | 3 => u.1 6
  | 4 => u.1 8
  | 5 => u.1 9
  | 6 => u.1 10
  | 7 => u.1 11
  | _ => u.1 2
def mCount (u : MS) (p : Int32) : MS × Int32 := if mIn p (nI 0) (nI 8) then (sg u 0 (nI 0), mCnt u p.toNatClampNeg) else mErr u (nI 1)
def mWaiting (u : MS) (p q : Int32) : MS × Int32 := if mIn p (nI 0) (u.1 6 - nI 1) ∧ mIn q (nI 0) (nI 4) then (sg u 0 (nI 0), u.2 2 (14 * p.toNatClampNeg + q.toNatClampNeg)) else mErr u (nI 1)
def mFitsC (u : MS) (p s x : Int32) : MS × Int32 := if mTen u p then (if mIn s (nI 0) (nI 1) ∧ mIn x (nI 0) (nI 23) then (sg u 0 (nI 0), mFit u p.toNatClampNeg s x) else mErr u (nI 2)) else mErr u (nI 1)
def mSung (u : MS) (p q : Int32) : MS × Int32 := if mIn p (nI 0) (u.1 12 - nI 1) ∧ mIn q (nI 0) (nI 5) then (sg u 0 (nI 0), u.2 3 (15 * p.toNatClampNeg + q.toNatClampNeg)) else mErr u (nI 1)
def mThrough (u : MS) (p q : Int32) : MS × Int32 := if mIn p (nI 0) (u.1 12 - nI 1) ∧ mIn q (nI 0) (u.2 3 (15 * p.toNatClampNeg + 4)) then (sg u 0 (nI 0), u.2 3 (15 * p.toNatClampNeg + 6 + q.toNatClampNeg)) else mErr u (nI 1)
abbrev mSnd (u : MS) (n : Nat) (x : Int32) : Prop := u.2 3 (15 * n) ≤ x ∧ x - u.2 3 (15 * n) < u.2 3 (15 * n + 1)
def mPair (x y : Int32) : Int32 :=
  if ((if 0 ≤ x - y then x - y else 0 - (x - y)) - (if 0 ≤ x - y then x - y else 0 - (x - y)) / nI 12 * nI 12) = 0 ∨ mIn ((if 0 ≤ x - y then x - y else 0 - (x - y)) - (if 0 ≤ x - y then x - y else 0 - (x - y)) / nI 12 * nI 12) (nI 3) (nI 5) ∨ mIn ((if 0 ≤ x - y then x - y else 0 - (x - y)) - (if 0 ≤ x - y then x - y else 0 - (x - y)) / nI 12 * nI 12) (nI 7) (nI 9) then nI 1 else -1
def mHarB (u : MS) (x : Int32) (a : Nat) : Nat → Int32
  | 0 => 0
  | b + 1 => mHarB u x a b + if mSnd u b x then mPair (u.2 3 (15 * a + 2)) (u.2 3 (15 * b + 2)) else 0
def mHarA (u : MS) (x : Int32) : Nat → Int32
  | 0 => 0
  | a + 1 => mHarA u x a + if mSnd u a x then mHarB u x a a else 0

