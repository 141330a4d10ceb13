/-- the hour of the tick that is now -/
def mHour (u : MS) : Int32 := u.1 1 / u.1 2 - u.1 1 / u.1 2 / nI 24 * nI 24
def mNew (note pat : Int32) : Nat → Int32 := upd (upd (upd (upd (upd (upd (upd (fun _ => 0) 0 note) 1 pat) 2 pat) 3 (nI 0)) 4 (nI 0)) 5 (nI 0)) 6 (-1)
def mMoveIn (u : MS) (note pat : Int32) : MS × Int32 :=
  if mIn note (nI 0) (nI 87) ∧ mIn pat (nI 0) (nI 9) then
    if u.1 3 = nI 16 then mErr u (nI 2)
    else (sg (sa (sg u 0 (nI 0)) 0 (va_cpy (mNew note pat) (u.2 0) 0 (7 * (u.1 3).toNatClampNeg) 7)) 3 (nI ((u.1 3).toNatClampNeg + 1)), u.1 3)
  else mErr u (nI 1)
def mSetHour (u : MS) (t : Int32) : MS × Int32 := if mIn t (nI 5) (nI 500) then (sg (sg u 0 (nI 0)) 2 t, u.1 2) else mErr u (nI 1)
def mMany (u : MS) (t : Nat) : Nat := (u.2 0 (7 * t + 3)).toNatClampNeg
def mHab0 (p : Int32) : Nat → Int32 := upd (upd (upd (upd (upd (upd (upd (upd (upd (fun _ => 0) 0 (nI 0)) 1 (nI 23)) 2 (nI 2)) 3 (nI 0)) 4 (nI 1)) 5 p) 6 (nI 1)) 7 (nI 0)) 8 (nI 0)
def mAddHabit (u : MS) (p : Int32) : MS × Int32 :=
  if mTen u p then
    if u.2 0 (7 * p.toNatClampNeg + 3) = nI 8 then mErr u (nI 2)
    else (sa (sa (sg u 0 (nI 0)) 1 (va_cpy (mHab0 p) (u.2 1) 0 (9 * (8 * p.toNatClampNeg + mMany u p.toNatClampNeg)) 9)) 0 (upd (u.2 0) (7 * p.toNatClampNeg + 3) (nI (mMany u p.toNatClampNeg + 1))), nI (mMany u p.toNatClampNeg + 1))
  else mErr u (nI 1)
def m4 (x y z w : Int32) : Nat → Int32 := upd (upd (upd (upd (fun _ => 0) 0 x) 1 y) 2 z) 3 w
def mJ (p q : Int32) : Nat := 9 * (8 * p.toNatClampNeg + q.toNatClampNeg)
def mSetWhen (u : MS) (p q x y z w : Int32) : MS × Int32 :=
  if mHab u p q then
    if mIn x (nI 0) (nI 23) ∧ mIn y (nI 0) (nI 23) ∧ mIn z (nI 0) (nI 2) ∧ mIn w (nI 0) (nI 9) then (sa (sg u 0 (nI 0)) 1 (va_cpy (m4 x y z w) (u.2 1) 0 (mJ p q) 4), u.2 1 (mJ p q + 2))
    else mErr u (nI 2)
  else mErr u (nI 1)
def mSetWhat (u : MS) (p q x y z w : Int32) : MS × Int32 :=
  if mHab u p q ∧ mTen u y then
    if mIn x (nI 0) (nI 5) ∧ mIn z (nI 1) (nI 99) ∧ mIn w (-12) (nI 12) then (sa (sg u 0 (nI 0)) 1 (va_cpy (m4 x y z w) (u.2 1) 0 (mJ p q + 4) 4), u.2 1 (mJ p q + 4))
    else mErr u (nI 2)
  else mErr u (nI 1)
def mDrop (u : MS) (p q : Int32) : MS × Int32 :=
  if mHab u p q then (sa (sa (sg u 0 (nI 0)) 1 (va_cpy (u.2 1) (u.2 1) (9 * (8 * p.toNatClampNeg + (q.toNatClampNeg + 1))) (mJ p q) (9 * (mMany u p.toNatClampNeg - 1 - q.toNatClampNeg)))) 0 (upd (u.2 0) (7 * p.toNatClampNeg + 3) (nI (mMany u p.toNatClampNeg - 1))), nI (mMany u p.toNatClampNeg - 1))
  else mErr u (nI 1)
def mTenant (u : MS) (p w : Int32) : MS × Int32 := if mTen u p ∧ mIn w (nI 0) (nI 5) then (sg u 0 (nI 0), u.2 0 (7 * p.toNatClampNeg + w.toNatClampNeg)) else mErr u (nI 1)
def mHabit (u : MS) (p q w : Int32) : MS × Int32 := if mHab u p q ∧ mIn w (nI 0) (nI 8) then (sg u 0 (nI 0), u.2 1 (mJ p q + w.toNatClampNeg)) else mErr u (nI 1)

