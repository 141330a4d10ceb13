theorem gbi_cg {p q : Prop} [Decidable p] [Decidable q] (h : p ↔ q) : gbi p = gbi q := by
  by_cases hp : p
  · rw [gbi_t hp, gbi_t (h.mp hp)]
  · rw [gbi_f hp, gbi_f (fun z => hp (h.mpr z))]
abbrev mHr (f t x : Int32) : Prop := (f ≤ t ∧ mIn x f t) ∨ (¬ f ≤ t ∧ (f ≤ x ∨ x ≤ t))
abbrev mFits (u : MS) (t j : Nat) (sort hour : Int32) : Prop :=
  mHr (u.2 1 (9 * (8 * t + j) + 0)) (u.2 1 (9 * (8 * t + j) + 1)) hour ∧ (u.2 1 (9 * (8 * t + j) + 2) = nI 2 ∨ u.2 1 (9 * (8 * t + j) + 2) = sort) ∧ u.2 1 (9 * (8 * t + j) + 3) ≤ u.2 0 (7 * t + 2)
def mFitL (u : MS) (t : Nat) (sort hour : Int32) : Nat → Nat → Int32
  | 0, _ => -1
  | r + 1, j => if mFits u t j sort hour then nI j else mFitL u t sort hour r (j + 1)
def mFit (u : MS) (t : Nat) (sort hour : Int32) : Int32 := mFitL u t sort hour (mMany u t) 0

theorem sa_sa {u : MS} {j : Nat} {f g : Nat → Int32} : sa (sa u j f) j g = sa u j g := by
  unfold sa
  refine Prod.ext rfl ?_
  funext i
  by_cases hi : i = j
  · subst hi; simp [va_up]
  · simp [va_up, hi]
def mPos (R : Nat → Int32) (wh to : Int32) : Nat → Nat
  | 0 => 0
  | k + 1 => if wh < R (14 * k) ∨ (R (14 * k) = wh ∧ to < R (14 * k + 1)) then mPos R wh to k else k + 1
theorem mPos_le (R : Nat → Int32) (wh to : Int32) : ∀ k, mPos R wh to k ≤ k
  | 0 => Nat.le_refl 0
  | k + 1 => by
    unfold mPos
    split
    · exact Nat.le_succ_of_le (mPos_le R wh to k)
    · exact Nat.le_refl _
def mIns (R D : Nat → Int32) (W K p : Nat) (to delay shift : Int32) : Nat → Int32 :=
  upd (upd (upd (upd (upd (upd (va_cpy D (va_cpy R R (14 * K) (14 * (K + 1)) (14 * (W - K))) 0 (14 * K) 14) (14 * K) (D 0 + delay)) (14 * K + 1) to) (14 * K + 2) (D 1)) (14 * K + 3) (D 3 + shift)) (14 * K + 4) (nI (p + 1))) (14 * K + 5 + p + 1) to
/-- a ring comes to wait behind the one in hand, or is lost -/
def mWait (u : MS) (to delay shift : Int32) : MS :=
  if u.1 6 = nI 60 then sg u 9 (u.1 9 + nI 1)
  else sg (sa u 2 (mIns (u.2 2) (u.2 4) (u.1 6).toNatClampNeg (mPos (u.2 2) (u.2 4 0 + delay) to (u.1 6).toNatClampNeg) (u.2 4 4).toNatClampNeg to delay shift)) 6 (nI ((u.1 6).toNatClampNeg + 1))

