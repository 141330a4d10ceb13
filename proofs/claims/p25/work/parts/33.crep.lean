/-! the class's heap: its objects at c 0 .. c 4 (itself, WaitingRings, Songs, the visitor's ring, the steps); its lists by numbers: 0 tenants, 1 rings that wait, 2 spare rings, 3 notes, 4 + t the habits of the tenant t -/
abbrev CL : Type := (Nat → Nat) × (Nat → Nat) × (Nat → Nat) × (Nat → Nat) × (Nat → Nat → Nat)
abbrev cLa (Λ : CL) : Nat → Nat := Λ.1
abbrev cAa (Λ : CL) : Nat → Nat := Λ.2.1
abbrev cCap (Λ : CL) : Nat → Nat := Λ.2.2.1
abbrev cLen (Λ : CL) : Nat → Nat := Λ.2.2.2.1
abbrev cEl (Λ : CL) : Nat → Nat → Nat := Λ.2.2.2.2
abbrev hFS (f : Nat → Int32) : List Value := [.int (f 0), .int (f 1), .int (f 2), .int (f 3), .int (f 4), .int (f 5), .int (f 6), .int (f 7), .int (f 8)]
abbrev rFS (f : Nat → Int32) (w : Int64) : List Value := [.int (f 0), .int (f 1), .int (f 2), .int (f 3), .int (f 4), .long w]
abbrev nFS (f : Nat → Int32) (w : Int64) : List Value := [.int (f 0), .int (f 1), .int (f 2), .int (f 3), .int (f 4), .int (f 5), .long w]
abbrev tFS (A : Nat → Int32) (t l : Nat) : List Value := [.int (nI t), .int (A (7 * t + 0)), .int (A (7 * t + 1)), .ref l, .int (A (7 * t + 2)), .int (A (7 * t + 4)), .int (A (7 * t + 5)), .int (A (7 * t + 6))]
/-- the way of a ring or a note as the class keeps it: four bits for each hop -/
def wWay (R : Nat → Int32) (b : Nat) : Nat → Int64
  | 0 => (R b).toInt64
  | p + 1 => wWay R b p ||| (R (b + p + 1)).toInt64 <<< (((nI (p + 1)) * nI 4).toInt64 &&& 63)
def wOf (R : Nat → Int32) (b : Nat) (x : Int32) : Int64 := wWay R b x.toNatClampNeg
/-- the list i with its row -/
def cLst (G : gG) (h : gH) (Λ : CL) (i : Nat) : Prop := ∃ (md : Int32) (g : Nat → Option Nat), gat h (cLa Λ i) (.inr (2, [.int md, .ref (cAa Λ i), .int (nI (cLen Λ i))])) ∧ gRow G h (cAa Λ i) (cCap Λ i) g ∧ cLen Λ i ≤ cCap Λ i ∧ cCap Λ i ≤ 450 ∧ cLen Λ i ≤ 300 ∧ ∀ j, j < cLen Λ i → g j = some (cEl Λ i j)
abbrev cInj (Λ : CL) (n : Nat) : Prop := (∀ i j, i < n → j < n → cLa Λ i = cLa Λ j → i = j) ∧ (∀ i j, i < n → j < n → cCap Λ i ≠ 0 → cCap Λ j ≠ 0 → cAa Λ i = cAa Λ j → i = j) ∧ ∀ i j k l, i < n → j < n → k < cLen Λ i → l < cLen Λ j → cEl Λ i k = cEl Λ j l → i = j ∧ k = l
abbrev mRow (R : Nat → Int32) (b : Nat) : Nat → Int32 := fun i => R (b + i)
def cMain (h : gH) (c : Nat → Nat) (Λ : CL) (u : MS) : Prop := gat h (c 0) (.inr (9, [.ref (cLa Λ 0), .ref (c 1), .ref (c 2), .ref (c 3), .int (u.1 2), .int (u.1 1), .int (u.1 8), .int (u.1 9), .int (u.1 11)]))
def cFix (G : gG) (h : gH) (c : Nat → Nat) (Λ : CL) : Prop := gat h (c 1) (.inr (8, [.ref (cLa Λ 1), .ref (cLa Λ 2)])) ∧ (∃ st, gat h (c 4) (.inl (gI G, 12, .inl st))) ∧ ∃ f w, gat h (c 3) (.inr (5, rFS f w))
def cSong (h : gH) (c : Nat → Nat) (Λ : CL) (u : MS) : Prop := gat h (c 2) (.inr (6, [.ref (cLa Λ 3), .ref (c 4), .int (u.1 12), .int (u.1 10)]))
def cLens (Λ : CL) (u : MS) (T W z : Nat) : Prop := cLen Λ 0 = T ∧ cLen Λ 1 = W ∧ z ≤ cLen Λ 3 ∧ cLen Λ 3 ≤ 200 ∧ cLen Λ 1 + cLen Λ 2 ≤ 61 ∧ ∀ t, t < T → u.2 0 (7 * t + 3) = nI (cLen Λ (4 + t))
def cTens (h : gH) (Λ : CL) (u : MS) (T : Nat) : Prop := ∀ t, t < T → gat h (cEl Λ 0 t) (.inr (7, tFS (u.2 0) t (cLa Λ (4 + t))))
def cHabs (h : gH) (Λ : CL) (u : MS) (T : Nat) : Prop := ∀ t j, t < T → j < cLen Λ (4 + t) → gat h (cEl Λ (4 + t) j) (.inr (3, hFS (mRow (u.2 1) (9 * (8 * t + j)))))
def cRngs (h : gH) (Λ : CL) (u : MS) (W : Nat) : Prop := ∀ k, k < W → gat h (cEl Λ 1 k) (.inr (5, rFS (mRow (u.2 2) (14 * k)) (wOf (u.2 2) (14 * k + 5) (u.2 2 (14 * k + 4)))))
def cSpar (h : gH) (Λ : CL) : Prop := ∀ k, k < cLen Λ 2 → ∃ f w, gat h (cEl Λ 2 k) (.inr (5, rFS f w))
def cNots (h : gH) (Λ : CL) (u : MS) (z : Nat) : Prop := ∀ n, n < cLen Λ 3 → ∃ f w, gat h (cEl Λ 3 n) (.inr (4, nFS f w)) ∧ (n < z → (∀ i, i < 6 → f i = u.2 3 (15 * n + i)) ∧ w = wOf (u.2 3) (15 * n + 6) (u.2 3 (15 * n + 4)))
/-- the class's heap stands for the reference's state u -/
def cRep (G : gG) (h : gH) (c : Nat → Nat) (Λ : CL) (u : MS) (T W z : Nat) : Prop :=
  cMain h c Λ u ∧ cFix G h c Λ ∧ cSong h c Λ u ∧ (∀ i, i < 4 + T → cLst G h Λ i) ∧ cLens Λ u T W z ∧ cTens h Λ u T ∧ cHabs h Λ u T ∧ cRngs h Λ u W ∧ cSpar h Λ ∧ cNots h Λ u z ∧ cInj Λ (4 + T) ∧ (∀ k, k < W → cEl Λ 1 k ≠ c 3) ∧ ∀ k, k < cLen Λ 2 → cEl Λ 2 k ≠ c 3

