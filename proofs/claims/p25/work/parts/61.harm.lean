/-! the harmony: by pairs, and by the steps of the octave -/
abbrev iZ (a : Int) : Int32 := Int32.ofInt a
theorem iZ_add (a b : Int) : iZ a + iZ b = iZ (a + b) := (Int32.ofInt_add a b).symm
theorem iZ_nI (n : Nat) : nI n = iZ (n : Int) := by
  unfold nI iZ
  exact (Int32.ofInt_eq_ofNat).symm
/-- whether steps so far apart are good -/
def gd (d : Nat) : Int := if d = 0 ∨ d = 3 ∨ d = 4 ∨ d = 5 ∨ d = 7 ∨ d = 8 ∨ d = 9 then 1 else -1
def gG2 (r i : Nat) : Int := if r ≤ i then gd (i - r) else gd (r - i)
def hInc (C : Nat → Int) (r : Nat) : Nat → Int := fun i => if i = r then C i + 1 else C i
def hTri (c : Int) : Int := c * (c - 1) / 2
/-- at one low step, with the first k steps above it -/
def hI (C : Nat → Int) (l : Nat) : Nat → Int
  | 0 => 0
  | k + 1 => hI C l k + gd (k + 1) * (C l * C (l + 1 + k))
/-- at the first l low steps -/
def hP (C : Nat → Int) : Nat → Int
  | 0 => 0
  | l + 1 => hP C l + hTri (C l) + hI C l (11 - l)
/-- one note against all steps -/
def hS (r : Nat) (C : Nat → Int) : Nat → Int
  | 0 => 0
  | i + 1 => hS r C i + gG2 r i * C i
theorem hTri_inc (c : Int) : hTri (c + 1) = hTri c + c := by
  unfold hTri
  rw [show (c + 1) * (c + 1 - 1) = c * (c - 1) + c * 2 by
    rw [Int.add_sub_cancel, Int.add_mul, Int.mul_sub]
    omega]
  exact Int.add_mul_ediv_right _ _ (by decide)
theorem hS_inc {r j : Nat} {C : Nat → Int} : ∀ n, hS r (hInc C j) n = hS r C n + if j < n then gG2 r j else 0
  | 0 => by
    rw [if_neg (Nat.not_lt_zero j)]
    rfl
  | n + 1 => by
    show hS r (hInc C j) n + gG2 r n * hInc C j n = hS r C n + gG2 r n * C n + _
    rw [hS_inc n]
    unfold hInc
    by_cases e : n = j
    · subst e
      rw [if_pos rfl, if_neg (Nat.lt_irrefl n), if_pos (Nat.lt_succ_self n), Int.mul_add, Int.mul_one]
      omega
    · rw [if_neg e]
      by_cases c : j < n
      · rw [if_pos c, if_pos (by omega)]
        omega
      · rw [if_neg c, if_neg (by omega)]
        omega
theorem hI_above {C : Nat → Int} {l r : Nat} (h : r < l) : ∀ k, hI (hInc C r) l k = hI C l k
  | 0 => rfl
  | k + 1 => by
    show hI (hInc C r) l k + gd (k + 1) * (hInc C r l * hInc C r (l + 1 + k)) = _
    rw [hI_above h k]
    unfold hInc
    rw [if_neg (by omega), if_neg (by omega)]
    rfl
theorem hI_below {C : Nat → Int} {l r : Nat} (h : l < r) : ∀ k, hI (hInc C r) l k = hI C l k + if r < l + 1 + k then gd (r - l) * C l else 0
  | 0 => by
    rw [if_neg (by omega)]
    rfl
  | k + 1 => by
    show hI (hInc C r) l k + gd (k + 1) * (hInc C r l * hInc C r (l + 1 + k)) = hI C l k + gd (k + 1) * (C l * C (l + 1 + k)) + _
    rw [hI_below h k]
    unfold hInc
    rw [if_neg (show l ≠ r by omega)]
    by_cases e : l + 1 + k = r
    · rw [if_pos e, if_neg (show ¬ r < l + 1 + k by omega), if_pos (show r < l + 1 + (k + 1) by omega), show r - l = k + 1 by omega, Int.mul_add, Int.mul_one, Int.mul_add]
      omega
    · rw [if_neg e]
      by_cases c : r < l + 1 + k
      · rw [if_pos c, if_pos (by omega)]
        omega
      · rw [if_neg c, if_neg (by omega)]
        omega
/-- the steps above one, weighed -/
def hU (C : Nat → Int) (l : Nat) : Nat → Int
  | 0 => 0
  | k + 1 => hU C l k + gd (k + 1) * C (l + 1 + k)
theorem hI_at {C : Nat → Int} {l : Nat} : ∀ k, hI (hInc C l) l k = hI C l k + hU C l k
  | 0 => rfl
  | k + 1 => by
    show hI (hInc C l) l k + gd (k + 1) * (hInc C l l * hInc C l (l + 1 + k)) = hI C l k + gd (k + 1) * (C l * C (l + 1 + k)) + (hU C l k + gd (k + 1) * C (l + 1 + k))
    rw [hI_at k]
    unfold hInc
    rw [if_pos rfl, if_neg (by omega), Int.add_mul, Int.one_mul, Int.mul_add]
    omega
theorem hP_inc {C : Nat → Int} {r : Nat} (hr : r < 12) : ∀ l, l ≤ 12 → hP (hInc C r) l = hP C l + if l ≤ r then hS r C l else hS r C r + C r + hU C r (11 - r)
  | 0, _ => by
    rw [if_pos (Nat.zero_le r)]
    rfl
  | l + 1, hl => by
    show hP (hInc C r) l + hTri (hInc C r l) + hI (hInc C r) l (11 - l) = hP C l + hTri (C l) + hI C l (11 - l) + _
    rw [hP_inc hr l (by omega)]
    rcases Nat.lt_trichotomy l r with h | h | h
    · rw [if_pos (show l ≤ r by omega), if_pos (show l + 1 ≤ r by omega), hI_below h, if_pos (by omega)]
      have e : hInc C r l = C l := if_neg (by omega)
      have e2 : hS r C (l + 1) = hS r C l + gd (r - l) * C l := by
        show hS r C l + gG2 r l * C l = _
        unfold gG2
        rw [if_neg (by omega)]
      rw [e, e2]
      omega
    · subst h
      have e : hInc C l l = C l + 1 := if_pos rfl
      rw [if_pos (Nat.le_refl l), if_neg (by omega), hI_at, e, hTri_inc]
      omega
    · rw [if_neg (by omega), if_neg (by omega), hI_above h]
      have e : hInc C r l = C l := if_neg (by omega)
      rw [e]
      omega
theorem hS_up {C : Nat → Int} {r : Nat} : ∀ k, hS r C (r + 1 + k) = hS r C r + C r + hU C r k
  | 0 => by
    show hS r C r + gG2 r r * C r = _
    unfold gG2 hU
    rw [if_pos (Nat.le_refl r), Nat.sub_self, show gd 0 = 1 from rfl]
    omega
  | k + 1 => by
    show hS r C (r + 1 + k) + gG2 r (r + 1 + k) * C (r + 1 + k) = hS r C r + C r + (hU C r k + gd (k + 1) * C (r + 1 + k))
    rw [hS_up k]
    unfold gG2
    rw [if_pos (by omega), show r + 1 + k - r = k + 1 by omega]
    omega
/-- a note more -/
theorem hP_note {C : Nat → Int} {r : Nat} (hr : r < 12) : hP (hInc C r) 12 = hP C 12 + hS r C 12 := by
  rw [hP_inc hr 12 (Nat.le_refl _), if_neg (by omega)]
  have := hS_up (C := C) (r := r) (11 - r)
  rw [show r + 1 + (11 - r) = 12 by omega] at this
  rw [this]
theorem hInc_cg {C C' : Nat → Int} {r : Nat} (h : ∀ i, i < 12 → C i = C' i) : ∀ i, i < 12 → hInc C r i = hInc C' r i := fun i hi => by
  unfold hInc
  rw [h i hi]
theorem hPair : ∀ a : Fin 88, ∀ b : Fin 88, mPair (nI a.val) (nI b.val) = iZ (gG2 (a.val % 12) (b.val % 12)) := by
  unfold mPair
  decide +kernel
/-- how many of the first notes sound and are on the step i -/
def mRes (u : MS) (n : Nat) : Nat := (u.2 3 (15 * n + 2)).toNatClampNeg % 12
def mStp (u : MS) (x : Int32) : Nat → Nat → Nat
  | 0, _ => 0
  | n + 1, i => mStp u x n i + if mSnd u n x ∧ i = mRes u n then 1 else 0
theorem mStp_le (u : MS) (x : Int32) (i : Nat) : ∀ n, mStp u x n i ≤ n
  | 0 => Nat.le_refl 0
  | n + 1 => by
    have := mStp_le u x i n
    unfold mStp
    split <;> omega
abbrev mSt12 (u : MS) (x : Int32) (n : Nat) : Nat → Int := fun i => (mStp u x n i : Int)
theorem mStp_pos {u : MS} {x : Int32} {n : Nat} (h : mSnd u n x) : mSt12 u x (n + 1) = hInc (mSt12 u x n) (mRes u n) := by
  funext i
  show ((mStp u x n i + if mSnd u n x ∧ i = mRes u n then 1 else 0 : Nat) : Int) = if i = mRes u n then _ else _
  by_cases c : i = mRes u n
  · rw [if_pos ⟨h, c⟩, if_pos c]
    rfl
  · rw [if_neg (fun z9 => c z9.2), if_neg c]
    rfl
theorem mStp_neg {u : MS} {x : Int32} {n : Nat} (h : ¬ mSnd u n x) : mSt12 u x (n + 1) = mSt12 u x n := by
  funext i
  show ((mStp u x n i + if mSnd u n x ∧ i = mRes u n then 1 else 0 : Nat) : Int) = _
  rw [if_neg (fun z9 => h z9.1)]
  rfl
theorem mHarB_eq {u : MS} {T W z : Nat} (o : mOk u T W z) (x : Int32) {a : Nat} (ha : a < z) : ∀ b, b ≤ a → mHarB u x a b = iZ (hS (mRes u a) (mSt12 u x b) 12)
  | 0, _ => by
    have : ∀ n, hS (mRes u a) (mSt12 u x 0) n = 0 := fun n => by
      induction n with
      | zero => rfl
      | succ n ih =>
        show hS _ _ n + _ * ((0 : Nat) : Int) = 0
        rw [ih]
        simp
    rw [this 12]
    rfl
  | b + 1, hb => by
    have ih := mHarB_eq o x ha b (by omega)
    unfold mHarB
    rw [ih]
    by_cases c : mSnd u b x
    · rw [if_pos c, mStp_pos c, hS_inc, if_pos (show mRes u b < 12 from Nat.mod_lt _ (by decide))]
      obtain ⟨⟨y, y1, y2⟩, -⟩ := o.2.2.2.2.2.2.2.2.2 a (by omega)
      obtain ⟨⟨w, w1, w2⟩, -⟩ := o.2.2.2.2.2.2.2.2.2 b (by omega)
      rw [← iZ_add]
      have := hPair ⟨y, y1⟩ ⟨w, w1⟩
      rw [y2, w2, this]
      unfold mRes
      rw [y2, w2, mCl (by omega), mCl (by omega)]
    · rw [if_neg c, mStp_neg c]
      exact Int32.add_zero _
theorem hP_0 : ∀ l, hP (fun _ => 0) l = 0
  | 0 => rfl
  | l + 1 => by
    have : ∀ k, hI (fun _ => 0) l k = 0 := fun k => by
      induction k with
      | zero => rfl
      | succ k ih =>
        show hI (fun _ => 0) l k + gd (k + 1) * (0 * 0) = 0
        rw [ih]
        simp
    show hP (fun _ => 0) l + hTri 0 + hI (fun _ => 0) l (11 - l) = 0
    rw [hP_0 l, this]
    rfl
/-- the harmony by pairs is that by steps -/
theorem mHarA_eq {u : MS} {T W z : Nat} (o : mOk u T W z) (x : Int32) : ∀ a, a ≤ z → mHarA u x a = iZ (hP (mSt12 u x a) 12)
  | 0, _ => by
    have e : mSt12 u x 0 = fun _ => 0 := rfl
    rw [e, hP_0]
    rfl
  | a + 1, ha => by
    unfold mHarA
    rw [mHarA_eq o x a (by omega)]
    by_cases c : mSnd u a x
    · rw [if_pos c, mHarB_eq o x (by omega) a (Nat.le_refl a), mStp_pos c, hP_note (r := mRes u a) (Nat.mod_lt _ (by decide)), iZ_add]
    · rw [if_neg c, mStp_neg c]
      exact Int32.add_zero _
theorem tri_row : ∀ n : Fin 201, nI n.val * (nI n.val - nI 1) / nI 2 = iZ (hTri (n.val : Int)) := by
  unfold hTri
  decide +kernel
theorem good_row : ∀ k : Fin 12, (nI 953 >>> (nI k.val &&& 31) &&& nI 1 = nI 1) ↔ gd k.val = 1 := by
  unfold gd
  decide +kernel
theorem gd_or (k : Nat) : gd k = 1 ∨ gd k = -1 := by
  unfold gd
  split
  · exact Or.inl rfl
  · exact Or.inr rfl
theorem res_row : ∀ n : Fin 88, gFm (nI n.val) (nI 12) = nI (n.val % 12) := by
  unfold gFm
  decide +kernel
/-- the best tick, as the class looks for it -/
def kBest (u : MS) : Nat → Int32 × Int32
  | 0 => (-1, 0)
  | n + 1 => if (kBest u n).1 = -1 ∨ (kBest u n).2 < mHarA u (u.2 3 (15 * n)) (mKept u) then (u.2 3 (15 * n), mHarA u (u.2 3 (15 * n)) (mKept u)) else kBest u n
theorem kBest_eq (u : MS) : ∀ n, kBest u n = mBestL u n ∧ (0 < n → mHarA u (u.2 3 (15 * (n - 1))) (mKept u) ≤ (mBestL u n).2 ∧ ((mBestL u n).1 = -1 → u.2 3 (15 * (n - 1)) = -1 ∧ mHarA u (u.2 3 (15 * (n - 1))) (mKept u) = (mBestL u n).2))
  | 0 => ⟨rfl, fun h => absurd h (Nat.lt_irrefl 0)⟩
  | n + 1 => by
    obtain ⟨ih, inv⟩ := kBest_eq u n
    unfold kBest mBestL
    rw [ih, Nat.add_sub_cancel]
    by_cases c1 : 0 < n ∧ u.2 3 (15 * n) = u.2 3 (15 * (n - 1))
    · obtain ⟨i1, i2⟩ := inv c1.1
      rw [if_pos (Or.inl c1)]
      rw [← c1.2] at i1 i2
      refine ⟨?_, fun _ => ⟨i1, i2⟩⟩
      by_cases c2 : (mBestL u n).1 = -1
      · rw [if_pos (Or.inl c2)]
        obtain ⟨j1, j2⟩ := i2 c2
        exact Prod.ext (j1.trans c2.symm) j2
      · rw [if_neg (fun z9 => z9.elim c2 (fun y9 => absurd i1 (Int32.not_le.mpr y9)))]
    · by_cases c2 : (mBestL u n).1 ≠ -1 ∧ mHarA u (u.2 3 (15 * n)) (mKept u) ≤ (mBestL u n).2
      · rw [if_pos (Or.inr c2), if_neg (fun z9 => z9.elim c2.1 (fun y9 => absurd c2.2 (Int32.not_le.mpr y9)))]
        exact ⟨rfl, fun _ => ⟨c2.2, fun z9 => absurd z9 c2.1⟩⟩
      · have hm : ¬ ((0 < n ∧ u.2 3 (15 * n) = u.2 3 (15 * (n - 1))) ∨ ((mBestL u n).1 ≠ -1 ∧ mHarA u (u.2 3 (15 * n)) (mKept u) ≤ (mBestL u n).2)) := fun z9 => z9.elim c1 c2
        have hk : (mBestL u n).1 = -1 ∨ (mBestL u n).2 < mHarA u (u.2 3 (15 * n)) (mKept u) := by
          by_cases c3 : (mBestL u n).1 = -1
          · exact Or.inl c3
          · exact Or.inr (Int32.not_le.mp (fun y9 => c2 ⟨c3, y9⟩))
        rw [if_pos hk, if_neg hm]
        exact ⟨rfl, fun _ => ⟨Int32.le_refl _, fun z9 => ⟨z9, rfl⟩⟩⟩

