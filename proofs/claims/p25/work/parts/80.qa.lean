/-! the property: rings that wait, notes, and the ways by which they came -/
def pUp (v : Nat → Nat) (k x : Nat) : Nat → Nat := fun i => if i = k then x else v i
theorem pUp_s {v : Nat → Nat} {k x : Nat} : pUp v k x k = x := if_pos rfl
theorem pUp_n {v : Nat → Nat} {k x i : Nat} (h : i ≠ k) : pUp v k x i = v i := if_neg h
def pWay (M : Nat → Int32) (T : Nat) (x b : Int32) (p : Nat) (w : Nat → Int32) : Prop :=
  ∃ v : Nat → Nat, (∀ i, i ≤ p → v i < T ∧ w i = nI (v i)) ∧ x = nI (v p) ∧ (∀ i, i < p → mIsIn (M (v i)) (v (i + 1))) ∧ (p = 0 → b = -1) ∧ ∀ q, p = q + 1 → b = nI (v q)
theorem pWay.cg {M : Nat → Int32} {T p : Nat} {x b x' b' : Int32} {w w' : Nat → Int32} (ex : x' = x) (eb : b' = b) (ew : ∀ i, i ≤ p → w' i = w i) (o : pWay M T x b p w) : pWay M T x' b' p w' := by
  obtain ⟨v, h1, h2, h3, h4, h5⟩ := o
  exact ⟨v, fun i hi => ⟨(h1 i hi).1, (ew i hi).trans (h1 i hi).2⟩, ex.trans h2, h3, fun e => eb.trans (h4 e), fun q e => eb.trans (h5 q e)⟩
/-- one hop more -/
theorem pWay.hop {M : Nat → Int32} {T p t to : Nat} {x b : Int32} {w w' : Nat → Int32} (o : pWay M T x b p w) (ex : x = nI t) (hT : T ≤ 16) (ht : t < T) (hto : to < T) (hM : mIsIn (M t) to) (hw : ∀ i, i ≤ p → w' i = w i) (hw1 : w' (p + 1) = nI to) : pWay M T (nI to) x (p + 1) w' := by
  obtain ⟨v, h1, h2, h3, h4, h5⟩ := o
  have hvp : v p = t := (nI_eq (by have := (h1 p (Nat.le_refl p)).1; omega) (by omega)).mp (h2.symm.trans ex)
  refine ⟨pUp v (p + 1) to, fun i hi => ?_, by rw [pUp_s], fun i hi => ?_, fun e => absurd e (by omega), fun q e => ?_⟩
  · by_cases c : i = p + 1
    · subst c
      rw [pUp_s]
      exact ⟨hto, hw1⟩
    · rw [pUp_n c]
      exact ⟨(h1 i (by omega)).1, (hw i (by omega)).trans (h1 i (by omega)).2⟩
  · rw [pUp_n (show i ≠ p + 1 by omega)]
    by_cases c : i = p
    · subst c
      rw [pUp_s, hvp]
      exact hM
    · rw [pUp_n (show i + 1 ≠ p + 1 by omega)]
      exact h3 i (by omega)
  · have : q = p := by omega
    subst this
    rw [pUp_n (by omega), hvp]
    exact ex
def pRng (M : Nat → Int32) (T lo τ : Nat) (R : Nat → Int32) (K : Nat) : Prop := ∃ r p, lo ≤ r ∧ r ≤ τ + 100 ∧ R K = nI r ∧ 1 ≤ p ∧ p ≤ 8 ∧ R (K + 4) = nI p ∧ pWay M T (R (K + 1)) (R (K + 2)) p (fun i => R (K + 5 + i))
def pLe (R : Nat → Int32) (K K' : Nat) : Prop := R K < R K' ∨ (R K = R K' ∧ R (K + 1) ≤ R (K' + 1))
def pRs (M : Nat → Int32) (T lo τ : Nat) (R : Nat → Int32) (W : Nat) : Prop := (∀ k, k < W → pRng M T lo τ R (14 * k)) ∧ ∀ k, k + 1 < W → pLe R (14 * k) (14 * (k + 1))
def pNote (M : Nat → Int32) (T τ : Nat) (S : Nat → Int32) (K : Nat) : Prop := ∃ x d p, x ≤ τ ∧ S K = nI x ∧ 0 < d ∧ d < 100 ∧ S (K + 1) = nI d ∧ p ≤ 8 ∧ S (K + 4) = nI p ∧ pWay M T (S (K + 3)) (S (K + 5)) p (fun i => S (K + 6 + i))
def pNs (M : Nat → Int32) (T τ : Nat) (S : Nat → Int32) (z : Nat) : Prop := (∀ n, n < z → pNote M T τ S (15 * n)) ∧ ∀ n, n + 1 < z → S (15 * n) ≤ S (15 * (n + 1))
def pHnd (M : Nat → Int32) (T τ : Nat) (D : Nat → Int32) (t p : Nat) : Prop := D 0 = nI τ ∧ D 1 = nI t ∧ t < T ∧ p ≤ 8 ∧ D 4 = nI p ∧ pWay M T (D 1) (D 2) p (fun i => D (5 + i))
theorem pRng.cg {M : Nat → Int32} {T lo τ K K' : Nat} {R R' : Nat → Int32} (h : ∀ i, i < 14 → R' (K' + i) = R (K + i)) (o : pRng M T lo τ R K) : pRng M T lo τ R' K' := by
  obtain ⟨r, p, h1, h2, h3, h4, h5, h6, h7⟩ := o
  exact ⟨r, p, h1, h2, (h 0 (by omega)).trans h3, h4, h5, (h 4 (by omega)).trans h6, h7.cg (h 1 (by omega)) (h 2 (by omega)) (fun i hi => by
    have := h (5 + i) (by omega)
    rw [← Nat.add_assoc, ← Nat.add_assoc] at this
    exact this)⟩
theorem pLe.cg {R R' : Nat → Int32} {K L K' L' : Nat} (h1 : R' K' = R K) (h2 : R' (K' + 1) = R (K + 1)) (h3 : R' L' = R L) (h4 : R' (L' + 1) = R (L + 1)) (o : pLe R K L) : pLe R' K' L' := by
  unfold pLe at o ⊢
  rw [h1, h2, h3, h4]
  exact o
theorem pNote.cg {M : Nat → Int32} {T τ K : Nat} {S S' : Nat → Int32} (h : ∀ i, i < 15 → S' (K + i) = S (K + i)) (o : pNote M T τ S K) : pNote M T τ S' K := by
  obtain ⟨x, d, p, h1, h2, h3, h4, h5, h6, h7, h8⟩ := o
  exact ⟨x, d, p, h1, (h 0 (by omega)).trans h2, h3, h4, (h 1 (by omega)).trans h5, h6, (h 4 (by omega)).trans h7, h8.cg (h 3 (by omega)) (h 5 (by omega)) (fun i hi => by
    have := h (6 + i) (by omega)
    rw [← Nat.add_assoc] at this
    exact this)⟩
theorem i32_ltle {a b : Int32} (h : ¬ b < a) : a < b ∨ a = b := by
  rw [Int32.lt_iff_toInt_lt] at h ⊢
  by_cases e : a.toInt = b.toInt
  · exact Or.inr (Int32.toInt_inj.mp e)
  · exact Or.inl (by omega)
theorem mPos_at (R : Nat → Int32) (wh to : Int32) : ∀ W, (∀ j, mPos R wh to W = j + 1 → ¬ (wh < R (14 * j) ∨ (R (14 * j) = wh ∧ to < R (14 * j + 1)))) ∧ (mPos R wh to W < W → wh < R (14 * mPos R wh to W) ∨ (R (14 * mPos R wh to W) = wh ∧ to < R (14 * mPos R wh to W + 1)))
  | 0 => ⟨fun j h => absurd (show 0 = j + 1 from h) (by omega), fun h => absurd h (Nat.not_lt_zero _)⟩
  | k + 1 => by
    have ih := mPos_at R wh to k
    have hle := mPos_le R wh to k
    unfold mPos
    by_cases c : wh < R (14 * k) ∨ (R (14 * k) = wh ∧ to < R (14 * k + 1))
    · rw [if_pos c]
      refine ⟨ih.1, fun _ => ?_⟩
      by_cases e : mPos R wh to k = k
      · rw [e]
        exact c
      · exact ih.2 (by omega)
    · rw [if_neg c]
      exact ⟨fun j h => by
        have : j = k := by omega
        subst this
        exact c, fun h => absurd h (Nat.lt_irrefl _)⟩
theorem pRs_wait {M : Nat → Int32} {T lo τ W t p to d : Nat} {u : MS} (s : Int32) (hT : T ≤ 16) (hlo : lo ≤ τ + 1) (e6 : u.1 6 = nI W) (hW : W ≤ 60) (q : pRs M T lo τ (u.2 2) W) (hd : pHnd M T τ (u.2 4) t p) (hp : p ≤ 7) (hto : to < T) (hM : mIsIn (M t) to) (d0 : 0 < d) (d1 : d < 100) :
    ∃ W', (mWait u (nI to) (nI d) s).1 6 = nI W' ∧ W' ≤ 60 ∧ pRs M T lo τ ((mWait u (nI to) (nI d) s).2 2) W' := by
  obtain ⟨g0, g1, g2, g3, g4, g5⟩ := hd
  unfold mWait
  by_cases c : u.1 6 = nI 60
  · rw [if_pos c]
    exact ⟨W, e6, hW, q⟩
  · rw [if_neg c, e6, mCl (by omega), g4, mCl (by omega)]
    have hW60 : W ≠ 60 := fun e => c (by rw [e6, e])
    obtain ⟨K, eK⟩ : ∃ K, K = mPos (u.2 2) (u.2 4 0 + nI d) (nI to) W := ⟨_, rfl⟩
    have hK : K ≤ W := by rw [eK]; exact mPos_le _ _ _ _
    have hA := mPos_at (u.2 2) (u.2 4 0 + nI d) (nI to) W
    rw [← eK] at hA ⊢
    have b := mIns_eq (R := u.2 2) (D := u.2 4) (W := W) (K := K) (p := p) (to := nI to) (d := nI d) (s := s) hK hp
    generalize mIns (u.2 2) (u.2 4) W K p (nI to) (nI d) s = R' at b ⊢
    obtain ⟨b1, b2, b3, b4, b5, b6, b7, b8, b9⟩ := b
    refine ⟨W + 1, rfl, by omega, ?_⟩
    show pRs M T lo τ R' (W + 1)
    refine ⟨fun k hk => ?_, fun k hk => ?_⟩
    · rcases Nat.lt_trichotomy k K with h | h | h
      · exact pRng.cg (fun i hi => b1 k i h hi) (q.1 k (by omega))
      · subst h
        exact ⟨τ + d, p + 1, by omega, by omega, by rw [b3, g0, nI_add], by omega, by omega, b7, (pWay.hop (w' := fun i => R' (14 * k + 5 + i)) g5 g1 hT g2 hto hM b8 b9).cg b4 b5 (fun _ _ => rfl)⟩
      · obtain ⟨j, rfl⟩ : ∃ j, k = j + 1 := ⟨k - 1, by omega⟩
        exact pRng.cg (fun i hi => b2 j i (by omega) (by omega) hi) (q.1 j (by omega))
    · rcases Nat.lt_trichotomy (k + 1) K with h | h | h
      · exact pLe.cg (b1 k 0 (by omega) (by omega)) (b1 k 1 (by omega) (by omega)) (b1 (k + 1) 0 (by omega) (by omega)) (b1 (k + 1) 1 (by omega) (by omega)) (q.2 k (by omega))
      · have n9 := hA.1 k h.symm
        have a0 : R' (14 * k) = u.2 2 (14 * k) := b1 k 0 (by omega) (by omega)
        have a1 := b1 k 1 (by omega) (by omega)
        subst h
        unfold pLe
        rw [a0, a1, b3, b4]
        rcases i32_ltle (fun z9 => n9 (Or.inl z9)) with z9 | z9
        · exact Or.inl z9
        · exact Or.inr ⟨z9, Int32.not_lt.mp (fun y => n9 (Or.inr ⟨z9, y⟩))⟩
      · by_cases e : k = K
        · subst e
          have a0 : R' (14 * (k + 1)) = u.2 2 (14 * k) := b2 k 0 (by omega) (by omega) (by omega)
          have a1 := b2 k 1 (by omega) (by omega) (by omega)
          unfold pLe
          rw [a0, a1, b3, b4]
          rcases hA.2 (by omega) with z9 | ⟨z9, y⟩
          · exact Or.inl z9
          · exact Or.inr ⟨z9.symm, Int32.le_of_lt y⟩
        · obtain ⟨j, rfl⟩ : ∃ j, k = j + 1 := ⟨k - 1, by omega⟩
          exact pLe.cg (b2 j 0 (by omega) (by omega) (by omega)) (b2 j 1 (by omega) (by omega) (by omega)) (b2 (j + 1) 0 (by omega) (by omega) (by omega)) (b2 (j + 1) 1 (by omega) (by omega) (by omega)) (q.2 j (by omega))
theorem mWait_f (u : MS) (to d s : Int32) : (∀ i, i ≠ 6 → i ≠ 9 → (mWait u to d s).1 i = u.1 i) ∧ (∀ j, j ≠ 2 → (mWait u to d s).2 j = u.2 j) ∧ ∀ L, u.1 9 = nI L → ∃ L', L ≤ L' ∧ L' ≤ L + 1 ∧ (mWait u to d s).1 9 = nI L' := by
  unfold mWait
  split
  · refine ⟨fun i _ h => pk_un h, fun _ _ => rfl, fun L e => ⟨L + 1, by omega, by omega, ?_⟩⟩
    show upd u.1 9 (u.1 9 + nI 1) 9 = _
    rw [pk_us, e]
    exact nI_1 L
  · exact ⟨fun i h _ => pk_un h, fun j h => va_up_ne _ _ h, fun L e => ⟨L, Nat.le_refl _, by omega, e⟩⟩
theorem mFolL_f {H : Nat → Int32} {J t : Nat} : ∀ r to u, (∀ i, i ≠ 6 → i ≠ 9 → (mFolL H J t r to u).1 i = u.1 i) ∧ (∀ j, j ≠ 2 → (mFolL H J t r to u).2 j = u.2 j) ∧ ∀ L, u.1 9 = nI L → ∃ L', L ≤ L' ∧ L' ≤ L + r ∧ (mFolL H J t r to u).1 9 = nI L'
  | 0, _, _ => ⟨fun _ _ _ => rfl, fun _ _ => rfl, fun L e => ⟨L, Nat.le_refl _, Nat.le_refl _, e⟩⟩
  | r + 1, to, u => by
    unfold mFolL
    by_cases c : mMeant H J t to
    · rw [if_pos c]
      obtain ⟨i1, i2, i3⟩ := mFolL_f (H := H) (J := J) (t := t) r (to + 1) (mWait u (nI to) (H (J + 6)) (H (J + 7)))
      obtain ⟨w1, w2, w3⟩ := mWait_f u (nI to) (H (J + 6)) (H (J + 7))
      refine ⟨fun i a b => (i1 i a b).trans (w1 i a b), fun j a => (i2 j a).trans (w2 j a), fun L e => ?_⟩
      obtain ⟨L1, a1, a2, a3⟩ := w3 L e
      obtain ⟨L2, c1, c2, c3⟩ := i3 L1 a3
      exact ⟨L2, by omega, by omega, c3⟩
    · rw [if_neg c]
      obtain ⟨i1, i2, i3⟩ := mFolL_f (H := H) (J := J) (t := t) r (to + 1) u
      refine ⟨i1, i2, fun L e => ?_⟩
      obtain ⟨L2, c1, c2, c3⟩ := i3 L e
      exact ⟨L2, c1, by omega, c3⟩
theorem mFolL_q {M H : Nat → Int32} {J t T lo τ p d : Nat} (hT : T ≤ 16) (hlo : lo ≤ τ + 1) (H6 : H (J + 6) = nI d) (d0 : 0 < d) (d1 : d < 100) (hp : p ≤ 7) (hm : ∀ x, x < T → mMeant H J t x → mIsIn (M t) x) :
    ∀ r to u W, to + r ≤ T → u.1 6 = nI W → W ≤ 60 → pRs M T lo τ (u.2 2) W → pHnd M T τ (u.2 4) t p → ∃ W', (mFolL H J t r to u).1 6 = nI W' ∧ W' ≤ 60 ∧ pRs M T lo τ ((mFolL H J t r to u).2 2) W'
  | 0, _, _, W, _, e6, hW, q, _ => ⟨W, e6, hW, q⟩
  | r + 1, to, u, W, h, e6, hW, q, hd => by
    unfold mFolL
    by_cases c : mMeant H J t to
    · rw [if_pos c]
      obtain ⟨W1, f6, fW, fq⟩ := pRs_wait (H (J + 7)) hT hlo e6 hW q hd hp (show to < T by omega) (hm to (by omega) c) d0 d1
      rw [← H6] at f6 fq
      exact mFolL_q hT hlo H6 d0 d1 hp hm r (to + 1) _ W1 (by omega) f6 fW fq (by rw [(mWait_f u (nI to) (H (J + 6)) (H (J + 7))).2.1 4 (by omega)]; exact hd)
    · rw [if_neg c]
      exact mFolL_q hT hlo H6 d0 d1 hp hm r (to + 1) u W (by omega) e6 hW q hd
theorem pNs_sing {u : MS} {M : Nat → Int32} {T τ z t p d : Nat} (ez : u.1 12 = nI z) (hz : z ≤ 200) (e1 : u.1 1 = nI τ) (hτ : τ < 1000000) (q : pNs M T τ (u.2 3) z) (hd : pHnd M T τ (u.2 4) t p) (d0 : 0 < d) (d1 : d < 100) :
    ∃ z', (mSing u t (nI d)).1 12 = nI z' ∧ z' ≤ 200 ∧ pNs M T τ ((mSing u t (nI d)).2 3) z' := by
  obtain ⟨g0, g1, g2, g3, g4, g5⟩ := hd
  unfold mSing
  by_cases c : u.1 12 = nI 200
  · rw [if_pos c]
    exact ⟨z, ez, hz, q⟩
  · rw [if_neg c, ez, mCl (by omega)]
    have hz2 : z ≠ 200 := fun e => c (by rw [ez, e])
    refine ⟨z + 1, rfl, by omega, ?_⟩
    show pNs M T τ (va_cpy (u.2 4) (va_cpy (m6 (u.1 1) (nI d) (gFm ((mSing0 u t).2 0 (7 * t + 0) + u.2 4 3) (nI 88)) (nI t) (u.2 4 4) (u.2 4 2)) (u.2 3) 0 (15 * z) 6) 5 (15 * z + 6) 9) (z + 1)
    generalize gFm ((mSing0 u t).2 0 (7 * t + 0) + u.2 4 3) (nI 88) = nt
    have o1 : ∀ n i, n < z → i < 15 → va_cpy (u.2 4) (va_cpy (m6 (u.1 1) (nI d) nt (nI t) (u.2 4 4) (u.2 4 2)) (u.2 3) 0 (15 * z) 6) 5 (15 * z + 6) 9 (15 * n + i) = u.2 3 (15 * n + i) := fun n i hn hi => by
      rw [pk_cpy_out (by omega), pk_cpy_out (by omega)]
    have o2 : ∀ i, i < 6 → va_cpy (u.2 4) (va_cpy (m6 (u.1 1) (nI d) nt (nI t) (u.2 4 4) (u.2 4 2)) (u.2 3) 0 (15 * z) 6) 5 (15 * z + 6) 9 (15 * z + i) = m6 (u.1 1) (nI d) nt (nI t) (u.2 4 4) (u.2 4 2) i := fun i hi => by
      rw [pk_cpy_out (by omega), pk_cpy_in (by omega) (by omega), show 0 + (15 * z + i - 15 * z) = i by omega]
    have o3 : ∀ i, i < 9 → va_cpy (u.2 4) (va_cpy (m6 (u.1 1) (nI d) nt (nI t) (u.2 4 4) (u.2 4 2)) (u.2 3) 0 (15 * z) 6) 5 (15 * z + 6) 9 (15 * z + 6 + i) = u.2 4 (5 + i) := fun i hi => by
      rw [pk_cpy_in (by omega) (by omega), show 5 + (15 * z + 6 + i - (15 * z + 6)) = 5 + i by omega]
    generalize va_cpy (u.2 4) (va_cpy (m6 (u.1 1) (nI d) nt (nI t) (u.2 4 4) (u.2 4 2)) (u.2 3) 0 (15 * z) 6) 5 (15 * z + 6) 9 = S' at o1 o2 o3 ⊢
    refine ⟨fun n hn => ?_, fun n hn => ?_⟩
    · by_cases e : n = z
      · subst e
        exact ⟨τ, d, p, Nat.le_refl _, (o2 0 (by omega)).trans e1, d0, d1, o2 1 (by omega), g3, (o2 4 (by omega)).trans g4, g5.cg ((o2 3 (by omega)).trans g1.symm) (o2 5 (by omega)) (fun i hi => o3 i (by omega))⟩
      · exact pNote.cg (fun i hi => o1 n i (by omega) hi) (q.1 n (by omega))
    · have a0 : S' (15 * n) = u.2 3 (15 * n) := o1 n 0 (by omega) (by omega)
      by_cases e : n + 1 = z
      · have a1 : S' (15 * (n + 1)) = nI τ := by
          rw [e]
          exact (o2 0 (by omega)).trans e1
        obtain ⟨x, d9, p9, hx, ex, -⟩ := q.1 n (by omega)
        rw [a0, a1, ex]
        exact nI_le hx (by omega)
      · have a1 : S' (15 * (n + 1)) = u.2 3 (15 * (n + 1)) := o1 (n + 1) 0 (by omega) (by omega)
        rw [a0, a1]
        exact q.2 n (by omega)
theorem mNx_cg {H H' : Nat → Int32} {T t : Nat} : ∀ j, (∀ i, i < j → H' (9 * (8 * t + i) + 4) = H (9 * (8 * t + i) + 4) ∧ H' (9 * (8 * t + i) + 5) = H (9 * (8 * t + i) + 5)) → mNx H' T t j = mNx H T t j
  | 0, _ => rfl
  | j + 1, h => by
    unfold mNx
    rw [mNx_cg j (fun i hi => h i (by omega))]
    unfold mRung
    rw [(h j (by omega)).1, (h j (by omega)).2]
theorem mNext_cg {u v : MS} {T t : Nat} (hA : v.2 0 (7 * t + 3) = u.2 0 (7 * t + 3)) (hH : ∀ i, v.2 1 (9 * i + 4) = u.2 1 (9 * i + 4) ∧ v.2 1 (9 * i + 5) = u.2 1 (9 * i + 5)) : mNext v T t = mNext u T t := by
  unfold mNext mMany
  rw [hA]
  exact mNx_cg _ (fun i _ => hH _)
theorem mNx_has {H : Nat → Int32} {T t j to : Nat} (h16 : to < 16) (h : mIsIn (mRung H (9 * (8 * t + j)) T t) to) : ∀ m, j < m → mIsIn (mNx H T t m) to
  | 0, hj => absurd hj (Nat.not_lt_zero _)
  | m + 1, hj => by
    unfold mNx
    rw [mIsIn_bt h16, bt_or, Bool.or_eq_true]
    by_cases e : j = m
    · subst e
      exact Or.inr ((mIsIn_bt h16).mp h)
    · exact Or.inl ((mIsIn_bt h16).mp (mNx_has h16 h m (by omega)))
theorem mMeant_M {u : MS} {T W z t i to : Nat} (o : mOk u T W z) (ht : t < T) (hi : i < mMany u t) (hto : to < T) (hx : ¬ u.2 1 (9 * (8 * t + i) + 4) < nI 2) (h : mMeant (u.2 1) (9 * (8 * t + i)) t to) : mIsIn (mNext u T t) to := by
  have hT := o.2.1
  obtain ⟨m, m1, m2, -, -, -, hh⟩ := o.2.2.2.2.2.2.2.1 t ht
  have em := mMany_of m1 m2
  obtain ⟨⟨x, hx6, ex⟩, ⟨y, hy, ey⟩, -⟩ := hh i (by omega)
  have h2 : 2 ≤ x := Classical.byContradiction (fun z9 => hx (by rw [ex]; exact nI_lt (by omega) (by omega)))
  exact mNx_has (by omega) ((mRung_meant hT ht hto hx6 h2 ex hy ey).mpr h) _ hi
