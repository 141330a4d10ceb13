/-! what was heard, sung and followed adds up -/
def pS (f : Nat → Nat) : Nat → Nat
  | 0 => 0
  | m + 1 => pS f m + f m
def pU1 (f : Nat → Nat) (t : Nat) : Nat → Nat := fun x => if x = t then f x + 1 else f x
theorem pU1_s {f : Nat → Nat} {t : Nat} : pU1 f t t = f t + 1 := if_pos rfl
theorem pU1_n {f : Nat → Nat} {t x : Nat} (h : x ≠ t) : pU1 f t x = f x := if_neg h
theorem pS_u {f : Nat → Nat} {t : Nat} : ∀ m, pS (pU1 f t) m = pS f m + if t < m then 1 else 0
  | 0 => by rw [if_neg (Nat.not_lt_zero t)]; rfl
  | m + 1 => by
    unfold pS
    rw [pS_u m]
    by_cases c : m = t
    · subst c
      rw [pU1_s, if_neg (Nat.lt_irrefl m), if_pos (Nat.lt_succ_self m)]
      omega
    · rw [pU1_n c]
      by_cases d : t < m
      · rw [if_pos d, if_pos (by omega)]
        omega
      · rw [if_neg d, if_neg (by omega)]
        omega
theorem pS_le {f : Nat → Nat} {B : Nat} : ∀ m, (∀ i, i < m → f i ≤ B) → pS f m ≤ B * m
  | 0, _ => Nat.le_refl _
  | m + 1, h => by
    have h1 := pS_le m (fun i hi => h i (by omega))
    have h2 := h m (by omega)
    unfold pS
    rw [Nat.mul_succ]
    omega
def pU2 (g : Nat → Nat → Nat) (t i : Nat) : Nat → Nat → Nat := fun x => if x = t then pU1 (g x) i else g x
theorem pU2_s {g : Nat → Nat → Nat} {t i : Nat} : pU2 g t i t = pU1 (g t) i := if_pos rfl
theorem pU2_n {g : Nat → Nat → Nat} {t i x : Nat} (h : x ≠ t) : pU2 g t i x = g x := if_neg h
def pC1 (u : MS) (τ x sb sf a b : Nat) (g : Nat → Nat) : Prop := u.2 0 (7 * x + 4) = nI a ∧ u.2 0 (7 * x + 5) = nI b ∧ b + sb ≤ a ∧ (a ≤ τ ∨ (a = τ + 1 ∧ u.2 0 (7 * x + 6) = nI τ)) ∧ (∀ j, j < mMany u x → u.2 1 (9 * (8 * x + j) + 8) = nI (g j)) ∧ pS g (mMany u x) + sf ≤ a
def pC (u : MS) (T τ t sb sf : Nat) (a b : Nat → Nat) (g : Nat → Nat → Nat) : Prop :=
  (∀ x, x < T → pC1 u τ x (if x = t then sb else 0) (if x = t then sf else 0) (a x) (b x) (g x)) ∧ u.1 8 = nI (pS a T) ∧ u.1 10 = nI (pS b T) ∧ (∃ q, q ≤ 8 ∧ u.1 11 = nI q) ∧ u.1 12 = nI (min 200 (pS b T)) ∧ u.1 0 = nI 0
theorem pC1.cg {u v : MS} {τ x sb sf a b : Nat} {g : Nat → Nat} (q : pC1 u τ x sb sf a b g) (hA : ∀ i, 3 ≤ i → i < 7 → v.2 0 (7 * x + i) = u.2 0 (7 * x + i)) (hH : ∀ i, v.2 1 (9 * i + 8) = u.2 1 (9 * i + 8)) : pC1 v τ x sb sf a b g := by
  obtain ⟨h1, h2, h3, h4, h5, h6⟩ := q
  have em : mMany v x = mMany u x := by unfold mMany; rw [hA 3 (by omega) (by omega)]
  refine ⟨(hA 4 (by omega) (by omega)).trans h1, (hA 5 (by omega) (by omega)).trans h2, h3, h4.elim Or.inl (fun h => Or.inr ⟨h.1, (hA 6 (by omega) (by omega)).trans h.2⟩), fun j hj => (hH _).trans (h5 j (by rw [← em]; exact hj)), by rw [em]; exact h6⟩
theorem pC.cg {u v : MS} {T τ t sb sf : Nat} {a b : Nat → Nat} {g : Nat → Nat → Nat} (q : pC u T τ t sb sf a b g) (f : ∀ i, i = 0 ∨ i = 8 ∨ i = 10 ∨ i = 11 ∨ i = 12 → v.1 i = u.1 i) (hA : ∀ x i, 3 ≤ i → i < 7 → v.2 0 (7 * x + i) = u.2 0 (7 * x + i)) (hH : ∀ i, v.2 1 (9 * i + 8) = u.2 1 (9 * i + 8)) : pC v T τ t sb sf a b g := by
  obtain ⟨h, h8, h10, ⟨q9, h11, h11'⟩, h12, h0⟩ := q
  exact ⟨fun x hx => (h x hx).cg (hA x) hH, (f 8 (by omega)).trans h8, (f 10 (by omega)).trans h10, ⟨q9, h11, (f 11 (by omega)).trans h11'⟩, (f 12 (by omega)).trans h12, (f 0 (by omega)).trans h0⟩
theorem pC.drop {u : MS} {T τ t sb sf : Nat} {a b : Nat → Nat} {g : Nat → Nat → Nat} (q : pC u T τ t sb sf a b g) (t' : Nat) : pC u T τ t' 0 0 a b g := by
  obtain ⟨h, r⟩ := q
  refine ⟨fun x hx => ?_, r⟩
  obtain ⟨h1, h2, h3, h4, h5, h6⟩ := h x hx
  rw [ite_self]
  exact ⟨h1, h2, by omega, h4, h5, by omega⟩
theorem pC_A {u : MS} {T τ t p : Nat} {a b : Nat → Nat} {g : Nat → Nat → Nat} (e1 : u.1 1 = nI τ) (c : ¬ u.2 0 (7 * t + 6) = u.1 1) (e4 : u.2 4 4 = nI p) (hp : p ≤ 8) (ht : t < T) (q : pC u T τ t 0 0 a b g) : pC (mHearA u t) T τ t 1 1 (pU1 a t) b g := by
  obtain ⟨h, h8, h10, ⟨q9, h11, h11'⟩, h12, h0⟩ := q
  have A9 : ∀ i, (mHearA u t).2 0 i = upd (upd (u.2 0) (7 * t + 6) (u.1 1)) (7 * t + 4) (upd (u.2 0) (7 * t + 6) (u.1 1) (7 * t + 4) + nI 1) i := fun _ => rfl
  refine ⟨fun x hx => ?_, ?_, h10, ?_, h12, h0⟩
  · have hc := h x hx
    rw [ite_self] at hc
    obtain ⟨k1, k2, k3, k4, k5, k6⟩ := hc
    have em : mMany (mHearA u t) x = mMany u x := by
      unfold mMany
      rw [A9, pk_un (by omega), pk_un (by omega)]
    by_cases e : x = t
    · subst e
      rw [if_pos rfl, pU1_s]
      have ha : a x ≤ τ := k4.elim id (fun z9 => absurd (z9.2.trans e1.symm) c)
      refine ⟨?_, ?_, by omega, ?_, fun j hj => k5 j (by rw [← em]; exact hj), by rw [em]; omega⟩
      · rw [A9, pk_us, pk_un (by omega), k1]
        exact nI_1 _
      · rw [A9, pk_un (by omega), pk_un (by omega)]
        exact k2
      · by_cases z9 : a x + 1 ≤ τ
        · exact Or.inl z9
        · refine Or.inr ⟨by omega, ?_⟩
          rw [A9, pk_un (by omega), pk_us]
          exact e1
    · rw [if_neg e, pU1_n e]
      refine ⟨?_, ?_, by omega, k4.elim Or.inl (fun z9 => Or.inr ⟨z9.1, ?_⟩), fun j hj => k5 j (by rw [← em]; exact hj), by rw [em]; omega⟩
      · rw [A9, pk_un (by omega), pk_un (by omega)]
        exact k1
      · rw [A9, pk_un (by omega), pk_un (by omega)]
        exact k2
      · rw [A9, pk_un (by omega), pk_un (by omega)]
        exact z9.2
  · show u.1 8 + nI 1 = _
    rw [h8, pS_u, if_pos ht]
    exact nI_1 _
  · show ∃ q, q ≤ 8 ∧ (if u.1 11 < u.2 4 4 then u.2 4 4 else u.1 11) = nI q
    by_cases z9 : u.1 11 < u.2 4 4
    · rw [if_pos z9]
      exact ⟨p, hp, e4⟩
    · rw [if_neg z9]
      exact ⟨q9, h11, h11'⟩
theorem pC_1 {u : MS} {T τ t i sb : Nat} {a b : Nat → Nat} {g : Nat → Nat → Nat} (h8 : ∀ x, x < T → mMany u x ≤ 8) (ht : t < T) (hi : i < mMany u t) (q : pC u T τ t sb 1 a b g) : pC (mFol1 u (9 * (8 * t + i))) T τ t sb 0 a b (pU2 g t i) := by
  obtain ⟨h, r⟩ := q
  refine ⟨fun x hx => ?_, r⟩
  obtain ⟨k1, k2, k3, k4, k5, k6⟩ := h x hx
  have hm := h8 x hx
  have hmt := h8 t ht
  refine ⟨k1, k2, k3, k4, fun j hj => ?_, ?_⟩
  · have hj9 : j < mMany u x := hj
    show upd (u.2 1) (9 * (8 * t + i) + 8) (u.2 1 (9 * (8 * t + i) + 8) + nI 1) (9 * (8 * x + j) + 8) = _
    by_cases e : x = t
    · subst e
      rw [pU2_s]
      by_cases ej : j = i
      · subst ej
        rw [pk_us, pU1_s, k5 j hj9]
        exact nI_1 _
      · rw [pk_un (by omega), pU1_n ej]
        exact k5 j hj9
    · rw [pk_un (by omega), pU2_n e]
      exact k5 j hj9
  · show pS (pU2 g t i x) (mMany u x) + _ ≤ _
    by_cases e : x = t
    · subst e
      rw [if_pos rfl] at k6
      rw [pU2_s, pS_u, if_pos hi, if_pos rfl]
      omega
    · rw [if_neg e] at k6
      rw [pU2_n e, if_neg e]
      exact k6
theorem mSing_g (u : MS) (t : Nat) (l : Int32) : (mSing u t l).2 0 (7 * t + 5) = u.2 0 (7 * t + 5) + nI 1 ∧ (mSing u t l).1 10 = u.1 10 + nI 1 ∧ (mSing u t l).1 12 = if u.1 12 = nI 200 then u.1 12 else nI ((u.1 12).toNatClampNeg + 1) := by
  unfold mSing
  split
  · exact ⟨pk_us, rfl, rfl⟩
  · exact ⟨pk_us, rfl, rfl⟩
theorem pC_S {u : MS} {T τ t sf : Nat} {a b : Nat → Nat} {g : Nat → Nat → Nat} (l : Int32) (ht : t < T) (q : pC u T τ t 1 sf a b g) : pC (mSing u t l) T τ t 0 sf a (pU1 b t) g := by
  obtain ⟨h, h8, h10, ⟨q9, h11, h11'⟩, h12, h0⟩ := q
  obtain ⟨s1, s2, s3⟩ := mSing_f u t l
  obtain ⟨g1, g2, g3⟩ := mSing_g u t l
  refine ⟨fun x hx => ?_, (s1 8 (by omega) (by omega)).trans h8, ?_, ⟨q9, h11, (s1 11 (by omega) (by omega)).trans h11'⟩, ?_, (s1 0 (by omega) (by omega)).trans h0⟩
  · obtain ⟨k1, k2, k3, k4, k5, k6⟩ := h x hx
    have em : mMany (mSing u t l) x = mMany u x := by
      unfold mMany
      rw [s3 _ (by omega)]
    refine ⟨(s3 _ (by omega)).trans k1, ?_, ?_, k4.elim Or.inl (fun z9 => Or.inr ⟨z9.1, (s3 _ (by omega)).trans z9.2⟩), fun j hj => by rw [s2 1 (by omega) (by omega)]; exact k5 j (by rw [← em]; exact hj), by rw [em]; exact k6⟩
    · by_cases e : x = t
      · subst e
        rw [g1, pU1_s, k2]
        exact nI_1 _
      · rw [pU1_n e]
        exact (s3 _ (by omega)).trans k2
    · by_cases e : x = t
      · subst e
        rw [if_pos rfl] at k3 ⊢
        rw [pU1_s]
        omega
      · rw [if_neg e] at k3 ⊢
        rw [pU1_n e]
        exact k3
  · rw [g2, h10, pS_u, if_pos ht]
    exact nI_1 _
  · rw [g3, pS_u, if_pos ht]
    by_cases c : u.1 12 = nI 200
    · rw [if_pos c, h12]
      have := (nI_eq (by omega) (by omega)).mp (h12.symm.trans c)
      exact congrArg nI (by omega)
    · rw [if_neg c, h12, mCl (by omega)]
      have hne : min 200 (pS b T) ≠ 200 := fun z9 => c (by rw [h12, z9])
      exact congrArg nI (by omega)
theorem mOk.many8 {u : MS} {T W z : Nat} (o : mOk u T W z) : ∀ x, x < T → mMany u x ≤ 8 := fun x hx => by
  obtain ⟨m, m1, m2, -⟩ := o.2.2.2.2.2.2.2.1 x hx
  rw [mMany_of m1 m2]
  exact m1
theorem mFollow_c {u : MS} {T W z τ t i : Nat} {a b : Nat → Nat} {g : Nat → Nat → Nat} (o : mOk u T W z) (ht : t < T) (hi : i < mMany u t) (q : pC u T τ t 1 1 a b g) : ∃ b' g', pC (mFollow u (9 * (8 * t + i)) t T) T τ t 0 0 a b' g' ∧ (mFollow u (9 * (8 * t + i)) t T).2 0 (7 * t + 2) = u.2 0 (7 * t + 2) := by
  have q1 := pC_1 o.many8 ht hi q
  have q2 : ∃ b' g', pC (mFol2 u (9 * (8 * t + i)) t) T τ t 0 0 a b' g' ∧ (mFol2 u (9 * (8 * t + i)) t).2 0 (7 * t + 2) = u.2 0 (7 * t + 2) := by
    unfold mFol2
    split
    · exact ⟨_, _, pC_S _ ht q1, (mSing_f (mFol1 u (9 * (8 * t + i))) t _).2.2 _ (by omega)⟩
    · exact ⟨_, _, q1.drop t, rfl⟩
  obtain ⟨b', g', q3, e2⟩ := q2
  unfold mFollow
  split
  · exact ⟨b', g', q3, e2⟩
  · obtain ⟨g1, g2, -⟩ := mFolL_f (H := (mFol1 u (9 * (8 * t + i))).2 1) (J := 9 * (8 * t + i)) (t := t) T 0 (mFol2 u (9 * (8 * t + i)) t)
    exact ⟨b', g', q3.cg (fun i9 h9 => g1 i9 (by omega) (by omega)) (fun x i9 _ _ => by rw [g2 0 (by omega)]) (fun i9 => by rw [g2 1 (by omega)]), by rw [g2 0 (by omega)]; exact e2⟩
theorem mHear_c {u : MS} {T W z τ t p : Nat} {a b : Nat → Nat} {g : Nat → Nat → Nat} (o : mOk u T W z) (e1 : u.1 1 = nI τ) (e4 : u.2 4 4 = nI p) (hp : p ≤ 8) (ht : t < T) (q : pC u T τ t 0 0 a b g) :
    (u.2 0 (7 * t + 6) = u.1 1 ∧ (mHear u t T).2 = nI 2 ∧ pC (mHear u t T).1 T τ t 0 0 a b g ∧ (mHear u t T).1.2 0 = u.2 0) ∨
    ∃ b' g', ((mHear u t T).2 = nI 0 ∨ (mHear u t T).2 = nI 1) ∧ pC (mHear u t T).1 T τ t 0 0 (pU1 a t) b' g' ∧ (mHear u t T).1.2 0 (7 * t + 2) = (if nI 0 < u.2 0 (7 * t + 2) - nI 1 then u.2 0 (7 * t + 2) - nI 1 else nI 0) := by
  have hT := o.2.1
  unfold mHear
  by_cases c : u.2 0 (7 * t + 6) = u.1 1
  · rw [if_pos c]
    exact Or.inl ⟨c, rfl, q.cg (fun i hi => by rcases hi with rfl | rfl | rfl | rfl | rfl <;> rfl) (fun _ _ _ _ => rfl) (fun _ => rfl), rfl⟩
  · rw [if_neg c]
    refine Or.inr ?_
    have qA := pC_A e1 c e4 hp ht q
    have tire : ∀ v b9 g9, pC v T τ t 0 0 (pU1 a t) b9 g9 → pC (mTire v t) T τ t 0 0 (pU1 a t) b9 g9 := fun v b9 g9 hv => hv.cg (fun _ _ => rfl) (fun x i _ _ => pk_un (by omega)) (fun _ => rfl)
    have p2 : ∀ v : MS, v.2 0 (7 * t + 2) = u.2 0 (7 * t + 2) → (mTire v t).2 0 (7 * t + 2) = (if nI 0 < u.2 0 (7 * t + 2) - nI 1 then u.2 0 (7 * t + 2) - nI 1 else nI 0) := fun v e => by
      show upd (v.2 0) (7 * t + 2) _ (7 * t + 2) = _
      rw [pk_us, e]
    have pA : (mHearA u t).2 0 (7 * t + 2) = u.2 0 (7 * t + 2) := by
      show upd (upd (u.2 0) (7 * t + 6) (u.1 1)) (7 * t + 4) _ (7 * t + 2) = _
      rw [pk_un (by omega), pk_un (by omega)]
    by_cases cs : mHearS u t = -1
    · have eB : mHearB u t T = mHearA u t := by unfold mHearB; rw [if_pos cs]
      rw [eB, if_pos cs]
      exact ⟨b, g, Or.inr rfl, tire _ _ _ (qA.drop t), p2 _ pA⟩
    · obtain ⟨m, i, m1, m2, hi, eS⟩ := mHearS_of o ht cs
      have eB : mHearB u t T = mFollow (mHearA u t) (9 * (8 * t + i)) t T := by unfold mHearB; rw [if_neg cs, eS, mCl (by omega)]
      rw [eB, if_neg cs]
      have em : mMany (mHearA u t) t = m := mMany_of m1 (by
        show upd (upd (u.2 0) (7 * t + 6) (u.1 1)) (7 * t + 4) _ (7 * t + 3) = _
        rw [pk_un (by omega), pk_un (by omega)]
        exact m2)
      obtain ⟨b', g', q', e2⟩ := mFollow_c (mHearA_ok o) ht (show i < mMany (mHearA u t) t by omega) qA
      exact ⟨b', g', Or.inl rfl, tire _ _ _ q', p2 _ (e2.trans pA)⟩
theorem mDrainL_c {T τ : Nat} {M : Nat → Int32} (hτ : τ < 1000000) : ∀ f x W z L a b g, mOk x T W z → pQ x T M τ τ L → pC x T τ 0 0 0 a b g → ∃ a' b' g', pC (mDrainL f x) T τ 0 0 0 a' b' g'
  | 0, _, _, _, _, a, b, g, _, _, q => ⟨a, b, g, q⟩
  | f + 1, x, W, z, L, a, b, g, o, q, qc => by
    unfold mDrainL
    have hT := o.2.1
    by_cases c : x.1 6 ≠ nI 0 ∧ x.2 2 0 = x.1 1
    · rw [if_pos c]
      have hW : W ≠ 0 := fun e => c.1 (by rw [o.2.2.1, e])
      obtain ⟨V, rfl⟩ : ∃ V, W = V + 1 := ⟨W - 1, by omega⟩
      obtain ⟨o1, h1, h2, h3, h4⟩ := mTake_ok o
      obtain ⟨q1, t, p, et, hd⟩ := mTake_q hτ q o.2.2.1 o.2.2.2.1 c.2
      have ht := hd.2.2.1
      rw [et, mCl (by omega), o.1, mCl (by omega)]
      obtain ⟨W', z', hz, o2, m2, e2, -⟩ := mHear_ok o1 h1 ht (by rw [h2]; exact c.2)
      obtain ⟨L1, l1, l2, -, q2⟩ := mHear_q o1 hτ (by omega) q1 hd
      have e1 : (mTake x).1 1 = nI τ := by
        obtain ⟨W1, z1, g6, hW1, rs, ez, hz, ns, nx, e1, e9⟩ := q1
        exact e1
      have qt : pC (mTake x) T τ t 0 0 a b g := (qc.cg (fun i hi => by rcases hi with rfl | rfl | rfl | rfl | rfl <;> rfl) (fun _ _ _ _ => rfl) (fun _ => rfl)).drop t
      rcases mHear_c o1 e1 hd.2.2.2.2.1 hd.2.2.2.1 ht qt with ⟨-, -, q3, -⟩ | ⟨b', g', -, q3, -⟩
      · exact mDrainL_c hτ f _ W' z' L1 a b g o2 q2 (q3.drop 0)
      · exact mDrainL_c hτ f _ W' z' L1 _ b' g' o2 q2 (q3.drop 0)
    · rw [if_neg c]
      exact ⟨a, b, g, qc⟩
/-- all of it -/
def pI (u : MS) (T : Nat) (M : Nat → Int32) (τ L : Nat) (a b : Nat → Nat) (g : Nat → Nat → Nat) : Prop := (∃ W z, mOk u T W z) ∧ pQ u T M (τ + 1) τ L ∧ pC u T τ 0 0 0 a b g
theorem mTick_I {u : MS} {T τ L : Nat} {M : Nat → Int32} {a b : Nat → Nat} {g : Nat → Nat → Nat} (hτ : τ < 999999) (q : pI u T M τ L a b g) : ∃ L' a' b' g', L ≤ L' ∧ L' ≤ L + 1020 ∧ pI (mTick u) T M (τ + 1) L' a' b' g' := by
  obtain ⟨⟨W, z, o⟩, qq, qc⟩ := q
  obtain ⟨W', z', -, o'⟩ := mTick_ok o
  obtain ⟨L', l1, l2, q'⟩ := mTick_q o hτ qq
  have q1 : pQ (mTick1 u) T M (τ + 1) (τ + 1) L := by
    obtain ⟨W1, z1, g6, hW1, rs, ez, hz, ns, nx, e1, e9⟩ := qq
    refine ⟨W1, z1, g6, hW1, ⟨fun k hk => ?_, rs.2⟩, ez, hz, ⟨fun n hn => ?_, ns.2⟩, nx, ?_, e9⟩
    · obtain ⟨r, p, h1, h2, h3⟩ := rs.1 k hk
      exact ⟨r, p, h1, by omega, h3⟩
    · obtain ⟨x, d, p, h1, h2⟩ := ns.1 n hn
      exact ⟨x, d, p, by omega, h2⟩
    · show upd u.1 1 (u.1 1 + nI 1) 1 = _
      rw [pk_us, e1]
      exact nI_1 τ
  have qc1 : pC (mTick1 u) T (τ + 1) 0 0 0 a b g := by
    obtain ⟨h, r⟩ := qc
    refine ⟨fun x hx => ?_, r⟩
    obtain ⟨k1, k2, k3, k4, k5⟩ := h x hx
    exact ⟨k1, k2, k3, Or.inl (by rcases k4 with z9 | z9 <;> omega), k5⟩
  obtain ⟨ga, gb, gc⟩ := mTick2_f (mTick1 u)
  have q2 : pQ (mTick2 (mTick1 u)) T M (τ + 1) (τ + 1) L := q1.cg (fun i _ => by rw [ga]) (gb 2 (by omega)) (gb 3 (by omega)) (fun x _ => gc x 3 (by omega) (by omega)) (fun i => by rw [gb 1 (by omega)]; exact ⟨rfl, rfl⟩)
  have qc2 : pC (mTick2 (mTick1 u)) T (τ + 1) 0 0 0 a b g := qc1.cg (fun i _ => by rw [ga]) (fun x i h3 h7 => gc x i h7 (by omega)) (fun i => by rw [gb 1 (by omega)])
  obtain ⟨a', b', g', q3⟩ := mDrainL_c (by omega) 60 _ W z L a b g (mTick2_ok (mTick1_ok o)) q2 qc2
  exact ⟨L', a', b', g', l1, l2, ⟨W', z', o'⟩, q', q3⟩
theorem mPassL_I {T : Nat} {M : Nat → Int32} : ∀ r u τ L a b g, τ + r < 999999 → pI u T M τ L a b g → ∃ L' a' b' g', L ≤ L' ∧ L' ≤ L + 1020 * r ∧ pI (mPassL r u) T M (τ + r) L' a' b' g'
  | 0, u, τ, L, a, b, g, _, q => ⟨L, a, b, g, Nat.le_refl _, Nat.le_refl _, q⟩
  | r + 1, u, τ, L, a, b, g, h, q => by
    obtain ⟨L1, a1, b1, g1, l1, l2, q1⟩ := mTick_I (by omega) q
    obtain ⟨L2, a2, b2, g2, l3, l4, q2⟩ := mPassL_I r (mTick u) (τ + 1) L1 a1 b1 g1 (by omega) q1
    refine ⟨L2, a2, b2, g2, by omega, by omega, ?_⟩
    rw [show τ + (r + 1) = τ + 1 + r by omega]
    exact q2
theorem mRing_I {u : MS} {T τ L t : Nat} {M : Nat → Int32} {a b : Nat → Nat} {g : Nat → Nat → Nat} (hτ : τ < 999999) (ht : t < T) (q : pI u T M τ L a b g) : ∃ L' a' b' g', L ≤ L' ∧ L' ≤ L + 17 ∧ pI (mRing u (nI t)).1 T M τ L' a' b' g' ∧
    (((mRing u (nI t)).2 = nI 2 ∧ L + 1 ≤ L' ∧ a' = a ∧ (mRing u (nI t)).1.2 0 (7 * t + 2) = u.2 0 (7 * t + 2)) ∨ (((mRing u (nI t)).2 = nI 0 ∨ (mRing u (nI t)).2 = nI 1) ∧ a' = pU1 a t ∧ (mRing u (nI t)).1.2 0 (7 * t + 2) = (if nI 0 < u.2 0 (7 * t + 2) - nI 1 then u.2 0 (7 * t + 2) - nI 1 else nI 0))) := by
  obtain ⟨⟨W, z, o⟩, qq, qc⟩ := q
  have hT := o.2.1
  obtain ⟨W', z', o'⟩ := mRing_ok o (nI t)
  obtain ⟨h1, h2, h3⟩ := mHd0_ok o ht
  obtain ⟨q1, hd⟩ := mHd0_q qq ht
  obtain ⟨L', l1, l2, l3, q2⟩ := mHear_q h1 (by omega) (Nat.le_refl _) q1 hd
  have qc1 : pC (mHd0 u (nI t)) T τ t 0 0 a b g := by
    refine (qc.drop t).cg (fun i hi => ?_) (fun _ _ _ _ => rfl) (fun _ => rfl)
    rcases hi with rfl | rfl | rfl | rfl | rfl
    · exact qc.2.2.2.2.2.symm
    · rfl
    · rfl
    · rfl
    · rfl
  have e1 : (mHd0 u (nI t)).1 1 = nI τ := by
    obtain ⟨W1, z1, g6, hW1, rs, ez, hz, ns, nx, e1, e9⟩ := q1
    exact e1
  have eR : mRing u (nI t) = mHear (mHd0 u (nI t)) t T := by
    unfold mRing
    rw [if_pos (mTen_nI o.W ht), mCl (by omega), o.1, mCl (by omega)]
  rw [eR] at o' ⊢
  rcases mHear_c h1 e1 hd.2.2.2.2.1 hd.2.2.2.1 ht qc1 with ⟨c, e, q3, eA⟩ | ⟨b', g', e, q3, eA⟩
  · exact ⟨L', a, b, g, l1, l2, ⟨⟨W', z', o'⟩, q2, q3.drop 0⟩, Or.inl ⟨e, l3 c, rfl, by rw [eA]; rfl⟩⟩
  · exact ⟨L', _, b', g', l1, l2, ⟨⟨W', z', o'⟩, q2, q3.drop 0⟩, Or.inr ⟨e, rfl, eA⟩⟩
