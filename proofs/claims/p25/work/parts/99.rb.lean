/-! the courtyard that cells choose -/
def sTen (G : gG) (h hC : gH) (x m : Nat) : Prop := ∃ a b c d e f hb g, gat h x (.inr (1, [.int a, .int b, .int c, .int d, .int e, .int f, .ref hb])) ∧ x ∉ hC.1 ∧ gat h hb (.inl (gJ G, m, .inr (.inr (.inr (.inr g))))) ∧ hb ∉ hC.1 ∧ ∀ i, i < m → ∃ w f9, g i = some w ∧ gat h w (.inl (gI G, 9, .inl f9)) ∧ w ∉ hC.1
def sSim (G : gG) (h hC : gH) (y n : Nat) (ten len : Nat → Nat) : Prop :=
  (∃ i0 i1 tn rn sn b1 b2 b3 b4 f, gat h y (.inr (0, [.int i0, .int i1, .ref tn, .ref rn, .ref sn, .int b1, .int b2, .int b3, .int b4])) ∧ y ∉ hC.1 ∧ gat h tn (.inl (gTn G, n, .inr (.inr (.inr (.inr f))))) ∧ tn ∉ hC.1 ∧ ∀ j, j < n → f j = some (ten j)) ∧ (∀ j, j < n → sTen G h hC (ten j) (len j)) ∧ ∀ i j, i < n → j < n → ten i = ten j → i = j
theorem sTen.rest {G : gG} {h hC h1 hC1 : gH} {x m : Nat} (o : sTen G h hC x m) (hr : gRest h hC h1 hC1) : sTen G h1 hC1 x m := by
  obtain ⟨a, b, c, d, e, f, hb, g, h1, h2, h3, h4, h5⟩ := o
  refine ⟨a, b, c, d, e, f, hb, g, (hr _ _ h1 h2).1, (hr _ _ h1 h2).2, (hr _ _ h3 h4).1, (hr _ _ h3 h4).2, fun i hi => ?_⟩
  obtain ⟨w, f9, g1, g2, g3⟩ := h5 i hi
  exact ⟨w, f9, g1, (hr _ _ g2 g3).1, (hr _ _ g2 g3).2⟩
theorem sSim.rest {G : gG} {h hC h1 hC1 : gH} {y n : Nat} {ten len : Nat → Nat} (o : sSim G h hC y n ten len) (hr : gRest h hC h1 hC1) : sSim G h1 hC1 y n ten len := by
  obtain ⟨⟨i0, i1, tn, rn, sn, b1, b2, b3, b4, f, h1, h2, h3, h4, h5⟩, o2, o3⟩ := o
  exact ⟨⟨i0, i1, tn, rn, sn, b1, b2, b3, b4, f, (hr _ _ h1 h2).1, (hr _ _ h1 h2).2, (hr _ _ h3 h4).1, (hr _ _ h3 h4).2, h5⟩, fun j hj => (o2 j hj).rest hr, o3⟩
theorem sTen.sa {G : gG} {h hC h1 : gH} {x m : Nat} (o : sTen G h hC x m) (hK : gSa h h1) : sTen G h1 hC x m := o.rest (fun q e hq hn => ⟨hK q e hq, hn⟩)
theorem sSim.sa {G : gG} {h hC h1 : gH} {y n : Nat} {ten len : Nat → Nat} (o : sSim G h hC y n ten len) (hK : gSa h h1) : sSim G h1 hC y n ten len := o.rest (fun q e hq hn => ⟨hK q e hq, hn⟩)
/-- only an object that is none of the tenant's has changed -/
theorem sTen.st {G : gG} {h hC h1 : gH} {x m a ci : Nat} {fs : List Value} (o : sTen G h hC x m) (ha : gat h a (.inr (ci, fs))) (hne : x ≠ a) (hK : gSt h h1 a) : sTen G h1 hC x m := by
  obtain ⟨c0, b, c, d, e, f, hb, g, h1, h2, h3, h4, h5⟩ := o
  refine ⟨c0, b, c, d, e, f, hb, g, hK _ _ h1 hne, h2, hK _ _ h3 (gat_ne h3 ha rfl), h4, fun i hi => ?_⟩
  obtain ⟨w, f9, g1, g2, g3⟩ := h5 i hi
  exact ⟨w, f9, g1, hK _ _ g2 (gat_ne g2 ha rfl), g3⟩
theorem gSub.st {h hC h1 : gH} {a : Nat} (hs : gSub hC h) (ha : a ∉ hC.1) (hK : gSt h h1 a) : gSub hC h1 := fun q e hq => hK q e (hs q e hq) (fun z9 => ha (z9 ▸ hq.1))
theorem gSub.sa {h hC h1 : gH} (hs : gSub hC h) (hK : gSa h h1) : gSub hC h1 := fun q e hq => hK q e (hs q e hq)
theorem gSub.fresh {h hC : gH} {a : Nat} (hs : gSub hC h) (ha : a ∉ h.1) : a ∉ hC.1 := fun z9 => ha (hs a (hC.2 a) ⟨z9, rfl⟩).1
/-- nothing has happened yet -/
def pB (u : MS) (T : Nat) (len : Nat → Nat) : Prop := u.1 3 = nI T ∧ u.1 0 = nI 0 ∧ u.1 1 = nI 0 ∧ u.1 6 = nI 0 ∧ u.1 8 = nI 0 ∧ u.1 9 = nI 0 ∧ u.1 10 = nI 0 ∧ u.1 11 = nI 0 ∧ u.1 12 = nI 0 ∧ ∀ t, t < T → u.2 0 (7 * t + 3) = nI (len t) ∧ u.2 0 (7 * t + 4) = nI 0 ∧ u.2 0 (7 * t + 5) = nI 0 ∧ u.2 0 (7 * t + 6) = -1 ∧ ∀ j, j < len t → u.2 1 (9 * (8 * t + j) + 8) = nI 0
theorem pS_0 : ∀ m, pS (fun _ => 0) m = 0
  | 0 => rfl
  | m + 1 => by
    unfold pS
    rw [pS_0 m]
theorem pB.pI {u : MS} {T W z : Nat} {len : Nat → Nat} (q : pB u T len) (o : mOk u T W z) : pI u T (fun t => mNext u T t) 0 0 (fun _ => 0) (fun _ => 0) (fun _ _ => 0) := by
  obtain ⟨e3, e0, e1, e6, e8, e9, e10, e11, e12, h⟩ := q
  refine ⟨⟨W, z, o⟩, ⟨0, 0, e6, by omega, ⟨fun k hk => absurd hk (Nat.not_lt_zero _), fun k hk => absurd hk (Nat.not_lt_zero _)⟩, e12, by omega, ⟨fun k hk => absurd hk (Nat.not_lt_zero _), fun k hk => absurd hk (Nat.not_lt_zero _)⟩, fun _ _ => rfl, e1, e9⟩, fun x hx => ?_, ?_, ?_, ⟨0, by omega, e11⟩, ?_, e0⟩
  · obtain ⟨h3, h4, h5, h6, h7⟩ := h x hx
    obtain ⟨m, hm, em, -⟩ := o.2.2.2.2.2.2.2.1 x hx
    have hl : mMany u x = len x ∨ mMany u x ≤ len x := by
      unfold mMany
      rw [h3]
      by_cases c : len x < 2 ^ 31
      · exact Or.inl (nI_clamp c)
      · have := mMany_of hm em
        unfold mMany at this
        rw [h3] at this
        rw [this]
        exact Or.inr (by omega)
    rw [ite_self]
    refine ⟨h4, h5, Nat.le_refl _, Or.inl (Nat.le_refl _), fun j hj => h7 j (by omega), ?_⟩
    rw [pS_0]
    exact Nat.le_refl _
  · rw [pS_0]
    exact e8
  · rw [pS_0]
    exact e10
  · rw [pS_0]
    exact e12
theorem pB.move {u : MS} {T : Nat} (q : pB u T (fun _ => 0)) (hT : T < 16) {x p : Nat} (hx : x ≤ 87) (hp : p ≤ 9) : ∃ u', mMoveIn u (nI x) (nI p) = (u', nI T) ∧ pB u' (T + 1) (fun _ => 0) := by
  obtain ⟨e3, e0, e1, e6, e8, e9, e10, e11, e12, h⟩ := q
  refine ⟨sg (sa (sg u 0 (nI 0)) 0 (va_cpy (mNew (nI x) (nI p)) (u.2 0) 0 (7 * T) 7)) 3 (nI (T + 1)), ?_, rfl, rfl, e1, e6, e8, e9, e10, e11, e12, fun t ht => ?_⟩
  · unfold mMoveIn
    rw [if_pos ⟨mIn_lo hx (by omega), mIn_lo hp (by omega)⟩, if_neg (by rw [e3]; intro z9; have := (nI_eq (by omega) (by omega)).mp z9; omega), e3, mCl (by omega)]
  · show va_cpy (mNew (nI x) (nI p)) (u.2 0) 0 (7 * T) 7 (7 * t + 3) = _ ∧ va_cpy (mNew (nI x) (nI p)) (u.2 0) 0 (7 * T) 7 (7 * t + 4) = _ ∧ va_cpy (mNew (nI x) (nI p)) (u.2 0) 0 (7 * T) 7 (7 * t + 5) = _ ∧ va_cpy (mNew (nI x) (nI p)) (u.2 0) 0 (7 * T) 7 (7 * t + 6) = _ ∧ _
    by_cases e : t = T
    · subst e
      rw [pk_cpy_in (by omega) (by omega), pk_cpy_in (by omega) (by omega), pk_cpy_in (by omega) (by omega), pk_cpy_in (by omega) (by omega), show 0 + (7 * t + 3 - 7 * t) = 3 by omega, show 0 + (7 * t + 4 - 7 * t) = 4 by omega, show 0 + (7 * t + 5 - 7 * t) = 5 by omega, show 0 + (7 * t + 6 - 7 * t) = 6 by omega]
      exact ⟨rfl, rfl, rfl, rfl, fun j hj => absurd hj (Nat.not_lt_zero _)⟩
    · rw [pk_cpy_out (by omega), pk_cpy_out (by omega), pk_cpy_out (by omega), pk_cpy_out (by omega)]
      exact h t (by omega)
theorem pB.hour {x : Nat} (h1 : 5 ≤ x) (h2 : x ≤ 500) : ∃ u', mSetHour mU0 (nI x) = (u', nI 60) ∧ pB u' 0 (fun _ => 0) := by
  refine ⟨sg (sg mU0 0 (nI 0)) 2 (nI x), ?_, rfl, rfl, rfl, rfl, rfl, rfl, rfl, rfl, rfl, fun t ht => absurd ht (Nat.not_lt_zero _)⟩
  unfold mSetHour
  rw [if_pos ⟨nI_le h1 (by omega), nI_le h2 (by omega)⟩]
  rfl
theorem pB.add {u : MS} {T t j W z : Nat} {len : Nat → Nat} (q : pB u T len) (o : mOk u T W z) (ht : t < T) (hl : len t = j) (hj : j < 8) (hl8 : ∀ x, x < T → len x ≤ 8) : ∃ u', mAddHabit u (nI t) = (u', nI (j + 1)) ∧ pB u' T (pUp len t (j + 1)) ∧ u'.2 1 (9 * (8 * t + j) + 2) = nI 2 ∧ u'.2 1 (9 * (8 * t + j) + 4) = nI 1 := by
  obtain ⟨e3, e0, e1, e6, e8, e9, e10, e11, e12, h⟩ := q
  have hT := o.2.1
  have et := (h t ht).1
  rw [hl] at et
  have em : mMany u t = j := mMany_of (by omega) et
  refine ⟨sa (sa (sg u 0 (nI 0)) 1 (va_cpy (mHab0 (nI t)) (u.2 1) 0 (9 * (8 * t + j)) 9)) 0 (upd (u.2 0) (7 * t + 3) (nI (j + 1))), ?_, ⟨e3, rfl, e1, e6, e8, e9, e10, e11, e12, fun x hx => ?_⟩, ?_, ?_⟩
  · unfold mAddHabit
    rw [if_pos (mTen_nI o.W ht), mCl (by omega), em, if_neg (by rw [et]; intro z9; have := (nI_eq (by omega) (by omega)).mp z9; omega)]
  · obtain ⟨h3, h4, h5, h6, h7⟩ := h x hx
    have hx8 := hl8 x hx
    show upd (u.2 0) (7 * t + 3) (nI (j + 1)) (7 * x + 3) = _ ∧ upd (u.2 0) (7 * t + 3) (nI (j + 1)) (7 * x + 4) = _ ∧ upd (u.2 0) (7 * t + 3) (nI (j + 1)) (7 * x + 5) = _ ∧ upd (u.2 0) (7 * t + 3) (nI (j + 1)) (7 * x + 6) = _ ∧ ∀ i, _ → va_cpy (mHab0 (nI t)) (u.2 1) 0 (9 * (8 * t + j)) 9 (9 * (8 * x + i) + 8) = _
    rw [pk_un (show 7 * x + 4 ≠ 7 * t + 3 by omega), pk_un (show 7 * x + 5 ≠ 7 * t + 3 by omega), pk_un (show 7 * x + 6 ≠ 7 * t + 3 by omega)]
    by_cases e : x = t
    · subst e
      rw [pk_us, pUp_s]
      refine ⟨rfl, h4, h5, h6, fun i hi => ?_⟩
      by_cases ei : i = j
      · subst ei
        rw [pk_cpy_in (by omega) (by omega), show 0 + (9 * (8 * x + i) + 8 - 9 * (8 * x + i)) = 8 by omega]
        rfl
      · rw [pk_cpy_out (by omega)]
        exact h7 i (by omega)
    · rw [pk_un (show 7 * x + 3 ≠ 7 * t + 3 by omega), pUp_n e]
      refine ⟨h3, h4, h5, h6, fun i hi => ?_⟩
      rw [pk_cpy_out (by omega)]
      exact h7 i hi
  · show va_cpy (mHab0 (nI t)) (u.2 1) 0 (9 * (8 * t + j)) 9 (9 * (8 * t + j) + 2) = _
    rw [pk_cpy_in (by omega) (by omega), show 0 + (9 * (8 * t + j) + 2 - 9 * (8 * t + j)) = 2 by omega]
    rfl
  · show va_cpy (mHab0 (nI t)) (u.2 1) 0 (9 * (8 * t + j)) 9 (9 * (8 * t + j) + 4) = _
    rw [pk_cpy_in (by omega) (by omega), show 0 + (9 * (8 * t + j) + 4 - 9 * (8 * t + j)) = 4 by omega]
    rfl
theorem pB.put {u : MS} {T : Nat} {len : Nat → Nat} (q : pB u T len) {f : Nat → Int32} (hf : ∀ i, f (9 * i + 8) = u.2 1 (9 * i + 8)) : pB (sa (sg u 0 (nI 0)) 1 f) T len := by
  obtain ⟨e3, e0, e1, e6, e8, e9, e10, e11, e12, h⟩ := q
  refine ⟨e3, rfl, e1, e6, e8, e9, e10, e11, e12, fun x hx => ?_⟩
  obtain ⟨h3, h4, h5, h6, h7⟩ := h x hx
  exact ⟨h3, h4, h5, h6, fun i hi => (hf _).trans (h7 i hi)⟩
theorem pB.when {u : MS} {T t j W z : Nat} {len : Nat → Nat} {x1 x2 x3 x4 : Int32} (q : pB u T len) (o : mOk u T W z) (ht : t < T) (hj : j < len t) (hl8 : len t ≤ 8) (h1 : mIn x1 (nI 0) (nI 23)) (h2 : mIn x2 (nI 0) (nI 23)) (h3 : mIn x3 (nI 0) (nI 2)) (h4 : mIn x4 (nI 0) (nI 9)) (e2 : u.2 1 (9 * (8 * t + j) + 2) = nI 2) (e4 : u.2 1 (9 * (8 * t + j) + 4) = nI 1) : ∃ u', mSetWhen u (nI t) (nI j) x1 x2 x3 x4 = (u', nI 2) ∧ pB u' T len ∧ u'.2 1 (9 * (8 * t + j) + 4) = nI 1 := by
  have hT := o.2.1
  have et := (q.2.2.2.2.2.2.2.2.2 t ht).1
  refine ⟨sa (sg u 0 (nI 0)) 1 (va_cpy (m4 x1 x2 x3 x4) (u.2 1) 0 (9 * (8 * t + j)) 4), ?_, q.put (fun i => pk_cpy_out (by omega)), ?_⟩
  · unfold mSetWhen
    rw [if_pos ⟨mTen_nI o.W ht, by rw [mCl (by omega)]; exact mIn_up et hj (by omega)⟩, if_pos ⟨h1, h2, h3, h4⟩, mJ_of (by omega) (by omega), e2]
  · exact (pk_cpy_out (by omega)).trans e4
theorem pB.what {u : MS} {T t j W z : Nat} {len : Nat → Nat} {x1 x3 x4 : Int32} {x2 : Nat} (q : pB u T len) (o : mOk u T W z) (ht : t < T) (hj : j < len t) (hl8 : len t ≤ 8) (h1 : mIn x1 (nI 0) (nI 5)) (h2 : x2 < T) (h3 : mIn x3 (nI 1) (nI 99)) (h4 : mIn x4 (-12) (nI 12)) (e4 : u.2 1 (9 * (8 * t + j) + 4) = nI 1) : ∃ u', mSetWhat u (nI t) (nI j) x1 (nI x2) x3 x4 = (u', nI 1) ∧ pB u' T len := by
  have hT := o.2.1
  have et := (q.2.2.2.2.2.2.2.2.2 t ht).1
  refine ⟨sa (sg u 0 (nI 0)) 1 (va_cpy (m4 x1 (nI x2) x3 x4) (u.2 1) 0 (9 * (8 * t + j) + 4) 4), ?_, q.put (fun i => pk_cpy_out (by omega))⟩
  unfold mSetWhat
  rw [if_pos ⟨⟨mTen_nI o.W ht, by rw [mCl (by omega)]; exact mIn_up et hj (by omega)⟩, mTen_nI o.W h2⟩, if_pos ⟨h1, h3, h4⟩, mJ_of (by omega) (by omega), e4]
theorem cW.ok {G : gG} {h : gH} {c : Nat → Nat} {u : MS} {F T : Nat} (hW : cW G h c u F) (e3 : u.1 3 = nI T) (hT : T < 1000) : ∃ W z, mOk u T W z := by
  obtain ⟨Λ, T', W, z, hC, o, e⟩ := hW
  have hT' := o.2.1
  have : T' = T := (nI_eq (by omega) (by omega)).mp (o.1.symm.trans e3)
  subst this
  exact ⟨W, z, o⟩
theorem gI_nd {X : gX} {h : gH} {k n pc : Nat} {lc : List (Nat × Value)} {st : List Value} (kk : h.1.Nodup → gW X h k n pc lc st) : gW X h k n pc lc st := by
  obtain ⟨⟨p, l, e, R0, s, m, args, below, meth, c⟩, ⟨G, A, nL, Q⟩⟩ := X
  intro H locs ls hP hD hS hls
  exact kk (gw_nodup hD) H locs ls hP hD hS hls
/-- a tenant has one habit more -/
theorem sSim.more {G : gG} {h hC h1 h2 : gH} {y n t j v al : Nat} {ten len : Nat → Nat} {f0 : Nat → Int32} (o : sSim G h hC y n ten len) (hs : gSub hC h) (ht : t < n) (hl : len t = j) (hv : gat h v (.inl (gI G, 9, .inl f0))) (ov : v ∉ hC.1)
    {a b c d e f : Int32} {hb : Nat} {g f9 : Nat → Option Nat} (hx : gat h (ten t) (.inr (1, [.int a, .int b, .int c, .int d, .int e, .int f, .ref hb]))) (hxC : ten t ∉ hC.1) (hg : ∀ i, i < j → ∃ w f8, g i = some w ∧ gat h w (.inl (gI G, 9, .inl f8)) ∧ w ∉ hC.1)
    (hal : al ∉ h.1) (Hal : gat h1 al (.inl (gJ G, j + 1, .inr (.inr (.inr (.inr f9)))))) (hf1 : ∀ i, i < j → f9 i = g i) (hf2 : f9 j = some v) (hK1 : gSa h h1) (Hx : gat h2 (ten t) (.inr (1, [.int a, .int b, .int c, .int d, .int e, .int f, .ref al]))) (hK2 : gSt h1 h2 (ten t)) : sSim G h2 hC y n ten (pUp len t (j + 1)) ∧ gSub hC h2 := by
  have hx1 := hK1 _ _ hx
  refine ⟨?_, (hs.sa hK1).st hxC hK2⟩
  obtain ⟨⟨i0, i1, tn, rn, sn, b1, b2, b3, b4, f', g1, g2, g3, g4, g5⟩, o2, o3⟩ := o.sa hK1
  refine ⟨⟨i0, i1, tn, rn, sn, b1, b2, b3, b4, f', hK2 _ _ g1 (gat_ne g1 hx1 rfl), g2, hK2 _ _ g3 (gat_ne g3 hx1 rfl), g4, g5⟩, fun i hi => ?_, o3⟩
  by_cases ei : i = t
  · subst ei
    rw [pUp_s]
    refine ⟨a, b, c, d, e, f, al, f9, Hx, hxC, hK2 _ _ Hal (gat_ne Hal hx1 rfl), hs.fresh hal, fun i9 hi9 => ?_⟩
    by_cases e9 : i9 = j
    · subst e9
      have hv1 := hK1 _ _ hv
      exact ⟨v, f0, hf2, hK2 _ _ hv1 (gat_ne hv1 hx1 rfl), ov⟩
    · obtain ⟨w, f8, w1, w2, w3⟩ := hg i9 (by omega)
      have w4 := hK1 _ _ w2
      exact ⟨w, f8, (hf1 i9 (by omega)).trans w1, hK2 _ _ w4 (gat_ne w4 hx1 rfl), w3⟩
  · rw [pUp_n ei]
    exact (o2 i hi).st hx1 (fun z9 => ei (o3 i t hi ht z9)) hK2
