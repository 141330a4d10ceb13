theorem mMoveIn_ok {u : MS} {T W z : Nat} (o : mOk u T W z) {x p : Int32} (hp : mIn p (nI 0) (nI 9)) (hT : T ≠ 16) :
    mOk (sg (sa (sg u 0 (nI 0)) 0 (va_cpy (mNew x p) (u.2 0) 0 (7 * T) 7)) 3 (nI (T + 1))) (T + 1) W z := by
  obtain ⟨a1, a2, a3, a4, a5, a6, a7, a8, a9, a10⟩ := o
  obtain ⟨p9, hp9, rfl⟩ := mIn_lit (m := 9) (by omega) hp
  refine ⟨rfl, by omega, a3, a4, a5, a6, a7, fun t ht => ?_, fun k hk => (a9 k hk).more (by omega), a10⟩
  by_cases e : t = T
  · subst e
    refine ⟨0, by omega, ?_, ⟨p9, hp9, ?_⟩, ⟨p9, hp9, ?_⟩, ?_, fun j hj => absurd hj (Nat.not_lt_zero j)⟩
    · show va_cpy _ _ 0 (7 * t) 7 (7 * t + 3) = _
      rw [pk_cpy_in (by omega) (by omega), show 0 + (7 * t + 3 - 7 * t) = 3 by omega]
      rfl
    · show va_cpy _ _ 0 (7 * t) 7 (7 * t + 2) = _
      rw [pk_cpy_in (by omega) (by omega), show 0 + (7 * t + 2 - 7 * t) = 2 by omega]
      rfl
    · show va_cpy _ _ 0 (7 * t) 7 (7 * t + 1) = _
      rw [pk_cpy_in (by omega) (by omega), show 0 + (7 * t + 1 - 7 * t) = 1 by omega]
      rfl
    · show va_cpy _ _ 0 (7 * t) 7 (7 * t + 2) ≤ va_cpy _ _ 0 (7 * t) 7 (7 * t + 1)
      rw [pk_cpy_in (by omega) (by omega), show 0 + (7 * t + 2 - 7 * t) = 2 by omega, pk_cpy_in (by omega) (by omega), show 0 + (7 * t + 1 - 7 * t) = 1 by omega]
      exact Int32.le_refl _
  · obtain ⟨m, m1, m2, ⟨q, q1, q2⟩, ⟨g, g1, g2⟩, le, hh⟩ := a8 t (by omega)
    exact ⟨m, m1, (pk_cpy_out (by omega)).trans m2, ⟨q, q1, (pk_cpy_out (by omega)).trans q2⟩, ⟨g, g1, (pk_cpy_out (by omega)).trans g2⟩, by show va_cpy _ _ 0 (7 * T) 7 (7 * t + 2) ≤ va_cpy _ _ 0 (7 * T) 7 (7 * t + 1); rw [pk_cpy_out (by omega), pk_cpy_out (by omega)]; exact le, fun j hj => (hh j hj).more (by omega)⟩
theorem mAddHabit_ok {u : MS} {T W z t m : Nat} (o : mOk u T W z) (ht : t < T) (em : u.2 0 (7 * t + 3) = nI m) (hm : m < 8) :
    mOk (sa (sa (sg u 0 (nI 0)) 1 (va_cpy (mHab0 (nI t)) (u.2 1) 0 (9 * (8 * t + m)) 9)) 0 (upd (u.2 0) (7 * t + 3) (nI (m + 1)))) T W z := by
  refine o.tab rfl rfl rfl rfl (fun t' ht' ot => ?_) rfl rfl
  obtain ⟨m', m1, m2, ⟨q, q1, q2⟩, ⟨g, g1, g2⟩, le, hh⟩ := ot
  have keep : ∀ j, j < 8 → ¬ 8 * t' + j = 8 * t + m → mOkH (u.2 1) (9 * (8 * t' + j)) T → mOkH (va_cpy (mHab0 (nI t)) (u.2 1) 0 (9 * (8 * t + m)) 9) (9 * (8 * t' + j)) T := fun j _ e oh => mOkH.cg (pk_cpy_out (by omega)) (pk_cpy_out (by omega)) (pk_cpy_out (by omega)) oh
  by_cases e : t' = t
  · subst e
    have : m' = m := (nI_eq (by omega) (by omega)).mp (m2.symm.trans em)
    subst this
    refine ⟨m' + 1, by omega, pk_us, ⟨q, q1, (pk_un (by omega)).trans q2⟩, ⟨g, g1, (pk_un (by omega)).trans g2⟩, by show upd _ (7 * t' + 3) _ (7 * t' + 2) ≤ upd _ (7 * t' + 3) _ (7 * t' + 1); rw [pk_un (by omega), pk_un (by omega)]; exact le, fun j hj => ?_⟩
    by_cases ej : j = m'
    · subst ej
      refine ⟨⟨1, by omega, ?_⟩, ⟨t', ht', ?_⟩, 1, by omega, by omega, ?_⟩
      · show va_cpy _ _ 0 (9 * (8 * t' + j)) 9 (9 * (8 * t' + j) + 4) = _
        rw [pk_cpy_in (by omega) (by omega), show 0 + (9 * (8 * t' + j) + 4 - 9 * (8 * t' + j)) = 4 by omega]
        rfl
      · show va_cpy _ _ 0 (9 * (8 * t' + j)) 9 (9 * (8 * t' + j) + 5) = _
        rw [pk_cpy_in (by omega) (by omega), show 0 + (9 * (8 * t' + j) + 5 - 9 * (8 * t' + j)) = 5 by omega]
        rfl
      · show va_cpy _ _ 0 (9 * (8 * t' + j)) 9 (9 * (8 * t' + j) + 6) = _
        rw [pk_cpy_in (by omega) (by omega), show 0 + (9 * (8 * t' + j) + 6 - 9 * (8 * t' + j)) = 6 by omega]
        rfl
    · exact keep j (by omega) (by omega) (hh j (by omega))
  · exact ⟨m', m1, (pk_un (by omega)).trans m2, ⟨q, q1, (pk_un (by omega)).trans q2⟩, ⟨g, g1, (pk_un (by omega)).trans g2⟩, by show upd _ (7 * t + 3) _ (7 * t' + 2) ≤ upd _ (7 * t + 3) _ (7 * t' + 1); rw [pk_un (by omega), pk_un (by omega)]; exact le, fun j hj => keep j (by omega) (by omega) (hh j hj)⟩
theorem mDrop_ok {u : MS} {T W z t m j : Nat} (o : mOk u T W z) (ht : t < T) (em : u.2 0 (7 * t + 3) = nI m) (hm : m ≤ 8) (hj : j < m) :
    mOk (sa (sa (sg u 0 (nI 0)) 1 (va_cpy (u.2 1) (u.2 1) (9 * (8 * t + (j + 1))) (9 * (8 * t + j)) (9 * (m - 1 - j)))) 0 (upd (u.2 0) (7 * t + 3) (nI (m - 1)))) T W z := by
  refine o.tab rfl rfl rfl rfl (fun t' ht' ot => ?_) rfl rfl
  obtain ⟨m', m1, m2, ⟨q, q1, q2⟩, ⟨g, g1, g2⟩, le, hh⟩ := ot
  by_cases e : t' = t
  · subst e
    have : m' = m := (nI_eq (by omega) (by omega)).mp (m2.symm.trans em)
    subst this
    refine ⟨m' - 1, by omega, pk_us, ⟨q, q1, (pk_un (by omega)).trans q2⟩, ⟨g, g1, (pk_un (by omega)).trans g2⟩, by show upd _ (7 * t' + 3) _ (7 * t' + 2) ≤ upd _ (7 * t' + 3) _ (7 * t' + 1); rw [pk_un (by omega), pk_un (by omega)]; exact le, fun i hi => ?_⟩
    by_cases ei : i < j
    · exact mOkH.cg (pk_cpy_out (by omega)) (pk_cpy_out (by omega)) (pk_cpy_out (by omega)) (hh i (by omega))
    · have mv : ∀ w, w < 9 → va_cpy (u.2 1) (u.2 1) (9 * (8 * t' + (j + 1))) (9 * (8 * t' + j)) (9 * (m' - 1 - j)) (9 * (8 * t' + i) + w) = u.2 1 (9 * (8 * t' + (i + 1)) + w) := fun w hw => by
        rw [pk_cpy_in (by omega) (by omega)]
        exact congrArg (u.2 1) (by omega)
      exact mOkH.cg (mv 4 (by omega)) (mv 5 (by omega)) (mv 6 (by omega)) (hh (i + 1) (by omega))
  · exact ⟨m', m1, (pk_un (by omega)).trans m2, ⟨q, q1, (pk_un (by omega)).trans q2⟩, ⟨g, g1, (pk_un (by omega)).trans g2⟩, by show upd _ (7 * t + 3) _ (7 * t' + 2) ≤ upd _ (7 * t + 3) _ (7 * t' + 1); rw [pk_un (by omega), pk_un (by omega)]; exact le, fun i hi => mOkH.cg (pk_cpy_out (by omega)) (pk_cpy_out (by omega)) (pk_cpy_out (by omega)) (hh i hi)⟩

