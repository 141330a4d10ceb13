section CMem
variable {G : gG} {h h' : gH} {c : Nat → Nat} {Λ : CL} {u : MS} {T W z : Nat}
theorem cRep.fresh (hC : cRep G h c Λ u T W z) (k : gSa h h') : cRep G h' c Λ u T W z := by
  obtain ⟨o1, ⟨f1, ⟨st, f2⟩, ff, fw, f3⟩, o3, o4, o5, o6, o7, o8, o9, o10, o11⟩ := hC
  refine ⟨k _ _ o1, ⟨k _ _ f1, ⟨st, k _ _ f2⟩, ff, fw, k _ _ f3⟩, k _ _ o3, fun i hi => ?_, o5, fun t ht => k _ _ (o6 t ht), fun t j ht hj => k _ _ (o7 t j ht hj), fun w hw => k _ _ (o8 w hw), fun w hw => ?_, fun w hw => ?_, o11⟩
  · obtain ⟨md, g, h1, h2, h3⟩ := o4 i hi
    exact ⟨md, g, k _ _ h1, gRow.sa k h2, h3⟩
  · obtain ⟨f, x, y⟩ := o9 w hw
    exact ⟨f, x, k _ _ y⟩
  · obtain ⟨f, x, y, r⟩ := o10 w hw
    exact ⟨f, x, k _ _ y, r⟩
/-- an element of a list is an object of the heap -/
theorem cRep.elObj (hC : cRep G h c Λ u T W z) {i l : Nat} (hi : i < 4 + T) (hl : l < cLen Λ i) : ∃ (ci : Nat) (r : vw_C) (vs : List Value), gat h (cEl Λ i l) (.inr (ci, vs)) ∧ vwCl[ci]? = some r ∧ Cond.castable r.1 "java/lang/Object" ∈ lw_tbl := by
  obtain ⟨o1, o2, o3, o4, ⟨l1, l2, l3, l4, l5, l6⟩, o6, o7, o8, o9, o10, o11⟩ := hC
  by_cases e0 : i = 0
  · subst e0
    exact ⟨7, _, _, o6 l (by omega), rfl, by decide +kernel⟩
  · by_cases e1 : i = 1
    · subst e1
      exact ⟨5, _, _, o8 l (by omega), rfl, by decide +kernel⟩
    · by_cases e2 : i = 2
      · subst e2
        obtain ⟨f, w, x⟩ := o9 l hl
        exact ⟨5, _, _, x, rfl, by decide +kernel⟩
      · by_cases e3 : i = 3
        · subst e3
          obtain ⟨f, w, x, -⟩ := o10 l hl
          exact ⟨4, _, _, x, rfl, by decide +kernel⟩
        · obtain ⟨t, rfl⟩ : ∃ t, i = 4 + t := ⟨i - 4, by omega⟩
          exact ⟨3, _, _, o7 t l (by omega) hl, rfl, by decide +kernel⟩
theorem cRep.elMem (hC : cRep G h c Λ u T W z) {i l : Nat} (hi : i < 4 + T) (hl : l < cLen Λ i) : cEl Λ i l ∈ h.1 := by
  obtain ⟨ci, r, vs, h1, -⟩ := hC.elObj hi hl
  exact h1.1
theorem cRep.aaMem (hC : cRep G h c Λ u T W z) {i : Nat} (hi : i < 4 + T) (hc : cCap Λ i ≠ 0) : cAa Λ i ∈ h.1 := by
  obtain ⟨md, g, h1, h2, -⟩ := hC.2.2.2.1 i hi
  rcases h2 with ⟨h0, -⟩ | ⟨-, hA⟩
  · exact absurd h0 hc
  · exact hA.1
/-- what a list's own methods ask of its elements -/
theorem cRep.hel (hC : cRep G h c Λ u T W z) {i : Nat} (hi : i < 4 + T) {g : Nat → Option Nat} (he : ∀ j, j < cLen Λ i → g j = some (cEl Λ i j)) : ∀ j, j < cLen Λ i → ∀ y, g j = some y → gOb h y := fun j hj y hy => by
  have := (he j hj).symm.trans hy
  cases this
  exact hC.elObj hi hj
end CMem
