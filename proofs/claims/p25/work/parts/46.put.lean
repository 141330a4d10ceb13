section CPuts
variable {G : gG} {h h' : gH} {c : Nat → Nat} {Λ : CL} {u v : MS} {T W z : Nat}
/-- the class's own numbers are written -/
theorem cRep.putMain (hC : cRep G h c Λ u T W z) (hK : gSt h h' (c 0)) (hm : cMain h' c Λ v) (e10 : v.1 10 = u.1 10) (e12 : v.1 12 = u.1 12) (e2 : v.2 = u.2) : cRep G h' c Λ v T W z := by
  have k := gSt.toc hC.1 hK
  obtain ⟨o1, o2, o3, o4, o5, o6, o7, o8, o9, o10, o11⟩ := hC
  have n : ∀ {a : Nat}, Nat.beq a 9 = false → a ≠ 9 := fun h => tgN_ne h
  have p3 := o3.fr k (n rfl)
  have p6 := o6.fr k (n rfl)
  have p7 := o7.fr k (n rfl)
  have p8 := o8.fr k (n rfl)
  have p10 := o10.fr k (n rfl)
  refine ⟨hm, o2.fr k (n rfl) (n rfl) (n rfl), ?_, fun i hi => (o4 i hi).fr k (n rfl) (n rfl), ?_, ?_, ?_, ?_, o9.fr k (n rfl), ?_, o11⟩
  · unfold cSong
    rw [e10, e12]
    exact p3
  · unfold cLens
    rw [e2]
    exact o5
  · unfold cTens
    rw [e2]
    exact p6
  · unfold cHabs
    rw [e2]
    exact p7
  · unfold cRngs
    rw [e2]
    exact p8
  · unfold cNots
    rw [e2]
    exact p10
/-- the songs' numbers are written -/
theorem cRep.putSong (hC : cRep G h c Λ u T W z) (hK : gSt h h' (c 2)) (hm : cSong h' c Λ v) (e1 : v.1 1 = u.1 1) (e2 : v.1 2 = u.1 2) (e8 : v.1 8 = u.1 8) (e9 : v.1 9 = u.1 9) (e11 : v.1 11 = u.1 11) (er : v.2 = u.2) : cRep G h' c Λ v T W z := by
  have k := gSt.toc hC.2.2.1 hK
  obtain ⟨o1, o2, o3, o4, o5, o6, o7, o8, o9, o10, o11⟩ := hC
  have n : ∀ {a : Nat}, Nat.beq a 6 = false → a ≠ 6 := fun h => tgN_ne h
  have p1 := o1.fr k (n rfl)
  have p6 := o6.fr k (n rfl)
  have p7 := o7.fr k (n rfl)
  have p8 := o8.fr k (n rfl)
  have p10 := o10.fr k (n rfl)
  refine ⟨?_, o2.fr k (n rfl) (n rfl) (n rfl), hm, fun i hi => (o4 i hi).fr k (n rfl) (n rfl), ?_, ?_, ?_, ?_, o9.fr k (n rfl), ?_, o11⟩
  · unfold cMain
    rw [e1, e2, e8, e9, e11]
    exact p1
  · unfold cLens
    rw [er]
    exact o5
  · unfold cTens
    rw [er]
    exact p6
  · unfold cHabs
    rw [er]
    exact p7
  · unfold cRngs
    rw [er]
    exact p8
  · unfold cNots
    rw [er]
    exact p10
/-- a number of the tenant t is written -/
theorem cRep.putTen {t : Nat} {f : Nat → Int32} (hC : cRep G h c Λ u T W z) (ht : t < T) (hK : gSt h h' (cEl Λ 0 t)) (hm : gat h' (cEl Λ 0 t) (.inr (7, tFS f t (cLa Λ (4 + t))))) (hf : ∀ t' i, t' ≠ t → i < 7 → f (7 * t' + i) = u.2 0 (7 * t' + i)) (h3 : f (7 * t + 3) = u.2 0 (7 * t + 3)) : cRep G h' c Λ (sa u 0 f) T W z := by
  have k := gSt.toc (hC.2.2.2.2.2.1 t ht) hK
  obtain ⟨o1, o2, o3, o4, o5, o6, o7, o8, o9, o10, o11⟩ := hC
  have n : ∀ {a : Nat}, Nat.beq a 7 = false → a ≠ 7 := fun h => tgN_ne h
  refine ⟨o1.fr k (n rfl), o2.fr k (n rfl) (n rfl) (n rfl), o3.fr k (n rfl), fun i hi => (o4 i hi).fr k (n rfl) (n rfl), ⟨o5.1, o5.2.1, o5.2.2.1, o5.2.2.2.1, o5.2.2.2.2.1, fun t' ht' => ?_⟩, fun t' ht' => ?_, o7.fr k (n rfl), o8.fr k (n rfl), o9.fr k (n rfl), o10.fr k (n rfl), o11⟩
  · show f (7 * t' + 3) = _
    by_cases e : t' = t
    · subst e
      rw [h3]
      exact o5.2.2.2.2.2 t' ht'
    · rw [hf t' 3 e (by omega)]
      exact o5.2.2.2.2.2 t' ht'
  · show gat h' _ (.inr (7, tFS f t' (cLa Λ (4 + t'))))
    by_cases e : t' = t
    · subst e
      exact hm
    · have hne : cEl Λ 0 t' ≠ cEl Λ 0 t := fun z9 => e (o11.1.2.2 0 0 t' t (by omega) (by omega) (by rw [o5.1]; exact ht') (by rw [o5.1]; exact ht) z9).2
      have := hK _ _ (o6 t' ht') hne
      show gat h' _ (.inr (7, [.int (nI t'), .int (f (7 * t' + 0)), .int (f (7 * t' + 1)), .ref (cLa Λ (4 + t')), .int (f (7 * t' + 2)), .int (f (7 * t' + 4)), .int (f (7 * t' + 5)), .int (f (7 * t' + 6))]))
      rw [hf t' 0 e (by omega), hf t' 1 e (by omega), hf t' 2 e (by omega), hf t' 4 e (by omega), hf t' 5 e (by omega), hf t' 6 e (by omega)]
      exact this
/-- a number of the habit j of the tenant t is written -/
theorem cRep.putHab {t j : Nat} {f : Nat → Int32} (hC : cRep G h c Λ u T W z) (m8 : ∀ t', t' < T → cLen Λ (4 + t') ≤ 8) (ht : t < T) (hj : j < cLen Λ (4 + t)) (hK : gSt h h' (cEl Λ (4 + t) j)) (hm : gat h' (cEl Λ (4 + t) j) (.inr (3, hFS (mRow f (9 * (8 * t + j)))))) (hf : ∀ a i, a ≠ 8 * t + j → i < 9 → f (9 * a + i) = u.2 1 (9 * a + i)) : cRep G h' c Λ (sa u 1 f) T W z := by
  have k := gSt.toc (hC.2.2.2.2.2.2.1 t j ht hj) hK
  obtain ⟨o1, o2, o3, o4, o5, o6, o7, o8, o9, o10, o11⟩ := hC
  have n : ∀ {a : Nat}, Nat.beq a 3 = false → a ≠ 3 := fun h => tgN_ne h
  refine ⟨o1.fr k (n rfl), o2.fr k (n rfl) (n rfl) (n rfl), o3.fr k (n rfl), fun i hi => (o4 i hi).fr k (n rfl) (n rfl), o5, o6.fr k (n rfl), fun t' j' ht' hj' => ?_, o8.fr k (n rfl), o9.fr k (n rfl), o10.fr k (n rfl), o11⟩
  show gat h' _ (.inr (3, hFS (mRow f (9 * (8 * t' + j')))))
  have h8 := m8 t ht
  have h8' := m8 t' ht'
  by_cases e : t' = t ∧ j' = j
  · obtain ⟨rfl, rfl⟩ := e
    exact hm
  · have hne : cEl Λ (4 + t') j' ≠ cEl Λ (4 + t) j := fun z9 => e (by
      obtain ⟨a1, a2⟩ := o11.1.2.2 (4 + t') (4 + t) j' j (by omega) (by omega) hj' hj z9
      exact ⟨by omega, a2⟩)
    have hq : 8 * t' + j' ≠ 8 * t + j := fun z9 => e ⟨by omega, by omega⟩
    have := hK _ _ (o7 t' j' ht' hj') hne
    show gat h' _ (.inr (3, [.int (f (9 * (8 * t' + j') + 0)), .int (f (9 * (8 * t' + j') + 1)), .int (f (9 * (8 * t' + j') + 2)), .int (f (9 * (8 * t' + j') + 3)), .int (f (9 * (8 * t' + j') + 4)), .int (f (9 * (8 * t' + j') + 5)), .int (f (9 * (8 * t' + j') + 6)), .int (f (9 * (8 * t' + j') + 7)), .int (f (9 * (8 * t' + j') + 8))]))
    rw [hf _ 0 hq (by omega), hf _ 1 hq (by omega), hf _ 2 hq (by omega), hf _ 3 hq (by omega), hf _ 4 hq (by omega), hf _ 5 hq (by omega), hf _ 6 hq (by omega), hf _ 7 hq (by omega), hf _ 8 hq (by omega)]
    exact this
end CPuts
