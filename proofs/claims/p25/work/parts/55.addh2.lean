section CAddH2
variable {G : gG} {h h' : gH} {c : Nat → Nat} {Λ : CL} {u : MS} {T W z t e A cap : Nat} {f : Nat → Int32}
/-- a habit has come to the tenant t -/
theorem cRep.addHab (hC : cRep G h c Λ u T W z) (m8 : ∀ t', t' < T → cLen Λ (4 + t') ≤ 8) (ht : t < T) (hm : cLen Λ (4 + t) < 8)
    (hf : gLf h h' (cLa Λ (4 + t)) (cAa Λ (4 + t)) (cLen Λ (4 + t)) (cCap Λ (4 + t)))
    (hL : cLst G h' (cUp Λ (4 + t) A cap (cLen Λ (4 + t) + 1) (eIns (cEl Λ (4 + t)) (cLen Λ (4 + t)) e)) (4 + t))
    (hA : ∀ k, k < 4 + T → k ≠ 4 + t → cap ≠ 0 → cCap Λ k ≠ 0 → A ≠ cAa Λ k) (he : ∀ k l, k < 4 + T → l < cLen Λ k → cEl Λ k l ≠ e)
    (hh : gat h' e (.inr (3, hFS (mRow f (9 * (8 * t + cLen Λ (4 + t))))))) (ff : ∀ a i, a ≠ 8 * t + cLen Λ (4 + t) → i < 9 → f (9 * a + i) = u.2 1 (9 * a + i)) :
    cRep G h' c (cUp Λ (4 + t) A cap (cLen Λ (4 + t) + 1) (eIns (cEl Λ (4 + t)) (cLen Λ (4 + t)) e)) (sa (sa u 1 f) 0 (upd (u.2 0) (7 * t + 3) (nI (cLen Λ (4 + t) + 1)))) T W z := by
  have oi := hC.2.2.2.1 (4 + t) (by omega)
  have k := gLf.l2 oi hf
  obtain ⟨o1, o2, o3, o4, ⟨l1, l2, l3, l4, l5, l6⟩, o6, o7, o8, o9, o10, o11, o12, o13⟩ := hC
  have n0 : ∀ i, i < 4 → i ≠ 4 + t := fun i hi => by omega
  refine ⟨o1.f2 k, o2.f2 k, o3.f2 k, fun i hi => ?_, ⟨?_, ?_, ?_, ?_, ?_, fun t' ht' => ?_⟩, fun t' ht' => ?_, fun t' j' ht' hj' => ?_, fun w hw => ?_, fun w hw => ?_, fun w hw => ?_, cInj.ins o11 (by omega) (Nat.le_refl _) hA he, fun w hw => ?_, fun w hw => ?_⟩
  · by_cases ei : i = 4 + t
    · subst ei
      exact hL
    · exact cLst.other o11 (by omega) hi ei oi (o4 i hi) hf
  · rw [cUp_len_ne (n0 0 (by omega))]
    exact l1
  · rw [cUp_len_ne (n0 1 (by omega))]
    exact l2
  · rw [cUp_len_ne (n0 3 (by omega))]
    exact l3
  · rw [cUp_len_ne (n0 3 (by omega))]
    exact l4
  · rw [cUp_len_ne (n0 1 (by omega)), cUp_len_ne (n0 2 (by omega))]
    exact l5
  · show upd (u.2 0) (7 * t + 3) _ (7 * t' + 3) = _
    by_cases et : t' = t
    · subst et
      rw [pk_us, cUp_len]
    · rw [pk_un (by omega), cUp_len_ne (by omega)]
      exact l6 t' ht'
  · have := k _ _ (o6 t' ht') (tgN_ne rfl) (tgN_ne rfl)
    rw [cUp_el_ne (n0 0 (by omega))]
    show gat h' _ (.inr (7, [.int (nI t'), .int (upd (u.2 0) (7 * t + 3) _ (7 * t' + 0)), .int (upd (u.2 0) (7 * t + 3) _ (7 * t' + 1)), .ref (cLa Λ (4 + t')), .int (upd (u.2 0) (7 * t + 3) _ (7 * t' + 2)), .int (upd (u.2 0) (7 * t + 3) _ (7 * t' + 4)), .int (upd (u.2 0) (7 * t + 3) _ (7 * t' + 5)), .int (upd (u.2 0) (7 * t + 3) _ (7 * t' + 6))]))
    rw [pk_un (by omega), pk_un (by omega), pk_un (by omega), pk_un (by omega), pk_un (by omega), pk_un (by omega)]
    exact this
  · have h8' := m8 t' ht'
    have old : j' < cLen Λ (4 + t') → ¬ (8 * t' + j' = 8 * t + cLen Λ (4 + t)) → gat h' (cEl Λ (4 + t') j') (.inr (3, hFS (mRow f (9 * (8 * t' + j'))))) := fun hj9 hq => by
      have := k _ _ (o7 t' j' ht' hj9) (tgN_ne rfl) (tgN_ne rfl)
      show gat h' _ (.inr (3, [.int (f (9 * (8 * t' + j') + 0)), .int (f (9 * (8 * t' + j') + 1)), .int (f (9 * (8 * t' + j') + 2)), .int (f (9 * (8 * t' + j') + 3)), .int (f (9 * (8 * t' + j') + 4)), .int (f (9 * (8 * t' + j') + 5)), .int (f (9 * (8 * t' + j') + 6)), .int (f (9 * (8 * t' + j') + 7)), .int (f (9 * (8 * t' + j') + 8))]))
      rw [ff _ 0 hq (by omega), ff _ 1 hq (by omega), ff _ 2 hq (by omega), ff _ 3 hq (by omega), ff _ 4 hq (by omega), ff _ 5 hq (by omega), ff _ 6 hq (by omega), ff _ 7 hq (by omega), ff _ 8 hq (by omega)]
      exact this
    show gat h' (cEl (cUp Λ (4 + t) A cap (cLen Λ (4 + t) + 1) (eIns (cEl Λ (4 + t)) (cLen Λ (4 + t)) e)) (4 + t') j') (.inr (3, hFS (mRow f (9 * (8 * t' + j')))))
    by_cases et : t' = t
    · subst et
      rw [cUp_len] at hj'
      rw [cUp_el]
      unfold eIns
      by_cases c1 : j' < cLen Λ (4 + t')
      · rw [if_pos c1]
        exact old c1 (by omega)
      · rw [if_neg c1, if_pos (by omega), show j' = cLen Λ (4 + t') by omega]
        exact hh
    · have en : 4 + t' ≠ 4 + t := by omega
      rw [cUp_len_ne en] at hj'
      rw [cUp_el_ne en]
      exact old hj' (by omega)
  · rw [cUp_el_ne (n0 1 (by omega))]
    exact k _ _ (o8 w hw) (tgN_ne rfl) (tgN_ne rfl)
  · rw [cUp_len_ne (n0 2 (by omega))] at hw
    rw [cUp_el_ne (n0 2 (by omega))]
    exact (o9.f2 k) w hw
  · rw [cUp_len_ne (n0 3 (by omega))] at hw
    rw [cUp_el_ne (n0 3 (by omega))]
    exact (o10.f2 k) w hw
  · rw [cUp_el_ne (n0 1 (by omega))]
    exact o12 w hw
  · rw [cUp_len_ne (n0 2 (by omega))] at hw
    rw [cUp_el_ne (n0 2 (by omega))]
    exact o13 w hw
end CAddH2
