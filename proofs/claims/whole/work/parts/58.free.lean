section CFree
variable {G : gG} {h h' : gH} {c : Nat → Nat} {Λ : CL} {u : MS} {T W z : Nat}
/-- an object that is no list's is written -/
theorem cRep.free {q ci : Nat} {fs : List Value} (hC : cRep G h c Λ u T W z) (hq : gat h q (.inr (ci, fs))) (hci : ci = 3 ∨ ci = 4 ∨ ci = 5 ∨ ci = 7) (hK : gSt h h' q) (ne : ∀ k l, k < 4 + T → l < cLen Λ k → cEl Λ k l ≠ q) (n3 : c 3 ≠ q) : cRep G h' c Λ u T W z := by
  have k := gSt.toc hq hK
  obtain ⟨o1, ⟨f1, ⟨st, f2⟩, ff, fw, f3⟩, o3, o4, o5, o6, o7, o8, o9, o10, o11⟩ := hC
  have n : ∀ {a : Nat}, a ≠ 3 → a ≠ 4 → a ≠ 5 → a ≠ 7 → a ≠ ci := fun a3 a4 a5 a7 e => by
    rcases hci with c1 | c1 | c1 | c1 <;> rw [c1] at e
    · exact a3 e
    · exact a4 e
    · exact a5 e
    · exact a7 e
  have m9 : (9 : Nat) ≠ ci := n (by decide) (by decide) (by decide) (by decide)
  have m8 : (8 : Nat) ≠ ci := n (by decide) (by decide) (by decide) (by decide)
  have m6 : (6 : Nat) ≠ ci := n (by decide) (by decide) (by decide) (by decide)
  have m2 : (2 : Nat) ≠ ci := n (by decide) (by decide) (by decide) (by decide)
  have m99 : (99 : Nat) ≠ ci := n (by decide) (by decide) (by decide) (by decide)
  refine ⟨o1.fr k m9, ⟨k _ _ f1 m8, ⟨st, k _ _ f2 m99⟩, ff, fw, hK _ _ f3 n3⟩, o3.fr k m6, fun i hi => (o4 i hi).fr k m2 m99, o5, fun t ht => hK _ _ (o6 t ht) (ne 0 t (by omega) (by rw [o5.1]; exact ht)), fun t j ht hj => hK _ _ (o7 t j ht hj) (ne (4 + t) j (by omega) hj), fun w hw => hK _ _ (o8 w hw) (ne 1 w (by omega) (by rw [o5.2.1]; exact hw)), fun w hw => ?_, fun w hw => ?_, o11⟩
  · obtain ⟨f, x, y⟩ := o9 w hw
    exact ⟨f, x, hK _ _ y (ne 2 w (by omega) hw)⟩
  · obtain ⟨f, x, y, r⟩ := o10 w hw
    exact ⟨f, x, hK _ _ y (ne 3 w (by omega) hw), r⟩
/-- the visitor's ring is written -/
theorem cRep.vis {f : Nat → Int32} {w : Int64} (hC : cRep G h c Λ u T W z) (hK : gSt h h' (c 3)) (hm : gat h' (c 3) (.inr (5, rFS f w))) : cRep G h' c Λ u T W z := by
  obtain ⟨o1, ⟨f1, ⟨st, f2⟩, ff, fw, f3⟩, o3, o4, o5, o6, o7, o8, o9, o10, o11, o12, o13⟩ := hC
  have k := gSt.toc f3 hK
  have n : ∀ {a : Nat}, Nat.beq a 5 = false → a ≠ 5 := fun h => tgN_ne h
  refine ⟨o1.fr k (n rfl), ⟨k _ _ f1 (n rfl), ⟨st, k _ _ f2 (n rfl)⟩, f, w, hm⟩, o3.fr k (n rfl), fun i hi => (o4 i hi).fr k (n rfl) (n rfl), o5, o6.fr k (n rfl), o7.fr k (n rfl), fun w9 hw => hK _ _ (o8 w9 hw) (o12 w9 hw), fun w9 hw => ?_, o10.fr k (n rfl), o11, o12, o13⟩
  obtain ⟨f, x, y⟩ := o9 w9 hw
  exact ⟨f, x, hK _ _ y (o13 w9 hw)⟩
theorem cFr.lf {h0 : gH} {i : Nat} (hF : cFr h0 h) (o : cLst G h Λ i) (hf : gLf h h' (cLa Λ i) (cAa Λ i) (cLen Λ i) (cCap Λ i)) : cFr h0 h' := fun q e9 hq hm => by
  obtain ⟨md, g, h1, h2, h3, -⟩ := o
  have hq := hF q e9 hq hm
  refine hf q e9 hq ⟨fun z9 => ?_, fun z9 => ?_⟩
  · subst z9
    rw [← gat_inj h1 hq] at hm
    cases hm
  · subst z9
    rcases h2 with ⟨h0, -⟩ | ⟨-, hA⟩
    · omega
    · rw [← gat_inj hA hq] at hm
      cases hm
theorem gCap_675 {m : Nat} (h : m ≤ 450) : gCap m ≤ 675 := by
  unfold gCap
  split <;> omega
theorem kPo.mono {F : Nat} {s : MS × Int32} {E1 E2 : String} {ck sk ck' sk' : Nat} {r : gR} {k n : Nat} (hk : ck ≤ ck') (hs : sk ≤ sk') (p : kPo G h c F s E1 E2 ck sk r h' k n) : kPo G h c F s E1 E2 ck' sk' r h' k n := by
  obtain ⟨F', a1, a2, a3, a4, a5, a6⟩ := p
  exact ⟨F', a1, a2, a3, by omega, by omega, a6⟩
theorem cPhi_hab {t A cap n : Nat} {f : Nat → Nat} : cPhi (cUp Λ (4 + t) A cap n f) = cPhi Λ := by
  unfold cPhi
  rw [cUp_cap_ne (show 1 ≠ 4 + t by omega), cUp_cap_ne (show 2 ≠ 4 + t by omega), cUp_cap_ne (show 3 ≠ 4 + t by omega), cUp_len_ne (show 1 ≠ 4 + t by omega), cUp_len_ne (show 2 ≠ 4 + t by omega), cUp_len_ne (show 3 ≠ 4 + t by omega)]
/-- a habit has left the tenant t -/
theorem cRep.delHab {t j : Nat} {f : Nat → Int32} (hC : cRep G h c Λ u T W z) (m8 : ∀ t', t' < T → cLen Λ (4 + t') ≤ 8) (ht : t < T) (hj : j < cLen Λ (4 + t))
    (hf : gLf h h' (cLa Λ (4 + t)) (cAa Λ (4 + t)) (cLen Λ (4 + t)) (cCap Λ (4 + t)))
    (hL : cLst G h' (cUp Λ (4 + t) (cAa Λ (4 + t)) (cCap Λ (4 + t)) (cLen Λ (4 + t) - 1) (eDel (cEl Λ (4 + t)) j)) (4 + t))
    (f1 : ∀ k i, k < j → i < 9 → f (9 * (8 * t + k) + i) = u.2 1 (9 * (8 * t + k) + i)) (f2 : ∀ k i, j ≤ k → k + 1 < cLen Λ (4 + t) → i < 9 → f (9 * (8 * t + k) + i) = u.2 1 (9 * (8 * t + (k + 1)) + i)) (f3 : ∀ t' k i, t' ≠ t → k < 8 → i < 9 → f (9 * (8 * t' + k) + i) = u.2 1 (9 * (8 * t' + k) + i)) :
    cRep G h' c (cUp Λ (4 + t) (cAa Λ (4 + t)) (cCap Λ (4 + t)) (cLen Λ (4 + t) - 1) (eDel (cEl Λ (4 + t)) j)) (sa (sa u 1 f) 0 (upd (u.2 0) (7 * t + 3) (nI (cLen Λ (4 + t) - 1)))) T W z := by
  obtain ⟨p1, p2, p3, p4, p5, p6, p7, p8, p9⟩ := hC.part (by omega) hf hL
  have k := gLf.l2 (hC.2.2.2.1 (4 + t) (by omega)) hf
  obtain ⟨o1, o2, o3, o4, ⟨l1, l2, l3, l4, l5, l6⟩, o6, o7, o8, o9, o10, o11, o12, o13⟩ := hC
  have n0 : ∀ i, i < 4 → i ≠ 4 + t := fun i hi => by omega
  refine ⟨p1, p2, p3, p4, ⟨?_, ?_, ?_, ?_, ?_, fun t' ht' => ?_⟩, fun t' ht' => ?_, fun t' j' ht' hj' => ?_, p7 (by omega), p8 (by omega), p9 (by omega), o11.del (by omega) hj, fun w hw => ?_, fun w hw => ?_⟩
  · rw [cUp_len_ne (n0 0 (by omega))]
    exact l1
  · rw [cUp_len_ne (n0 1 (by omega))]
    exact l2
  · rw [cUp_len_ne (n0 3 (by omega))]
    exact l3
  · rw [cUp_len_ne (n0 3 (by omega))]
    exact l4
  · rw [cUp_len_ne (n0 1 (by omega)), cUp_len_ne (n0 2 (by omega))]
    exact l5
  · show upd (u.2 0) (7 * t + 3) _ (7 * t' + 3) = _
    by_cases et : t' = t
    · subst et
      rw [pk_us, cUp_len]
    · rw [pk_un (by omega), cUp_len_ne (by omega)]
      exact l6 t' ht'
  · have := p5 (by omega) t' ht'
    show gat h' _ (.inr (7, [.int (nI t'), .int (upd (u.2 0) (7 * t + 3) _ (7 * t' + 0)), .int (upd (u.2 0) (7 * t + 3) _ (7 * t' + 1)), .ref (cLa Λ (4 + t')), .int (upd (u.2 0) (7 * t + 3) _ (7 * t' + 2)), .int (upd (u.2 0) (7 * t + 3) _ (7 * t' + 4)), .int (upd (u.2 0) (7 * t + 3) _ (7 * t' + 5)), .int (upd (u.2 0) (7 * t + 3) _ (7 * t' + 6))]))
    rw [pk_un (by omega), pk_un (by omega), pk_un (by omega), pk_un (by omega), pk_un (by omega), pk_un (by omega)]
    exact this
  · have h8' := m8 t' ht'
    have h8 := m8 t ht
    have cg : ∀ a b, (∀ i, i < 9 → f (9 * a + i) = u.2 1 (9 * b + i)) → hFS (mRow f (9 * a)) = hFS (mRow (u.2 1) (9 * b)) := fun a b e => by
      show [Value.int (f (9 * a + 0)), .int (f (9 * a + 1)), .int (f (9 * a + 2)), .int (f (9 * a + 3)), .int (f (9 * a + 4)), .int (f (9 * a + 5)), .int (f (9 * a + 6)), .int (f (9 * a + 7)), .int (f (9 * a + 8))] = _
      rw [e 0 (by omega), e 1 (by omega), e 2 (by omega), e 3 (by omega), e 4 (by omega), e 5 (by omega), e 6 (by omega), e 7 (by omega), e 8 (by omega)]
    show gat h' _ (.inr (3, hFS (mRow f (9 * (8 * t' + j')))))
    by_cases et : t' = t
    · subst et
      rw [cUp_len] at hj'
      rw [cUp_el]
      unfold eDel
      by_cases c1 : j' < j
      · rw [if_pos c1, cg (8 * t' + j') (8 * t' + j') (fun i hi => f1 j' i c1 hi)]
        exact (o7.f2 k) t' j' ht' (by omega)
      · rw [if_neg c1, cg (8 * t' + j') (8 * t' + (j' + 1)) (fun i hi => f2 j' i (by omega) (by omega) hi)]
        exact (o7.f2 k) t' (j' + 1) ht' (by omega)
    · have en : 4 + t' ≠ 4 + t := by omega
      rw [cUp_len_ne en] at hj'
      rw [cUp_el_ne en, cg (8 * t' + j') (8 * t' + j') (fun i hi => f3 t' j' i et (by omega) hi)]
      exact (o7.f2 k) t' j' ht' hj'
  · rw [cUp_el_ne (n0 1 (by omega))]
    exact o12 w hw
  · rw [cUp_len_ne (n0 2 (by omega))] at hw
    rw [cUp_el_ne (n0 2 (by omega))]
    exact o13 w hw
end CFree
