section CFree
variable {G : gG} {h h' : gH} {c : Nat → Nat} {Λ : CL} {u : MS} {T W z : Nat}
/-- an object that is no list's is written -/
theorem cRep.free {q ci : Nat} {fs : List Value} (hC : cRep G h c Λ u T W z) (hq : gat h q (.inr (ci, fs))) (hci : ci = 3 ∨ ci = 4 ∨ ci = 5 ∨ ci = 7) (hK : gSt h h' q) (ne : ∀ k l, k < 4 + T → l < cLen Λ k → cEl Λ k l ≠ q) (n3 : c 3 ≠ q) : cRep G h' c Λ u T W z := by
  have k := gSt.toc hq hK
  obtain ⟨o1, ⟨f1, ⟨st, f2⟩, ff, fw, f3⟩, o3, o4, o5, o6, o7, o8, o9, o10, o11⟩ := hC
  have n : ∀ {a : Nat}, a ≠ 3 → a ≠ 4 → a ≠ 5 → a ≠ 7 → a ≠ ci := fun a3 a4 a5 a7 e => by
    rcases hci with c1 | c1 | c1 | c1 <;> rw [c1] at e
    · exact a3 e
    · exact a4 e
    · exact a5 e
    · exact a7 e
  have m9 : (9 : Nat) ≠ ci := n (by decide) (by decide) (by decide) (by decide)
  have m8 : (8 : Nat) ≠ ci := n (by decide) (by decide) (by decide) (by decide)
  have m6 : (6 : Nat) ≠ ci := n (by decide) (by decide) (by decide) (by decide)
  have m2 : (2 : Nat) ≠ ci := n (by decide) (by decide) (by decide) (by decide)
  have m99 : (99 : Nat) ≠ ci := n (by decide) (by decide) (by decide) (by decide)
  refine ⟨o1.fr k m9, ⟨k _ _ f1 m8, ⟨st, k _ _ f2 m99⟩, ff, fw, hK _ _ f3 n3⟩, o3.fr k m6, fun i hi => (o4 i hi).fr k m2 m99, o5, fun t ht => hK _ _ (o6 t ht) (ne 0 t (by omega) (by rw [o5.1]; exact ht)), fun t j ht hj => hK _ _ (o7 t j ht hj) (ne (4 + t) j (by omega) hj), fun w hw => hK _ _ (o8 w hw) (ne 1 w (by omega) (by rw [o5.2.1]; exact hw)), fun w hw => ?_, fun w hw => ?_, o11⟩
  · obtain ⟨f, x, y⟩ := o9 w hw
    exact ⟨f, x, hK _ _ y (ne 2 w (by omega) hw)⟩
  · obtain ⟨f, x, y, r⟩ := o10 w hw
    exact ⟨f, x, hK _ _ y (ne 3 w (by omega) hw), r⟩
/-- the visitor's ring is written -/
theorem cRep.vis {f : Nat → Int32} {w : Int64} (hC : cRep G h c Λ u T W z) (hK : gSt h h' (c 3)) (hm : gat h' (c 3) (.inr (5, rFS f w))) : cRep G h' c Λ u T W z := by
  obtain ⟨o1, ⟨f1, ⟨st, f2⟩, ff, fw, f3⟩, o3, o4, o5, o6, o7, o8, o9, o10, o11, o12, o13⟩ := hC
  have k := gSt.toc f3 hK
  have n : ∀ {a : Nat}, Nat.beq a 5 = false → a ≠ 5 := fun h => tgN_ne h
  refine ⟨o1.fr k (n rfl), ⟨k _ _ f1 (n rfl), ⟨st, k _ _ f2 (n rfl)⟩, f, w, hm⟩, o3.fr k (n rfl), fun i hi => (o4 i hi).fr k (n rfl) (n rfl), o5, o6.fr k (n rfl), o7.fr k (n rfl), fun w9 hw => hK _ _ (o8 w9 hw) (o12 w9 hw), fun w9 hw => ?_, o10.fr k (n rfl), o11, o12, o13⟩
  obtain ⟨f, x, y⟩ := o9 w9 hw
  exact ⟨f, x, hK _ _ y (o13 w9 hw)⟩
theorem cFr.lf {h0 : gH} {i : Nat} (hF : cFr h0 h) (o : cLst G h Λ i) (hf : gLf h h' (cLa Λ i) (cAa Λ i) (cLen Λ i) (cCap Λ i)) : cFr h0 h' := fun q e9 hq hm => by
  obtain ⟨md, g, h1, h2, h3, -⟩ := o
  have hq := hF q e9 hq hm
  refine hf q e9 hq ⟨fun z9 => ?_, fun z9 => ?_⟩
  · subst z9
    rw [← gat_inj h1 hq] at hm
    cases hm
  · subst z9
    rcases h2 with ⟨h0, -⟩ | ⟨-, hA⟩
    · omega
    · rw [← gat_inj hA hq] at hm
      cases hm
theorem gCap_675 {m : Nat} (h : m ≤ 450) : gCap m ≤ 675 := by
  unfold gCap
  split <;> omega
theorem kPo.mono {F : Nat} {s : MS × Int32} {E1 E2 : String} {ck sk ck' sk' : Nat} {r : gR} {k n : Nat} (hk : ck ≤ ck') (hs : sk ≤ sk') (p : kPo G h c F s E1 E2 ck sk r h' k n) : kPo G h c F s E1 E2 ck' sk' r h' k n := by
  obtain ⟨F', a1, a2, a3, a4, a5, a6⟩ := p
  exact ⟨F', a1, a2, a3, by omega, by omega, a6⟩
theorem cPhi_hab {t A cap n : Nat} {f : Nat → Nat} : cPhi (cUp Λ (4 + t) A cap n f) = cPhi Λ := by
  unfold cPhi
  rw [cUp_cap_ne (show 1 ≠ 4 + t by omega), cUp_cap_ne (show 2 ≠ 4 + t by omega), cUp_cap_ne (show 3 ≠ 4 + t by omega), cUp_len_ne (show 1 ≠ 4 + t by omega), cUp_len_ne (show 2 ≠ 4 + t by omega), cUp_len_ne (show 3 ≠ 4 + t by omega)]
end CFree
