def tgN : va_E → Nat
  | .inr (c, _) => c
  | .inl _ => 99
abbrev gStc (h h' : gH) (ci : Nat) : Prop := ∀ q e, gat h q e → tgN e ≠ ci → gat h' q e
theorem gSt.toc {h h' : gH} {a ci : Nat} {fs : List Value} (ha : gat h a (.inr (ci, fs))) (hK : gSt h h' a) : gStc h h' ci := fun q e hq hn => hK q e hq (fun z => by
  subst z
  rw [← gat_inj ha hq] at hn
  exact hn rfl)
theorem tgN_ne {a b : Nat} (h : Nat.beq a b = false) : a ≠ b := fun z => by
  subst z
  rw [Nat.beq_refl] at h
  cases h
theorem cFr.st {h0 h h' : gH} {a : Nat} {e : va_E} (hF : cFr h0 h) (ha : gat h a e) (hk : mKind e = false) (hK : gSt h h' a) : cFr h0 h' := fun q e9 hq hm => hK q e9 (hF q e9 hq hm) (fun z => by
  subst z
  rw [gat_inj (hF q e9 hq hm) ha, hk] at hm
  cases hm)
theorem cFr.sa {h0 h h' : gH} (hF : cFr h0 h) (hK : gSa h h') : cFr h0 h' := fun q e9 hq hm => hK q e9 (hF q e9 hq hm)
theorem cFr.rf {h : gH} : cFr h h := fun _ _ z _ => z
theorem cFr.trans {h0 h1 h2 : gH} (a : cFr h0 h1) (b : cFr h1 h2) : cFr h0 h2 := fun z ez hz hk => b z ez (a z ez hz hk) hk
theorem gRow.stc {G : gG} {h h' : gH} {ci A cap : Nat} {g : Nat → Option Nat} (hci : 99 ≠ ci) (hK : gStc h h' ci) (r : gRow G h A cap g) : gRow G h' A cap g := by
  rcases r with r | ⟨h0, hA⟩
  · exact Or.inl r
  · exact Or.inr ⟨h0, hK _ _ hA hci⟩
section CFrames
variable {G : gG} {h h' : gH} {c : Nat → Nat} {Λ : CL} {u : MS} {T W z ci : Nat}
theorem cMain.fr (hK : gStc h h' ci) (n : 9 ≠ ci) (o : cMain h c Λ u) : cMain h' c Λ u := hK _ _ o n
theorem cFix.fr (hK : gStc h h' ci) (n1 : 8 ≠ ci) (n2 : 5 ≠ ci) (n3 : 99 ≠ ci) (o : cFix G h c Λ) : cFix G h' c Λ := by
  obtain ⟨o1, ⟨st, o2⟩, f, w, o3⟩ := o
  exact ⟨hK _ _ o1 n1, ⟨st, hK _ _ o2 n3⟩, f, w, hK _ _ o3 n2⟩
theorem cSong.fr (hK : gStc h h' ci) (n : 6 ≠ ci) (o : cSong h c Λ u) : cSong h' c Λ u := hK _ _ o n
theorem cLst.fr {i : Nat} (hK : gStc h h' ci) (n1 : 2 ≠ ci) (n2 : 99 ≠ ci) (o : cLst G h Λ i) : cLst G h' Λ i := by
  obtain ⟨md, g, h1, h2, h3⟩ := o
  exact ⟨md, g, hK _ _ h1 n1, h2.stc n2 hK, h3⟩
theorem cTens.fr (hK : gStc h h' ci) (n : 7 ≠ ci) (o : cTens h Λ u T) : cTens h' Λ u T := fun t ht => hK _ _ (o t ht) n
theorem cHabs.fr (hK : gStc h h' ci) (n : 3 ≠ ci) (o : cHabs h Λ u T) : cHabs h' Λ u T := fun t j ht hj => hK _ _ (o t j ht hj) n
theorem cRngs.fr (hK : gStc h h' ci) (n : 5 ≠ ci) (o : cRngs h Λ u W) : cRngs h' Λ u W := fun k hk => hK _ _ (o k hk) n
theorem cSpar.fr (hK : gStc h h' ci) (n : 5 ≠ ci) (o : cSpar h Λ) : cSpar h' Λ := fun k hk => by
  obtain ⟨f, w, x⟩ := o k hk
  exact ⟨f, w, hK _ _ x n⟩
theorem cNots.fr (hK : gStc h h' ci) (n : 4 ≠ ci) (o : cNots h Λ u z) : cNots h' Λ u z := fun k hk => by
  obtain ⟨f, w, x, r⟩ := o k hk
  exact ⟨f, w, hK _ _ x n, r⟩
/-- what of the state the class's heap shows: the same heap stands for another state that shows the same -/
theorem cRep.cg {v : MS} (e1 : v.1 1 = u.1 1) (e2 : v.1 2 = u.1 2) (e8 : v.1 8 = u.1 8) (e9 : v.1 9 = u.1 9) (e10 : v.1 10 = u.1 10) (e11 : v.1 11 = u.1 11) (e12 : v.1 12 = u.1 12)
    (hA : ∀ t i, t < T → i < 6 → v.2 0 (7 * t + i) = u.2 0 (7 * t + i)) (hA6 : ∀ t, t < T → v.2 0 (7 * t + 6) = u.2 0 (7 * t + 6)) (hH : v.2 1 = u.2 1) (hR : ∀ k i, k < W → i < 14 → v.2 2 (14 * k + i) = u.2 2 (14 * k + i)) (hS : v.2 3 = u.2 3) (o : cRep G h c Λ u T W z) (hp : ∀ k, k < W → ∃ p, p ≤ 8 ∧ u.2 2 (14 * k + 4) = nI p) : cRep G h c Λ v T W z := by
  obtain ⟨o1, o2, o3, o4, ⟨l1, l2, l3, l4, l5, l6⟩, o6, o7, o8, o9, o10, o11⟩ := o
  refine ⟨?_, o2, ?_, o4, ⟨l1, l2, l3, l4, l5, fun t ht => (hA t 3 ht (by omega)).trans (l6 t ht)⟩, fun t ht => ?_, ?_, fun k hk => ?_, o9, ?_, o11⟩
  · unfold cMain
    rw [e1, e2, e8, e9, e11]
    exact o1
  · unfold cSong
    rw [e10, e12]
    exact o3
  · show gat h _ (.inr (7, [.int (nI t), .int (v.2 0 (7 * t + 0)), .int (v.2 0 (7 * t + 1)), .ref (cLa Λ (4 + t)), .int (v.2 0 (7 * t + 2)), .int (v.2 0 (7 * t + 4)), .int (v.2 0 (7 * t + 5)), .int (v.2 0 (7 * t + 6))]))
    rw [hA t 0 ht (by omega), hA t 1 ht (by omega), hA t 2 ht (by omega), hA t 4 ht (by omega), hA t 5 ht (by omega), hA6 t ht]
    exact o6 t ht
  · unfold cHabs
    rw [hH]
    exact o7
  · obtain ⟨p, hp8, ep⟩ := hp k hk
    have ew : ∀ q, q ≤ p → wWay (v.2 2) (14 * k + 5) q = wWay (u.2 2) (14 * k + 5) q := by
      intro q
      induction q with
      | zero =>
        intro _
        show (v.2 2 (14 * k + 5)).toInt64 = _
        rw [hR k 5 hk (by omega)]
        rfl
      | succ q ih =>
        intro hq
        show wWay (v.2 2) (14 * k + 5) q ||| (v.2 2 (14 * k + 5 + q + 1)).toInt64 <<< _ = _
        rw [ih (by omega), show 14 * k + 5 + q + 1 = 14 * k + (5 + q + 1) by omega, hR k (5 + q + 1) hk (by omega), show 14 * k + (5 + q + 1) = 14 * k + 5 + q + 1 by omega]
        rfl
    have e4 : v.2 2 (14 * k + 4) = u.2 2 (14 * k + 4) := hR k 4 hk (by omega)
    have eo : wOf (v.2 2) (14 * k + 5) (v.2 2 (14 * k + 4)) = wOf (u.2 2) (14 * k + 5) (u.2 2 (14 * k + 4)) := by
      unfold wOf
      rw [e4, ep, mCl (by omega)]
      exact ew p (Nat.le_refl _)
    rw [eo]
    show gat h _ (.inr (5, [.int (v.2 2 (14 * k + 0)), .int (v.2 2 (14 * k + 1)), .int (v.2 2 (14 * k + 2)), .int (v.2 2 (14 * k + 3)), .int (v.2 2 (14 * k + 4)), _]))
    rw [hR k 0 hk (by omega), hR k 1 hk (by omega), hR k 2 hk (by omega), hR k 3 hk (by omega), hR k 4 hk (by omega)]
    exact o8 k hk
  · unfold cNots
    rw [hS]
    exact o10
end CFrames
