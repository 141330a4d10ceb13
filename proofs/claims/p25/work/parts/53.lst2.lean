/-- the elements with e come in at j; the elements without the one at j -/
def eIns (f : Nat → Nat) (j e : Nat) : Nat → Nat := fun k => if k < j then f k else if k = j then e else f (k - 1)
def eDel (f : Nat → Nat) (j : Nat) : Nat → Nat := fun k => if k < j then f k else f (k + 1)
section CLists2
variable {G : gG} {h h' : gH} {Λ : CL} {i j e A cap : Nat} {md md' : Int32} {g g' : Nat → Option Nat}
theorem cLst.ins (he : ∀ k, k < cLen Λ i → g k = some (cEl Λ i k)) (hl : gat h' (cLa Λ i) (.inr (2, [.int md', .ref A, .int (nI (cLen Λ i + 1))]))) (hA : gat h' A (.inl (gO G, cap, .inr (.inr (.inr (.inr g')))))) (hj : j ≤ cLen Λ i)
    (g1 : ∀ k, k < j → g' k = g k) (g2 : g' j = some e) (g3 : ∀ k, j ≤ k → k < cLen Λ i → g' (k + 1) = g k) (hn : cLen Λ i < cap) (hc : cap ≤ 450) (hb : cLen Λ i < 300) : cLst G h' (cUp Λ i A cap (cLen Λ i + 1) (eIns (cEl Λ i) j e)) i := by
  refine ⟨md', g', ?_, ?_, ?_, ?_, ?_, fun k hk => ?_⟩
  · show gat h' (cLa Λ i) (.inr (2, [.int md', .ref (cAa (cUp Λ i A cap (cLen Λ i + 1) (eIns (cEl Λ i) j e)) i), .int (nI (cLen (cUp Λ i A cap (cLen Λ i + 1) (eIns (cEl Λ i) j e)) i))]))
    rw [cUp_aa, cUp_len]
    exact hl
  · rw [cUp_aa, cUp_cap]
    exact Or.inr ⟨by omega, hA⟩
  · rw [cUp_len, cUp_cap]
    omega
  · rw [cUp_cap]
    exact hc
  · rw [cUp_len]
    omega
  · rw [cUp_len] at hk
    rw [cUp_el]
    unfold eIns
    by_cases c1 : k < j
    · rw [if_pos c1, g1 k c1]
      exact he k (by omega)
    · rw [if_neg c1]
      by_cases c2 : k = j
      · rw [if_pos c2, c2]
        exact g2
      · rw [if_neg c2]
        obtain ⟨k, rfl⟩ : ∃ q, k = q + 1 := ⟨k - 1, by omega⟩
        rw [g3 k (by omega) (by omega)]
        exact he k (by omega)
theorem cLst.del (he : ∀ k, k < cLen Λ i → g k = some (cEl Λ i k)) (hl : gat h' (cLa Λ i) (.inr (2, [.int md', .ref (cAa Λ i), .int (nI (cLen Λ i - 1))]))) (hA : gat h' (cAa Λ i) (.inl (gO G, cCap Λ i, .inr (.inr (.inr (.inr g')))))) (hj : j < cLen Λ i)
    (g1 : ∀ k, k < j → g' k = g k) (g3 : ∀ k, j ≤ k → k + 1 < cLen Λ i → g' k = g (k + 1)) (hn : cLen Λ i ≤ cCap Λ i) (hc : cCap Λ i ≤ 450) (hb : cLen Λ i ≤ 300) : cLst G h' (cUp Λ i (cAa Λ i) (cCap Λ i) (cLen Λ i - 1) (eDel (cEl Λ i) j)) i := by
  refine ⟨md', g', ?_, ?_, ?_, ?_, ?_, fun k hk => ?_⟩
  · show gat h' (cLa Λ i) (.inr (2, [.int md', .ref (cAa (cUp Λ i (cAa Λ i) (cCap Λ i) (cLen Λ i - 1) (eDel (cEl Λ i) j)) i), .int (nI (cLen (cUp Λ i (cAa Λ i) (cCap Λ i) (cLen Λ i - 1) (eDel (cEl Λ i) j)) i))]))
    rw [cUp_aa, cUp_len]
    exact hl
  · rw [cUp_aa, cUp_cap]
    exact Or.inr ⟨by omega, hA⟩
  · rw [cUp_len, cUp_cap]
    omega
  · rw [cUp_cap]
    exact hc
  · rw [cUp_len]
    omega
  · rw [cUp_len] at hk
    rw [cUp_el]
    unfold eDel
    by_cases c1 : k < j
    · rw [if_pos c1, g1 k c1]
      exact he k (by omega)
    · rw [if_neg c1, g3 k (by omega) (by omega)]
      exact he (k + 1) (by omega)
end CLists2
