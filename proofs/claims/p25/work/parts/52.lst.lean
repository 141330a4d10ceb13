def tg2 : va_E → Nat
  | .inr (c, _) => c
  | .inl (_, _, .inl _) => 98
  | .inl (_, _, .inr _) => 99
/-- everything but lists and their rows stays -/
abbrev gL2 (h h' : gH) : Prop := ∀ q e, gat h q e → tg2 e ≠ 2 → tg2 e ≠ 99 → gat h' q e
/-- the list i has another row, another length, other elements -/
def cUp (Λ : CL) (i A cap n : Nat) (f : Nat → Nat) : CL := (cLa Λ, va_up (cAa Λ) i A, va_up (cCap Λ) i cap, va_up (cLen Λ) i n, va_up (cEl Λ) i f)
section CLists
variable {G : gG} {h h' : gH} {c : Nat → Nat} {Λ : CL} {u : MS} {T W z i A cap n : Nat} {f : Nat → Nat}
theorem cUp_len : cLen (cUp Λ i A cap n f) i = n := va_up_self _ _ _
theorem cUp_cap : cCap (cUp Λ i A cap n f) i = cap := va_up_self _ _ _
theorem cUp_aa : cAa (cUp Λ i A cap n f) i = A := va_up_self _ _ _
theorem cUp_el : cEl (cUp Λ i A cap n f) i = f := va_up_self _ _ _
theorem cUp_len_ne {j : Nat} (hj : j ≠ i) : cLen (cUp Λ i A cap n f) j = cLen Λ j := va_up_ne _ _ hj
theorem cUp_cap_ne {j : Nat} (hj : j ≠ i) : cCap (cUp Λ i A cap n f) j = cCap Λ j := va_up_ne _ _ hj
theorem cUp_aa_ne {j : Nat} (hj : j ≠ i) : cAa (cUp Λ i A cap n f) j = cAa Λ j := va_up_ne _ _ hj
theorem cUp_el_ne {j : Nat} (hj : j ≠ i) : cEl (cUp Λ i A cap n f) j = cEl Λ j := va_up_ne _ _ hj
/-- what stays where a list's own cells are written -/
abbrev gLf (h h' : gH) (l A _len cap : Nat) : Prop := ∀ q e, gat h q e → q ≠ l ∧ (q = A → cap = 0) → gat h' q e
theorem gLf.l2 (o : cLst G h Λ i) (hf : gLf h h' (cLa Λ i) (cAa Λ i) (cLen Λ i) (cCap Λ i)) : gL2 h h' := by
  obtain ⟨md, g, h1, h2, h3, -⟩ := o
  intro q e hq n2 n99
  refine hf q e hq ⟨fun z9 => ?_, fun z9 => ?_⟩
  · subst z9
    rw [← gat_inj h1 hq] at n2
    exact n2 rfl
  · subst z9
    rcases h2 with ⟨h0, -⟩ | ⟨-, hA⟩
    · omega
    · rw [← gat_inj hA hq] at n99
      exact absurd rfl n99
theorem cLst.other {N j : Nat} (hI : cInj Λ N) (hi : i < N) (hj : j < N) (ne : j ≠ i) (oi : cLst G h Λ i) (o : cLst G h Λ j) (hf : gLf h h' (cLa Λ i) (cAa Λ i) (cLen Λ i) (cCap Λ i)) : cLst G h' (cUp Λ i A cap n f) j := by
  obtain ⟨md, g, h1, h2, h3, h4, h5, h6⟩ := o
  obtain ⟨md', g', k1, k2, k3, -⟩ := oi
  have e1 : gat h' (cLa Λ j) (.inr (2, [.int md, .ref (cAa Λ j), .int (nI (cLen Λ j))])) := by
    refine hf _ _ h1 ⟨fun z9 => ne (hI.1 j i hj hi z9), fun z9 => ?_⟩
    rcases k2 with ⟨k0, -⟩ | ⟨-, kA⟩
    · omega
    · exact absurd z9 (gat_ne h1 kA rfl)
  have e2 : gRow G h' (cAa Λ j) (cCap Λ j) g := by
    rcases h2 with h0 | ⟨h0, hA⟩
    · exact Or.inl h0
    · refine Or.inr ⟨h0, hf _ _ hA ⟨gat_ne hA k1 rfl, fun z9 => ?_⟩⟩
      rcases k2 with ⟨k0, -⟩ | ⟨k0, kA⟩
      · omega
      · exact absurd (hI.2.1 j i hj hi (by omega) (by omega) z9) ne
  refine ⟨md, g, ?_, ?_, ?_, ?_, ?_, fun k hk => ?_⟩
  · show gat h' (cLa Λ j) (.inr (2, [.int md, .ref (cAa (cUp Λ i A cap n f) j), .int (nI (cLen (cUp Λ i A cap n f) j))]))
    rw [cUp_aa_ne ne, cUp_len_ne ne]
    exact e1
  · rw [cUp_aa_ne ne, cUp_cap_ne ne]
    exact e2
  · rw [cUp_len_ne ne, cUp_cap_ne ne]
    exact h3
  · rw [cUp_cap_ne ne]
    exact h4
  · rw [cUp_len_ne ne]
    exact h5
  · rw [cUp_len_ne ne] at hk
    rw [cUp_el_ne ne]
    exact h6 k hk
theorem cMain.f2 (hK : gL2 h h') (o : cMain h c Λ u) : cMain h' c Λ u := hK _ _ o (tgN_ne rfl) (tgN_ne rfl)
theorem cFix.f2 (hK : gL2 h h') (o : cFix G h c Λ) : cFix G h' c Λ := by
  obtain ⟨o1, ⟨st, o2⟩, f, w, o3⟩ := o
  exact ⟨hK _ _ o1 (tgN_ne rfl) (tgN_ne rfl), ⟨st, hK _ _ o2 (tgN_ne rfl) (tgN_ne rfl)⟩, f, w, hK _ _ o3 (tgN_ne rfl) (tgN_ne rfl)⟩
theorem cSong.f2 (hK : gL2 h h') (o : cSong h c Λ u) : cSong h' c Λ u := hK _ _ o (tgN_ne rfl) (tgN_ne rfl)
theorem cTens.f2 (hK : gL2 h h') (o : cTens h Λ u T) : cTens h' Λ u T := fun t ht => hK _ _ (o t ht) (tgN_ne rfl) (tgN_ne rfl)
theorem cHabs.f2 (hK : gL2 h h') (o : cHabs h Λ u T) : cHabs h' Λ u T := fun t j ht hj => hK _ _ (o t j ht hj) (tgN_ne rfl) (tgN_ne rfl)
theorem cRngs.f2 (hK : gL2 h h') (o : cRngs h Λ u W) : cRngs h' Λ u W := fun k hk => hK _ _ (o k hk) (tgN_ne rfl) (tgN_ne rfl)
theorem cSpar.f2 (hK : gL2 h h') (o : cSpar h Λ) : cSpar h' Λ := fun k hk => by
  obtain ⟨f, w, x⟩ := o k hk
  exact ⟨f, w, hK _ _ x (tgN_ne rfl) (tgN_ne rfl)⟩
theorem cNots.f2 (hK : gL2 h h') (o : cNots h Λ u z) : cNots h' Λ u z := fun k hk => by
  obtain ⟨f, w, x, r⟩ := o k hk
  exact ⟨f, w, hK _ _ x (tgN_ne rfl) (tgN_ne rfl), r⟩
end CLists
