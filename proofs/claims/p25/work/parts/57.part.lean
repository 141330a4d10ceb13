section CPart
variable {G : gG} {h h' : gH} {c : Nat → Nat} {Λ : CL} {u : MS} {T W z i A cap n : Nat} {f : Nat → Nat}
/-- what of the relation doesn't speak of the list i -/
theorem cRep.part (hC : cRep G h c Λ u T W z) (hi : i < 4 + T) (hf : gLf h h' (cLa Λ i) (cAa Λ i) (cLen Λ i) (cCap Λ i)) (hL : cLst G h' (cUp Λ i A cap n f) i) :
    cMain h' c (cUp Λ i A cap n f) u ∧ cFix G h' c (cUp Λ i A cap n f) ∧ cSong h' c (cUp Λ i A cap n f) u ∧ (∀ j, j < 4 + T → cLst G h' (cUp Λ i A cap n f) j) ∧
    (i ≠ 0 → cTens h' (cUp Λ i A cap n f) u T) ∧ ((∀ t, t < T → i ≠ 4 + t) → cHabs h' (cUp Λ i A cap n f) u T) ∧ (i ≠ 1 → cRngs h' (cUp Λ i A cap n f) u W) ∧ (i ≠ 2 → cSpar h' (cUp Λ i A cap n f)) ∧ (i ≠ 3 → cNots h' (cUp Λ i A cap n f) u z) := by
  have k := gLf.l2 (hC.2.2.2.1 i hi) hf
  obtain ⟨o1, o2, o3, o4, o5, o6, o7, o8, o9, o10, o11, o12, o13⟩ := hC
  refine ⟨o1.f2 k, o2.f2 k, o3.f2 k, fun j hj => ?_, fun e t ht => ?_, fun e t j ht hj => ?_, fun e w hw => ?_, fun e w hw => ?_, fun e w hw => ?_⟩
  · by_cases ei : j = i
    · subst ei
      exact hL
    · exact cLst.other o11 hi hj ei (o4 i hi) (o4 j hj) hf
  · rw [cUp_el_ne (Ne.symm e)]
    exact (o6.f2 k) t ht
  · have en : 4 + t ≠ i := fun z9 => e t ht z9.symm
    rw [cUp_len_ne en] at hj
    rw [cUp_el_ne en]
    exact (o7.f2 k) t j ht hj
  · rw [cUp_el_ne (Ne.symm e)]
    exact (o8.f2 k) w hw
  · rw [cUp_len_ne (Ne.symm e)] at hw
    rw [cUp_el_ne (Ne.symm e)]
    exact (o9.f2 k) w hw
  · rw [cUp_len_ne (Ne.symm e)] at hw
    rw [cUp_el_ne (Ne.symm e)]
    exact (o10.f2 k) w hw
/-- the elements of the lists behind one that is gone -/
theorem eDel_of {Λ : CL} {N i j : Nat} (hj : j < cLen Λ i) {a k : Nat} (hk : k < cLen (cUp Λ i A cap (cLen Λ i - 1) (eDel (cEl Λ i) j)) a) :
    ∃ l, l < cLen Λ a ∧ cEl (cUp Λ i A cap (cLen Λ i - 1) (eDel (cEl Λ i) j)) a k = cEl Λ a l ∧ (a ≠ i → l = k) ∧ (a = i → l = if k < j then k else k + 1) := by
  by_cases ea : a = i
  · subst ea
    rw [cUp_len] at hk
    rw [cUp_el]
    refine ⟨if k < j then k else k + 1, ?_, ?_, fun z9 => absurd rfl z9, fun _ => rfl⟩
    · split <;> omega
    · unfold eDel
      split <;> rfl
  · rw [cUp_len_ne ea] at hk
    rw [cUp_el_ne ea]
    exact ⟨k, hk, rfl, fun _ => rfl, fun z9 => absurd z9 ea⟩
theorem cInj.del {N i j : Nat} (hI : cInj Λ N) (hi : i < N) (hj : j < cLen Λ i) : cInj (cUp Λ i (cAa Λ i) (cCap Λ i) (cLen Λ i - 1) (eDel (cEl Λ i) j)) N := by
  have ea : ∀ a, cAa (cUp Λ i (cAa Λ i) (cCap Λ i) (cLen Λ i - 1) (eDel (cEl Λ i) j)) a = cAa Λ a := fun a => by
    by_cases e : a = i
    · subst e
      exact cUp_aa
    · exact cUp_aa_ne e
  have ec : ∀ a, cCap (cUp Λ i (cAa Λ i) (cCap Λ i) (cLen Λ i - 1) (eDel (cEl Λ i) j)) a = cCap Λ a := fun a => by
    by_cases e : a = i
    · subst e
      exact cUp_cap
    · exact cUp_cap_ne e
  refine ⟨hI.1, fun a b ha hb ca cb e9 => ?_, fun a b k l ha hb hk hl e9 => ?_⟩
  · rw [ea, ea] at e9
    rw [ec] at ca cb
    exact hI.2.1 a b ha hb ca cb e9
  · obtain ⟨k', k1, k2, k3, k4⟩ := eDel_of (N := N) hj hk
    obtain ⟨l', l1, l2, l3, l4⟩ := eDel_of (N := N) hj hl
    rw [k2, l2] at e9
    obtain ⟨e1, e2⟩ := hI.2.2 a b k' l' ha hb k1 l1 e9
    subst e1
    refine ⟨rfl, ?_⟩
    by_cases e : a = i
    · have h1 := k4 e
      have h2 := l4 e
      rw [h1, h2] at e2
      split at e2 <;> split at e2 <;> omega
    · rw [← k3 e, ← l3 e, e2]
/-- the one that is gone is nowhere else -/
theorem cInj.gone {N i j : Nat} (hI : cInj Λ N) (hi : i < N) (hj : j < cLen Λ i) : ∀ a k, a < N → k < cLen (cUp Λ i A cap (cLen Λ i - 1) (eDel (cEl Λ i) j)) a → cEl (cUp Λ i A cap (cLen Λ i - 1) (eDel (cEl Λ i) j)) a k ≠ cEl Λ i j := fun a k ha hk e9 => by
  obtain ⟨k', k1, k2, k3, k4⟩ := eDel_of (N := N) hj hk
  rw [k2] at e9
  obtain ⟨e1, e2⟩ := hI.2.2 a i k' j ha hi k1 hj e9
  have := k4 e1
  split at this <;> omega
/-- the elements of the lists with one more -/
theorem eIns_of {Λ : CL} {i j e : Nat} (hj : j ≤ cLen Λ i) {a k : Nat} (hk : k < cLen (cUp Λ i A cap (cLen Λ i + 1) (eIns (cEl Λ i) j e)) a) :
    (a = i ∧ k = j ∧ cEl (cUp Λ i A cap (cLen Λ i + 1) (eIns (cEl Λ i) j e)) a k = e) ∨ ∃ l, l < cLen Λ a ∧ cEl (cUp Λ i A cap (cLen Λ i + 1) (eIns (cEl Λ i) j e)) a k = cEl Λ a l := by
  by_cases ea : a = i
  · subst ea
    rw [cUp_len] at hk
    rw [cUp_el]
    unfold eIns
    by_cases c1 : k < j
    · rw [if_pos c1]
      exact Or.inr ⟨k, by omega, rfl⟩
    · rw [if_neg c1]
      by_cases c2 : k = j
      · rw [if_pos c2]
        exact Or.inl ⟨rfl, c2, rfl⟩
      · rw [if_neg c2]
        exact Or.inr ⟨k - 1, by omega, rfl⟩
  · rw [cUp_len_ne ea] at hk
    rw [cUp_el_ne ea]
    exact Or.inr ⟨k, hk, rfl⟩
/-- a list's row is no other list's -/
theorem cRep.rowNe (hC : cRep G h c Λ u T W z) (hi : i < 4 + T) (hx : (A = cAa Λ i ∧ cap = cCap Λ i) ∨ A ∉ h.1) : ∀ k, k < 4 + T → k ≠ i → cap ≠ 0 → cCap Λ k ≠ 0 → A ≠ cAa Λ k := fun k hk ne hc hck e9 => by
  rcases hx with ⟨e1, e2⟩ | hx
  · subst e1 e2
    exact ne (hC.2.2.2.2.2.2.2.2.2.2.1.2.1 k i hk hi hck hc e9.symm)
  · exact hx (e9 ▸ hC.aaMem hk hck)
theorem gCap_cost {m : Nat} (h : m ≤ 300) : 1 ≤ gCap m - m ∧ gCap m ≤ 7 * (gCap m - m) ∧ gCap m ≤ 450 ∧ m < gCap m := by
  unfold gCap
  split <;> omega
/-- what an element more makes of a list -/
theorem cRep.added {e j k s : Nat} {md : Int32} {g : Nat → Option Nat} {ov : Option Value} {r : gR} (hC : cRep G h c Λ u T W z) (hi : i < 4 + T) (hr : gRow G h (cAa Λ i) (cCap Λ i) g) (h1 : cLen Λ i ≤ cCap Λ i) (h2 : cCap Λ i ≤ 450) (he : ∀ j, j < cLen Λ i → g j = some (cEl Λ i j)) (hn : cLen Λ i < 300) (hj : j ≤ cLen Λ i)
    (hp : pAdd G h (cLa Λ i) (cAa Λ i) (cLen Λ i) (cCap Λ i) md g e j ov r h' k s) :
    r = .inl ov ∧ ∃ A cap, gLf h h' (cLa Λ i) (cAa Λ i) (cLen Λ i) (cCap Λ i) ∧ cLst G h' (cUp Λ i A cap (cLen Λ i + 1) (eIns (cEl Λ i) j e)) i ∧ (∀ k, k < 4 + T → k ≠ i → cap ≠ 0 → cCap Λ k ≠ 0 → A ≠ cAa Λ k) ∧ cCap Λ i ≤ cap ∧ k ≤ cap - cCap Λ i ∧ s ≤ 7 * (cap - cCap Λ i) ∧ k ≤ 1 ∧ s ≤ gCap (cLen Λ i) ∧ s ≤ 450 := by
  obtain ⟨A', cap', g', hr9, a1, a2, a3, a4, a5, a6, a7, a8, a9⟩ := hp
  have hcap : cap' ≤ 450 ∧ cCap Λ i ≤ cap' ∧ k ≤ cap' - cCap Λ i ∧ s ≤ 7 * (cap' - cCap Λ i) ∧ k ≤ 1 ∧ s ≤ gCap (cLen Λ i) ∧ s ≤ 450 := by
    rcases a9 with ⟨b1, b2, b3, b4, b5⟩ | ⟨b1, b2, b3, b4, b5⟩
    · omega
    · have := gCap_cost (m := cLen Λ i) (by omega)
      rw [← b1] at b3
      omega
  refine ⟨hr9, A', cap', fun q e9 hq hw => a6 q e9 hq ⟨hw.1, fun z9 => by have := hw.2 z9; omega⟩, cLst.ins he a1 a2 hj a3 a4 a5 a7 hcap.1 hn, hC.rowNe hi ?_, hcap.2⟩
  rcases a9 with ⟨b1, b2, b3, b4, b5⟩ | ⟨b1, b2, b3, b4, b5⟩
  · exact Or.inl ⟨b2, b3⟩
  · exact Or.inr b2
end CPart
