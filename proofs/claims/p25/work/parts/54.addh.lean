section CAddH
variable {G : gG} {h h' : gH} {c : Nat → Nat} {Λ : CL} {u : MS} {T W z : Nat}
/-- the numbers of lists, their rows and elements stay apart when one list gets another row and one more element -/
theorem cInj.ins {N i j e A cap : Nat} (hI : cInj Λ N) (hi : i < N) (hj : j ≤ cLen Λ i) (hA : ∀ k, k < N → k ≠ i → cap ≠ 0 → cCap Λ k ≠ 0 → A ≠ cAa Λ k) (he : ∀ k l, k < N → l < cLen Λ k → cEl Λ k l ≠ e) : cInj (cUp Λ i A cap (cLen Λ i + 1) (eIns (cEl Λ i) j e)) N := by
  obtain ⟨h1, h2, h3⟩ := hI
  refine ⟨h1, fun a b ha hb ca cb e9 => ?_, fun a b k l ha hb hk hl e9 => ?_⟩
  · by_cases ea : a = i
    · by_cases eb : b = i
      · rw [ea, eb]
      · subst ea
        rw [cUp_aa, cUp_aa_ne eb] at e9
        rw [cUp_cap] at ca
        rw [cUp_cap_ne eb] at cb
        exact absurd e9 (hA b hb eb ca cb)
    · by_cases eb : b = i
      · subst eb
        rw [cUp_aa, cUp_aa_ne ea] at e9
        rw [cUp_cap] at cb
        rw [cUp_cap_ne ea] at ca
        exact absurd e9.symm (hA a ha ea cb ca)
      · rw [cUp_aa_ne ea, cUp_aa_ne eb] at e9
        rw [cUp_cap_ne ea] at ca
        rw [cUp_cap_ne eb] at cb
        exact h2 a b ha hb ca cb e9
  · -- every element of the new lists is an old one, or e
    have key : ∀ a k, a < N → k < cLen (cUp Λ i A cap (cLen Λ i + 1) (eIns (cEl Λ i) j e)) a → (a = i ∧ k = j ∧ cEl (cUp Λ i A cap (cLen Λ i + 1) (eIns (cEl Λ i) j e)) a k = e) ∨
        (∃ k9, k9 < cLen Λ a ∧ cEl (cUp Λ i A cap (cLen Λ i + 1) (eIns (cEl Λ i) j e)) a k = cEl Λ a k9 ∧ (a ≠ i → k9 = k) ∧ (a = i → (k < j ∧ k9 = k) ∨ (j < k ∧ k9 = k - 1))) := by
      intro a k ha hk
      by_cases ea : a = i
      · subst ea
        rw [cUp_len] at hk
        rw [cUp_el]
        unfold eIns
        by_cases c1 : k < j
        · rw [if_pos c1]
          exact Or.inr ⟨k, by omega, rfl, fun _ => rfl, fun _ => Or.inl ⟨c1, rfl⟩⟩
        · rw [if_neg c1]
          by_cases c2 : k = j
          · rw [if_pos c2]
            exact Or.inl ⟨rfl, c2, rfl⟩
          · rw [if_neg c2]
            exact Or.inr ⟨k - 1, by omega, rfl, fun z9 => absurd rfl z9, fun _ => Or.inr ⟨by omega, rfl⟩⟩
      · rw [cUp_len_ne ea] at hk
        rw [cUp_el_ne ea]
        exact Or.inr ⟨k, hk, rfl, fun _ => rfl, fun z9 => absurd z9 ea⟩
    rcases key a k ha hk with ⟨a1, a2, a3⟩ | ⟨k9, a1, a2, a3, a4⟩
    · rcases key b l hb hl with ⟨b1, b2, b3⟩ | ⟨l9, b1, b2, b3, b4⟩
      · exact ⟨a1.trans b1.symm, a2.trans b2.symm⟩
      · exact absurd (b2.symm.trans (e9.symm.trans a3)) (he b l9 hb b1)
    · rcases key b l hb hl with ⟨b1, b2, b3⟩ | ⟨l9, b1, b2, b3, b4⟩
      · exact absurd (a2.symm.trans (e9.trans b3)) (he a k9 ha a1)
      · obtain ⟨q1, q2⟩ := h3 a b k9 l9 ha hb a1 b1 (a2.symm.trans (e9.trans b2))
        subst q1
        refine ⟨rfl, ?_⟩
        by_cases ea : a = i
        · rcases a4 ea with ⟨x1, x2⟩ | ⟨x1, x2⟩ <;> rcases b4 ea with ⟨y1, y2⟩ | ⟨y1, y2⟩ <;> omega
        · rw [← a3 ea, ← b3 ea]
          exact q2
end CAddH
