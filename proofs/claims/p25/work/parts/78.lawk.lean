/-! the law: catching, and a contract that knows of exceptions that none is another -/
def gNx (U : State) : Prop := va_Nc "java/lang/IllegalStateException" "java/lang/IllegalArgumentException" U ∧ va_Nc "java/lang/IllegalStateException" "java/lang/IndexOutOfBoundsException" U ∧ va_Nc "java/lang/IllegalArgumentException" "java/lang/IndexOutOfBoundsException" U ∧ va_Nc "java/lang/IndexOutOfBoundsException" "java/lang/IllegalArgumentException" U
theorem gNx.moved {u U : State} (hvm : u.vm.Alike U.vm) (h : gNx u) : gNx U := ⟨h.1.moved hvm, h.2.1.moved hvm, h.2.2.1.moved hvm, h.2.2.2.moved hvm⟩
section GLaw
variable {X : gX} {R : Room} {cc : ByteArray} {Ts : List Cond} {own : String} {h : gH} {k n pc : Nat} {lc : List (Nat × Value)} {st : List Value}
/-- the script lies at b, behind the world -/
def gScr (X : gX) (b L : Nat) (xs : Nat → Int32) : Prop :=
  match X with
  | ((p, l, e, R, s, m, args, below, meth, c), (G, A, nL, Q)) => va_X b L xs s s.heap ∧ b < s.heap.size ∧ ¬ A b
theorem gI_sld (hB : gB X R cc Ts own) {b L : Nat} {xs : Nat → Int32} (hS9 : gScr X b L xs) (z : Nat) (hz : z < L) (hL : L ≤ 3584) (hd : decode cc pc = .ok (.iaload, 1))
    (kk : gW X h k n (pc + 1) lc (.int (xs z) :: st)) : gW X h k n pc lc (.int (nI z) :: .ref b :: st) := by
  obtain ⟨⟨p, l, e, R0, s, m, args, below, meth, c⟩, ⟨G, A, nL, Q⟩⟩ := X
  obtain ⟨⟨hx, hb, hml, hown, hts⟩, hK, hZ, hA, hlk, hlt, hR⟩ := hB
  obtain ⟨hX, hbl, hbA⟩ := hS9
  intro H locs ls hP hD hS hls
  have h9 := kk H locs ls hP hD hS hls
  refine va_sld hx hb hX hbl hbA hS (vp_in_nI hz (by omega)) hd ?_
  rw [nI_clamp (by omega)]
  exact h9
theorem gI_slen (hB : gB X R cc Ts own) {b L : Nat} {xs : Nat → Int32} (hS9 : gScr X b L xs) (hd : decode cc pc = .ok (.arraylength, 1))
    (kk : gW X h k n (pc + 1) lc (.int (nI L) :: st)) : gW X h k n pc lc (.ref b :: st) := by
  obtain ⟨⟨p, l, e, R0, s, m, args, below, meth, c⟩, ⟨G, A, nL, Q⟩⟩ := X
  obtain ⟨⟨hx, hb, hml, hown, hts⟩, hK, hZ, hA, hlk, hlt, hR⟩ := hB
  obtain ⟨hX, hbl, hbA⟩ := hS9
  intro H locs ls hP hD hS hls
  exact va_slen hx hb hX hbl hbA hS hd (kk H locs ls hP hD hS hls)
end GLaw
/-! the two worlds side by side -/
section CSide
variable {G : gG} {h h' : gH} {c : Nat → Nat} {Λ : CL} {u : MS} {T W z : Nat}
/-- the class's cells stay where what stays has the mark p -/
theorem cRep.keepBy (p : va_E → Bool) (p1 : ∀ ci fs, Nat.beq ci 10 = false → p (.inr (ci, fs)) = true) (p2 : ∀ c g, p (.inl (c, 12, .inl g)) = true) (p3 : ∀ c n g, p (.inl (c, n, .inr (.inr (.inr (.inr g))))) = true) (hK : ∀ q e, gat h q e → p e = true → gat h' q e) (hC : cRep G h c Λ u T W z) : cRep G h' c Λ u T W z := by
  obtain ⟨o1, ⟨f1, ⟨st, f2⟩, ff, fw, f3⟩, o3, o4, o5, o6, o7, o8, o9, o10, o11⟩ := hC
  refine ⟨hK _ _ o1 (p1 _ _ rfl), ⟨hK _ _ f1 (p1 _ _ rfl), ⟨st, hK _ _ f2 (p2 _ _)⟩, ff, fw, hK _ _ f3 (p1 _ _ rfl)⟩, hK _ _ o3 (p1 _ _ rfl), fun i hi => ?_, o5, fun t ht => hK _ _ (o6 t ht) (p1 _ _ rfl), fun t j ht hj => hK _ _ (o7 t j ht hj) (p1 _ _ rfl), fun w hw => hK _ _ (o8 w hw) (p1 _ _ rfl), fun w hw => ?_, fun w hw => ?_, o11⟩
  · obtain ⟨md, g, h1, h2, h3⟩ := o4 i hi
    refine ⟨md, g, hK _ _ h1 (p1 _ _ rfl), ?_, h3⟩
    rcases h2 with h2 | ⟨h0, hA⟩
    · exact Or.inl h2
    · exact Or.inr ⟨h0, hK _ _ hA (p3 _ _ _)⟩
  · obtain ⟨f, x, y⟩ := o9 w hw
    exact ⟨f, x, hK _ _ y (p1 _ _ rfl)⟩
  · obtain ⟨f, x, y, r⟩ := o10 w hw
    exact ⟨f, x, hK _ _ y (p1 _ _ rfl), r⟩
end CSide
