theorem cRep.zle {G : gG} {h : gH} {c : Nat → Nat} {Λ : CL} {u : MS} {T W z z2 : Nat} (hz : z2 ≤ z) (hC : cRep G h c Λ u T W z) : cRep G h c Λ u T W z2 := by
  obtain ⟨o1, o2, o3, o4, ⟨l1, l2, l3, l4⟩, o6, o7, o8, o9, o10, o11⟩ := hC
  exact ⟨o1, o2, o3, o4, ⟨l1, l2, by omega, l4⟩, o6, o7, o8, o9, fun n hn => by
    obtain ⟨f, w, h1, h2⟩ := o10 n hn
    exact ⟨f, w, h1, fun hl => h2 (by omega)⟩, o11⟩
theorem mEmpty_ok {u : MS} {T W z : Nat} (o : mOk u T W z) : mOk (mEmpty u).1 T W 0 := by
  obtain ⟨a1, a2, a3, a4, a5, a6, a7, a8, a9, a10⟩ := o
  exact ⟨a1, a2, a3, a4, rfl, by omega, a7, a8, a9, fun n hn => absurd hn (Nat.not_lt_zero n)⟩

