def cPhi (Λ : CL) : Nat := cCap Λ 1 + cCap Λ 2 + cCap Λ 3 + cLen Λ 1 + cLen Λ 2 + cLen Λ 3
/-- the class's heap stands for u; F is what its rows and rings have come to -/
def cW (G : gG) (h : gH) (c : Nat → Nat) (u : MS) (F : Nat) : Prop := ∃ (Λ : CL) (T W z : Nat), cRep G h c Λ u T W z ∧ mOk u T W z ∧ cPhi Λ = F
/-- what a call of the class leaves, where the reference's leaves s -/
def kPo (G : gG) (h : gH) (c : Nat → Nat) (F : Nat) (s : MS × Int32) (E1 E2 : String) (ck sk : Nat) : gPo := fun r h' k n => ∃ F', cW G h' c s.1 F' ∧ cFr h h' ∧ F ≤ F' ∧ k ≤ ck + (F' - F) ∧ n ≤ sk + 7 * (F' - F) ∧
  ((r = .inl (some (.int s.2)) ∧ s.1.1 0 = nI 0) ∨ (r = .inr E1 ∧ s.1.1 0 = nI 1) ∨ (r = .inr E2 ∧ s.1.1 0 = nI 2))
theorem mOk.ring4 {u : MS} {T W z : Nat} (o : mOk u T W z) : ∀ k, k < W → ∃ p, p ≤ 8 ∧ u.2 2 (14 * k + 4) = nI p := fun k hk => by
  obtain ⟨-, p, h1, h2, -⟩ := o.2.2.2.2.2.2.2.2.1 k hk
  exact ⟨p, h1, h2⟩
theorem cW.sg0 {G : gG} {h : gH} {c : Nat → Nat} {Λ : CL} {u : MS} {T W z : Nat} (hC : cRep G h c Λ u T W z) (o : mOk u T W z) (x : Int32) : cW G h c (sg u 0 x) (cPhi Λ) :=
  ⟨Λ, T, W, z, hC.cg rfl rfl rfl rfl rfl rfl rfl (fun _ _ _ _ => rfl) (fun _ _ => rfl) rfl (fun _ _ _ _ => rfl) rfl o.ring4, o.tab rfl rfl rfl rfl (fun _ _ ot => ot) rfl rfl, rfl⟩
theorem cW.err {G : gG} {h : gH} {c : Nat → Nat} {Λ : CL} {u : MS} {T W z : Nat} (hC : cRep G h c Λ u T W z) (o : mOk u T W z) (e : Int32) : cW G h c (mErr u e).1 (cPhi Λ) :=
  ⟨Λ, T, W, z, hC.cg rfl rfl rfl rfl rfl rfl rfl (fun _ _ _ _ => rfl) (fun _ _ => rfl) rfl (fun _ _ _ _ => rfl) rfl o.ring4, o.tab rfl rfl rfl rfl (fun _ _ ot => ot) rfl rfl, rfl⟩
theorem kPo.err1 {G : gG} {h : gH} {c : Nat → Nat} {Λ : CL} {u : MS} {T W z k n : Nat} {E1 E2 : String} (hC : cRep G h c Λ u T W z) (o : mOk u T W z) {s : MS × Int32} (e : s = mErr u (nI 1)) (hk : k ≤ 1) (hn : n ≤ 6) : kPo G h c (cPhi Λ) s E1 E2 1 6 (.inr E1) h k n := by
  subst e
  exact ⟨_, cW.err hC o _, cFr.rf, Nat.le_refl _, by omega, by omega, Or.inr (Or.inl ⟨rfl, rfl⟩)⟩
theorem kPo.err2 {G : gG} {h : gH} {c : Nat → Nat} {Λ : CL} {u : MS} {T W z k n : Nat} {E1 E2 : String} (hC : cRep G h c Λ u T W z) (o : mOk u T W z) {s : MS × Int32} (e : s = mErr u (nI 2)) (hk : k ≤ 1) (hn : n ≤ 6) : kPo G h c (cPhi Λ) s E1 E2 1 6 (.inr E2) h k n := by
  subst e
  exact ⟨_, cW.err hC o _, cFr.rf, Nat.le_refl _, by omega, by omega, Or.inr (Or.inr ⟨rfl, rfl⟩)⟩
theorem kPo.rd {G : gG} {h : gH} {c : Nat → Nat} {Λ : CL} {u : MS} {T W z k n : Nat} {E1 E2 : String} (hC : cRep G h c Λ u T W z) (o : mOk u T W z) {s : MS × Int32} {v : Int32} (e : s = (sg u 0 (nI 0), v)) (hk : k ≤ 1) (hn : n ≤ 6) : kPo G h c (cPhi Λ) s E1 E2 1 6 (.inl (some (.int v))) h k n := by
  subst e
  exact ⟨_, cW.sg0 hC o _, cFr.rf, Nat.le_refl _, by omega, by omega, Or.inl ⟨rfl, rfl⟩⟩

set_option maxRecDepth 100000 in
set_option maxHeartbeats 4000000 in
theorem p_tenant (G : gG) (h : gH) (c : Nat → Nat) (Λ : CL) (u : MS) (T W z : Nat) (hC : cRep G h c Λ u T W z) (o : mOk u T W z) (p q : Int32) : gMet yX6_tenant wsX6_tenant (gRm 5 1 6) G h [.ref (c 0), .int p, .int q] (kPo G h c (cPhi Λ) (mTenant u p q) "java/lang/IndexOutOfBoundsException" "java/lang/IndexOutOfBoundsException" 1 6) := by
  refine gMet_of (maxL := 4) (ret := (some .int)) (by decide) rfl (Nat.le_of_ble_eq_true rfl) ?_
  intro X hG hnL hB hE
  subst hG
  change gW X h 0 0 0 [(0, .ref (c 0)), (1, .int p), (2, .int q)] []
  have hT := o.2.1
  have hW60 := o.2.2.2.1
  have hz200 := o.2.2.2.2.2.1
  have ez := o.2.2.2.2.1
  have eW := o.2.2.1
  have eT := o.1
  obtain ⟨md0, g0, hl0, -⟩ := hC.2.2.2.1 0 (by omega)
  by_cases hp9 : mTen u p
  · skip
    obtain ⟨t, ht, et⟩ := mTen_of o.W hp9
    subst et
    obtain ⟨mdt, gt, hlt, -⟩ := hC.2.2.2.1 (4 + t) (by omega)
    obtain ⟨hm8, emm⟩ := hC.many o ht
    refine gI_aload_n hB 0 dX6_tenant_0 rfl ?_
    refine gI_iload_n hB 1 dX6_tenant_1 rfl ?_
    refine gI_pureV (n9 := 1) (As := [.int (nI t)]) (rest := []) hB (k_tenantAt X.2.1 h c Λ u T W z hC o t ht) (gCW.of ggX6_tenant_X6_tenantAt rfl ⟨by decide, by decide, by decide +kernel⟩ ⟨Nat.le_of_ble_eq_true rfl, Nat.le_of_ble_eq_true rfl⟩) (by decide +kernel) (by decide +kernel) (by decide +kernel) (by decide +kernel) hC.1 (C := RX6) (T := TX6) (N := 9) rfl rfl rfl (Nat.le_of_ble_eq_true rfl) (by first | exact Nat.le_of_ble_eq_true rfl | (dsimp only [gRm]; omega)) (by first | exact Nat.le_of_ble_eq_true rfl | (dsimp only [gRm]; omega)) dX6_tenant_2 ?_
    refine gI_astore_n hB ([(3, .ref (cEl Λ 0 t)), (0, .ref (c 0)), (1, .int (nI t)), (2, .int q)]) hnL dX6_tenant_5 (by decide) rfl ?_
    refine gI_iload_n hB 3 dX6_tenant_6 rfl ?_
    refine gI_iconst (v := nI 0) hB dX6_tenant_7 (by decide) ?_
    refine gI_iconst (v := nI 5) hB dX6_tenant_8 (by decide) ?_
    refine gI_pureS (n9 := 3) (As := [.int q, .int (nI 0), .int (nI 5)]) (rest := []) hB (k_isOutside X.2.1 h q (nI 0) (nI 5)) (gCW.of ggX6_tenant_X6_isOutside rfl ⟨by decide, by decide, by decide +kernel⟩ ⟨Nat.le_of_ble_eq_true rfl, Nat.le_of_ble_eq_true rfl⟩) (Or.inl (by decide +kernel)) (by decide +kernel) (by decide +kernel) rfl rfl (Nat.le_of_ble_eq_true rfl) (by first | exact Nat.le_of_ble_eq_true rfl | (dsimp only [gRm]; omega)) (by first | exact Nat.le_of_ble_eq_true rfl | (dsimp only [gRm]; omega)) dX6_tenant_9 ?_
    refine gI_if_eq hB 23 dX6_tenant_12 (by decide) (fun c12_1 => ?_) (fun c12_1 => ?_)
    · skip
      have c12_1 := gbi_0.mp c12_1
      have hl9 := c12_1
      have hl9 := Decidable.not_not.mp hl9
      obtain ⟨i, hi, ei⟩ := mIn_lit (by omega) hl9
      subst ei
      refine gI_aload_n hB 0 dX6_tenant_23 rfl ?_
      refine gI_iload_n hB 3 dX6_tenant_24 rfl ?_
      refine gI_pureV (n9 := 1) (As := [.int (nI i)]) (rest := []) hB (k_tpart X.2.1 h c Λ u T W z hC o t ht i (by omega)) (gCW.of ggX6_tenant_X4_part rfl ⟨by decide, by decide, by decide +kernel⟩ ⟨Nat.le_of_ble_eq_true rfl, Nat.le_of_ble_eq_true rfl⟩) (by decide +kernel) (by decide +kernel) (by decide +kernel) (by decide +kernel) (hC.2.2.2.2.2.1 t ht) (C := RX4) (T := TX4) (N := 8) rfl rfl rfl (Nat.le_of_ble_eq_true rfl) (by first | exact Nat.le_of_ble_eq_true rfl | (dsimp only [gRm]; omega)) (by first | exact Nat.le_of_ble_eq_true rfl | (dsimp only [gRm]; omega)) dX6_tenant_25 ?_
      refine gI_iret hB hE dX6_tenant_28 ?_
      exact kPo.rd hC o (by unfold mTenant; rw [if_pos ⟨hp9, hl9⟩, mCl (by omega), mCl (by omega)]) (by omega) (by omega)
    · skip
      have c12_1 := gbi_n0 c12_1
      refine gI_throw hB hE (cls := "java/lang/IndexOutOfBoundsException") (names := ["java/lang/RuntimeException", "java/lang/Exception"]) (ik := 92) (ic := 94) (by decide +kernel) (by decide +kernel) (by decide +kernel) (by decide +kernel) (by decide +kernel) (by decide +kernel) (by decide +kernel) dX6_tenant_15 dX6_tenant_18 dX6_tenant_19 dX6_tenant_22 (Nat.le_of_ble_eq_true rfl) (Nat.le_of_ble_eq_true rfl) (by first | exact Nat.le_of_ble_eq_true rfl | (dsimp only [gRm]; omega)) (by first | exact Nat.le_of_ble_eq_true rfl | (dsimp only [gRm]; omega)) ?_
      exact kPo.err1 hC o (by unfold mTenant; rw [if_neg (fun z9 => c12_1 z9.2)]) (by omega) (by omega)
  · skip
    refine gI_aload_n hB 0 dX6_tenant_0 rfl ?_
    refine gI_iload_n hB 1 dX6_tenant_1 rfl ?_
    refine gI_callV (n9 := 1) (As := [.int p]) (rest := []) hB (k_tenantAtNo X.2.1 h c Λ u T W z hC o p (by unfold mTen at hp9; rw [eT] at hp9; exact hp9)) (gCW.of ggX6_tenant_X6_tenantAt rfl ⟨by decide, by decide, by decide +kernel⟩ ⟨Nat.le_of_ble_eq_true rfl, Nat.le_of_ble_eq_true rfl⟩) (by decide +kernel) (by decide +kernel) (by decide +kernel) (by decide +kernel) hC.1 (C := RX6) (T := TX6) (N := 9) rfl rfl rfl (Nat.le_of_ble_eq_true rfl) (by first | exact Nat.le_of_ble_eq_true rfl | (dsimp only [gRm]; omega)) (by first | exact Nat.le_of_ble_eq_true rfl | (dsimp only [gRm]; omega)) dX6_tenant_2 (fun v9 h9 k9 n9 hp => by cases hp.1) (fun E9 h9 k9 n9 hp => ?_)
    obtain ⟨e9, rfl, rfl, rfl⟩ := hp
    cases e9
    exact gI_out hB hE (kPo.err1 hC o (by unfold mTenant; rw [if_neg (fun z9 => hp9 z9.1)]) (by omega) (by omega))

set_option maxRecDepth 100000 in
set_option maxHeartbeats 4000000 in
theorem p_habit (G : gG) (h : gH) (c : Nat → Nat) (Λ : CL) (u : MS) (T W z : Nat) (hC : cRep G h c Λ u T W z) (o : mOk u T W z) (p q x : Int32) : gMet yX6_habit wsX6_habit (gRm 5 1 6) G h [.ref (c 0), .int p, .int q, .int x] (kPo G h c (cPhi Λ) (mHabit u p q x) "java/lang/IndexOutOfBoundsException" "java/lang/IndexOutOfBoundsException" 1 6) := by
  refine gMet_of (maxL := 5) (ret := (some .int)) (by decide) rfl (Nat.le_of_ble_eq_true rfl) ?_
  intro X hG hnL hB hE
  subst hG
  change gW X h 0 0 0 [(0, .ref (c 0)), (1, .int p), (2, .int q), (3, .int x)] []
  have hT := o.2.1
  have hW60 := o.2.2.2.1
  have hz200 := o.2.2.2.2.2.1
  have ez := o.2.2.2.2.1
  have eW := o.2.2.1
  have eT := o.1
  obtain ⟨md0, g0, hl0, -⟩ := hC.2.2.2.1 0 (by omega)
  by_cases hp9 : mTen u p
  · skip
    obtain ⟨t, ht, et⟩ := mTen_of o.W hp9
    subst et
    obtain ⟨mdt, gt, hlt, -⟩ := hC.2.2.2.1 (4 + t) (by omega)
    obtain ⟨hm8, emm⟩ := hC.many o ht
    have e3 := hC.2.2.2.2.1.2.2.2.2.2 t ht
    by_cases hq9 : mHab u (nI t) q
    · skip
      obtain ⟨j, hj, ej⟩ := mIn_of (m := cLen Λ (4 + t)) (by omega) (by have := hq9.2; rw [mCl (by omega), e3] at this; exact this)
      subst ej
      refine gI_aload_n hB 0 dX6_habit_0 rfl ?_
      refine gI_iload_n hB 1 dX6_habit_1 rfl ?_
      refine gI_pureV (n9 := 1) (As := [.int (nI t)]) (rest := []) hB (k_tenantAt X.2.1 h c Λ u T W z hC o t ht) (gCW.of ggX6_habit_X6_tenantAt rfl ⟨by decide, by decide, by decide +kernel⟩ ⟨Nat.le_of_ble_eq_true rfl, Nat.le_of_ble_eq_true rfl⟩) (by decide +kernel) (by decide +kernel) (by decide +kernel) (by decide +kernel) hC.1 (C := RX6) (T := TX6) (N := 9) rfl rfl rfl (Nat.le_of_ble_eq_true rfl) (by first | exact Nat.le_of_ble_eq_true rfl | (dsimp only [gRm]; omega)) (by first | exact Nat.le_of_ble_eq_true rfl | (dsimp only [gRm]; omega)) dX6_habit_2 ?_
      refine gI_iload_n hB 2 dX6_habit_5 rfl ?_
      refine gI_pureV (n9 := 1) (As := [.int (nI j)]) (rest := []) hB (k_habitAt X.2.1 h c Λ u T W z hC o t ht j hj) (gCW.of ggX6_habit_X4_habitAt rfl ⟨by decide, by decide, by decide +kernel⟩ ⟨Nat.le_of_ble_eq_true rfl, Nat.le_of_ble_eq_true rfl⟩) (by decide +kernel) (by decide +kernel) (by decide +kernel) (by decide +kernel) (hC.2.2.2.2.2.1 t ht) (C := RX4) (T := TX4) (N := 8) rfl rfl rfl (Nat.le_of_ble_eq_true rfl) (by first | exact Nat.le_of_ble_eq_true rfl | (dsimp only [gRm]; omega)) (by first | exact Nat.le_of_ble_eq_true rfl | (dsimp only [gRm]; omega)) dX6_habit_6 ?_
      refine gI_astore hB ([(4, .ref (cEl Λ (4 + t) j)), (0, .ref (c 0)), (1, .int (nI t)), (2, .int (nI j)), (3, .int x)]) hnL dX6_habit_9 (by decide) rfl ?_
      refine gI_iload_n hB 4 dX6_habit_11 rfl ?_
      refine gI_iconst (v := nI 0) hB dX6_habit_12 (by decide) ?_
      refine gI_bipush (v := nI 8) hB dX6_habit_13 (by decide) ?_
      refine gI_pureS (n9 := 3) (As := [.int x, .int (nI 0), .int (nI 8)]) (rest := []) hB (k_isOutside X.2.1 h x (nI 0) (nI 8)) (gCW.of ggX6_habit_X6_isOutside rfl ⟨by decide, by decide, by decide +kernel⟩ ⟨Nat.le_of_ble_eq_true rfl, Nat.le_of_ble_eq_true rfl⟩) (Or.inl (by decide +kernel)) (by decide +kernel) (by decide +kernel) rfl rfl (Nat.le_of_ble_eq_true rfl) (by first | exact Nat.le_of_ble_eq_true rfl | (dsimp only [gRm]; omega)) (by first | exact Nat.le_of_ble_eq_true rfl | (dsimp only [gRm]; omega)) dX6_habit_15 ?_
      refine gI_if_eq hB 29 dX6_habit_18 (by decide) (fun c18_1 => ?_) (fun c18_1 => ?_)
      · skip
        have c18_1 := gbi_0.mp c18_1
        have hl9 := c18_1
        have hl9 := Decidable.not_not.mp hl9
        obtain ⟨i, hi, ei⟩ := mIn_lit (by omega) hl9
        subst ei
        refine gI_aload hB 0 dX6_habit_29 rfl ?_
        refine gI_iload_n hB 4 dX6_habit_31 rfl ?_
        refine gI_pureV (n9 := 1) (As := [.int (nI i)]) (rest := []) hB (k_hpart X.2.1 h (cEl Λ (4 + t) j) (mRow (u.2 1) (9 * (8 * t + j))) (hC.2.2.2.2.2.2.1 t j ht hj) i (by omega)) (gCW.of ggX6_habit_X0_part rfl ⟨by decide, by decide, by decide +kernel⟩ ⟨Nat.le_of_ble_eq_true rfl, Nat.le_of_ble_eq_true rfl⟩) (by decide +kernel) (by decide +kernel) (by decide +kernel) (by decide +kernel) (hC.2.2.2.2.2.2.1 t j ht hj) (C := RX0) (T := TX0) (N := 9) rfl rfl rfl (Nat.le_of_ble_eq_true rfl) (by first | exact Nat.le_of_ble_eq_true rfl | (dsimp only [gRm]; omega)) (by first | exact Nat.le_of_ble_eq_true rfl | (dsimp only [gRm]; omega)) dX6_habit_32 ?_
        refine gI_iret hB hE dX6_habit_35 ?_
        exact kPo.rd hC o (by unfold mHabit; rw [if_pos ⟨hq9, hl9⟩, mJ_of (by omega) (by omega), mCl (by omega)]) (by omega) (by omega)
      · skip
        have c18_1 := gbi_n0 c18_1
        refine gI_throw hB hE (cls := "java/lang/IndexOutOfBoundsException") (names := ["java/lang/RuntimeException", "java/lang/Exception"]) (ik := 92) (ic := 94) (by decide +kernel) (by decide +kernel) (by decide +kernel) (by decide +kernel) (by decide +kernel) (by decide +kernel) (by decide +kernel) dX6_habit_21 dX6_habit_24 dX6_habit_25 dX6_habit_28 (Nat.le_of_ble_eq_true rfl) (Nat.le_of_ble_eq_true rfl) (by first | exact Nat.le_of_ble_eq_true rfl | (dsimp only [gRm]; omega)) (by first | exact Nat.le_of_ble_eq_true rfl | (dsimp only [gRm]; omega)) ?_
        exact kPo.err1 hC o (by unfold mHabit; rw [if_neg (fun z9 => c18_1 z9.2)]) (by omega) (by omega)
    · skip
      refine gI_aload_n hB 0 dX6_habit_0 rfl ?_
      refine gI_iload_n hB 1 dX6_habit_1 rfl ?_
      refine gI_pureV (n9 := 1) (As := [.int (nI t)]) (rest := []) hB (k_tenantAt X.2.1 h c Λ u T W z hC o t ht) (gCW.of ggX6_habit_X6_tenantAt rfl ⟨by decide, by decide, by decide +kernel⟩ ⟨Nat.le_of_ble_eq_true rfl, Nat.le_of_ble_eq_true rfl⟩) (by decide +kernel) (by decide +kernel) (by decide +kernel) (by decide +kernel) hC.1 (C := RX6) (T := TX6) (N := 9) rfl rfl rfl (Nat.le_of_ble_eq_true rfl) (by first | exact Nat.le_of_ble_eq_true rfl | (dsimp only [gRm]; omega)) (by first | exact Nat.le_of_ble_eq_true rfl | (dsimp only [gRm]; omega)) dX6_habit_2 ?_
      refine gI_iload_n hB 2 dX6_habit_5 rfl ?_
      refine gI_callV (n9 := 1) (As := [.int q]) (rest := []) hB (k_habitAtNo X.2.1 h c Λ u T W z hC o t ht q (fun z9 => hq9 ⟨hp9, by rw [mCl (by omega), e3]; exact z9⟩)) (gCW.of ggX6_habit_X4_habitAt rfl ⟨by decide, by decide, by decide +kernel⟩ ⟨Nat.le_of_ble_eq_true rfl, Nat.le_of_ble_eq_true rfl⟩) (by decide +kernel) (by decide +kernel) (by decide +kernel) (by decide +kernel) (hC.2.2.2.2.2.1 t ht) (C := RX4) (T := TX4) (N := 8) rfl rfl rfl (Nat.le_of_ble_eq_true rfl) (by first | exact Nat.le_of_ble_eq_true rfl | (dsimp only [gRm]; omega)) (by first | exact Nat.le_of_ble_eq_true rfl | (dsimp only [gRm]; omega)) dX6_habit_6 (fun v9 h9 k9 n9 hp => by cases hp.1) (fun E9 h9 k9 n9 hp => ?_)
      obtain ⟨e9, rfl, rfl, rfl⟩ := hp
      cases e9
      exact gI_out hB hE (kPo.err1 hC o (by unfold mHabit; rw [if_neg (fun z9 => hq9 z9.1)]) (by omega) (by omega))
  · skip
    refine gI_aload_n hB 0 dX6_habit_0 rfl ?_
    refine gI_iload_n hB 1 dX6_habit_1 rfl ?_
    refine gI_callV (n9 := 1) (As := [.int p]) (rest := []) hB (k_tenantAtNo X.2.1 h c Λ u T W z hC o p (by unfold mTen at hp9; rw [eT] at hp9; exact hp9)) (gCW.of ggX6_habit_X6_tenantAt rfl ⟨by decide, by decide, by decide +kernel⟩ ⟨Nat.le_of_ble_eq_true rfl, Nat.le_of_ble_eq_true rfl⟩) (by decide +kernel) (by decide +kernel) (by decide +kernel) (by decide +kernel) hC.1 (C := RX6) (T := TX6) (N := 9) rfl rfl rfl (Nat.le_of_ble_eq_true rfl) (by first | exact Nat.le_of_ble_eq_true rfl | (dsimp only [gRm]; omega)) (by first | exact Nat.le_of_ble_eq_true rfl | (dsimp only [gRm]; omega)) dX6_habit_2 (fun v9 h9 k9 n9 hp => by cases hp.1) (fun E9 h9 k9 n9 hp => ?_)
    obtain ⟨e9, rfl, rfl, rfl⟩ := hp
    cases e9
    exact gI_out hB hE (kPo.err1 hC o (by unfold mHabit; rw [if_neg (fun z9 => hp9 z9.1.1)]) (by omega) (by omega))

set_option maxRecDepth 100000 in
set_option maxHeartbeats 4000000 in
theorem p_count (G : gG) (h : gH) (c : Nat → Nat) (Λ : CL) (u : MS) (T W z : Nat) (hC : cRep G h c Λ u T W z) (o : mOk u T W z) (p : Int32) : gMet yX6_count wsX6_count (gRm 4 1 6) G h [.ref (c 0), .int p] (kPo G h c (cPhi Λ) (mCount u p) "java/lang/IndexOutOfBoundsException" "java/lang/IndexOutOfBoundsException" 1 6) := by
  refine gMet_of (maxL := 2) (ret := (some .int)) (by decide) rfl (Nat.le_of_ble_eq_true rfl) ?_
  intro X hG hnL hB hE
  subst hG
  change gW X h 0 0 0 [(0, .ref (c 0)), (1, .int p)] []
  have hT := o.2.1
  have hW60 := o.2.2.2.1
  have hz200 := o.2.2.2.2.2.1
  have ez := o.2.2.2.2.1
  have eW := o.2.2.1
  have eT := o.1
  refine gI_iload_n hB 1 dX6_count_0 rfl ?_
  refine gI_iconst (v := nI 0) hB dX6_count_1 (by decide) ?_
  refine gI_bipush (v := nI 8) hB dX6_count_2 (by decide) ?_
  refine gI_pureS (n9 := 3) (As := [.int p, .int (nI 0), .int (nI 8)]) (rest := []) hB (k_isOutside X.2.1 h p (nI 0) (nI 8)) (gCW.of ggX6_count_X6_isOutside rfl ⟨by decide, by decide, by decide +kernel⟩ ⟨Nat.le_of_ble_eq_true rfl, Nat.le_of_ble_eq_true rfl⟩) (Or.inl (by decide +kernel)) (by decide +kernel) (by decide +kernel) rfl rfl (Nat.le_of_ble_eq_true rfl) (by first | exact Nat.le_of_ble_eq_true rfl | (dsimp only [gRm]; omega)) (by first | exact Nat.le_of_ble_eq_true rfl | (dsimp only [gRm]; omega)) dX6_count_4 ?_
  refine gI_if_eq hB 18 dX6_count_7 (by decide) (fun c7_1 => ?_) (fun c7_1 => ?_)
  · skip
    have c7_1 := gbi_0.mp c7_1
    have hl9 := c7_1
    have hl9 := Decidable.not_not.mp hl9
    obtain ⟨i, hi, ei⟩ := mIn_lit (by omega) hl9
    subst ei
    refine gI_aload_n hB 0 dX6_count_18 rfl ?_
    refine gI_iload_n hB 1 dX6_count_19 rfl ?_
    refine gI_pureV (n9 := 1) (As := [.int (nI i)]) (rest := []) hB (k_cpart X.2.1 h c Λ u T W z hC o i (by omega)) (gCW.of ggX6_count_X6_part rfl ⟨by decide, by decide, by decide +kernel⟩ ⟨Nat.le_of_ble_eq_true rfl, Nat.le_of_ble_eq_true rfl⟩) (by decide +kernel) (by decide +kernel) (by decide +kernel) (by decide +kernel) hC.1 (C := RX6) (T := TX6) (N := 9) rfl rfl rfl (Nat.le_of_ble_eq_true rfl) (by first | exact Nat.le_of_ble_eq_true rfl | (dsimp only [gRm]; omega)) (by first | exact Nat.le_of_ble_eq_true rfl | (dsimp only [gRm]; omega)) dX6_count_20 ?_
    refine gI_iret hB hE dX6_count_23 ?_
    exact kPo.rd hC o (by unfold mCount; rw [if_pos hl9, mCl (by omega)]) (by omega) (by omega)
  · skip
    have c7_1 := gbi_n0 c7_1
    refine gI_throw hB hE (cls := "java/lang/IndexOutOfBoundsException") (names := ["java/lang/RuntimeException", "java/lang/Exception"]) (ik := 92) (ic := 94) (by decide +kernel) (by decide +kernel) (by decide +kernel) (by decide +kernel) (by decide +kernel) (by decide +kernel) (by decide +kernel) dX6_count_10 dX6_count_13 dX6_count_14 dX6_count_17 (Nat.le_of_ble_eq_true rfl) (Nat.le_of_ble_eq_true rfl) (by first | exact Nat.le_of_ble_eq_true rfl | (dsimp only [gRm]; omega)) (by first | exact Nat.le_of_ble_eq_true rfl | (dsimp only [gRm]; omega)) ?_
    exact kPo.err1 hC o (by unfold mCount; rw [if_neg c7_1]) (by omega) (by omega)

set_option maxRecDepth 100000 in
set_option maxHeartbeats 4000000 in
theorem p_waiting (G : gG) (h : gH) (c : Nat → Nat) (Λ : CL) (u : MS) (T W z : Nat) (hC : cRep G h c Λ u T W z) (o : mOk u T W z) (p q : Int32) : gMet yX6_waiting wsX6_waiting (gRm 5 1 6) G h [.ref (c 0), .int p, .int q] (kPo G h c (cPhi Λ) (mWaiting u p q) "java/lang/IndexOutOfBoundsException" "java/lang/IndexOutOfBoundsException" 1 6) := by
  refine gMet_of (maxL := 4) (ret := (some .int)) (by decide) rfl (Nat.le_of_ble_eq_true rfl) ?_
  intro X hG hnL hB hE
  subst hG
  change gW X h 0 0 0 [(0, .ref (c 0)), (1, .int p), (2, .int q)] []
  have hT := o.2.1
  have hW60 := o.2.2.2.1
  have hz200 := o.2.2.2.2.2.1
  have ez := o.2.2.2.2.1
  have eW := o.2.2.1
  have eT := o.1
  by_cases hp9 : mIn p (nI 0) (u.1 6 - nI 1)
  · skip
    obtain ⟨k9, hk9, ek9⟩ := mIn_of (m := W) (by omega) (by rw [eW] at hp9; exact hp9)
    subst ek9
    refine gI_aload_n hB 0 dX6_waiting_0 rfl ?_
    refine gI_get (v := .ref (c 1)) hB 1 hC.1 (C := RX6) (T := TX6) (N := 9) rfl (by decide +kernel) (by decide) (by decide +kernel) (fun _ h9 => h9) rfl dX6_waiting_1 ?_
    refine gI_iload_n hB 1 dX6_waiting_4 rfl ?_
    refine gI_pureV (n9 := 1) (As := [.int (nI k9)]) (rest := []) hB (k_ringAt X.2.1 h c Λ u T W z hC o k9 hk9) (gCW.of ggX6_waiting_X5_at rfl ⟨by decide, by decide, by decide +kernel⟩ ⟨Nat.le_of_ble_eq_true rfl, Nat.le_of_ble_eq_true rfl⟩) (by decide +kernel) (by decide +kernel) (by decide +kernel) (by decide +kernel) hC.2.1.1 (C := RX5) (T := TX5) (N := 2) rfl rfl rfl (Nat.le_of_ble_eq_true rfl) (by first | exact Nat.le_of_ble_eq_true rfl | (dsimp only [gRm]; omega)) (by first | exact Nat.le_of_ble_eq_true rfl | (dsimp only [gRm]; omega)) dX6_waiting_5 ?_
    refine gI_astore_n hB ([(3, .ref (cEl Λ 1 k9)), (0, .ref (c 0)), (1, .int (nI k9)), (2, .int q)]) hnL dX6_waiting_8 (by decide) rfl ?_
    refine gI_iload_n hB 3 dX6_waiting_9 rfl ?_
    refine gI_iconst (v := nI 0) hB dX6_waiting_10 (by decide) ?_
    refine gI_iconst (v := nI 4) hB dX6_waiting_11 (by decide) ?_
    refine gI_pureS (n9 := 3) (As := [.int q, .int (nI 0), .int (nI 4)]) (rest := []) hB (k_isOutside X.2.1 h q (nI 0) (nI 4)) (gCW.of ggX6_waiting_X6_isOutside rfl ⟨by decide, by decide, by decide +kernel⟩ ⟨Nat.le_of_ble_eq_true rfl, Nat.le_of_ble_eq_true rfl⟩) (Or.inl (by decide +kernel)) (by decide +kernel) (by decide +kernel) rfl rfl (Nat.le_of_ble_eq_true rfl) (by first | exact Nat.le_of_ble_eq_true rfl | (dsimp only [gRm]; omega)) (by first | exact Nat.le_of_ble_eq_true rfl | (dsimp only [gRm]; omega)) dX6_waiting_12 ?_
    refine gI_if_eq hB 26 dX6_waiting_15 (by decide) (fun c15_1 => ?_) (fun c15_1 => ?_)
    · skip
      have c15_1 := gbi_0.mp c15_1
      have hl9 := c15_1
      have hl9 := Decidable.not_not.mp hl9
      obtain ⟨i, hi, ei⟩ := mIn_lit (by omega) hl9
      subst ei
      refine gI_aload_n hB 0 dX6_waiting_26 rfl ?_
      refine gI_iload_n hB 3 dX6_waiting_27 rfl ?_
      refine gI_pureV (n9 := 1) (As := [.int (nI i)]) (rest := []) hB (k_rpart X.2.1 h (cEl Λ 1 k9) (mRow (u.2 2) (14 * k9)) (wOf (u.2 2) (14 * k9 + 5) (u.2 2 (14 * k9 + 4))) (hC.2.2.2.2.2.2.2.1 k9 hk9) i (by omega)) (gCW.of ggX6_waiting_X2_part rfl ⟨by decide, by decide, by decide +kernel⟩ ⟨Nat.le_of_ble_eq_true rfl, Nat.le_of_ble_eq_true rfl⟩) (by decide +kernel) (by decide +kernel) (by decide +kernel) (by decide +kernel) (hC.2.2.2.2.2.2.2.1 k9 hk9) (C := RX2) (T := TX2) (N := 6) rfl rfl rfl (Nat.le_of_ble_eq_true rfl) (by first | exact Nat.le_of_ble_eq_true rfl | (dsimp only [gRm]; omega)) (by first | exact Nat.le_of_ble_eq_true rfl | (dsimp only [gRm]; omega)) dX6_waiting_28 ?_
      refine gI_iret hB hE dX6_waiting_31 ?_
      exact kPo.rd hC o (by unfold mWaiting; rw [if_pos ⟨hp9, hl9⟩, mCl (by omega), mCl (by omega)]) (by omega) (by omega)
    · skip
      have c15_1 := gbi_n0 c15_1
      refine gI_throw hB hE (cls := "java/lang/IndexOutOfBoundsException") (names := ["java/lang/RuntimeException", "java/lang/Exception"]) (ik := 92) (ic := 94) (by decide +kernel) (by decide +kernel) (by decide +kernel) (by decide +kernel) (by decide +kernel) (by decide +kernel) (by decide +kernel) dX6_waiting_18 dX6_waiting_21 dX6_waiting_22 dX6_waiting_25 (Nat.le_of_ble_eq_true rfl) (Nat.le_of_ble_eq_true rfl) (by first | exact Nat.le_of_ble_eq_true rfl | (dsimp only [gRm]; omega)) (by first | exact Nat.le_of_ble_eq_true rfl | (dsimp only [gRm]; omega)) ?_
      exact kPo.err1 hC o (by unfold mWaiting; rw [if_neg (fun z9 => c15_1 z9.2)]) (by omega) (by omega)
  · skip
    refine gI_aload_n hB 0 dX6_waiting_0 rfl ?_
    refine gI_get (v := .ref (c 1)) hB 1 hC.1 (C := RX6) (T := TX6) (N := 9) rfl (by decide +kernel) (by decide) (by decide +kernel) (fun _ h9 => h9) rfl dX6_waiting_1 ?_
    refine gI_iload_n hB 1 dX6_waiting_4 rfl ?_
    refine gI_callV (n9 := 1) (As := [.int p]) (rest := []) hB (k_ringAtNo X.2.1 h c Λ u T W z hC o p (by rw [eW] at hp9; exact hp9)) (gCW.of ggX6_waiting_X5_at rfl ⟨by decide, by decide, by decide +kernel⟩ ⟨Nat.le_of_ble_eq_true rfl, Nat.le_of_ble_eq_true rfl⟩) (by decide +kernel) (by decide +kernel) (by decide +kernel) (by decide +kernel) hC.2.1.1 (C := RX5) (T := TX5) (N := 2) rfl rfl rfl (Nat.le_of_ble_eq_true rfl) (by first | exact Nat.le_of_ble_eq_true rfl | (dsimp only [gRm]; omega)) (by first | exact Nat.le_of_ble_eq_true rfl | (dsimp only [gRm]; omega)) dX6_waiting_5 (fun v9 h9 k9 n9 hp => by cases hp.1) (fun E9 h9 k9 n9 hp => ?_)
    obtain ⟨e9, rfl, rfl, rfl⟩ := hp
    cases e9
    exact gI_out hB hE (kPo.err1 hC o (by unfold mWaiting; rw [if_neg (fun z9 => hp9 z9.1)]) (by omega) (by omega))

set_option maxRecDepth 100000 in
set_option maxHeartbeats 4000000 in
theorem p_sung (G : gG) (h : gH) (c : Nat → Nat) (Λ : CL) (u : MS) (T W z : Nat) (hC : cRep G h c Λ u T W z) (o : mOk u T W z) (p q : Int32) : gMet yX6_sung wsX6_sung (gRm 5 1 6) G h [.ref (c 0), .int p, .int q] (kPo G h c (cPhi Λ) (mSung u p q) "java/lang/IndexOutOfBoundsException" "java/lang/IndexOutOfBoundsException" 1 6) := by
  refine gMet_of (maxL := 4) (ret := (some .int)) (by decide) rfl (Nat.le_of_ble_eq_true rfl) ?_
  intro X hG hnL hB hE
  subst hG
  change gW X h 0 0 0 [(0, .ref (c 0)), (1, .int p), (2, .int q)] []
  have hT := o.2.1
  have hW60 := o.2.2.2.1
  have hz200 := o.2.2.2.2.2.1
  have ez := o.2.2.2.2.1
  have eW := o.2.2.1
  have eT := o.1
  have hz3 : z ≤ cLen Λ 3 := hC.2.2.2.2.1.2.2.1
  have hl200 : cLen Λ 3 ≤ 200 := hC.2.2.2.2.1.2.2.2.1
  by_cases hp9 : mIn p (nI 0) (u.1 12 - nI 1)
  · skip
    obtain ⟨n9, hn9, en9⟩ := mIn_of (m := z) (by omega) (by rw [ez] at hp9; exact hp9)
    subst en9
    obtain ⟨fn, wn, hno, hno0⟩ := hC.2.2.2.2.2.2.2.2.2.1 n9 (by omega)
    obtain ⟨hno1, hno2⟩ := hno0 hn9
    refine gI_aload_n hB 0 dX6_sung_0 rfl ?_
    refine gI_get (v := .ref (c 2)) hB 2 hC.1 (C := RX6) (T := TX6) (N := 9) rfl (by decide +kernel) (by decide) (by decide +kernel) (fun _ h9 => h9) rfl dX6_sung_1 ?_
    refine gI_iload_n hB 1 dX6_sung_4 rfl ?_
    refine gI_pureV (n9 := 1) (As := [.int (nI n9)]) (rest := []) hB (k_noteAt X.2.1 h c Λ u T W z hC o n9 hn9) (gCW.of ggX6_sung_X3_at rfl ⟨by decide, by decide, by decide +kernel⟩ ⟨Nat.le_of_ble_eq_true rfl, Nat.le_of_ble_eq_true rfl⟩) (by decide +kernel) (by decide +kernel) (by decide +kernel) (by decide +kernel) hC.2.2.1 (C := RX3) (T := TX3) (N := 4) rfl rfl rfl (Nat.le_of_ble_eq_true rfl) (by first | exact Nat.le_of_ble_eq_true rfl | (dsimp only [gRm]; omega)) (by first | exact Nat.le_of_ble_eq_true rfl | (dsimp only [gRm]; omega)) dX6_sung_5 ?_
    refine gI_astore_n hB ([(3, .ref (cEl Λ 3 n9)), (0, .ref (c 0)), (1, .int (nI n9)), (2, .int q)]) hnL dX6_sung_8 (by decide) rfl ?_
    refine gI_iload_n hB 3 dX6_sung_9 rfl ?_
    refine gI_iconst (v := nI 0) hB dX6_sung_10 (by decide) ?_
    refine gI_iconst (v := nI 5) hB dX6_sung_11 (by decide) ?_
    refine gI_pureS (n9 := 3) (As := [.int q, .int (nI 0), .int (nI 5)]) (rest := []) hB (k_isOutside X.2.1 h q (nI 0) (nI 5)) (gCW.of ggX6_sung_X6_isOutside rfl ⟨by decide, by decide, by decide +kernel⟩ ⟨Nat.le_of_ble_eq_true rfl, Nat.le_of_ble_eq_true rfl⟩) (Or.inl (by decide +kernel)) (by decide +kernel) (by decide +kernel) rfl rfl (Nat.le_of_ble_eq_true rfl) (by first | exact Nat.le_of_ble_eq_true rfl | (dsimp only [gRm]; omega)) (by first | exact Nat.le_of_ble_eq_true rfl | (dsimp only [gRm]; omega)) dX6_sung_12 ?_
    refine gI_if_eq hB 26 dX6_sung_15 (by decide) (fun c15_1 => ?_) (fun c15_1 => ?_)
    · skip
      have c15_1 := gbi_0.mp c15_1
      have hl9 := c15_1
      have hl9 := Decidable.not_not.mp hl9
      obtain ⟨i, hi, ei⟩ := mIn_lit (by omega) hl9
      subst ei
      refine gI_aload_n hB 0 dX6_sung_26 rfl ?_
      refine gI_iload_n hB 3 dX6_sung_27 rfl ?_
      refine gI_pureV (n9 := 1) (As := [.int (nI i)]) (rest := []) hB (k_npart X.2.1 h (cEl Λ 3 n9) fn wn hno i (by omega)) (gCW.of ggX6_sung_X1_part rfl ⟨by decide, by decide, by decide +kernel⟩ ⟨Nat.le_of_ble_eq_true rfl, Nat.le_of_ble_eq_true rfl⟩) (by decide +kernel) (by decide +kernel) (by decide +kernel) (by decide +kernel) hno (C := RX1) (T := TX1) (N := 7) rfl rfl rfl (Nat.le_of_ble_eq_true rfl) (by first | exact Nat.le_of_ble_eq_true rfl | (dsimp only [gRm]; omega)) (by first | exact Nat.le_of_ble_eq_true rfl | (dsimp only [gRm]; omega)) dX6_sung_28 ?_
      refine gI_topi hB (y := u.2 3 (15 * n9 + i)) (hno1 i (by omega)) ?_
      refine gI_iret hB hE dX6_sung_31 ?_
      exact kPo.rd hC o (by unfold mSung; rw [if_pos ⟨hp9, hl9⟩, mCl (by omega), mCl (by omega)]) (by omega) (by omega)
    · skip
      have c15_1 := gbi_n0 c15_1
      refine gI_throw hB hE (cls := "java/lang/IndexOutOfBoundsException") (names := ["java/lang/RuntimeException", "java/lang/Exception"]) (ik := 92) (ic := 94) (by decide +kernel) (by decide +kernel) (by decide +kernel) (by decide +kernel) (by decide +kernel) (by decide +kernel) (by decide +kernel) dX6_sung_18 dX6_sung_21 dX6_sung_22 dX6_sung_25 (Nat.le_of_ble_eq_true rfl) (Nat.le_of_ble_eq_true rfl) (by first | exact Nat.le_of_ble_eq_true rfl | (dsimp only [gRm]; omega)) (by first | exact Nat.le_of_ble_eq_true rfl | (dsimp only [gRm]; omega)) ?_
      exact kPo.err1 hC o (by unfold mSung; rw [if_neg (fun z9 => c15_1 z9.2)]) (by omega) (by omega)
  · skip
    refine gI_aload_n hB 0 dX6_sung_0 rfl ?_
    refine gI_get (v := .ref (c 2)) hB 2 hC.1 (C := RX6) (T := TX6) (N := 9) rfl (by decide +kernel) (by decide) (by decide +kernel) (fun _ h9 => h9) rfl dX6_sung_1 ?_
    refine gI_iload_n hB 1 dX6_sung_4 rfl ?_
    refine gI_callV (n9 := 1) (As := [.int p]) (rest := []) hB (k_noteAtNo X.2.1 h c Λ u T W z hC o p (by rw [ez] at hp9; exact hp9)) (gCW.of ggX6_sung_X3_at rfl ⟨by decide, by decide, by decide +kernel⟩ ⟨Nat.le_of_ble_eq_true rfl, Nat.le_of_ble_eq_true rfl⟩) (by decide +kernel) (by decide +kernel) (by decide +kernel) (by decide +kernel) hC.2.2.1 (C := RX3) (T := TX3) (N := 4) rfl rfl rfl (Nat.le_of_ble_eq_true rfl) (by first | exact Nat.le_of_ble_eq_true rfl | (dsimp only [gRm]; omega)) (by first | exact Nat.le_of_ble_eq_true rfl | (dsimp only [gRm]; omega)) dX6_sung_5 (fun v9 h9 k9 n9 hp => by cases hp.1) (fun E9 h9 k9 n9 hp => ?_)
    obtain ⟨e9, rfl, rfl, rfl⟩ := hp
    cases e9
    exact gI_out hB hE (kPo.err1 hC o (by unfold mSung; rw [if_neg (fun z9 => hp9 z9.1)]) (by omega) (by omega))

