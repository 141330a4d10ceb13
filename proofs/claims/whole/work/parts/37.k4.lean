def cPhi (Λ : CL) : Nat := cCap Λ 1 + cCap Λ 2 + cCap Λ 3 + cLen Λ 1 + cLen Λ 2 + cLen Λ 3
/-- the class's heap stands for u; F is what its rows and rings have come to -/
def cW (G : gG) (h : gH) (c : Nat → Nat) (u : MS) (F : Nat) : Prop := ∃ (Λ : CL) (T W z : Nat), cRep G h c Λ u T W z ∧ mOk u T W z ∧ cPhi Λ = F
/-- what a call of the class leaves, where the reference's leaves s -/
def kPo (G : gG) (h : gH) (c : Nat → Nat) (F : Nat) (s : MS × Int32) (E1 E2 : String) (ck sk : Nat) : gPo := fun r h' k n => ∃ F', cW G h' c s.1 F' ∧ cFr h h' ∧ F ≤ F' ∧ k ≤ ck + (F' - F) ∧ n ≤ sk + 7 * (F' - F) ∧
  ((r = .inl (some (.int s.2)) ∧ s.1.1 0 = nI 0) ∨ (r = .inr E1 ∧ s.1.1 0 = nI 1) ∨ (r = .inr E2 ∧ s.1.1 0 = nI 2))
theorem mOk.ring4 {u : MS} {T W z : Nat} (o : mOk u T W z) : ∀ k, k < W → ∃ p, p ≤ 8 ∧ u.2 2 (14 * k + 4) = nI p := fun k hk => by
  obtain ⟨-, p, h1, h2, -⟩ := o.2.2.2.2.2.2.2.2.1 k hk
  exact ⟨p, h1, h2⟩
theorem cW.sg0 {G : gG} {h : gH} {c : Nat → Nat} {Λ : CL} {u : MS} {T W z : Nat} (hC : cRep G h c Λ u T W z) (o : mOk u T W z) (x : Int32) : cW G h c (sg u 0 x) (cPhi Λ) :=
  ⟨Λ, T, W, z, hC.cg rfl rfl rfl rfl rfl rfl rfl (fun _ _ _ _ => rfl) (fun _ _ => rfl) rfl (fun _ _ _ _ => rfl) rfl o.ring4, o.tab rfl rfl rfl rfl (fun _ _ ot => ot) rfl rfl, rfl⟩
theorem cW.err {G : gG} {h : gH} {c : Nat → Nat} {Λ : CL} {u : MS} {T W z : Nat} (hC : cRep G h c Λ u T W z) (o : mOk u T W z) (e : Int32) : cW G h c (mErr u e).1 (cPhi Λ) :=
  ⟨Λ, T, W, z, hC.cg rfl rfl rfl rfl rfl rfl rfl (fun _ _ _ _ => rfl) (fun _ _ => rfl) rfl (fun _ _ _ _ => rfl) rfl o.ring4, o.tab rfl rfl rfl rfl (fun _ _ ot => ot) rfl rfl, rfl⟩
theorem kPo.err1 {G : gG} {h : gH} {c : Nat → Nat} {Λ : CL} {u : MS} {T W z k n : Nat} {E1 E2 : String} (hC : cRep G h c Λ u T W z) (o : mOk u T W z) {s : MS × Int32} (e : s = mErr u (nI 1)) (hk : k ≤ 1) (hn : n ≤ 6) : kPo G h c (cPhi Λ) s E1 E2 1 6 (.inr E1) h k n := by
  subst e
  exact ⟨_, cW.err hC o _, cFr.rf, Nat.le_refl _, by omega, by omega, Or.inr (Or.inl ⟨rfl, rfl⟩)⟩
theorem kPo.err2 {G : gG} {h : gH} {c : Nat → Nat} {Λ : CL} {u : MS} {T W z k n : Nat} {E1 E2 : String} (hC : cRep G h c Λ u T W z) (o : mOk u T W z) {s : MS × Int32} (e : s = mErr u (nI 2)) (hk : k ≤ 1) (hn : n ≤ 6) : kPo G h c (cPhi Λ) s E1 E2 1 6 (.inr E2) h k n := by
  subst e
  exact ⟨_, cW.err hC o _, cFr.rf, Nat.le_refl _, by omega, by omega, Or.inr (Or.inr ⟨rfl, rfl⟩)⟩
theorem kPo.rd {G : gG} {h : gH} {c : Nat → Nat} {Λ : CL} {u : MS} {T W z k n : Nat} {E1 E2 : String} (hC : cRep G h c Λ u T W z) (o : mOk u T W z) {s : MS × Int32} {v : Int32} (e : s = (sg u 0 (nI 0), v)) (hk : k ≤ 1) (hn : n ≤ 6) : kPo G h c (cPhi Λ) s E1 E2 1 6 (.inl (some (.int v))) h k n := by
  subst e
  exact ⟨_, cW.sg0 hC o _, cFr.rf, Nat.le_refl _, by omega, by omega, Or.inl ⟨rfl, rfl⟩⟩

set_option maxRecDepth 100000 in
set_option maxHeartbeats 4000000 in
theorem p_tenant (G : gG) (h : gH) (c : Nat → Nat) (Λ : CL) (u : MS) (T W z : Nat) (hC : cRep G h c Λ u T W z) (o : mOk u T W z) (p q : Int32) : gMet yX6_tenant wsX6_tenant (gRm 5 1 6) G h [.ref (c 0), .int p, .int q] (kPo G h c (cPhi Λ) (mTenant u p q) "java/lang/IndexOutOfBoundsException" "java/lang/IndexOutOfBoundsException" 1 6) := by
  refine gMet_of (maxL := 4) (ret := (some .int)) (by decide) rfl (Nat.le_of_ble_eq_true rfl) ?_
  intro X hG hnL hB hE
  subst hG
  change gW X h 0 0 0 [(0, .ref (c 0)), (1, .int p), (2, .int q)] []
  have hT := o.2.1
  have hW60 := o.2.2.2.1
  have hz200 := o.2.2.2.2.2.1
  have ez := o.2.2.2.2.1
  have eW := o.2.2.1
  have eT := o.1
  obtain ⟨md0, g0, hl0, -⟩ := hC.2.2.2.1 0 (by omega)
  by_cases hp9 : mTen u p
  · skip
    obtain ⟨t, ht, et⟩ := mTen_of o.W hp9
    subst et
    obtain ⟨mdt, gt, hlt, -⟩ := hC.2.2.2.1 (4 + t) (by omega)
    obtain ⟨hm8, emm⟩ := hC.many o ht
    refine gI_aload_n hB 0 dX6_tenant_0 rfl ?_
    refine gI_iload_n hB 1 dX6_tenant_1 rfl ?_
    refine gI_pureV (n9 := 1) (As := [.int (nI t)]) (rest := []) hB (k_tenantAt X.2.1 h c Λ u T W z hC o t ht) (gCW.of ggX6_tenant_X6_tenantAt rfl ⟨by decide, by decide, by decide +kernel⟩ ⟨Nat.le_of_ble_eq_true rfl, Nat.le_of_ble_eq_true rfl⟩) (by decide +kernel) (by decide +kernel) (by decide +kernel) (by decide +kernel) hC.1 (C := RX6) (T := TX6) (N := 9) rfl rfl rfl (Nat.le_of_ble_eq_true rfl) (by first | exact Nat.le_of_ble_eq_true rfl | (dsimp only [gRm]; omega)) (by first | exact Nat.le_of_ble_eq_true rfl | (dsimp only [gRm]; omega)) dX6_tenant_2 ?_
    refine gI_astore_n hB ([(3, .ref (cEl Λ 0 t)), (0, .ref (c 0)), (1, .int (nI t)), (2, .int q)]) hnL dX6_tenant_5 (by decide) rfl ?_
    refine gI_iload_n hB 3 dX6_tenant_6 rfl ?_
    refine gI_iconst (v := nI 0) hB dX6_tenant_7 (by decide) ?_
    refine gI_iconst (v := nI 5) hB dX6_tenant_8 (by decide) ?_
    refine gI_pureS (n9 := 3) (As := [.int q, .int (nI 0), .int (nI 5)]) (rest := []) hB (k_isOutside X.2.1 h q (nI 0) (nI 5)) (gCW.of ggX6_tenant_X6_isOutside rfl ⟨by decide, by decide, by decide +kernel⟩ ⟨Nat.le_of_ble_eq_true rfl, Nat.le_of_ble_eq_true rfl⟩) (Or.inl (by decide +kernel)) (by decide +kernel) (by decide +kernel) rfl rfl (Nat.le_of_ble_eq_true rfl) (by first | exact Nat.le_of_ble_eq_true rfl | (dsimp only [gRm]; omega)) (by first | exact Nat.le_of_ble_eq_true rfl | (dsimp only [gRm]; omega)) dX6_tenant_9 ?_
    refine gI_if_eq hB 23 dX6_tenant_12 (by decide) (fun c12_1 => ?_) (fun c12_1 => ?_)
    · skip
      have c12_1 := gbi_0.mp c12_1
      have hl9 := c12_1
      have hl9 := Decidable.not_not.mp hl9
      obtain ⟨i, hi, ei⟩ := mIn_lit (by omega) hl9
      subst ei
      refine gI_aload_n hB 0 dX6_tenant_23 rfl ?_
      refine gI_iload_n hB 3 dX6_tenant_24 rfl ?_
      refine gI_pureV (n9 := 1) (As := [.int (nI i)]) (rest := []) hB (k_tpart X.2.1 h c Λ u T W z hC o t ht i (by omega)) (gCW.of ggX6_tenant_X4_part rfl ⟨by decide, by decide, by decide +kernel⟩ ⟨Nat.le_of_ble_eq_true rfl, Nat.le_of_ble_eq_true rfl⟩) (by decide +kernel) (by decide +kernel) (by decide +kernel) (by decide +kernel) (hC.2.2.2.2.2.1 t ht) (C := RX4) (T := TX4) (N := 8) rfl rfl rfl (Nat.le_of_ble_eq_true rfl) (by first | exact Nat.le_of_ble_eq_true rfl | (dsimp only [gRm]; omega)) (by first | exact Nat.le_of_ble_eq_true rfl | (dsimp only [gRm]; omega)) dX6_tenant_25 ?_
      refine gI_iret hB hE dX6_tenant_28 ?_
      exact kPo.rd hC o (by unfold mTenant; rw [if_pos ⟨hp9, hl9⟩, mCl (by omega), mCl (by omega)]) (by omega) (by omega)
    · skip
      have c12_1 := gbi_n0 c12_1
      refine gI_throw hB hE (cls := "java/lang/IndexOutOfBoundsException") (names := ["java/lang/RuntimeException", "java/lang/Exception"]) (ik := 92) (ic := 94) (by decide +kernel) (by decide +kernel) (by decide +kernel) (by decide +kernel) (by decide +kernel) (by decide +kernel) (by decide +kernel) dX6_tenant_15 dX6_tenant_18 dX6_tenant_19 dX6_tenant_22 (Nat.le_of_ble_eq_true rfl) (Nat.le_of_ble_eq_true rfl) (by first | exact Nat.le_of_ble_eq_true rfl | (dsimp only [gRm]; omega)) (by first | exact Nat.le_of_ble_eq_true rfl | (dsimp only [gRm]; omega)) ?_
      exact kPo.err1 hC o (by unfold mTenant; rw [if_neg (fun z9 => c12_1 z9.2)]) (by omega) (by omega)
  · skip
    refine gI_aload_n hB 0 dX6_tenant_0 rfl ?_
    refine gI_iload_n hB 1 dX6_tenant_1 rfl ?_
    refine gI_callV (n9 := 1) (As := [.int p]) (rest := []) hB (k_tenantAtNo X.2.1 h c Λ u T W z hC o p (by rw [eT] at hp9; exact hp9)) (gCW.of ggX6_tenant_X6_tenantAt rfl ⟨by decide, by decide, by decide +kernel⟩ ⟨Nat.le_of_ble_eq_true rfl, Nat.le_of_ble_eq_true rfl⟩) (by decide +kernel) (by decide +kernel) (by decide +kernel) (by decide +kernel) hC.1 (C := RX6) (T := TX6) (N := 9) rfl rfl rfl (Nat.le_of_ble_eq_true rfl) (by first | exact Nat.le_of_ble_eq_true rfl | (dsimp only [gRm]; omega)) (by first | exact Nat.le_of_ble_eq_true rfl | (dsimp only [gRm]; omega)) dX6_tenant_2 (fun v9 h9 k9 n9 hp => by cases hp.1) (fun E9 h9 k9 n9 hp => ?_)
    obtain ⟨e9, rfl, rfl, rfl⟩ := hp
    cases e9
    exact gI_out hB hE (kPo.err1 hC o (by unfold mTenant; rw [if_neg (fun z9 => hp9 z9.1)]) (by omega) (by omega))
