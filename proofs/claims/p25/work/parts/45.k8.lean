set_option maxRecDepth 100000 in
set_option maxHeartbeats 4000000 in
theorem p_through (G : gG) (h : gH) (c : Nat → Nat) (Λ : CL) (u : MS) (T W z : Nat) (hC : cRep G h c Λ u T W z) (o : mOk u T W z) (p q : Int32) : gMet yX6_through wsX6_through (gRm 5 1 6) G h [.ref (c 0), .int p, .int q] (kPo G h c (cPhi Λ) (mThrough u p q) "java/lang/IndexOutOfBoundsException" "java/lang/IndexOutOfBoundsException" 1 6) := by
  refine gMet_of (maxL := 4) (ret := (some .int)) (by decide) rfl (Nat.le_of_ble_eq_true rfl) ?_
  intro X hG hnL hB hE
  subst hG
  change gW X h 0 0 0 [(0, .ref (c 0)), (1, .int p), (2, .int q)] []
  have hT := o.2.1
  have hW60 := o.2.2.2.1
  have hz200 := o.2.2.2.2.2.1
  have ez := o.2.2.2.2.1
  have eW := o.2.2.1
  have eT := o.1
  have hz3 : z ≤ cLen Λ 3 := hC.2.2.2.2.1.2.2.1
  have hl200 : cLen Λ 3 ≤ 200 := hC.2.2.2.2.1.2.2.2.1
  by_cases hp9 : mIn p (nI 0) (u.1 12 - nI 1)
  · skip
    obtain ⟨n9, hn9, en9⟩ := mIn_of (m := z) (by omega) (by rw [ez] at hp9; exact hp9)
    subst en9
    obtain ⟨fn, wn, hno, hno0⟩ := hC.2.2.2.2.2.2.2.2.2.1 n9 (by omega)
    obtain ⟨hno1, hno2⟩ := hno0 hn9
    obtain ⟨-, p4, hp4, ep4, hway⟩ := o.2.2.2.2.2.2.2.2.2 n9 hn9
    refine gI_aload_n hB 0 dX6_through_0 rfl ?_
    refine gI_get (v := .ref (c 2)) hB 2 hC.1 (C := RX6) (T := TX6) (N := 9) rfl (by decide +kernel) (by decide) (by decide +kernel) (fun _ h9 => h9) rfl dX6_through_1 ?_
    refine gI_iload_n hB 1 dX6_through_4 rfl ?_
    refine gI_pureV (n9 := 1) (As := [.int (nI n9)]) (rest := []) hB (k_noteAt X.2.1 h c Λ u T W z hC o n9 hn9) (gCW.of ggX6_through_X3_at rfl ⟨by decide, by decide, by decide +kernel⟩ ⟨Nat.le_of_ble_eq_true rfl, Nat.le_of_ble_eq_true rfl⟩) (by decide +kernel) (by decide +kernel) (by decide +kernel) (by decide +kernel) hC.2.2.1 (C := RX3) (T := TX3) (N := 4) rfl rfl rfl (Nat.le_of_ble_eq_true rfl) (by first | exact Nat.le_of_ble_eq_true rfl | (dsimp only [gRm]; omega)) (by first | exact Nat.le_of_ble_eq_true rfl | (dsimp only [gRm]; omega)) dX6_through_5 ?_
    refine gI_astore_n hB ([(3, .ref (cEl Λ 3 n9)), (0, .ref (c 0)), (1, .int (nI n9)), (2, .int q)]) hnL dX6_through_8 (by decide) rfl ?_
    refine gI_iload_n hB 3 dX6_through_9 rfl ?_
    refine gI_iconst (v := nI 0) hB dX6_through_10 (by decide) ?_
    refine gI_aload_n hB 0 dX6_through_11 rfl ?_
    refine gI_get (v := .int (fn 4)) hB 4 hno (C := RX1) (T := TX1) (N := 7) rfl (by decide +kernel) (by decide) (by decide +kernel) (fun _ h9 => h9) rfl dX6_through_12 ?_
    refine gI_topi hB (y := u.2 3 (15 * n9 + 4)) (hno1 4 (by omega)) ?_
    refine gI_pureS (n9 := 3) (As := [.int q, .int (nI 0), .int (u.2 3 (15 * n9 + 4))]) (rest := []) hB (k_isOutside X.2.1 h q (nI 0) (u.2 3 (15 * n9 + 4))) (gCW.of ggX6_through_X6_isOutside rfl ⟨by decide, by decide, by decide +kernel⟩ ⟨Nat.le_of_ble_eq_true rfl, Nat.le_of_ble_eq_true rfl⟩) (Or.inl (by decide +kernel)) (by decide +kernel) (by decide +kernel) rfl rfl (Nat.le_of_ble_eq_true rfl) (by first | exact Nat.le_of_ble_eq_true rfl | (dsimp only [gRm]; omega)) (by first | exact Nat.le_of_ble_eq_true rfl | (dsimp only [gRm]; omega)) dX6_through_15 ?_
    refine gI_if_eq hB 29 dX6_through_18 (by decide) (fun c18_1 => ?_) (fun c18_1 => ?_)
    · skip
      have c18_1 := gbi_0.mp c18_1
      have hl9 := Decidable.not_not.mp c18_1
      obtain ⟨j, hj, ej⟩ := mIn_lit (m := p4) (by omega) (by rw [ep4] at hl9; exact hl9)
      subst ej
      refine gI_aload_n hB 0 dX6_through_29 rfl ?_
      refine gI_get (v := .long wn) hB 6 hno (C := RX1) (T := TX1) (N := 7) rfl (by decide +kernel) (by decide) (by decide +kernel) (fun _ h9 => h9) rfl dX6_through_30 ?_
      refine gI_iload_n hB 3 dX6_through_33 rfl ?_
      refine gI_pureS (n9 := 2) (As := [.long wn, .int (nI j)]) (rest := []) hB (k_tenantOnWay X.2.1 h wn j) (gCW.of ggX6_through_X6_tenantOnWay rfl ⟨by decide, by decide, by decide +kernel⟩ ⟨Nat.le_of_ble_eq_true rfl, Nat.le_of_ble_eq_true rfl⟩) (Or.inl (by decide +kernel)) (by decide +kernel) (by decide +kernel) rfl rfl (Nat.le_of_ble_eq_true rfl) (by first | exact Nat.le_of_ble_eq_true rfl | (dsimp only [gRm]; omega)) (by first | exact Nat.le_of_ble_eq_true rfl | (dsimp only [gRm]; omega)) dX6_through_34 ?_
      refine gI_topi hB (y := u.2 3 (15 * n9 + 6 + j)) (by rw [hno2, wOf, ep4, mCl (by omega)]; exact wWay_at hp4 hway hj) ?_
      refine gI_iret hB hE dX6_through_37 ?_
      exact kPo.rd hC o (by unfold mThrough; rw [if_pos ⟨hp9, by rw [mCl (by omega)]; exact hl9⟩, mCl (by omega), mCl (by omega)]) (by omega) (by omega)
    · skip
      have c18_1 := gbi_n0 c18_1
      refine gI_throw hB hE (cls := "java/lang/IndexOutOfBoundsException") (names := ["java/lang/RuntimeException", "java/lang/Exception"]) (ik := 92) (ic := 94) (by decide +kernel) (by decide +kernel) (by decide +kernel) (by decide +kernel) (by decide +kernel) (by decide +kernel) (by decide +kernel) dX6_through_21 dX6_through_24 dX6_through_25 dX6_through_28 (Nat.le_of_ble_eq_true rfl) (Nat.le_of_ble_eq_true rfl) (by first | exact Nat.le_of_ble_eq_true rfl | (dsimp only [gRm]; omega)) (by first | exact Nat.le_of_ble_eq_true rfl | (dsimp only [gRm]; omega)) ?_
      exact kPo.err1 hC o (by unfold mThrough; rw [if_neg (fun z9 => c18_1 (by have := z9.2; rw [mCl (by omega)] at this; exact this))]) (by omega) (by omega)
  · skip
    refine gI_aload_n hB 0 dX6_through_0 rfl ?_
    refine gI_get (v := .ref (c 2)) hB 2 hC.1 (C := RX6) (T := TX6) (N := 9) rfl (by decide +kernel) (by decide) (by decide +kernel) (fun _ h9 => h9) rfl dX6_through_1 ?_
    refine gI_iload_n hB 1 dX6_through_4 rfl ?_
    refine gI_callV (n9 := 1) (As := [.int p]) (rest := []) hB (k_noteAtNo X.2.1 h c Λ u T W z hC o p (by rw [ez] at hp9; exact hp9)) (gCW.of ggX6_through_X3_at rfl ⟨by decide, by decide, by decide +kernel⟩ ⟨Nat.le_of_ble_eq_true rfl, Nat.le_of_ble_eq_true rfl⟩) (by decide +kernel) (by decide +kernel) (by decide +kernel) (by decide +kernel) hC.2.2.1 (C := RX3) (T := TX3) (N := 4) rfl rfl rfl (Nat.le_of_ble_eq_true rfl) (by first | exact Nat.le_of_ble_eq_true rfl | (dsimp only [gRm]; omega)) (by first | exact Nat.le_of_ble_eq_true rfl | (dsimp only [gRm]; omega)) dX6_through_5 (fun v9 h9 k9 n9 hp => by cases hp.1) (fun E9 h9 k9 n9 hp => ?_)
    obtain ⟨e9, rfl, rfl, rfl⟩ := hp
    cases e9
    exact gI_out hB hE (kPo.err1 hC o (by unfold mThrough; rw [if_neg (fun z9 => hp9 z9.1)]) (by omega) (by omega))

