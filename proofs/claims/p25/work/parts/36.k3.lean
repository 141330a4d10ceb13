set_option maxRecDepth 100000 in
set_option maxHeartbeats 4000000 in
theorem k_noteAt (G : gG) (h : gH) (c : Nat → Nat) (Λ : CL) (u : MS) (T W z : Nat) (hC : cRep G h c Λ u T W z) (o : mOk u T W z) (n : Nat) (hn : n < z) : gMet yX3_at wsX3_at (gRm 4 0 0) G h [.ref (c 2), .int (nI n)] (gRet h (some (.ref (cEl Λ 3 n)))) := by
  refine gMet_of (maxL := 2) (ret := (some (.object "DoorbellChoir$Note"))) (by decide) rfl (Nat.le_of_ble_eq_true rfl) ?_
  intro X hG hnL hB hE
  subst hG
  change gW X h 0 0 0 [(0, .ref (c 2)), (1, .int (nI n))] []
  have hT := o.2.1
  have hW60 := o.2.2.2.1
  have hz200 := o.2.2.2.2.2.1
  have ez := o.2.2.2.2.1
  have eW := o.2.2.1
  have eT := o.1
  have hz3 : z ≤ cLen Λ 3 := hC.2.2.2.2.1.2.2.1
  have hl200 : cLen Λ 3 ≤ 200 := hC.2.2.2.2.1.2.2.2.1
  obtain ⟨md3, g3, hl3, -⟩ := hC.2.2.2.1 3 (by omega)
  obtain ⟨fn, wn, hno, -⟩ := hC.2.2.2.2.2.2.2.2.2.1 n (by omega)
  refine gI_iload_n hB 1 dX3_at_0 rfl ?_
  refine gI_iconst (v := nI 0) hB dX3_at_1 (by decide) ?_
  refine gI_aload_n hB 0 dX3_at_2 rfl ?_
  refine gI_get (v := .int (u.1 12)) hB 2 hC.2.2.1 (C := RX3) (T := TX3) (N := 4) rfl (by decide +kernel) (by decide) (by decide +kernel) (fun _ h9 => h9) rfl dX3_at_3 ?_
  refine gI_iconst (v := nI 1) hB dX3_at_6 (by decide) ?_
  refine gI_isub hB dX3_at_7 ?_
  refine gI_pureS (n9 := 3) (As := [.int (nI n), .int (nI 0), .int ((u.1 12) - (nI 1))]) (rest := []) hB (k_isOutside X.2.1 h (nI n) (nI 0) ((u.1 12) - (nI 1))) (gCW.of ggX3_at_X6_isOutside rfl ⟨by decide, by decide, by decide +kernel⟩ ⟨Nat.le_of_ble_eq_true rfl, Nat.le_of_ble_eq_true rfl⟩) (Or.inr ⟨"DoorbellChoir", by decide +kernel⟩) (by decide +kernel) (by decide +kernel) rfl rfl (Nat.le_of_ble_eq_true rfl) (by first | exact Nat.le_of_ble_eq_true rfl | (dsimp only [gRm]; omega)) (by first | exact Nat.le_of_ble_eq_true rfl | (dsimp only [gRm]; omega)) dX3_at_8 ?_
  refine gI_if_ne hB 25 dX3_at_11 (by decide) (fun z => absurd (gbi_0.mpr (fun z9 => z9 (by rw [ez]; exact mIn_nI (by omega) hn))) z) (fun _ => ?_)
  refine gI_iload_n hB 1 dX3_at_14 rfl ?_
  refine gI_aload_n hB 0 dX3_at_15 rfl ?_
  refine gI_get (v := .ref (cLa Λ 3)) hB 0 hC.2.2.1 (C := RX3) (T := TX3) (N := 4) rfl (by decide +kernel) (by decide) (by decide +kernel) (fun _ h9 => h9) rfl dX3_at_16 ?_
  refine gI_pureV (n9 := 0) (As := []) (rest := [.int (nI n)]) hB (l_size X.2.1 h Λ 3 (hC.2.2.2.1 3 (by omega))) (gCW.of ggX3_at_Jx4a65c_size_8abf5 rfl ⟨by decide, by decide, by decide +kernel⟩ ⟨Nat.le_of_ble_eq_true rfl, Nat.le_of_ble_eq_true rfl⟩) (by decide +kernel) (by decide +kernel) (by decide +kernel) (by decide +kernel) hl3 (C := RJx4a65c) (T := TJx4a65c) (N := 3) rfl rfl rfl (Nat.le_of_ble_eq_true rfl) (by first | exact Nat.le_of_ble_eq_true rfl | (dsimp only [gRm]; omega)) (by first | exact Nat.le_of_ble_eq_true rfl | (dsimp only [gRm]; omega)) dX3_at_19 ?_
  refine gI_icmp_lt hB 33 dX3_at_22 (by decide) (fun _ => ?_) (fun z => absurd ((nI_ltI (by omega) (by omega)).mpr (by omega)) z)
  refine gI_aload_n hB 0 dX3_at_33 rfl ?_
  refine gI_get (v := .ref (cLa Λ 3)) hB 0 hC.2.2.1 (C := RX3) (T := TX3) (N := 4) rfl (by decide +kernel) (by decide) (by decide +kernel) (fun _ h9 => h9) rfl dX3_at_34 ?_
  refine gI_iload_n hB 1 dX3_at_37 rfl ?_
  refine gI_pureV (n9 := 1) (As := [.int (nI n)]) (rest := []) hB (l_get X.2.1 h Λ 3 (hC.2.2.2.1 3 (by omega)) n (by omega)) (gCW.of ggX3_at_Jx4a65c_get_915e3 rfl ⟨by decide, by decide, by decide +kernel⟩ ⟨Nat.le_of_ble_eq_true rfl, Nat.le_of_ble_eq_true rfl⟩) (by decide +kernel) (by decide +kernel) (by decide +kernel) (by decide +kernel) hl3 (C := RJx4a65c) (T := TJx4a65c) (N := 3) rfl rfl rfl (Nat.le_of_ble_eq_true rfl) (by first | exact Nat.le_of_ble_eq_true rfl | (dsimp only [gRm]; omega)) (by first | exact Nat.le_of_ble_eq_true rfl | (dsimp only [gRm]; omega)) dX3_at_38 ?_
  refine gI_cast hB hno (C := RX1) (T := TX1) (N := 7) rfl (by decide +kernel) dX3_at_41 ?_
  refine gI_aret hB hE (Or.inl ⟨_, rfl⟩) (Or.inr ⟨_, rfl⟩) dX3_at_44 ?_
  exact gRet.rfl'

set_option maxRecDepth 100000 in
set_option maxHeartbeats 4000000 in
theorem k_noteAtNo (G : gG) (h : gH) (c : Nat → Nat) (Λ : CL) (u : MS) (T W z : Nat) (hC : cRep G h c Λ u T W z) (o : mOk u T W z) (p : Int32) (hp : ¬ mIn p (nI 0) (nI z - nI 1)) : gMet yX3_at wsX3_at (gRm 4 1 6) G h [.ref (c 2), .int p] (gThr h "java/lang/IndexOutOfBoundsException") := by
  refine gMet_of (maxL := 2) (ret := (some (.object "DoorbellChoir$Note"))) (by decide) rfl (Nat.le_of_ble_eq_true rfl) ?_
  intro X hG hnL hB hE
  subst hG
  change gW X h 0 0 0 [(0, .ref (c 2)), (1, .int p)] []
  have hT := o.2.1
  have hW60 := o.2.2.2.1
  have hz200 := o.2.2.2.2.2.1
  have ez := o.2.2.2.2.1
  have eW := o.2.2.1
  have eT := o.1
  have hz3 : z ≤ cLen Λ 3 := hC.2.2.2.2.1.2.2.1
  have hl200 : cLen Λ 3 ≤ 200 := hC.2.2.2.2.1.2.2.2.1
  obtain ⟨md3, g3, hl3, -⟩ := hC.2.2.2.1 3 (by omega)
  refine gI_iload_n hB 1 dX3_at_0 rfl ?_
  refine gI_iconst (v := nI 0) hB dX3_at_1 (by decide) ?_
  refine gI_aload_n hB 0 dX3_at_2 rfl ?_
  refine gI_get (v := .int (u.1 12)) hB 2 hC.2.2.1 (C := RX3) (T := TX3) (N := 4) rfl (by decide +kernel) (by decide) (by decide +kernel) (fun _ h9 => h9) rfl dX3_at_3 ?_
  refine gI_iconst (v := nI 1) hB dX3_at_6 (by decide) ?_
  refine gI_isub hB dX3_at_7 ?_
  refine gI_pureS (n9 := 3) (As := [.int p, .int (nI 0), .int ((u.1 12) - (nI 1))]) (rest := []) hB (k_isOutside X.2.1 h p (nI 0) ((u.1 12) - (nI 1))) (gCW.of ggX3_at_X6_isOutside rfl ⟨by decide, by decide, by decide +kernel⟩ ⟨Nat.le_of_ble_eq_true rfl, Nat.le_of_ble_eq_true rfl⟩) (Or.inr ⟨"DoorbellChoir", by decide +kernel⟩) (by decide +kernel) (by decide +kernel) rfl rfl (Nat.le_of_ble_eq_true rfl) (by first | exact Nat.le_of_ble_eq_true rfl | (dsimp only [gRm]; omega)) (by first | exact Nat.le_of_ble_eq_true rfl | (dsimp only [gRm]; omega)) dX3_at_8 ?_
  refine gI_if_ne hB 25 dX3_at_11 (by decide) (fun _ => ?_) (fun z => (gbi_0.mp z (by rw [ez]; exact hp)).elim)
  refine gI_throw hB hE (cls := "java/lang/IndexOutOfBoundsException") (names := ["java/lang/RuntimeException", "java/lang/Exception"]) (ik := 34) (ic := 36) (by decide +kernel) (by decide +kernel) (by decide +kernel) (by decide +kernel) (by decide +kernel) (by decide +kernel) (by decide +kernel) dX3_at_25 dX3_at_28 dX3_at_29 dX3_at_32 (Nat.le_of_ble_eq_true rfl) (Nat.le_of_ble_eq_true rfl) (by first | exact Nat.le_of_ble_eq_true rfl | (dsimp only [gRm]; omega)) (by first | exact Nat.le_of_ble_eq_true rfl | (dsimp only [gRm]; omega)) ?_
  exact ⟨rfl, rfl, rfl, rfl⟩

set_option maxRecDepth 100000 in
set_option maxHeartbeats 4000000 in
theorem k_hourNow (G : gG) (h : gH) (c : Nat → Nat) (Λ : CL) (u : MS) (T W z : Nat) (hC : cRep G h c Λ u T W z) (o : mOk u T W z) : gMet yX6_hourNow wsX6_hourNow (gRm 1 0 0) G h [.ref (c 0)] (gRet h (some (.int (mHour u)))) := by
  refine gMet_of (maxL := 1) (ret := (some .int)) (by decide) rfl (Nat.le_of_ble_eq_true rfl) ?_
  intro X hG hnL hB hE
  subst hG
  change gW X h 0 0 0 [(0, .ref (c 0))] []
  have hT := o.2.1
  have hW60 := o.2.2.2.1
  have hz200 := o.2.2.2.2.2.1
  have ez := o.2.2.2.2.1
  have eW := o.2.2.1
  have eT := o.1
  obtain ⟨q9, hq1, hq2, hq3⟩ := o.2.2.2.2.2.2.1
  refine gI_aload_n hB 0 dX6_hourNow_0 rfl ?_
  refine gI_get (v := .int (u.1 2)) hB 4 hC.1 (C := RX6) (T := TX6) (N := 9) rfl (by decide +kernel) (by decide) (by decide +kernel) (fun _ h9 => h9) rfl dX6_hourNow_1 ?_
  refine gI_if_le hB 22 dX6_hourNow_4 (by decide) (fun z => absurd z (by rw [hq3]; exact nI_nle (by omega) (by omega))) (fun _ => ?_)
  refine gI_aload_n hB 0 dX6_hourNow_7 rfl ?_
  refine gI_get (v := .int (u.1 1)) hB 5 hC.1 (C := RX6) (T := TX6) (N := 9) rfl (by decide +kernel) (by decide) (by decide +kernel) (fun _ h9 => h9) rfl dX6_hourNow_8 ?_
  refine gI_aload_n hB 0 dX6_hourNow_11 rfl ?_
  refine gI_get (v := .int (u.1 2)) hB 4 hC.1 (C := RX6) (T := TX6) (N := 9) rfl (by decide +kernel) (by decide) (by decide +kernel) (fun _ h9 => h9) rfl dX6_hourNow_12 ?_
  refine gI_idiv hB dX6_hourNow_15 o.hour ?_
  refine gI_bipush (v := nI 24) hB dX6_hourNow_16 (by decide) ?_
  refine gI_irem hB dX6_hourNow_18 (by decide) ?_
  refine gI_goto hB 23 dX6_hourNow_19 (by decide) ?_
  refine gI_iret hB hE dX6_hourNow_23 ?_
  exact gRet.rfl'

set_option maxRecDepth 100000 in
set_option maxHeartbeats 4000000 in
theorem k_tpart (G : gG) (h : gH) (c : Nat → Nat) (Λ : CL) (u : MS) (T W z : Nat) (hC : cRep G h c Λ u T W z) (o : mOk u T W z) (t : Nat) (ht : t < T) (i : Nat) (hi : i ≤ 5) : gMet yX4_part wsX4_part (gRm 2 0 0) G h [.ref (cEl Λ 0 t), .int (nI i)] (gRet h (some (.int (u.2 0 (7 * t + i))))) := by
  refine gMet_of (maxL := 2) (ret := (some .int)) (by decide) rfl (Nat.le_of_ble_eq_true rfl) ?_
  intro X hG hnL hB hE
  subst hG
  change gW X h 0 0 0 [(0, .ref (cEl Λ 0 t)), (1, .int (nI i))] []
  have hT := o.2.1
  have hW60 := o.2.2.2.1
  have hz200 := o.2.2.2.2.2.1
  have ez := o.2.2.2.2.1
  have eW := o.2.2.1
  have eT := o.1
  obtain ⟨mdt, gt, hlt, -⟩ := hC.2.2.2.1 (4 + t) (by omega)
  have e3 := hC.2.2.2.2.1.2.2.2.2.2 t ht
  refine gI_iload_n hB 1 dX4_part_0 rfl ?_
  rcases (show i = 0 ∨ i = 1 ∨ i = 2 ∨ i = 3 ∨ i = 4 ∨ i = 5 by omega) with rfl | rfl | rfl | rfl | rfl | rfl
  · skip
    refine gI_tableIn hB 36 dX4_part_1 (by decide) (by decide) rfl (by decide) ?_
    refine gI_aload_n hB 0 dX4_part_36 rfl ?_
    refine gI_get (v := .int (u.2 0 (7 * t + 0))) hB 1 (hC.2.2.2.2.2.1 t ht) (C := RX4) (T := TX4) (N := 8) rfl (by decide +kernel) (by decide) (by decide +kernel) (fun _ h9 => h9) rfl dX4_part_37 ?_
    refine gI_iret hB hE dX4_part_40 ?_
    exact gRet.rfl'
  · skip
    refine gI_tableIn hB 41 dX4_part_1 (by decide) (by decide) rfl (by decide) ?_
    refine gI_aload_n hB 0 dX4_part_41 rfl ?_
    refine gI_get (v := .int (u.2 0 (7 * t + 1))) hB 2 (hC.2.2.2.2.2.1 t ht) (C := RX4) (T := TX4) (N := 8) rfl (by decide +kernel) (by decide) (by decide +kernel) (fun _ h9 => h9) rfl dX4_part_42 ?_
    refine gI_iret hB hE dX4_part_45 ?_
    exact gRet.rfl'
  · skip
    refine gI_tableIn hB 46 dX4_part_1 (by decide) (by decide) rfl (by decide) ?_
    refine gI_aload_n hB 0 dX4_part_46 rfl ?_
    refine gI_get (v := .int (u.2 0 (7 * t + 2))) hB 4 (hC.2.2.2.2.2.1 t ht) (C := RX4) (T := TX4) (N := 8) rfl (by decide +kernel) (by decide) (by decide +kernel) (fun _ h9 => h9) rfl dX4_part_47 ?_
    refine gI_iret hB hE dX4_part_50 ?_
    exact gRet.rfl'
  · skip
    refine gI_tableIn hB 51 dX4_part_1 (by decide) (by decide) rfl (by decide) ?_
    refine gI_aload_n hB 0 dX4_part_51 rfl ?_
    refine gI_get (v := .ref (cLa Λ (4 + t))) hB 3 (hC.2.2.2.2.2.1 t ht) (C := RX4) (T := TX4) (N := 8) rfl (by decide +kernel) (by decide) (by decide +kernel) (fun _ h9 => h9) rfl dX4_part_52 ?_
    refine gI_pureV (n9 := 0) (As := []) (rest := []) hB (l_size X.2.1 h Λ (4 + t) (hC.2.2.2.1 (4 + t) (by omega))) (gCW.of ggX4_part_Jx4a65c_size_8abf5 rfl ⟨by decide, by decide, by decide +kernel⟩ ⟨Nat.le_of_ble_eq_true rfl, Nat.le_of_ble_eq_true rfl⟩) (by decide +kernel) (by decide +kernel) (by decide +kernel) (by decide +kernel) hlt (C := RJx4a65c) (T := TJx4a65c) (N := 3) rfl rfl rfl (Nat.le_of_ble_eq_true rfl) (by first | exact Nat.le_of_ble_eq_true rfl | (dsimp only [gRm]; omega)) (by first | exact Nat.le_of_ble_eq_true rfl | (dsimp only [gRm]; omega)) dX4_part_55 ?_
    refine gI_iret hB hE dX4_part_58 ?_
    exact ⟨by rw [e3], rfl, rfl, rfl⟩
  · skip
    refine gI_tableIn hB 59 dX4_part_1 (by decide) (by decide) rfl (by decide) ?_
    refine gI_aload_n hB 0 dX4_part_59 rfl ?_
    refine gI_get (v := .int (u.2 0 (7 * t + 4))) hB 5 (hC.2.2.2.2.2.1 t ht) (C := RX4) (T := TX4) (N := 8) rfl (by decide +kernel) (by decide) (by decide +kernel) (fun _ h9 => h9) rfl dX4_part_60 ?_
    refine gI_iret hB hE dX4_part_63 ?_
    exact gRet.rfl'
  · skip
    refine gI_tableOut hB 64 dX4_part_1 (by decide) (by decide) ?_
    refine gI_aload_n hB 0 dX4_part_64 rfl ?_
    refine gI_get (v := .int (u.2 0 (7 * t + 5))) hB 6 (hC.2.2.2.2.2.1 t ht) (C := RX4) (T := TX4) (N := 8) rfl (by decide +kernel) (by decide) (by decide +kernel) (fun _ h9 => h9) rfl dX4_part_65 ?_
    refine gI_iret hB hE dX4_part_68 ?_
    exact gRet.rfl'

set_option maxRecDepth 100000 in
set_option maxHeartbeats 4000000 in
theorem k_cpart (G : gG) (h : gH) (c : Nat → Nat) (Λ : CL) (u : MS) (T W z : Nat) (hC : cRep G h c Λ u T W z) (o : mOk u T W z) (i : Nat) (hi : i ≤ 8) : gMet yX6_part wsX6_part (gRm 2 0 0) G h [.ref (c 0), .int (nI i)] (gRet h (some (.int (mCnt u i)))) := by
  refine gMet_of (maxL := 2) (ret := (some .int)) (by decide) rfl (Nat.le_of_ble_eq_true rfl) ?_
  intro X hG hnL hB hE
  subst hG
  change gW X h 0 0 0 [(0, .ref (c 0)), (1, .int (nI i))] []
  have hT := o.2.1
  have hW60 := o.2.2.2.1
  have hz200 := o.2.2.2.2.2.1
  have ez := o.2.2.2.2.1
  have eW := o.2.2.1
  have eT := o.1
  obtain ⟨md0, g0, hl0, -⟩ := hC.2.2.2.1 0 (by omega)
  obtain ⟨md1, g1, hl1, -⟩ := hC.2.2.2.1 1 (by omega)
  refine gI_iload_n hB 1 dX6_part_0 rfl ?_
  rcases (show i = 0 ∨ i = 1 ∨ i = 2 ∨ i = 3 ∨ i = 4 ∨ i = 5 ∨ i = 6 ∨ i = 7 ∨ i = 8 by omega) with rfl | rfl | rfl | rfl | rfl | rfl | rfl | rfl | rfl
  · skip
    refine gI_tableIn hB 48 dX6_part_1 (by decide) (by decide) rfl (by decide) ?_
    refine gI_aload_n hB 0 dX6_part_48 rfl ?_
    refine gI_get (v := .int (u.1 1)) hB 5 hC.1 (C := RX6) (T := TX6) (N := 9) rfl (by decide +kernel) (by decide) (by decide +kernel) (fun _ h9 => h9) rfl dX6_part_49 ?_
    refine gI_iret hB hE dX6_part_52 ?_
    exact gRet.rfl'
  · skip
    refine gI_tableIn hB 53 dX6_part_1 (by decide) (by decide) rfl (by decide) ?_
    refine gI_aload_n hB 0 dX6_part_53 rfl ?_
    refine gI_pureV (n9 := 0) (As := []) (rest := []) hB (k_hourNow X.2.1 h c Λ u T W z hC o) (gCW.of ggX6_part_X6_hourNow rfl ⟨by decide, by decide, by decide +kernel⟩ ⟨Nat.le_of_ble_eq_true rfl, Nat.le_of_ble_eq_true rfl⟩) (by decide +kernel) (by decide +kernel) (by decide +kernel) (by decide +kernel) hC.1 (C := RX6) (T := TX6) (N := 9) rfl rfl rfl (Nat.le_of_ble_eq_true rfl) (by first | exact Nat.le_of_ble_eq_true rfl | (dsimp only [gRm]; omega)) (by first | exact Nat.le_of_ble_eq_true rfl | (dsimp only [gRm]; omega)) dX6_part_54 ?_
    refine gI_iret hB hE dX6_part_57 ?_
    exact gRet.rfl'
  · skip
    refine gI_tableIn hB 58 dX6_part_1 (by decide) (by decide) rfl (by decide) ?_
    refine gI_aload_n hB 0 dX6_part_58 rfl ?_
    refine gI_get (v := .ref (cLa Λ 0)) hB 0 hC.1 (C := RX6) (T := TX6) (N := 9) rfl (by decide +kernel) (by decide) (by decide +kernel) (fun _ h9 => h9) rfl dX6_part_59 ?_
    refine gI_pureV (n9 := 0) (As := []) (rest := []) hB (l_size X.2.1 h Λ 0 (hC.2.2.2.1 0 (by omega))) (gCW.of ggX6_part_Jx4a65c_size_8abf5 rfl ⟨by decide, by decide, by decide +kernel⟩ ⟨Nat.le_of_ble_eq_true rfl, Nat.le_of_ble_eq_true rfl⟩) (by decide +kernel) (by decide +kernel) (by decide +kernel) (by decide +kernel) hl0 (C := RJx4a65c) (T := TJx4a65c) (N := 3) rfl rfl rfl (Nat.le_of_ble_eq_true rfl) (by first | exact Nat.le_of_ble_eq_true rfl | (dsimp only [gRm]; omega)) (by first | exact Nat.le_of_ble_eq_true rfl | (dsimp only [gRm]; omega)) dX6_part_62 ?_
    refine gI_topi hB (y := nI T) (congrArg nI hC.2.2.2.2.1.1) ?_
    refine gI_iret hB hE dX6_part_65 ?_
    exact ⟨by rw [show mCnt u 2 = nI T from eT], rfl, rfl, rfl⟩
  · skip
    refine gI_tableIn hB 66 dX6_part_1 (by decide) (by decide) rfl (by decide) ?_
    refine gI_aload_n hB 0 dX6_part_66 rfl ?_
    refine gI_get (v := .ref (c 1)) hB 1 hC.1 (C := RX6) (T := TX6) (N := 9) rfl (by decide +kernel) (by decide) (by decide +kernel) (fun _ h9 => h9) rfl dX6_part_67 ?_
    refine gI_get (v := .ref (cLa Λ 1)) hB 0 hC.2.1.1 (C := RX5) (T := TX5) (N := 2) rfl (by decide +kernel) (by decide) (by decide +kernel) (fun _ h9 => h9) rfl dX6_part_70 ?_
    refine gI_pureV (n9 := 0) (As := []) (rest := []) hB (l_size X.2.1 h Λ 1 (hC.2.2.2.1 1 (by omega))) (gCW.of ggX6_part_Jx4a65c_size_8abf5 rfl ⟨by decide, by decide, by decide +kernel⟩ ⟨Nat.le_of_ble_eq_true rfl, Nat.le_of_ble_eq_true rfl⟩) (by decide +kernel) (by decide +kernel) (by decide +kernel) (by decide +kernel) hl1 (C := RJx4a65c) (T := TJx4a65c) (N := 3) rfl rfl rfl (Nat.le_of_ble_eq_true rfl) (by first | exact Nat.le_of_ble_eq_true rfl | (dsimp only [gRm]; omega)) (by first | exact Nat.le_of_ble_eq_true rfl | (dsimp only [gRm]; omega)) dX6_part_73 ?_
    refine gI_topi hB (y := nI W) (congrArg nI hC.2.2.2.2.1.2.1) ?_
    refine gI_iret hB hE dX6_part_76 ?_
    exact ⟨by rw [show mCnt u 3 = nI W from eW], rfl, rfl, rfl⟩
  · skip
    refine gI_tableIn hB 77 dX6_part_1 (by decide) (by decide) rfl (by decide) ?_
    refine gI_aload_n hB 0 dX6_part_77 rfl ?_
    refine gI_get (v := .int (u.1 8)) hB 6 hC.1 (C := RX6) (T := TX6) (N := 9) rfl (by decide +kernel) (by decide) (by decide +kernel) (fun _ h9 => h9) rfl dX6_part_78 ?_
    refine gI_iret hB hE dX6_part_81 ?_
    exact gRet.rfl'
  · skip
    refine gI_tableIn hB 82 dX6_part_1 (by decide) (by decide) rfl (by decide) ?_
    refine gI_aload_n hB 0 dX6_part_82 rfl ?_
    refine gI_get (v := .int (u.1 9)) hB 7 hC.1 (C := RX6) (T := TX6) (N := 9) rfl (by decide +kernel) (by decide) (by decide +kernel) (fun _ h9 => h9) rfl dX6_part_83 ?_
    refine gI_iret hB hE dX6_part_86 ?_
    exact gRet.rfl'
  · skip
    refine gI_tableIn hB 87 dX6_part_1 (by decide) (by decide) rfl (by decide) ?_
    refine gI_aload_n hB 0 dX6_part_87 rfl ?_
    refine gI_get (v := .ref (c 2)) hB 2 hC.1 (C := RX6) (T := TX6) (N := 9) rfl (by decide +kernel) (by decide) (by decide +kernel) (fun _ h9 => h9) rfl dX6_part_88 ?_
    refine gI_get (v := .int (u.1 10)) hB 3 hC.2.2.1 (C := RX3) (T := TX3) (N := 4) rfl (by decide +kernel) (by decide) (by decide +kernel) (fun _ h9 => h9) rfl dX6_part_91 ?_
    refine gI_iret hB hE dX6_part_94 ?_
    exact gRet.rfl'
  · skip
    refine gI_tableIn hB 95 dX6_part_1 (by decide) (by decide) rfl (by decide) ?_
    refine gI_aload_n hB 0 dX6_part_95 rfl ?_
    refine gI_get (v := .int (u.1 11)) hB 8 hC.1 (C := RX6) (T := TX6) (N := 9) rfl (by decide +kernel) (by decide) (by decide +kernel) (fun _ h9 => h9) rfl dX6_part_96 ?_
    refine gI_iret hB hE dX6_part_99 ?_
    exact gRet.rfl'
  · skip
    refine gI_tableOut hB 100 dX6_part_1 (by decide) (by decide) ?_
    refine gI_aload_n hB 0 dX6_part_100 rfl ?_
    refine gI_get (v := .int (u.1 2)) hB 4 hC.1 (C := RX6) (T := TX6) (N := 9) rfl (by decide +kernel) (by decide) (by decide +kernel) (fun _ h9 => h9) rfl dX6_part_101 ?_
    refine gI_iret hB hE dX6_part_104 ?_
    exact gRet.rfl'

set_option maxRecDepth 100000 in
set_option maxHeartbeats 4000000 in
theorem k_fitting (G : gG) (h : gH) (c : Nat → Nat) (Λ : CL) (u : MS) (T W z : Nat) (hC : cRep G h c Λ u T W z) (o : mOk u T W z) (t : Nat) (ht : t < T) (sort hour : Int32) : gMet yX4_fittingHabit wsX4_fittingHabit (gRm 4 0 0) G h [.ref (cEl Λ 0 t), .int sort, .int hour] (gRet h (some (.int (mFit u t sort hour)))) := by
  refine gMet_of (maxL := 5) (ret := (some .int)) (by decide) rfl (Nat.le_of_ble_eq_true rfl) ?_
  intro X hG hnL hB hE
  subst hG
  change gW X h 0 0 0 [(0, .ref (cEl Λ 0 t)), (1, .int sort), (2, .int hour)] []
  have hT := o.2.1
  have hW60 := o.2.2.2.1
  have hz200 := o.2.2.2.2.2.1
  have ez := o.2.2.2.2.1
  have eW := o.2.2.1
  have eT := o.1
  obtain ⟨hm8, emm⟩ := hC.many o ht
  obtain ⟨mdt, gt, hlt, -⟩ := hC.2.2.2.1 (4 + t) (by omega)
  obtain ⟨m, em⟩ : ∃ m, m = cLen Λ (4 + t) := ⟨_, rfl⟩
  rw [← em] at hm8 emm
  refine gI_iconst (v := nI 0) hB dX4_fittingHabit_0 (by decide) ?_
  refine gI_istore_n hB ([(3, .int (nI 0)), (0, .ref (cEl Λ 0 t)), (1, .int sort), (2, .int hour)]) hnL dX4_fittingHabit_1 (by decide) rfl ?_
  have lp : ∀ (r_lp : Nat) (i : Nat), m + 1 ≤ i + r_lp → i ≤ m → mFitL u t sort hour (m - i) i = mFit u t sort hour → gW X h 0 0 2 [(3, .int (nI i)), (0, .ref (cEl Λ 0 t)), (1, .int sort), (2, .int hour)] [] := by
    intro r_lp
    induction r_lp with
    | zero => intro i hfu hi hinv; exact absurd hfu (by omega)
    | succ r_lp ih_lp =>
      intro i hfu hi hinv
      refine gI_iload_n hB 0 dX4_fittingHabit_2 rfl ?_
      refine gI_aload_n hB 1 dX4_fittingHabit_3 rfl ?_
      refine gI_get (v := .ref (cLa Λ (4 + t))) hB 3 (hC.2.2.2.2.2.1 t ht) (C := RX4) (T := TX4) (N := 8) rfl (by decide +kernel) (by decide) (by decide +kernel) (fun _ h9 => h9) rfl dX4_fittingHabit_4 ?_
      refine gI_pureV (n9 := 0) (As := []) (rest := [.int (nI i)]) hB (l_size X.2.1 h Λ (4 + t) (hC.2.2.2.1 (4 + t) (by omega))) (gCW.of ggX4_fittingHabit_Jx4a65c_size_8abf5 rfl ⟨by decide, by decide, by decide +kernel⟩ ⟨Nat.le_of_ble_eq_true rfl, Nat.le_of_ble_eq_true rfl⟩) (by decide +kernel) (by decide +kernel) (by decide +kernel) (by decide +kernel) hlt (C := RJx4a65c) (T := TJx4a65c) (N := 3) rfl rfl rfl (Nat.le_of_ble_eq_true rfl) (by first | exact Nat.le_of_ble_eq_true rfl | (dsimp only [gRm]; omega)) (by first | exact Nat.le_of_ble_eq_true rfl | (dsimp only [gRm]; omega)) dX4_fittingHabit_7 ?_
      refine gI_icmp_ge hB 64 dX4_fittingHabit_10 (by decide) (fun c10_1 => ?_) (fun c10_1 => ?_)
      · skip
        have c10_1 := (nI_leI (by omega) (by omega)).mp c10_1
        refine gI_iconst (v := (-1)) hB dX4_fittingHabit_64 (by decide) ?_
        refine gI_iret hB hE dX4_fittingHabit_65 ?_
        exact ⟨by rw [← hinv, show m - i = 0 by omega]; rfl, rfl, rfl, rfl⟩
      · skip
        have c10_1 := mt (nI_leI (by omega) (by omega)).mpr c10_1
        refine gI_aload_n hB 1 dX4_fittingHabit_13 rfl ?_
        refine gI_get (v := .ref (cLa Λ (4 + t))) hB 3 (hC.2.2.2.2.2.1 t ht) (C := RX4) (T := TX4) (N := 8) rfl (by decide +kernel) (by decide) (by decide +kernel) (fun _ h9 => h9) rfl dX4_fittingHabit_14 ?_
        refine gI_iload_n hB 0 dX4_fittingHabit_17 rfl ?_
        refine gI_pureV (n9 := 1) (As := [.int (nI i)]) (rest := []) hB (l_get X.2.1 h Λ (4 + t) (hC.2.2.2.1 (4 + t) (by omega)) i (by omega)) (gCW.of ggX4_fittingHabit_Jx4a65c_get_915e3 rfl ⟨by decide, by decide, by decide +kernel⟩ ⟨Nat.le_of_ble_eq_true rfl, Nat.le_of_ble_eq_true rfl⟩) (by decide +kernel) (by decide +kernel) (by decide +kernel) (by decide +kernel) hlt (C := RJx4a65c) (T := TJx4a65c) (N := 3) rfl rfl rfl (Nat.le_of_ble_eq_true rfl) (by first | exact Nat.le_of_ble_eq_true rfl | (dsimp only [gRm]; omega)) (by first | exact Nat.le_of_ble_eq_true rfl | (dsimp only [gRm]; omega)) dX4_fittingHabit_18 ?_
        refine gI_cast hB (hC.2.2.2.2.2.2.1 t i ht (by omega)) (C := RX0) (T := TX0) (N := 9) rfl (by decide +kernel) dX4_fittingHabit_21 ?_
        refine gI_astore hB ([(4, .ref (cEl Λ (4 + t) i)), (3, .int (nI i)), (0, .ref (cEl Λ 0 t)), (1, .int sort), (2, .int hour)]) hnL dX4_fittingHabit_24 (by decide) rfl ?_
        refine gI_aload hB 0 dX4_fittingHabit_26 rfl ?_
        refine gI_iload_n hB 4 dX4_fittingHabit_28 rfl ?_
        refine gI_pureV (n9 := 1) (As := [.int hour]) (rest := []) hB (k_holdsAt X.2.1 h (cEl Λ (4 + t) i) (mRow (u.2 1) (9 * (8 * t + i))) (hC.2.2.2.2.2.2.1 t i ht (by omega)) hour) (gCW.of ggX4_fittingHabit_X0_holdsAt rfl ⟨by decide, by decide, by decide +kernel⟩ ⟨Nat.le_of_ble_eq_true rfl, Nat.le_of_ble_eq_true rfl⟩) (by decide +kernel) (by decide +kernel) (by decide +kernel) (by decide +kernel) (hC.2.2.2.2.2.2.1 t i ht (by omega)) (C := RX0) (T := TX0) (N := 9) rfl rfl rfl (Nat.le_of_ble_eq_true rfl) (by first | exact Nat.le_of_ble_eq_true rfl | (dsimp only [gRm]; omega)) (by first | exact Nat.le_of_ble_eq_true rfl | (dsimp only [gRm]; omega)) dX4_fittingHabit_29 ?_
        refine gI_if_eq hB 58 dX4_fittingHabit_32 (by decide) (fun c32_2 => ?_) (fun c32_2 => ?_)
        · skip
          have c32_2 := gbi_0.mp c32_2
          refine gI_iinc hB 1 ([(3, .int (nI (i + 1))), (4, .ref (cEl Λ (4 + t) i)), (0, .ref (cEl Λ 0 t)), (1, .int sort), (2, .int hour)]) hnL dX4_fittingHabit_58 rfl (nI_1 (i)) (by decide) rfl ?_
          refine gI_goto hB 2 dX4_fittingHabit_61 (by decide) ?_
          refine gI_loc [0, 2, 3, 4] rfl ?_
          exact ih_lp (i + 1) (by omega) (by omega) (by rw [show m - i = (m - (i + 1)) + 1 by omega, mFitL, if_neg (fun z9 => c32_2 z9.1)] at hinv; exact hinv)
        · skip
          have c32_2 := gbi_n0 c32_2
          refine gI_aload hB 0 dX4_fittingHabit_35 rfl ?_
          refine gI_iload_n hB 3 dX4_fittingHabit_37 rfl ?_
          refine gI_pureV (n9 := 1) (As := [.int sort]) (rest := []) hB (k_isFor X.2.1 h (cEl Λ (4 + t) i) (mRow (u.2 1) (9 * (8 * t + i))) (hC.2.2.2.2.2.2.1 t i ht (by omega)) sort) (gCW.of ggX4_fittingHabit_X0_isFor rfl ⟨by decide, by decide, by decide +kernel⟩ ⟨Nat.le_of_ble_eq_true rfl, Nat.le_of_ble_eq_true rfl⟩) (by decide +kernel) (by decide +kernel) (by decide +kernel) (by decide +kernel) (hC.2.2.2.2.2.2.1 t i ht (by omega)) (C := RX0) (T := TX0) (N := 9) rfl rfl rfl (Nat.le_of_ble_eq_true rfl) (by first | exact Nat.le_of_ble_eq_true rfl | (dsimp only [gRm]; omega)) (by first | exact Nat.le_of_ble_eq_true rfl | (dsimp only [gRm]; omega)) dX4_fittingHabit_38 ?_
          refine gI_if_eq hB 58 dX4_fittingHabit_41 (by decide) (fun c41_3 => ?_) (fun c41_3 => ?_)
          · skip
            have c41_3 := gbi_0.mp c41_3
            refine gI_iinc hB 1 ([(3, .int (nI (i + 1))), (4, .ref (cEl Λ (4 + t) i)), (0, .ref (cEl Λ 0 t)), (1, .int sort), (2, .int hour)]) hnL dX4_fittingHabit_58 rfl (nI_1 (i)) (by decide) rfl ?_
            refine gI_goto hB 2 dX4_fittingHabit_61 (by decide) ?_
            refine gI_loc [0, 2, 3, 4] rfl ?_
            exact ih_lp (i + 1) (by omega) (by omega) (by rw [show m - i = (m - (i + 1)) + 1 by omega, mFitL, if_neg (fun z9 => c41_3 z9.2.1)] at hinv; exact hinv)
          · skip
            have c41_3 := gbi_n0 c41_3
            refine gI_aload_n hB 2 dX4_fittingHabit_44 rfl ?_
            refine gI_get (v := .int (u.2 0 (7 * t + 2))) hB 4 (hC.2.2.2.2.2.1 t ht) (C := RX4) (T := TX4) (N := 8) rfl (by decide +kernel) (by decide) (by decide +kernel) (fun _ h9 => h9) rfl dX4_fittingHabit_45 ?_
            refine gI_aload hB 0 dX4_fittingHabit_48 rfl ?_
            refine gI_get (v := .int (u.2 1 (9 * (8 * t + i) + 3))) hB 3 (hC.2.2.2.2.2.2.1 t i ht (by omega)) (C := RX0) (T := TX0) (N := 9) rfl (by decide +kernel) (by decide) (by decide +kernel) (fun _ h9 => h9) rfl dX4_fittingHabit_50 ?_
            refine gI_icmp_lt hB 58 dX4_fittingHabit_53 (by decide) (fun c53_4 => ?_) (fun c53_4 => ?_)
            · skip
              refine gI_iinc hB 1 ([(3, .int (nI (i + 1))), (4, .ref (cEl Λ (4 + t) i)), (0, .ref (cEl Λ 0 t)), (1, .int sort), (2, .int hour)]) hnL dX4_fittingHabit_58 rfl (nI_1 (i)) (by decide) rfl ?_
              refine gI_goto hB 2 dX4_fittingHabit_61 (by decide) ?_
              refine gI_loc [0, 2, 3, 4] rfl ?_
              exact ih_lp (i + 1) (by omega) (by omega) (by rw [show m - i = (m - (i + 1)) + 1 by omega, mFitL, if_neg (fun z9 => absurd c53_4 (Int32.not_lt.mpr z9.2.2))] at hinv; exact hinv)
            · skip
              refine gI_iload_n hB 1 dX4_fittingHabit_56 rfl ?_
              refine gI_iret hB hE dX4_fittingHabit_57 ?_
              exact ⟨by rw [← hinv, show m - i = (m - (i + 1)) + 1 by omega, mFitL, if_pos ⟨c32_2, c41_3, Int32.not_lt.mp c53_4⟩], rfl, rfl, rfl⟩
  refine gI_loc [0, 1, 2, 3] rfl ?_
  exact lp (m + 1) 0 (by omega) (by omega) (by unfold mFit; rw [emm]; rfl)

theorem bit_beside {t : Nat} (h : t < 16) : (mBit (nI t) >>> (nI 1 &&& 31) ||| mBit (nI t) <<< (nI 1 &&& 31)) = (mBit (nI (t + 1)) ||| mBit (nI t) >>> (nI 1 &&& 31)) := by
  have key : ∀ t : Fin 16, (mBit (nI t.val) >>> (nI 1 &&& 31) ||| mBit (nI t.val) <<< (nI 1 &&& 31)) = (mBit (nI (t.val + 1)) ||| mBit (nI t.val) >>> (nI 1 &&& 31)) := by
    unfold mBit
    decide +kernel
  exact key ⟨t, h⟩
theorem nI_neq {a b : Nat} (ha : a < 100) (hb : b < 100) (h : a ≠ b) : ¬ nI a = nI b := fun z => h ((nI_eq (by omega) (by omega)).mp z)

set_option maxRecDepth 100000 in
set_option maxHeartbeats 4000000 in
theorem k_rungByHabit (G : gG) (h : gH) (c : Nat → Nat) (Λ : CL) (u : MS) (T W z : Nat) (hC : cRep G h c Λ u T W z) (o : mOk u T W z) (t j : Nat) (ht : t < T) (hj : j < cLen Λ (4 + t)) : gMet yX6_rungByHabit wsX6_rungByHabit (gRm 2 0 0) G h [.ref (c 0), .ref (cEl Λ (4 + t) j), .int (nI t)] (gRet h (some (.int (mRung (u.2 1) (9 * (8 * t + j)) T t)))) := by
  refine gMet_of (maxL := 5) (ret := (some .int)) (by decide) rfl (Nat.le_of_ble_eq_true rfl) ?_
  intro X hG hnL hB hE
  subst hG
  change gW X h 0 0 0 [(0, .ref (c 0)), (1, .ref (cEl Λ (4 + t) j)), (2, .int (nI t))] []
  have hT := o.2.1
  have hW60 := o.2.2.2.1
  have hz200 := o.2.2.2.2.2.1
  have ez := o.2.2.2.2.1
  have eW := o.2.2.1
  have eT := o.1
  have hmm := hC.many o ht
  obtain ⟨md0, g0, hl0, -⟩ := hC.2.2.2.1 0 (by omega)
  obtain ⟨m, m1, m2, -, -, -, hok⟩ := o.2.2.2.2.2.2.2.1 t ht
  obtain ⟨⟨x, hx, ex⟩, -⟩ := hok j (by have := mMany_of m1 m2; omega)
  refine gI_iconst (v := nI 1) hB dX6_rungByHabit_0 (by decide) ?_
  refine gI_aload_n hB 0 dX6_rungByHabit_1 rfl ?_
  refine gI_get (v := .ref (cLa Λ 0)) hB 0 hC.1 (C := RX6) (T := TX6) (N := 9) rfl (by decide +kernel) (by decide) (by decide +kernel) (fun _ h9 => h9) rfl dX6_rungByHabit_2 ?_
  refine gI_pureV (n9 := 0) (As := []) (rest := [.int (nI 1)]) hB (l_size X.2.1 h Λ 0 (hC.2.2.2.1 0 (by omega))) (gCW.of ggX6_rungByHabit_Jx4a65c_size_8abf5 rfl ⟨by decide, by decide, by decide +kernel⟩ ⟨Nat.le_of_ble_eq_true rfl, Nat.le_of_ble_eq_true rfl⟩) (by decide +kernel) (by decide +kernel) (by decide +kernel) (by decide +kernel) hl0 (C := RJx4a65c) (T := TJx4a65c) (N := 3) rfl rfl rfl (Nat.le_of_ble_eq_true rfl) (by first | exact Nat.le_of_ble_eq_true rfl | (dsimp only [gRm]; omega)) (by first | exact Nat.le_of_ble_eq_true rfl | (dsimp only [gRm]; omega)) dX6_rungByHabit_5 ?_
  refine gI_topi hB (y := nI T) (congrArg nI hC.2.2.2.2.1.1) ?_
  refine gI_ishl hB dX6_rungByHabit_8 ?_
  refine gI_iconst (v := nI 1) hB dX6_rungByHabit_9 (by decide) ?_
  refine gI_isub hB dX6_rungByHabit_10 ?_
  refine gI_istore_n hB ([(3, .int (((nI 1) <<< ((nI T) &&& 31)) - (nI 1))), (0, .ref (c 0)), (1, .ref (cEl Λ (4 + t) j)), (2, .int (nI t))]) hnL dX6_rungByHabit_11 (by decide) rfl ?_
  refine gI_iconst (v := nI 1) hB dX6_rungByHabit_12 (by decide) ?_
  refine gI_iload_n hB 3 dX6_rungByHabit_13 rfl ?_
  refine gI_ishl hB dX6_rungByHabit_14 ?_
  refine gI_istore hB ([(4, .int ((nI 1) <<< ((nI t) &&& 31))), (3, .int (((nI 1) <<< ((nI T) &&& 31)) - (nI 1))), (0, .ref (c 0)), (1, .ref (cEl Λ (4 + t) j)), (2, .int (nI t))]) hnL dX6_rungByHabit_15 (by decide) rfl ?_
  refine gI_aload_n hB 3 dX6_rungByHabit_17 rfl ?_
  refine gI_get (v := .int (u.2 1 (9 * (8 * t + j) + 4))) hB 4 (hC.2.2.2.2.2.2.1 t j ht hj) (C := RX0) (T := TX0) (N := 9) rfl (by decide +kernel) (by decide) (by decide +kernel) (fun _ h9 => h9) rfl dX6_rungByHabit_18 ?_
  refine gI_topi hB (y := nI x) ex ?_
  rcases (show x = 0 ∨ x = 1 ∨ x = 2 ∨ x = 3 ∨ x = 4 ∨ x = 5 by omega) with rfl | rfl | rfl | rfl | rfl | rfl
  · skip
    refine gI_tableOut hB 78 dX6_rungByHabit_21 (by decide) (by decide) ?_
    refine gI_iconst (v := nI 0) hB dX6_rungByHabit_78 (by decide) ?_
    refine gI_iret hB hE dX6_rungByHabit_79 ?_
    exact ⟨by rw [mRung, if_neg (by rw [ex]; exact fun z9 => z9.elim (nI_neq (a := 0) (b := 2) (by omega) (by omega) (by omega)) (nI_neq (a := 0) (b := 4) (by omega) (by omega) (by omega))), if_neg (by rw [ex]; exact (nI_neq (a := 0) (b := 3) (by omega) (by omega) (by omega))), if_neg (by rw [ex]; exact (nI_neq (a := 0) (b := 5) (by omega) (by omega) (by omega)))]; rfl, rfl, rfl, rfl⟩
  · skip
    refine gI_tableOut hB 78 dX6_rungByHabit_21 (by decide) (by decide) ?_
    refine gI_iconst (v := nI 0) hB dX6_rungByHabit_78 (by decide) ?_
    refine gI_iret hB hE dX6_rungByHabit_79 ?_
    exact ⟨by rw [mRung, if_neg (by rw [ex]; exact fun z9 => z9.elim (nI_neq (a := 1) (b := 2) (by omega) (by omega) (by omega)) (nI_neq (a := 1) (b := 4) (by omega) (by omega) (by omega))), if_neg (by rw [ex]; exact (nI_neq (a := 1) (b := 3) (by omega) (by omega) (by omega))), if_neg (by rw [ex]; exact (nI_neq (a := 1) (b := 5) (by omega) (by omega) (by omega)))]; rfl, rfl, rfl, rfl⟩
  · skip
    refine gI_tableIn hB 52 dX6_rungByHabit_21 (by decide) (by decide) rfl (by decide) ?_
    refine gI_iconst (v := nI 1) hB dX6_rungByHabit_52 (by decide) ?_
    refine gI_aload_n hB 3 dX6_rungByHabit_53 rfl ?_
    refine gI_get (v := .int (u.2 1 (9 * (8 * t + j) + 5))) hB 5 (hC.2.2.2.2.2.2.1 t j ht hj) (C := RX0) (T := TX0) (N := 9) rfl (by decide +kernel) (by decide) (by decide +kernel) (fun _ h9 => h9) rfl dX6_rungByHabit_54 ?_
    refine gI_ishl hB dX6_rungByHabit_57 ?_
    refine gI_iret hB hE dX6_rungByHabit_58 ?_
    exact ⟨by rw [mRung, if_pos (Or.inl ex)]; rfl, rfl, rfl, rfl⟩
  · skip
    refine gI_tableIn hB 59 dX6_rungByHabit_21 (by decide) (by decide) rfl (by decide) ?_
    refine gI_iload hB 0 dX6_rungByHabit_59 rfl ?_
    refine gI_iconst (v := nI 1) hB dX6_rungByHabit_61 (by decide) ?_
    refine gI_ishr hB dX6_rungByHabit_62 ?_
    refine gI_iload hB 0 dX6_rungByHabit_63 rfl ?_
    refine gI_iconst (v := nI 1) hB dX6_rungByHabit_65 (by decide) ?_
    refine gI_ishl hB dX6_rungByHabit_66 ?_
    refine gI_ior hB dX6_rungByHabit_67 ?_
    refine gI_iload_n hB 1 dX6_rungByHabit_68 rfl ?_
    refine gI_iand hB dX6_rungByHabit_69 ?_
    refine gI_iret hB hE dX6_rungByHabit_70 ?_
    exact ⟨by rw [mRung, if_neg (by rw [ex]; exact fun z9 => z9.elim (nI_neq (a := 3) (b := 2) (by omega) (by omega) (by omega)) (nI_neq (a := 3) (b := 4) (by omega) (by omega) (by omega))), if_pos ex, ← bit_beside (by omega)]; rfl, rfl, rfl, rfl⟩
  · skip
    refine gI_tableIn hB 52 dX6_rungByHabit_21 (by decide) (by decide) rfl (by decide) ?_
    refine gI_iconst (v := nI 1) hB dX6_rungByHabit_52 (by decide) ?_
    refine gI_aload_n hB 3 dX6_rungByHabit_53 rfl ?_
    refine gI_get (v := .int (u.2 1 (9 * (8 * t + j) + 5))) hB 5 (hC.2.2.2.2.2.2.1 t j ht hj) (C := RX0) (T := TX0) (N := 9) rfl (by decide +kernel) (by decide) (by decide +kernel) (fun _ h9 => h9) rfl dX6_rungByHabit_54 ?_
    refine gI_ishl hB dX6_rungByHabit_57 ?_
    refine gI_iret hB hE dX6_rungByHabit_58 ?_
    exact ⟨by rw [mRung, if_pos (Or.inr ex)]; rfl, rfl, rfl, rfl⟩
  · skip
    refine gI_tableIn hB 71 dX6_rungByHabit_21 (by decide) (by decide) rfl (by decide) ?_
    refine gI_iload_n hB 1 dX6_rungByHabit_71 rfl ?_
    refine gI_iload hB 0 dX6_rungByHabit_72 rfl ?_
    refine gI_iconst (v := (-1)) hB dX6_rungByHabit_74 (by decide) ?_
    refine gI_ixor hB dX6_rungByHabit_75 ?_
    refine gI_iand hB dX6_rungByHabit_76 ?_
    refine gI_iret hB hE dX6_rungByHabit_77 ?_
    exact ⟨by rw [mRung, if_neg (by rw [ex]; exact fun z9 => z9.elim (nI_neq (a := 5) (b := 2) (by omega) (by omega) (by omega)) (nI_neq (a := 5) (b := 4) (by omega) (by omega) (by omega))), if_neg (by rw [ex]; exact (nI_neq (a := 5) (b := 3) (by omega) (by omega) (by omega))), if_pos ex]; rfl, rfl, rfl, rfl⟩

set_option maxRecDepth 100000 in
set_option maxHeartbeats 4000000 in
theorem k_rungBy (G : gG) (h : gH) (c : Nat → Nat) (Λ : CL) (u : MS) (T W z : Nat) (hC : cRep G h c Λ u T W z) (o : mOk u T W z) (t : Nat) (ht : t < T) : gMet yX6_rungBy wsX6_rungBy (gRm 4 0 0) G h [.ref (c 0), .ref (cEl Λ 0 t)] (gRet h (some (.int (mNext u T t)))) := by
  refine gMet_of (maxL := 4) (ret := (some .int)) (by decide) rfl (Nat.le_of_ble_eq_true rfl) ?_
  intro X hG hnL hB hE
  subst hG
  change gW X h 0 0 0 [(0, .ref (c 0)), (1, .ref (cEl Λ 0 t))] []
  have hT := o.2.1
  have hW60 := o.2.2.2.1
  have hz200 := o.2.2.2.2.2.1
  have ez := o.2.2.2.2.1
  have eW := o.2.2.1
  have eT := o.1
  obtain ⟨hm8, emm⟩ := hC.many o ht
  obtain ⟨mdt, gt, hlt, -⟩ := hC.2.2.2.1 (4 + t) (by omega)
  obtain ⟨m, em⟩ : ∃ m, m = cLen Λ (4 + t) := ⟨_, rfl⟩
  rw [← em] at hm8 emm
  refine gI_iconst (v := nI 0) hB dX6_rungBy_0 (by decide) ?_
  refine gI_istore_n hB ([(2, .int (nI 0)), (0, .ref (c 0)), (1, .ref (cEl Λ 0 t))]) hnL dX6_rungBy_1 (by decide) rfl ?_
  refine gI_iconst (v := nI 0) hB dX6_rungBy_2 (by decide) ?_
  refine gI_istore_n hB ([(3, .int (nI 0)), (2, .int (nI 0)), (0, .ref (c 0)), (1, .ref (cEl Λ 0 t))]) hnL dX6_rungBy_3 (by decide) rfl ?_
  have lp : ∀ (r_lp : Nat) (i : Nat) (s : Int32), m + 1 ≤ i + r_lp → i ≤ m → s = mNx (u.2 1) T t i → gW X h 0 0 4 [(3, .int (nI i)), (2, .int s), (0, .ref (c 0)), (1, .ref (cEl Λ 0 t))] [] := by
    intro r_lp
    induction r_lp with
    | zero => intro i s hfu hi es; exact absurd hfu (by omega)
    | succ r_lp ih_lp =>
      intro i s hfu hi es
      refine gI_iload_n hB 0 dX6_rungBy_4 rfl ?_
      refine gI_aload_n hB 3 dX6_rungBy_5 rfl ?_
      refine gI_get (v := .ref (cLa Λ (4 + t))) hB 3 (hC.2.2.2.2.2.1 t ht) (C := RX4) (T := TX4) (N := 8) rfl (by decide +kernel) (by decide) (by decide +kernel) (fun _ h9 => h9) rfl dX6_rungBy_6 ?_
      refine gI_pureV (n9 := 0) (As := []) (rest := [.int (nI i)]) hB (l_size X.2.1 h Λ (4 + t) (hC.2.2.2.1 (4 + t) (by omega))) (gCW.of ggX6_rungBy_Jx4a65c_size_8abf5 rfl ⟨by decide, by decide, by decide +kernel⟩ ⟨Nat.le_of_ble_eq_true rfl, Nat.le_of_ble_eq_true rfl⟩) (by decide +kernel) (by decide +kernel) (by decide +kernel) (by decide +kernel) hlt (C := RJx4a65c) (T := TJx4a65c) (N := 3) rfl rfl rfl (Nat.le_of_ble_eq_true rfl) (by first | exact Nat.le_of_ble_eq_true rfl | (dsimp only [gRm]; omega)) (by first | exact Nat.le_of_ble_eq_true rfl | (dsimp only [gRm]; omega)) dX6_rungBy_9 ?_
      refine gI_icmp_ge hB 43 dX6_rungBy_12 (by decide) (fun c12_1 => ?_) (fun c12_1 => ?_)
      · skip
        have c12_1 := (nI_leI (by omega) (by omega)).mp c12_1
        refine gI_iload_n hB 1 dX6_rungBy_43 rfl ?_
        refine gI_iret hB hE dX6_rungBy_44 ?_
        exact ⟨by unfold mNext; rw [emm, show m = i by omega, ← es], rfl, rfl, rfl⟩
      · skip
        have c12_1 := mt (nI_leI (by omega) (by omega)).mpr c12_1
        refine gI_iload_n hB 1 dX6_rungBy_15 rfl ?_
        refine gI_aload_n hB 2 dX6_rungBy_16 rfl ?_
        refine gI_aload_n hB 3 dX6_rungBy_17 rfl ?_
        refine gI_get (v := .ref (cLa Λ (4 + t))) hB 3 (hC.2.2.2.2.2.1 t ht) (C := RX4) (T := TX4) (N := 8) rfl (by decide +kernel) (by decide) (by decide +kernel) (fun _ h9 => h9) rfl dX6_rungBy_18 ?_
        refine gI_iload_n hB 0 dX6_rungBy_21 rfl ?_
        refine gI_pureV (n9 := 1) (As := [.int (nI i)]) (rest := [.ref (c 0), .int s]) hB (l_get X.2.1 h Λ (4 + t) (hC.2.2.2.1 (4 + t) (by omega)) i (by omega)) (gCW.of ggX6_rungBy_Jx4a65c_get_915e3 rfl ⟨by decide, by decide, by decide +kernel⟩ ⟨Nat.le_of_ble_eq_true rfl, Nat.le_of_ble_eq_true rfl⟩) (by decide +kernel) (by decide +kernel) (by decide +kernel) (by decide +kernel) hlt (C := RJx4a65c) (T := TJx4a65c) (N := 3) rfl rfl rfl (Nat.le_of_ble_eq_true rfl) (by first | exact Nat.le_of_ble_eq_true rfl | (dsimp only [gRm]; omega)) (by first | exact Nat.le_of_ble_eq_true rfl | (dsimp only [gRm]; omega)) dX6_rungBy_22 ?_
        refine gI_cast hB (hC.2.2.2.2.2.2.1 t i ht (by omega)) (C := RX0) (T := TX0) (N := 9) rfl (by decide +kernel) dX6_rungBy_25 ?_
        refine gI_aload_n hB 3 dX6_rungBy_28 rfl ?_
        refine gI_get (v := .int (nI t)) hB 0 (hC.2.2.2.2.2.1 t ht) (C := RX4) (T := TX4) (N := 8) rfl (by decide +kernel) (by decide) (by decide +kernel) (fun _ h9 => h9) rfl dX6_rungBy_29 ?_
        refine gI_pureV (n9 := 2) (As := [.ref (cEl Λ (4 + t) i), .int (nI t)]) (rest := [.int s]) hB (k_rungByHabit X.2.1 h c Λ u T W z hC o t i (by omega) (by omega)) (gCW.of ggX6_rungBy_X6_rungByHabit rfl ⟨by decide, by decide, by decide +kernel⟩ ⟨Nat.le_of_ble_eq_true rfl, Nat.le_of_ble_eq_true rfl⟩) (by decide +kernel) (by decide +kernel) (by decide +kernel) (by decide +kernel) hC.1 (C := RX6) (T := TX6) (N := 9) rfl rfl rfl (Nat.le_of_ble_eq_true rfl) (by first | exact Nat.le_of_ble_eq_true rfl | (dsimp only [gRm]; omega)) (by first | exact Nat.le_of_ble_eq_true rfl | (dsimp only [gRm]; omega)) dX6_rungBy_32 ?_
        refine gI_ior hB dX6_rungBy_35 ?_
        refine gI_istore_n hB ([(2, .int (s ||| (mRung (u.2 1) (9 * (8 * t + i)) T t))), (3, .int (nI i)), (0, .ref (c 0)), (1, .ref (cEl Λ 0 t))]) hnL dX6_rungBy_36 (by decide) rfl ?_
        refine gI_iinc hB 1 ([(3, .int (nI (i + 1))), (2, .int (s ||| (mRung (u.2 1) (9 * (8 * t + i)) T t))), (0, .ref (c 0)), (1, .ref (cEl Λ 0 t))]) hnL dX6_rungBy_37 rfl (nI_1 (i)) (by decide) rfl ?_
        refine gI_goto hB 4 dX6_rungBy_40 (by decide) ?_
        refine gI_loc [0, 1, 2, 3] rfl ?_
        exact ih_lp (i + 1) (s ||| (mRung (u.2 1) (9 * (8 * t + i)) T t)) (by omega) (by omega) (by rw [mNx, ← es])
  refine gI_loc [0, 1, 2, 3] rfl ?_
  exact lp (m + 1) 0 (nI 0) (by omega) (by omega) rfl

set_option maxRecDepth 100000 in
set_option maxHeartbeats 4000000 in
theorem k_rungByAll (G : gG) (h : gH) (c : Nat → Nat) (Λ : CL) (u : MS) (T W z : Nat) (hC : cRep G h c Λ u T W z) (o : mOk u T W z) (x : Int32) : gMet yX6_rungByAll wsX6_rungByAll (gRm 5 0 0) G h [.ref (c 0), .int x] (gRet h (some (.int (mNo u T x T)))) := by
  refine gMet_of (maxL := 4) (ret := (some .int)) (by decide) rfl (Nat.le_of_ble_eq_true rfl) ?_
  intro X hG hnL hB hE
  subst hG
  change gW X h 0 0 0 [(0, .ref (c 0)), (1, .int x)] []
  have hT := o.2.1
  have hW60 := o.2.2.2.1
  have hz200 := o.2.2.2.2.2.1
  have ez := o.2.2.2.2.1
  have eW := o.2.2.1
  have eT := o.1
  obtain ⟨md0, g0, hl0, -⟩ := hC.2.2.2.1 0 (by omega)
  refine gI_iconst (v := nI 0) hB dX6_rungByAll_0 (by decide) ?_
  refine gI_istore_n hB ([(2, .int (nI 0)), (0, .ref (c 0)), (1, .int x)]) hnL dX6_rungByAll_1 (by decide) rfl ?_
  refine gI_iconst (v := nI 0) hB dX6_rungByAll_2 (by decide) ?_
  refine gI_istore_n hB ([(3, .int (nI 0)), (2, .int (nI 0)), (0, .ref (c 0)), (1, .int x)]) hnL dX6_rungByAll_3 (by decide) rfl ?_
  have lp : ∀ (r_lp : Nat) (i : Nat) (s : Int32), T + 1 ≤ i + r_lp → i ≤ T → s = mNo u T x i → gW X h 0 0 4 [(3, .int (nI i)), (2, .int s), (0, .ref (c 0)), (1, .int x)] [] := by
    intro r_lp
    induction r_lp with
    | zero => intro i s hfu hi es; exact absurd hfu (by omega)
    | succ r_lp ih_lp =>
      intro i s hfu hi es
      refine gI_iload_n hB 0 dX6_rungByAll_4 rfl ?_
      refine gI_aload_n hB 2 dX6_rungByAll_5 rfl ?_
      refine gI_get (v := .ref (cLa Λ 0)) hB 0 hC.1 (C := RX6) (T := TX6) (N := 9) rfl (by decide +kernel) (by decide) (by decide +kernel) (fun _ h9 => h9) rfl dX6_rungByAll_6 ?_
      refine gI_pureV (n9 := 0) (As := []) (rest := [.int (nI i)]) hB (l_size X.2.1 h Λ 0 (hC.2.2.2.1 0 (by omega))) (gCW.of ggX6_rungByAll_Jx4a65c_size_8abf5 rfl ⟨by decide, by decide, by decide +kernel⟩ ⟨Nat.le_of_ble_eq_true rfl, Nat.le_of_ble_eq_true rfl⟩) (by decide +kernel) (by decide +kernel) (by decide +kernel) (by decide +kernel) hl0 (C := RJx4a65c) (T := TJx4a65c) (N := 3) rfl rfl rfl (Nat.le_of_ble_eq_true rfl) (by first | exact Nat.le_of_ble_eq_true rfl | (dsimp only [gRm]; omega)) (by first | exact Nat.le_of_ble_eq_true rfl | (dsimp only [gRm]; omega)) dX6_rungByAll_9 ?_
      refine gI_topi hB (y := nI T) (congrArg nI hC.2.2.2.2.1.1) ?_
      refine gI_icmp_ge hB 47 dX6_rungByAll_12 (by decide) (fun c12_1 => ?_) (fun c12_1 => ?_)
      · skip
        have c12_1 := (nI_leI (by omega) (by omega)).mp c12_1
        refine gI_iload_n hB 1 dX6_rungByAll_47 rfl ?_
        refine gI_iret hB hE dX6_rungByAll_48 ?_
        exact ⟨by rw [es, show i = T by omega], rfl, rfl, rfl⟩
      · skip
        have c12_1 := mt (nI_leI (by omega) (by omega)).mpr c12_1
        refine gI_iload_n hB 3 dX6_rungByAll_15 rfl ?_
        refine gI_iload_n hB 0 dX6_rungByAll_16 rfl ?_
        refine gI_pureS (n9 := 2) (As := [.int x, .int (nI i)]) (rest := []) hB (k_contains X.2.1 h x (nI i)) (gCW.of ggX6_rungByAll_X6_contains rfl ⟨by decide, by decide, by decide +kernel⟩ ⟨Nat.le_of_ble_eq_true rfl, Nat.le_of_ble_eq_true rfl⟩) (Or.inl (by decide +kernel)) (by decide +kernel) (by decide +kernel) rfl rfl (Nat.le_of_ble_eq_true rfl) (by first | exact Nat.le_of_ble_eq_true rfl | (dsimp only [gRm]; omega)) (by first | exact Nat.le_of_ble_eq_true rfl | (dsimp only [gRm]; omega)) dX6_rungByAll_17 ?_
        refine gI_if_eq hB 41 dX6_rungByAll_20 (by decide) (fun c20_2 => ?_) (fun c20_2 => ?_)
        · skip
          have c20_2 := gbi_0.mp c20_2
          refine gI_iinc hB 0 ([(3, .int (nI (i + 1))), (2, .int s), (0, .ref (c 0)), (1, .int x)]) hnL dX6_rungByAll_41 rfl (nI_1 (i)) (by decide) rfl ?_
          refine gI_goto hB 4 dX6_rungByAll_44 (by decide) ?_
          refine gI_loc [0, 1, 2, 3] rfl ?_
          exact ih_lp (i + 1) s (by omega) (by omega) (by rw [mNo, if_neg c20_2]; exact es)
        · skip
          have c20_2 := gbi_n0 c20_2
          refine gI_iload_n hB 1 dX6_rungByAll_23 rfl ?_
          refine gI_aload_n hB 2 dX6_rungByAll_24 rfl ?_
          refine gI_aload_n hB 2 dX6_rungByAll_25 rfl ?_
          refine gI_get (v := .ref (cLa Λ 0)) hB 0 hC.1 (C := RX6) (T := TX6) (N := 9) rfl (by decide +kernel) (by decide) (by decide +kernel) (fun _ h9 => h9) rfl dX6_rungByAll_26 ?_
          refine gI_iload_n hB 0 dX6_rungByAll_29 rfl ?_
          refine gI_pureV (n9 := 1) (As := [.int (nI i)]) (rest := [.ref (c 0), .int s]) hB (l_get X.2.1 h Λ 0 (hC.2.2.2.1 0 (by omega)) i (by rw [hC.2.2.2.2.1.1]; omega)) (gCW.of ggX6_rungByAll_Jx4a65c_get_915e3 rfl ⟨by decide, by decide, by decide +kernel⟩ ⟨Nat.le_of_ble_eq_true rfl, Nat.le_of_ble_eq_true rfl⟩) (by decide +kernel) (by decide +kernel) (by decide +kernel) (by decide +kernel) hl0 (C := RJx4a65c) (T := TJx4a65c) (N := 3) rfl rfl rfl (Nat.le_of_ble_eq_true rfl) (by first | exact Nat.le_of_ble_eq_true rfl | (dsimp only [gRm]; omega)) (by first | exact Nat.le_of_ble_eq_true rfl | (dsimp only [gRm]; omega)) dX6_rungByAll_30 ?_
          refine gI_cast hB (hC.2.2.2.2.2.1 i (by omega)) (C := RX4) (T := TX4) (N := 8) rfl (by decide +kernel) dX6_rungByAll_33 ?_
          refine gI_pureV (n9 := 1) (As := [.ref (cEl Λ 0 i)]) (rest := [.int s]) hB (k_rungBy X.2.1 h c Λ u T W z hC o i (by omega)) (gCW.of ggX6_rungByAll_X6_rungBy rfl ⟨by decide, by decide, by decide +kernel⟩ ⟨Nat.le_of_ble_eq_true rfl, Nat.le_of_ble_eq_true rfl⟩) (by decide +kernel) (by decide +kernel) (by decide +kernel) (by decide +kernel) hC.1 (C := RX6) (T := TX6) (N := 9) rfl rfl rfl (Nat.le_of_ble_eq_true rfl) (by first | exact Nat.le_of_ble_eq_true rfl | (dsimp only [gRm]; omega)) (by first | exact Nat.le_of_ble_eq_true rfl | (dsimp only [gRm]; omega)) dX6_rungByAll_36 ?_
          refine gI_ior hB dX6_rungByAll_39 ?_
          refine gI_istore_n hB ([(2, .int (s ||| (mNext u T i))), (3, .int (nI i)), (0, .ref (c 0)), (1, .int x)]) hnL dX6_rungByAll_40 (by decide) rfl ?_
          refine gI_iinc hB 1 ([(3, .int (nI (i + 1))), (2, .int (s ||| (mNext u T i))), (0, .ref (c 0)), (1, .int x)]) hnL dX6_rungByAll_41 rfl (nI_1 (i)) (by decide) rfl ?_
          refine gI_goto hB 4 dX6_rungByAll_44 (by decide) ?_
          refine gI_loc [0, 1, 2, 3] rfl ?_
          exact ih_lp (i + 1) (s ||| (mNext u T i)) (by omega) (by omega) (by rw [mNo, if_pos c20_2, ← es])
  refine gI_loc [0, 1, 2, 3] rfl ?_
  exact lp (T + 1) 0 (nI 0) (by omega) (by omega) rfl

