theorem ne2_setHour (u : MS) (a1 : Int32) : ¬ (mSetHour u a1).1.1 0 = nI 2 := by
  unfold mSetHour
  split <;> first | exact fun z9 => absurd (show nI 0 = nI 2 from z9) (by decide) | exact fun z9 => absurd (show nI 1 = nI 2 from z9) (by decide)
set_option maxRecDepth 100000 in
set_option maxHeartbeats 4000000 in
theorem w_setHour (G : gG) (h : gH) (c : Nat → Nat) (Λ : CL) (u : MS) (T W z : Nat) (hC : cRep G h c Λ u T W z) (o : mOk u T W z) (a1 : Int32) (ob : Nat) (fo : Nat → Int64) (hob : gat h ob (.inl (gJ G, 1, .inr (.inl fo)))) : gMetN yL_setHour wsL_setHour (gRm 3 1 6) G h [.ref (c 0), .int a1, .ref ob] (wPo G h c (cPhi Λ) ob (mSetHour u a1) 1 6) := by
  refine gMetN_of (maxL := 4) (ret := (some .int)) (hh := [(0, 9, 12, 13)]) (by decide) rfl (Nat.le_of_ble_eq_true rfl) ?_
  intro X hG hnL hB hE hNx
  subst hG
  change gW X h 0 0 0 [(0, .ref (c 0)), (1, .int a1), (2, .ref ob)] []
  refine gI_aload_n hB 2 dL_setHour_0 rfl ?_
  refine gI_iconst (v := nI 0) hB dL_setHour_1 (by decide) ?_
  refine gI_aload_n hB 0 dL_setHour_2 rfl ?_
  refine gI_iload_n hB 1 dL_setHour_3 rfl ?_
  refine gI_callV (n9 := 1) (As := [.int a1]) (rest := [.int (nI 0), .ref ob]) hB (p_setHour X.2.1 h c Λ u T W z hC o a1) (gCW.of ggL_setHour_X6_setHour rfl ⟨by decide, by decide, by decide +kernel⟩ ⟨Nat.le_of_ble_eq_true rfl, Nat.le_of_ble_eq_true rfl⟩) (by decide +kernel) (by decide +kernel) (by decide +kernel) (by decide +kernel) hC.1 (C := RX6) (T := TX6) (N := 9) rfl rfl rfl (Nat.le_of_ble_eq_true rfl) (by first | exact Nat.le_of_ble_eq_true rfl | (dsimp only [gRm]; omega)) (by first | exact Nat.le_of_ble_eq_true rfl | (dsimp only [gRm]; omega)) dL_setHour_4 (fun v9 h1 k1 n1 hp => ?_) (fun E9 h1 k1 n1 hp => ?_)
  · obtain ⟨F', hW, hFr, hle, hk9, hn9, hr⟩ := hp
    rcases hr with ⟨e9, e0⟩ | ⟨e9, -⟩ | ⟨e9, -⟩
    · cases e9
      have hob1 := hFr _ _ hob rfl
      refine gI_i2l hB dL_setHour_7 ?_
      refine gC_last hB hob1 dL_setHour_8 (fun h2 f2 ef hob2 hst => ?_)
      refine gI_goto hB 15 dL_setHour_9 (by decide) ?_
      refine gI_iconst (v := nI 0) hB dL_setHour_15 (by decide) ?_
      refine gI_iret hB hE dL_setHour_16 ?_
      exact ⟨F', f2, by rw [e0], hW.out hob1 hst, hob2, fun _ => ef, fun q e hq hk hne => hst q e (hFr q e hq hk) hne, hle, by omega, by omega⟩
    · cases e9
    · cases e9
  · obtain ⟨F', hW, hFr, hle, hk9, hn9, hr⟩ := hp
    have hob1 := hFr _ _ hob rfl
    rcases hr with ⟨e9, -⟩ | ⟨e9, e0⟩ | ⟨e9, e0⟩
    · cases e9
    · cases e9
      refine gI_catch hB hE (name := "java/lang/IllegalArgumentException") [] ⟨0, 9, 12, 13⟩ [] rfl (fun z9 h9 => absurd h9 List.not_mem_nil) (by decide) (by decide) (by decide +kernel) cast_IAE (fun q9 => ?_)
      refine gI_astore_n hB ([(3, .ref q9), (0, .ref (c 0)), (1, .int a1), (2, .ref ob)]) hnL dL_setHour_12 (by decide) rfl ?_
      refine gI_iconst (v := nI 1) hB dL_setHour_13 (by decide) ?_
      refine gI_iret hB hE dL_setHour_14 ?_
      exact ⟨F', fo, by rw [e0], hW, hob1, fun z9 => absurd (e0.symm.trans z9) (by decide), fun q e hq hk _ => hFr q e hq hk, hle, by omega, by omega⟩
    · exact absurd e0 (ne2_setHour u a1)

set_option maxRecDepth 100000 in
set_option maxHeartbeats 4000000 in
theorem w_addHabit (G : gG) (h : gH) (c : Nat → Nat) (Λ : CL) (u : MS) (T W z : Nat) (hC : cRep G h c Λ u T W z) (o : mOk u T W z) (a1 : Int32) (ob : Nat) (fo : Nat → Int64) (hob : gat h ob (.inl (gJ G, 1, .inr (.inl fo)))) : gMetN yL_addHabit wsL_addHabit (gRm 8 2 700) G h [.ref (c 0), .int a1, .ref ob] (wPo G h c (cPhi Λ) ob (mAddHabit u a1) 2 700) := by
  refine gMetN_of (maxL := 4) (ret := (some .int)) (hh := [(0, 9, 12, 24), (0, 9, 15, 15)]) (by decide) rfl (Nat.le_of_ble_eq_true rfl) ?_
  intro X hG hnL hB hE hNx
  subst hG
  change gW X h 0 0 0 [(0, .ref (c 0)), (1, .int a1), (2, .ref ob)] []
  refine gI_aload_n hB 2 dL_addHabit_0 rfl ?_
  refine gI_iconst (v := nI 0) hB dL_addHabit_1 (by decide) ?_
  refine gI_aload_n hB 0 dL_addHabit_2 rfl ?_
  refine gI_iload_n hB 1 dL_addHabit_3 rfl ?_
  refine gI_callV (n9 := 1) (As := [.int a1]) (rest := [.int (nI 0), .ref ob]) hB (p_addHabit X.2.1 h c Λ u T W z hC o a1) (gCW.of ggL_addHabit_X6_addHabit rfl ⟨by decide, by decide, by decide +kernel⟩ ⟨Nat.le_of_ble_eq_true rfl, Nat.le_of_ble_eq_true rfl⟩) (by decide +kernel) (by decide +kernel) (by decide +kernel) (by decide +kernel) hC.1 (C := RX6) (T := TX6) (N := 9) rfl rfl rfl (Nat.le_of_ble_eq_true rfl) (by first | exact Nat.le_of_ble_eq_true rfl | (dsimp only [gRm]; omega)) (by first | exact Nat.le_of_ble_eq_true rfl | (dsimp only [gRm]; omega)) dL_addHabit_4 (fun v9 h1 k1 n1 hp => ?_) (fun E9 h1 k1 n1 hp => ?_)
  · obtain ⟨F', hW, hFr, hle, hk9, hn9, hr⟩ := hp
    rcases hr with ⟨e9, e0⟩ | ⟨e9, -⟩ | ⟨e9, -⟩
    · cases e9
      have hob1 := hFr _ _ hob rfl
      refine gI_i2l hB dL_addHabit_7 ?_
      refine gC_last hB hob1 dL_addHabit_8 (fun h2 f2 ef hob2 hst => ?_)
      refine gI_goto hB 18 dL_addHabit_9 (by decide) ?_
      refine gI_iconst (v := nI 0) hB dL_addHabit_18 (by decide) ?_
      refine gI_iret hB hE dL_addHabit_19 ?_
      exact ⟨F', f2, by rw [e0], hW.out hob1 hst, hob2, fun _ => ef, fun q e hq hk hne => hst q e (hFr q e hq hk) hne, hle, by omega, by omega⟩
    · cases e9
    · cases e9
  · obtain ⟨F', hW, hFr, hle, hk9, hn9, hr⟩ := hp
    have hob1 := hFr _ _ hob rfl
    rcases hr with ⟨e9, -⟩ | ⟨e9, e0⟩ | ⟨e9, e0⟩
    · cases e9
    · cases e9
      refine gI_catch hB hE (name := "java/lang/IndexOutOfBoundsException") [] ⟨0, 9, 12, 24⟩ [⟨0, 9, 15, 15⟩] rfl (fun z9 h9 => absurd h9 List.not_mem_nil) (by decide) (by decide) (by decide +kernel) cast_IOB (fun q9 => ?_)
      refine gI_astore_n hB ([(3, .ref q9), (0, .ref (c 0)), (1, .int a1), (2, .ref ob)]) hnL dL_addHabit_12 (by decide) rfl ?_
      refine gI_iconst (v := nI 1) hB dL_addHabit_13 (by decide) ?_
      refine gI_iret hB hE dL_addHabit_14 ?_
      exact ⟨F', fo, by rw [e0], hW, hob1, fun z9 => absurd (e0.symm.trans z9) (by decide), fun q e hq hk _ => hFr q e hq hk, hle, by omega, by omega⟩
    · cases e9
      refine gI_catch hB hE (name := "java/lang/IllegalStateException") [⟨0, 9, 12, 24⟩] ⟨0, 9, 15, 15⟩ [] rfl (fun z9 h9 => by
        rcases List.mem_singleton.mp h9 with rfl
        exact ⟨by decide, "java/lang/IndexOutOfBoundsException", by decide +kernel, hNx.2.1⟩) (by decide) (by decide) (by decide +kernel) cast_ISE (fun q9 => ?_)
      refine gI_astore_n hB ([(3, .ref q9), (0, .ref (c 0)), (1, .int a1), (2, .ref ob)]) hnL dL_addHabit_15 (by decide) rfl ?_
      refine gI_iconst (v := nI 2) hB dL_addHabit_16 (by decide) ?_
      refine gI_iret hB hE dL_addHabit_17 ?_
      exact ⟨F', fo, by rw [e0], hW, hob1, fun z9 => absurd (e0.symm.trans z9) (by decide), fun q e hq hk _ => hFr q e hq hk, hle, by omega, by omega⟩

set_option maxRecDepth 100000 in
set_option maxHeartbeats 4000000 in
theorem w_setWhen (G : gG) (h : gH) (c : Nat → Nat) (Λ : CL) (u : MS) (T W z : Nat) (hC : cRep G h c Λ u T W z) (o : mOk u T W z) (a1 a2 a3 a4 a5 a6 : Int32) (ob : Nat) (fo : Nat → Int64) (hob : gat h ob (.inl (gJ G, 1, .inr (.inl fo)))) : gMetN yL_setWhen wsL_setWhen (gRm 6 1 6) G h [.ref (c 0), .int a1, .int a2, .int a3, .int a4, .int a5, .int a6, .ref ob] (wPo G h c (cPhi Λ) ob (mSetWhen u a1 a2 a3 a4 a5 a6) 1 6) := by
  refine gMetN_of (maxL := 9) (ret := (some .int)) (hh := [(0, 18, 21, 24), (0, 18, 25, 13)]) (by decide) rfl (Nat.le_of_ble_eq_true rfl) ?_
  intro X hG hnL hB hE hNx
  subst hG
  change gW X h 0 0 0 [(0, .ref (c 0)), (1, .int a1), (2, .int a2), (3, .int a3), (4, .int a4), (5, .int a5), (6, .int a6), (7, .ref ob)] []
  refine gI_aload hB 7 dL_setWhen_0 rfl ?_
  refine gI_iconst (v := nI 0) hB dL_setWhen_2 (by decide) ?_
  refine gI_aload_n hB 0 dL_setWhen_3 rfl ?_
  refine gI_iload_n hB 1 dL_setWhen_4 rfl ?_
  refine gI_iload_n hB 2 dL_setWhen_5 rfl ?_
  refine gI_iload_n hB 3 dL_setWhen_6 rfl ?_
  refine gI_iload hB 4 dL_setWhen_7 rfl ?_
  refine gI_iload hB 5 dL_setWhen_9 rfl ?_
  refine gI_iload hB 6 dL_setWhen_11 rfl ?_
  refine gI_callV (n9 := 6) (As := [.int a1, .int a2, .int a3, .int a4, .int a5, .int a6]) (rest := [.int (nI 0), .ref ob]) hB (p_setWhen X.2.1 h c Λ u T W z hC o a1 a2 a3 a4 a5 a6) (gCW.of ggL_setWhen_X6_setWhen rfl ⟨by decide, by decide, by decide +kernel⟩ ⟨Nat.le_of_ble_eq_true rfl, Nat.le_of_ble_eq_true rfl⟩) (by decide +kernel) (by decide +kernel) (by decide +kernel) (by decide +kernel) hC.1 (C := RX6) (T := TX6) (N := 9) rfl rfl rfl (Nat.le_of_ble_eq_true rfl) (by first | exact Nat.le_of_ble_eq_true rfl | (dsimp only [gRm]; omega)) (by first | exact Nat.le_of_ble_eq_true rfl | (dsimp only [gRm]; omega)) dL_setWhen_13 (fun v9 h1 k1 n1 hp => ?_) (fun E9 h1 k1 n1 hp => ?_)
  · obtain ⟨F', hW, hFr, hle, hk9, hn9, hr⟩ := hp
    rcases hr with ⟨e9, e0⟩ | ⟨e9, -⟩ | ⟨e9, -⟩
    · cases e9
      have hob1 := hFr _ _ hob rfl
      refine gI_i2l hB dL_setWhen_16 ?_
      refine gC_last hB hob1 dL_setWhen_17 (fun h2 f2 ef hob2 hst => ?_)
      refine gI_goto hB 29 dL_setWhen_18 (by decide) ?_
      refine gI_iconst (v := nI 0) hB dL_setWhen_29 (by decide) ?_
      refine gI_iret hB hE dL_setWhen_30 ?_
      exact ⟨F', f2, by rw [e0], hW.out hob1 hst, hob2, fun _ => ef, fun q e hq hk hne => hst q e (hFr q e hq hk) hne, hle, by omega, by omega⟩
    · cases e9
    · cases e9
  · obtain ⟨F', hW, hFr, hle, hk9, hn9, hr⟩ := hp
    have hob1 := hFr _ _ hob rfl
    rcases hr with ⟨e9, -⟩ | ⟨e9, e0⟩ | ⟨e9, e0⟩
    · cases e9
    · cases e9
      refine gI_catch hB hE (name := "java/lang/IndexOutOfBoundsException") [] ⟨0, 18, 21, 24⟩ [⟨0, 18, 25, 13⟩] rfl (fun z9 h9 => absurd h9 List.not_mem_nil) (by decide) (by decide) (by decide +kernel) cast_IOB (fun q9 => ?_)
      refine gI_astore hB ([(8, .ref q9), (0, .ref (c 0)), (1, .int a1), (2, .int a2), (3, .int a3), (4, .int a4), (5, .int a5), (6, .int a6), (7, .ref ob)]) hnL dL_setWhen_21 (by decide) rfl ?_
      refine gI_iconst (v := nI 1) hB dL_setWhen_23 (by decide) ?_
      refine gI_iret hB hE dL_setWhen_24 ?_
      exact ⟨F', fo, by rw [e0], hW, hob1, fun z9 => absurd (e0.symm.trans z9) (by decide), fun q e hq hk _ => hFr q e hq hk, hle, by omega, by omega⟩
    · cases e9
      refine gI_catch hB hE (name := "java/lang/IllegalArgumentException") [⟨0, 18, 21, 24⟩] ⟨0, 18, 25, 13⟩ [] rfl (fun z9 h9 => by
        rcases List.mem_singleton.mp h9 with rfl
        exact ⟨by decide, "java/lang/IndexOutOfBoundsException", by decide +kernel, hNx.2.2.1⟩) (by decide) (by decide) (by decide +kernel) cast_IAE (fun q9 => ?_)
      refine gI_astore hB ([(8, .ref q9), (0, .ref (c 0)), (1, .int a1), (2, .int a2), (3, .int a3), (4, .int a4), (5, .int a5), (6, .int a6), (7, .ref ob)]) hnL dL_setWhen_25 (by decide) rfl ?_
      refine gI_iconst (v := nI 2) hB dL_setWhen_27 (by decide) ?_
      refine gI_iret hB hE dL_setWhen_28 ?_
      exact ⟨F', fo, by rw [e0], hW, hob1, fun z9 => absurd (e0.symm.trans z9) (by decide), fun q e hq hk _ => hFr q e hq hk, hle, by omega, by omega⟩

set_option maxRecDepth 100000 in
set_option maxHeartbeats 4000000 in
theorem w_setWhat (G : gG) (h : gH) (c : Nat → Nat) (Λ : CL) (u : MS) (T W z : Nat) (hC : cRep G h c Λ u T W z) (o : mOk u T W z) (a1 a2 a3 a4 a5 a6 : Int32) (ob : Nat) (fo : Nat → Int64) (hob : gat h ob (.inl (gJ G, 1, .inr (.inl fo)))) : gMetN yL_setWhat wsL_setWhat (gRm 6 1 6) G h [.ref (c 0), .int a1, .int a2, .int a3, .int a4, .int a5, .int a6, .ref ob] (wPo G h c (cPhi Λ) ob (mSetWhat u a1 a2 a3 a4 a5 a6) 1 6) := by
  refine gMetN_of (maxL := 9) (ret := (some .int)) (hh := [(0, 18, 21, 24), (0, 18, 25, 13)]) (by decide) rfl (Nat.le_of_ble_eq_true rfl) ?_
  intro X hG hnL hB hE hNx
  subst hG
  change gW X h 0 0 0 [(0, .ref (c 0)), (1, .int a1), (2, .int a2), (3, .int a3), (4, .int a4), (5, .int a5), (6, .int a6), (7, .ref ob)] []
  refine gI_aload hB 7 dL_setWhat_0 rfl ?_
  refine gI_iconst (v := nI 0) hB dL_setWhat_2 (by decide) ?_
  refine gI_aload_n hB 0 dL_setWhat_3 rfl ?_
  refine gI_iload_n hB 1 dL_setWhat_4 rfl ?_
  refine gI_iload_n hB 2 dL_setWhat_5 rfl ?_
  refine gI_iload_n hB 3 dL_setWhat_6 rfl ?_
  refine gI_iload hB 4 dL_setWhat_7 rfl ?_
  refine gI_iload hB 5 dL_setWhat_9 rfl ?_
  refine gI_iload hB 6 dL_setWhat_11 rfl ?_
  refine gI_callV (n9 := 6) (As := [.int a1, .int a2, .int a3, .int a4, .int a5, .int a6]) (rest := [.int (nI 0), .ref ob]) hB (p_setWhat X.2.1 h c Λ u T W z hC o a1 a2 a3 a4 a5 a6) (gCW.of ggL_setWhat_X6_setWhat rfl ⟨by decide, by decide, by decide +kernel⟩ ⟨Nat.le_of_ble_eq_true rfl, Nat.le_of_ble_eq_true rfl⟩) (by decide +kernel) (by decide +kernel) (by decide +kernel) (by decide +kernel) hC.1 (C := RX6) (T := TX6) (N := 9) rfl rfl rfl (Nat.le_of_ble_eq_true rfl) (by first | exact Nat.le_of_ble_eq_true rfl | (dsimp only [gRm]; omega)) (by first | exact Nat.le_of_ble_eq_true rfl | (dsimp only [gRm]; omega)) dL_setWhat_13 (fun v9 h1 k1 n1 hp => ?_) (fun E9 h1 k1 n1 hp => ?_)
  · obtain ⟨F', hW, hFr, hle, hk9, hn9, hr⟩ := hp
    rcases hr with ⟨e9, e0⟩ | ⟨e9, -⟩ | ⟨e9, -⟩
    · cases e9
      have hob1 := hFr _ _ hob rfl
      refine gI_i2l hB dL_setWhat_16 ?_
      refine gC_last hB hob1 dL_setWhat_17 (fun h2 f2 ef hob2 hst => ?_)
      refine gI_goto hB 29 dL_setWhat_18 (by decide) ?_
      refine gI_iconst (v := nI 0) hB dL_setWhat_29 (by decide) ?_
      refine gI_iret hB hE dL_setWhat_30 ?_
      exact ⟨F', f2, by rw [e0], hW.out hob1 hst, hob2, fun _ => ef, fun q e hq hk hne => hst q e (hFr q e hq hk) hne, hle, by omega, by omega⟩
    · cases e9
    · cases e9
  · obtain ⟨F', hW, hFr, hle, hk9, hn9, hr⟩ := hp
    have hob1 := hFr _ _ hob rfl
    rcases hr with ⟨e9, -⟩ | ⟨e9, e0⟩ | ⟨e9, e0⟩
    · cases e9
    · cases e9
      refine gI_catch hB hE (name := "java/lang/IndexOutOfBoundsException") [] ⟨0, 18, 21, 24⟩ [⟨0, 18, 25, 13⟩] rfl (fun z9 h9 => absurd h9 List.not_mem_nil) (by decide) (by decide) (by decide +kernel) cast_IOB (fun q9 => ?_)
      refine gI_astore hB ([(8, .ref q9), (0, .ref (c 0)), (1, .int a1), (2, .int a2), (3, .int a3), (4, .int a4), (5, .int a5), (6, .int a6), (7, .ref ob)]) hnL dL_setWhat_21 (by decide) rfl ?_
      refine gI_iconst (v := nI 1) hB dL_setWhat_23 (by decide) ?_
      refine gI_iret hB hE dL_setWhat_24 ?_
      exact ⟨F', fo, by rw [e0], hW, hob1, fun z9 => absurd (e0.symm.trans z9) (by decide), fun q e hq hk _ => hFr q e hq hk, hle, by omega, by omega⟩
    · cases e9
      refine gI_catch hB hE (name := "java/lang/IllegalArgumentException") [⟨0, 18, 21, 24⟩] ⟨0, 18, 25, 13⟩ [] rfl (fun z9 h9 => by
        rcases List.mem_singleton.mp h9 with rfl
        exact ⟨by decide, "java/lang/IndexOutOfBoundsException", by decide +kernel, hNx.2.2.1⟩) (by decide) (by decide) (by decide +kernel) cast_IAE (fun q9 => ?_)
      refine gI_astore hB ([(8, .ref q9), (0, .ref (c 0)), (1, .int a1), (2, .int a2), (3, .int a3), (4, .int a4), (5, .int a5), (6, .int a6), (7, .ref ob)]) hnL dL_setWhat_25 (by decide) rfl ?_
      refine gI_iconst (v := nI 2) hB dL_setWhat_27 (by decide) ?_
      refine gI_iret hB hE dL_setWhat_28 ?_
      exact ⟨F', fo, by rw [e0], hW, hob1, fun z9 => absurd (e0.symm.trans z9) (by decide), fun q e hq hk _ => hFr q e hq hk, hle, by omega, by omega⟩

theorem ne2_dropHabit (u : MS) (a1 a2 : Int32) : ¬ (mDrop u a1 a2).1.1 0 = nI 2 := by
  unfold mDrop
  split <;> first | exact fun z9 => absurd (show nI 0 = nI 2 from z9) (by decide) | exact fun z9 => absurd (show nI 1 = nI 2 from z9) (by decide)
set_option maxRecDepth 100000 in
set_option maxHeartbeats 4000000 in
theorem w_dropHabit (G : gG) (h : gH) (c : Nat → Nat) (Λ : CL) (u : MS) (T W z : Nat) (hC : cRep G h c Λ u T W z) (o : mOk u T W z) (a1 a2 : Int32) (ob : Nat) (fo : Nat → Int64) (hob : gat h ob (.inl (gJ G, 1, .inr (.inl fo)))) : gMetN yL_dropHabit wsL_dropHabit (gRm 6 1 6) G h [.ref (c 0), .int a1, .int a2, .ref ob] (wPo G h c (cPhi Λ) ob (mDrop u a1 a2) 1 6) := by
  refine gMetN_of (maxL := 5) (ret := (some .int)) (hh := [(0, 10, 13, 24)]) (by decide) rfl (Nat.le_of_ble_eq_true rfl) ?_
  intro X hG hnL hB hE hNx
  subst hG
  change gW X h 0 0 0 [(0, .ref (c 0)), (1, .int a1), (2, .int a2), (3, .ref ob)] []
  refine gI_aload_n hB 3 dL_dropHabit_0 rfl ?_
  refine gI_iconst (v := nI 0) hB dL_dropHabit_1 (by decide) ?_
  refine gI_aload_n hB 0 dL_dropHabit_2 rfl ?_
  refine gI_iload_n hB 1 dL_dropHabit_3 rfl ?_
  refine gI_iload_n hB 2 dL_dropHabit_4 rfl ?_
  refine gI_callV (n9 := 2) (As := [.int a1, .int a2]) (rest := [.int (nI 0), .ref ob]) hB (p_dropHabit X.2.1 h c Λ u T W z hC o a1 a2) (gCW.of ggL_dropHabit_X6_dropHabit rfl ⟨by decide, by decide, by decide +kernel⟩ ⟨Nat.le_of_ble_eq_true rfl, Nat.le_of_ble_eq_true rfl⟩) (by decide +kernel) (by decide +kernel) (by decide +kernel) (by decide +kernel) hC.1 (C := RX6) (T := TX6) (N := 9) rfl rfl rfl (Nat.le_of_ble_eq_true rfl) (by first | exact Nat.le_of_ble_eq_true rfl | (dsimp only [gRm]; omega)) (by first | exact Nat.le_of_ble_eq_true rfl | (dsimp only [gRm]; omega)) dL_dropHabit_5 (fun v9 h1 k1 n1 hp => ?_) (fun E9 h1 k1 n1 hp => ?_)
  · obtain ⟨F', hW, hFr, hle, hk9, hn9, hr⟩ := hp
    rcases hr with ⟨e9, e0⟩ | ⟨e9, -⟩ | ⟨e9, -⟩
    · cases e9
      have hob1 := hFr _ _ hob rfl
      refine gI_i2l hB dL_dropHabit_8 ?_
      refine gC_last hB hob1 dL_dropHabit_9 (fun h2 f2 ef hob2 hst => ?_)
      refine gI_goto hB 17 dL_dropHabit_10 (by decide) ?_
      refine gI_iconst (v := nI 0) hB dL_dropHabit_17 (by decide) ?_
      refine gI_iret hB hE dL_dropHabit_18 ?_
      exact ⟨F', f2, by rw [e0], hW.out hob1 hst, hob2, fun _ => ef, fun q e hq hk hne => hst q e (hFr q e hq hk) hne, hle, by omega, by omega⟩
    · cases e9
    · cases e9
  · obtain ⟨F', hW, hFr, hle, hk9, hn9, hr⟩ := hp
    have hob1 := hFr _ _ hob rfl
    rcases hr with ⟨e9, -⟩ | ⟨e9, e0⟩ | ⟨e9, e0⟩
    · cases e9
    · cases e9
      refine gI_catch hB hE (name := "java/lang/IndexOutOfBoundsException") [] ⟨0, 10, 13, 24⟩ [] rfl (fun z9 h9 => absurd h9 List.not_mem_nil) (by decide) (by decide) (by decide +kernel) cast_IOB (fun q9 => ?_)
      refine gI_astore hB ([(4, .ref q9), (0, .ref (c 0)), (1, .int a1), (2, .int a2), (3, .ref ob)]) hnL dL_dropHabit_13 (by decide) rfl ?_
      refine gI_iconst (v := nI 1) hB dL_dropHabit_15 (by decide) ?_
      refine gI_iret hB hE dL_dropHabit_16 ?_
      exact ⟨F', fo, by rw [e0], hW, hob1, fun z9 => absurd (e0.symm.trans z9) (by decide), fun q e hq hk _ => hFr q e hq hk, hle, by omega, by omega⟩
    · exact absurd e0 (ne2_dropHabit u a1 a2)

theorem ne2_tenant (u : MS) (a1 a2 : Int32) : ¬ (mTenant u a1 a2).1.1 0 = nI 2 := by
  unfold mTenant
  split <;> first | exact fun z9 => absurd (show nI 0 = nI 2 from z9) (by decide) | exact fun z9 => absurd (show nI 1 = nI 2 from z9) (by decide)
set_option maxRecDepth 100000 in
set_option maxHeartbeats 4000000 in
theorem w_tenant (G : gG) (h : gH) (c : Nat → Nat) (Λ : CL) (u : MS) (T W z : Nat) (hC : cRep G h c Λ u T W z) (o : mOk u T W z) (a1 a2 : Int32) (ob : Nat) (fo : Nat → Int64) (hob : gat h ob (.inl (gJ G, 1, .inr (.inl fo)))) : gMetN yL_tenant wsL_tenant (gRm 6 1 6) G h [.ref (c 0), .int a1, .int a2, .ref ob] (wPo G h c (cPhi Λ) ob (mTenant u a1 a2) 1 6) := by
  refine gMetN_of (maxL := 5) (ret := (some .int)) (hh := [(0, 10, 13, 24)]) (by decide) rfl (Nat.le_of_ble_eq_true rfl) ?_
  intro X hG hnL hB hE hNx
  subst hG
  change gW X h 0 0 0 [(0, .ref (c 0)), (1, .int a1), (2, .int a2), (3, .ref ob)] []
  refine gI_aload_n hB 3 dL_tenant_0 rfl ?_
  refine gI_iconst (v := nI 0) hB dL_tenant_1 (by decide) ?_
  refine gI_aload_n hB 0 dL_tenant_2 rfl ?_
  refine gI_iload_n hB 1 dL_tenant_3 rfl ?_
  refine gI_iload_n hB 2 dL_tenant_4 rfl ?_
  refine gI_callV (n9 := 2) (As := [.int a1, .int a2]) (rest := [.int (nI 0), .ref ob]) hB (p_tenant X.2.1 h c Λ u T W z hC o a1 a2) (gCW.of ggL_tenant_X6_tenant rfl ⟨by decide, by decide, by decide +kernel⟩ ⟨Nat.le_of_ble_eq_true rfl, Nat.le_of_ble_eq_true rfl⟩) (by decide +kernel) (by decide +kernel) (by decide +kernel) (by decide +kernel) hC.1 (C := RX6) (T := TX6) (N := 9) rfl rfl rfl (Nat.le_of_ble_eq_true rfl) (by first | exact Nat.le_of_ble_eq_true rfl | (dsimp only [gRm]; omega)) (by first | exact Nat.le_of_ble_eq_true rfl | (dsimp only [gRm]; omega)) dL_tenant_5 (fun v9 h1 k1 n1 hp => ?_) (fun E9 h1 k1 n1 hp => ?_)
  · obtain ⟨F', hW, hFr, hle, hk9, hn9, hr⟩ := hp
    rcases hr with ⟨e9, e0⟩ | ⟨e9, -⟩ | ⟨e9, -⟩
    · cases e9
      have hob1 := hFr _ _ hob rfl
      refine gI_i2l hB dL_tenant_8 ?_
      refine gC_last hB hob1 dL_tenant_9 (fun h2 f2 ef hob2 hst => ?_)
      refine gI_goto hB 17 dL_tenant_10 (by decide) ?_
      refine gI_iconst (v := nI 0) hB dL_tenant_17 (by decide) ?_
      refine gI_iret hB hE dL_tenant_18 ?_
      exact ⟨F', f2, by rw [e0], hW.out hob1 hst, hob2, fun _ => ef, fun q e hq hk hne => hst q e (hFr q e hq hk) hne, hle, by omega, by omega⟩
    · cases e9
    · cases e9
  · obtain ⟨F', hW, hFr, hle, hk9, hn9, hr⟩ := hp
    have hob1 := hFr _ _ hob rfl
    rcases hr with ⟨e9, -⟩ | ⟨e9, e0⟩ | ⟨e9, e0⟩
    · cases e9
    · cases e9
      refine gI_catch hB hE (name := "java/lang/IndexOutOfBoundsException") [] ⟨0, 10, 13, 24⟩ [] rfl (fun z9 h9 => absurd h9 List.not_mem_nil) (by decide) (by decide) (by decide +kernel) cast_IOB (fun q9 => ?_)
      refine gI_astore hB ([(4, .ref q9), (0, .ref (c 0)), (1, .int a1), (2, .int a2), (3, .ref ob)]) hnL dL_tenant_13 (by decide) rfl ?_
      refine gI_iconst (v := nI 1) hB dL_tenant_15 (by decide) ?_
      refine gI_iret hB hE dL_tenant_16 ?_
      exact ⟨F', fo, by rw [e0], hW, hob1, fun z9 => absurd (e0.symm.trans z9) (by decide), fun q e hq hk _ => hFr q e hq hk, hle, by omega, by omega⟩
    · exact absurd e0 (ne2_tenant u a1 a2)

theorem ne2_habit (u : MS) (a1 a2 a3 : Int32) : ¬ (mHabit u a1 a2 a3).1.1 0 = nI 2 := by
  unfold mHabit
  split <;> first | exact fun z9 => absurd (show nI 0 = nI 2 from z9) (by decide) | exact fun z9 => absurd (show nI 1 = nI 2 from z9) (by decide)
set_option maxRecDepth 100000 in
set_option maxHeartbeats 4000000 in
theorem w_habit (G : gG) (h : gH) (c : Nat → Nat) (Λ : CL) (u : MS) (T W z : Nat) (hC : cRep G h c Λ u T W z) (o : mOk u T W z) (a1 a2 a3 : Int32) (ob : Nat) (fo : Nat → Int64) (hob : gat h ob (.inl (gJ G, 1, .inr (.inl fo)))) : gMetN yL_habit wsL_habit (gRm 6 1 6) G h [.ref (c 0), .int a1, .int a2, .int a3, .ref ob] (wPo G h c (cPhi Λ) ob (mHabit u a1 a2 a3) 1 6) := by
  refine gMetN_of (maxL := 6) (ret := (some .int)) (hh := [(0, 12, 15, 24)]) (by decide) rfl (Nat.le_of_ble_eq_true rfl) ?_
  intro X hG hnL hB hE hNx
  subst hG
  change gW X h 0 0 0 [(0, .ref (c 0)), (1, .int a1), (2, .int a2), (3, .int a3), (4, .ref ob)] []
  refine gI_aload hB 4 dL_habit_0 rfl ?_
  refine gI_iconst (v := nI 0) hB dL_habit_2 (by decide) ?_
  refine gI_aload_n hB 0 dL_habit_3 rfl ?_
  refine gI_iload_n hB 1 dL_habit_4 rfl ?_
  refine gI_iload_n hB 2 dL_habit_5 rfl ?_
  refine gI_iload_n hB 3 dL_habit_6 rfl ?_
  refine gI_callV (n9 := 3) (As := [.int a1, .int a2, .int a3]) (rest := [.int (nI 0), .ref ob]) hB (p_habit X.2.1 h c Λ u T W z hC o a1 a2 a3) (gCW.of ggL_habit_X6_habit rfl ⟨by decide, by decide, by decide +kernel⟩ ⟨Nat.le_of_ble_eq_true rfl, Nat.le_of_ble_eq_true rfl⟩) (by decide +kernel) (by decide +kernel) (by decide +kernel) (by decide +kernel) hC.1 (C := RX6) (T := TX6) (N := 9) rfl rfl rfl (Nat.le_of_ble_eq_true rfl) (by first | exact Nat.le_of_ble_eq_true rfl | (dsimp only [gRm]; omega)) (by first | exact Nat.le_of_ble_eq_true rfl | (dsimp only [gRm]; omega)) dL_habit_7 (fun v9 h1 k1 n1 hp => ?_) (fun E9 h1 k1 n1 hp => ?_)
  · obtain ⟨F', hW, hFr, hle, hk9, hn9, hr⟩ := hp
    rcases hr with ⟨e9, e0⟩ | ⟨e9, -⟩ | ⟨e9, -⟩
    · cases e9
      have hob1 := hFr _ _ hob rfl
      refine gI_i2l hB dL_habit_10 ?_
      refine gC_last hB hob1 dL_habit_11 (fun h2 f2 ef hob2 hst => ?_)
      refine gI_goto hB 19 dL_habit_12 (by decide) ?_
      refine gI_iconst (v := nI 0) hB dL_habit_19 (by decide) ?_
      refine gI_iret hB hE dL_habit_20 ?_
      exact ⟨F', f2, by rw [e0], hW.out hob1 hst, hob2, fun _ => ef, fun q e hq hk hne => hst q e (hFr q e hq hk) hne, hle, by omega, by omega⟩
    · cases e9
    · cases e9
  · obtain ⟨F', hW, hFr, hle, hk9, hn9, hr⟩ := hp
    have hob1 := hFr _ _ hob rfl
    rcases hr with ⟨e9, -⟩ | ⟨e9, e0⟩ | ⟨e9, e0⟩
    · cases e9
    · cases e9
      refine gI_catch hB hE (name := "java/lang/IndexOutOfBoundsException") [] ⟨0, 12, 15, 24⟩ [] rfl (fun z9 h9 => absurd h9 List.not_mem_nil) (by decide) (by decide) (by decide +kernel) cast_IOB (fun q9 => ?_)
      refine gI_astore hB ([(5, .ref q9), (0, .ref (c 0)), (1, .int a1), (2, .int a2), (3, .int a3), (4, .ref ob)]) hnL dL_habit_15 (by decide) rfl ?_
      refine gI_iconst (v := nI 1) hB dL_habit_17 (by decide) ?_
      refine gI_iret hB hE dL_habit_18 ?_
      exact ⟨F', fo, by rw [e0], hW, hob1, fun z9 => absurd (e0.symm.trans z9) (by decide), fun q e hq hk _ => hFr q e hq hk, hle, by omega, by omega⟩
    · exact absurd e0 (ne2_habit u a1 a2 a3)

theorem ne2_ring (u : MS) (a1 : Int32) : ¬ (mRing u a1).1.1 0 = nI 2 := by
  unfold mRing
  split
  · rw [mHear_t]
    exact fun z9 => absurd (show nI 0 = nI 2 from z9) (by decide)
  · exact fun z9 => absurd (show nI 1 = nI 2 from z9) (by decide)
set_option maxRecDepth 100000 in
set_option maxHeartbeats 4000000 in
theorem w_ring (G : gG) (h : gH) (c : Nat → Nat) (Λ : CL) (u : MS) (T W z : Nat) (hC : cRep G h c Λ u T W z) (o : mOk u T W z) (a1 : Int32) (ob : Nat) (fo : Nat → Int64) (hob : gat h ob (.inl (gJ G, 1, .inr (.inl fo)))) : gMetN yL_ring wsL_ring (gRm 11 4100 26100) G h [.ref (c 0), .int a1, .ref ob] (wPo G h c (cPhi Λ) ob (mRing u a1) 1 6) := by
  refine gMetN_of (maxL := 4) (ret := (some .int)) (hh := [(0, 9, 12, 24)]) (by decide) rfl (Nat.le_of_ble_eq_true rfl) ?_
  intro X hG hnL hB hE hNx
  subst hG
  change gW X h 0 0 0 [(0, .ref (c 0)), (1, .int a1), (2, .ref ob)] []
  refine gI_aload_n hB 2 dL_ring_0 rfl ?_
  refine gI_iconst (v := nI 0) hB dL_ring_1 (by decide) ?_
  refine gI_aload_n hB 0 dL_ring_2 rfl ?_
  refine gI_iload_n hB 1 dL_ring_3 rfl ?_
  refine gI_callV (n9 := 1) (As := [.int a1]) (rest := [.int (nI 0), .ref ob]) hB (p_ring X.2.1 h c Λ u T W z hC o a1) (gCW.of ggL_ring_X6_ring rfl ⟨by decide, by decide, by decide +kernel⟩ ⟨Nat.le_of_ble_eq_true rfl, Nat.le_of_ble_eq_true rfl⟩) (by decide +kernel) (by decide +kernel) (by decide +kernel) (by decide +kernel) hC.1 (C := RX6) (T := TX6) (N := 9) rfl rfl rfl (Nat.le_of_ble_eq_true rfl) (by first | exact Nat.le_of_ble_eq_true rfl | (dsimp only [gRm]; omega)) (by first | exact Nat.le_of_ble_eq_true rfl | (dsimp only [gRm]; omega)) dL_ring_4 (fun v9 h1 k1 n1 hp => ?_) (fun E9 h1 k1 n1 hp => ?_)
  · obtain ⟨F', hW, hFr, hle, hk9, hn9, hr⟩ := hp
    rcases hr with ⟨e9, e0⟩ | ⟨e9, -⟩ | ⟨e9, -⟩
    · cases e9
      have hob1 := hFr _ _ hob rfl
      refine gI_i2l hB dL_ring_7 ?_
      refine gC_last hB hob1 dL_ring_8 (fun h2 f2 ef hob2 hst => ?_)
      refine gI_goto hB 15 dL_ring_9 (by decide) ?_
      refine gI_iconst (v := nI 0) hB dL_ring_15 (by decide) ?_
      refine gI_iret hB hE dL_ring_16 ?_
      exact ⟨F', f2, by rw [e0], hW.out hob1 hst, hob2, fun _ => ef, fun q e hq hk hne => hst q e (hFr q e hq hk) hne, hle, by omega, by omega⟩
    · cases e9
    · cases e9
  · obtain ⟨F', hW, hFr, hle, hk9, hn9, hr⟩ := hp
    have hob1 := hFr _ _ hob rfl
    rcases hr with ⟨e9, -⟩ | ⟨e9, e0⟩ | ⟨e9, e0⟩
    · cases e9
    · cases e9
      refine gI_catch hB hE (name := "java/lang/IndexOutOfBoundsException") [] ⟨0, 9, 12, 24⟩ [] rfl (fun z9 h9 => absurd h9 List.not_mem_nil) (by decide) (by decide) (by decide +kernel) cast_IOB (fun q9 => ?_)
      refine gI_astore_n hB ([(3, .ref q9), (0, .ref (c 0)), (1, .int a1), (2, .ref ob)]) hnL dL_ring_12 (by decide) rfl ?_
      refine gI_iconst (v := nI 1) hB dL_ring_13 (by decide) ?_
      refine gI_iret hB hE dL_ring_14 ?_
      exact ⟨F', fo, by rw [e0], hW, hob1, fun z9 => absurd (e0.symm.trans z9) (by decide), fun q e hq hk _ => hFr q e hq hk, hle, by omega, by omega⟩
    · exact absurd e0 (ne2_ring u a1)
