theorem ne2_pass (u : MS) (a1 : Int32) : ¬ (mPass u a1).1.1 0 = nI 2 := by
  unfold mPass
  split
  · show ¬ (mPassL _ _).1 0 = nI 2
    rw [mPassL_t]
    exact fun z9 => absurd (show nI 0 = nI 2 from z9) (by decide)
  · exact fun z9 => absurd (show nI 1 = nI 2 from z9) (by decide)
set_option maxRecDepth 100000 in
set_option maxHeartbeats 4000000 in
theorem w_pass (G : gG) (h : gH) (c : Nat → Nat) (Λ : CL) (u : MS) (T W z : Nat) (hC : cRep G h c Λ u T W z) (o : mOk u T W z) (a1 : Int32) (ob : Nat) (fo : Nat → Int64) (hob : gat h ob (.inl (gJ G, 1, .inr (.inl fo)))) : gMetN yL_pass wsL_pass (gRm 12 8000 54000) G h [.ref (c 0), .int a1, .ref ob] (wPo G h c (cPhi Λ) ob (mPass u a1) 1 6) := by
  refine gMetN_of (maxL := 4) (ret := (some .int)) (hh := [(0, 9, 12, 13)]) (by decide) rfl (Nat.le_of_ble_eq_true rfl) ?_
  intro X hG hnL hB hE hNx
  subst hG
  change gW X h 0 0 0 [(0, .ref (c 0)), (1, .int a1), (2, .ref ob)] []
  refine gI_aload_n hB 2 dL_pass_0 rfl ?_
  refine gI_iconst (v := nI 0) hB dL_pass_1 (by decide) ?_
  refine gI_aload_n hB 0 dL_pass_2 rfl ?_
  refine gI_iload_n hB 1 dL_pass_3 rfl ?_
  refine gI_callV (n9 := 1) (As := [.int a1]) (rest := [.int (nI 0), .ref ob]) hB (p_pass X.2.1 h c Λ u T W z hC o a1) (gCW.of ggL_pass_X6_pass rfl ⟨by decide, by decide, by decide +kernel⟩ ⟨Nat.le_of_ble_eq_true rfl, Nat.le_of_ble_eq_true rfl⟩) (by decide +kernel) (by decide +kernel) (by decide +kernel) (by decide +kernel) hC.1 (C := RX6) (T := TX6) (N := 9) rfl rfl rfl (Nat.le_of_ble_eq_true rfl) (by first | exact Nat.le_of_ble_eq_true rfl | (dsimp only [gRm]; omega)) (by first | exact Nat.le_of_ble_eq_true rfl | (dsimp only [gRm]; omega)) dL_pass_4 (fun v9 h1 k1 n1 hp => ?_) (fun E9 h1 k1 n1 hp => ?_)
  · obtain ⟨F', hW, hFr, hle, hk9, hn9, hr⟩ := hp
    rcases hr with ⟨e9, e0⟩ | ⟨e9, -⟩ | ⟨e9, -⟩
    · cases e9
      have hob1 := hFr _ _ hob rfl
      refine gI_i2l hB dL_pass_7 ?_
      refine gC_last hB hob1 dL_pass_8 (fun h2 f2 ef hob2 hst => ?_)
      refine gI_goto hB 15 dL_pass_9 (by decide) ?_
      refine gI_iconst (v := nI 0) hB dL_pass_15 (by decide) ?_
      refine gI_iret hB hE dL_pass_16 ?_
      exact ⟨F', f2, by rw [e0], hW.out hob1 hst, hob2, fun _ => ef, fun q e hq hk hne => hst q e (hFr q e hq hk) hne, hle, by omega, by omega⟩
    · cases e9
    · cases e9
  · obtain ⟨F', hW, hFr, hle, hk9, hn9, hr⟩ := hp
    have hob1 := hFr _ _ hob rfl
    rcases hr with ⟨e9, -⟩ | ⟨e9, e0⟩ | ⟨e9, e0⟩
    · cases e9
    · cases e9
      refine gI_catch hB hE (name := "java/lang/IllegalArgumentException") [] ⟨0, 9, 12, 13⟩ [] rfl (fun z9 h9 => absurd h9 List.not_mem_nil) (by decide) (by decide) (by decide +kernel) cast_IAE (fun q9 => ?_)
      refine gI_astore_n hB ([(3, .ref q9), (0, .ref (c 0)), (1, .int a1), (2, .ref ob)]) hnL dL_pass_12 (by decide) rfl ?_
      refine gI_iconst (v := nI 1) hB dL_pass_13 (by decide) ?_
      refine gI_iret hB hE dL_pass_14 ?_
      exact ⟨F', fo, by rw [e0], hW, hob1, fun z9 => absurd (e0.symm.trans z9) (by decide), fun q e hq hk _ => hFr q e hq hk, hle, by omega, by omega⟩
    · exact absurd e0 (ne2_pass u a1)

theorem ne2_count (u : MS) (a1 : Int32) : ¬ (mCount u a1).1.1 0 = nI 2 := by
  unfold mCount
  split <;> first | exact fun z9 => absurd (show nI 0 = nI 2 from z9) (by decide) | exact fun z9 => absurd (show nI 1 = nI 2 from z9) (by decide)
set_option maxRecDepth 100000 in
set_option maxHeartbeats 4000000 in
theorem w_count (G : gG) (h : gH) (c : Nat → Nat) (Λ : CL) (u : MS) (T W z : Nat) (hC : cRep G h c Λ u T W z) (o : mOk u T W z) (a1 : Int32) (ob : Nat) (fo : Nat → Int64) (hob : gat h ob (.inl (gJ G, 1, .inr (.inl fo)))) : gMetN yL_count wsL_count (gRm 4 1 6) G h [.ref (c 0), .int a1, .ref ob] (wPo G h c (cPhi Λ) ob (mCount u a1) 1 6) := by
  refine gMetN_of (maxL := 4) (ret := (some .int)) (hh := [(0, 9, 12, 24)]) (by decide) rfl (Nat.le_of_ble_eq_true rfl) ?_
  intro X hG hnL hB hE hNx
  subst hG
  change gW X h 0 0 0 [(0, .ref (c 0)), (1, .int a1), (2, .ref ob)] []
  refine gI_aload_n hB 2 dL_count_0 rfl ?_
  refine gI_iconst (v := nI 0) hB dL_count_1 (by decide) ?_
  refine gI_aload_n hB 0 dL_count_2 rfl ?_
  refine gI_iload_n hB 1 dL_count_3 rfl ?_
  refine gI_callV (n9 := 1) (As := [.int a1]) (rest := [.int (nI 0), .ref ob]) hB (p_count X.2.1 h c Λ u T W z hC o a1) (gCW.of ggL_count_X6_count rfl ⟨by decide, by decide, by decide +kernel⟩ ⟨Nat.le_of_ble_eq_true rfl, Nat.le_of_ble_eq_true rfl⟩) (by decide +kernel) (by decide +kernel) (by decide +kernel) (by decide +kernel) hC.1 (C := RX6) (T := TX6) (N := 9) rfl rfl rfl (Nat.le_of_ble_eq_true rfl) (by first | exact Nat.le_of_ble_eq_true rfl | (dsimp only [gRm]; omega)) (by first | exact Nat.le_of_ble_eq_true rfl | (dsimp only [gRm]; omega)) dL_count_4 (fun v9 h1 k1 n1 hp => ?_) (fun E9 h1 k1 n1 hp => ?_)
  · obtain ⟨F', hW, hFr, hle, hk9, hn9, hr⟩ := hp
    rcases hr with ⟨e9, e0⟩ | ⟨e9, -⟩ | ⟨e9, -⟩
    · cases e9
      have hob1 := hFr _ _ hob rfl
      refine gI_i2l hB dL_count_7 ?_
      refine gC_last hB hob1 dL_count_8 (fun h2 f2 ef hob2 hst => ?_)
      refine gI_goto hB 15 dL_count_9 (by decide) ?_
      refine gI_iconst (v := nI 0) hB dL_count_15 (by decide) ?_
      refine gI_iret hB hE dL_count_16 ?_
      exact ⟨F', f2, by rw [e0], hW.out hob1 hst, hob2, fun _ => ef, fun q e hq hk hne => hst q e (hFr q e hq hk) hne, hle, by omega, by omega⟩
    · cases e9
    · cases e9
  · obtain ⟨F', hW, hFr, hle, hk9, hn9, hr⟩ := hp
    have hob1 := hFr _ _ hob rfl
    rcases hr with ⟨e9, -⟩ | ⟨e9, e0⟩ | ⟨e9, e0⟩
    · cases e9
    · cases e9
      refine gI_catch hB hE (name := "java/lang/IndexOutOfBoundsException") [] ⟨0, 9, 12, 24⟩ [] rfl (fun z9 h9 => absurd h9 List.not_mem_nil) (by decide) (by decide) (by decide +kernel) cast_IOB (fun q9 => ?_)
      refine gI_astore_n hB ([(3, .ref q9), (0, .ref (c 0)), (1, .int a1), (2, .ref ob)]) hnL dL_count_12 (by decide) rfl ?_
      refine gI_iconst (v := nI 1) hB dL_count_13 (by decide) ?_
      refine gI_iret hB hE dL_count_14 ?_
      exact ⟨F', fo, by rw [e0], hW, hob1, fun z9 => absurd (e0.symm.trans z9) (by decide), fun q e hq hk _ => hFr q e hq hk, hle, by omega, by omega⟩
    · exact absurd e0 (ne2_count u a1)

theorem ne2_waiting (u : MS) (a1 a2 : Int32) : ¬ (mWaiting u a1 a2).1.1 0 = nI 2 := by
  unfold mWaiting
  split <;> first | exact fun z9 => absurd (show nI 0 = nI 2 from z9) (by decide) | exact fun z9 => absurd (show nI 1 = nI 2 from z9) (by decide)
set_option maxRecDepth 100000 in
set_option maxHeartbeats 4000000 in
theorem w_waiting (G : gG) (h : gH) (c : Nat → Nat) (Λ : CL) (u : MS) (T W z : Nat) (hC : cRep G h c Λ u T W z) (o : mOk u T W z) (a1 a2 : Int32) (ob : Nat) (fo : Nat → Int64) (hob : gat h ob (.inl (gJ G, 1, .inr (.inl fo)))) : gMetN yL_waiting wsL_waiting (gRm 6 1 6) G h [.ref (c 0), .int a1, .int a2, .ref ob] (wPo G h c (cPhi Λ) ob (mWaiting u a1 a2) 1 6) := by
  refine gMetN_of (maxL := 5) (ret := (some .int)) (hh := [(0, 10, 13, 24)]) (by decide) rfl (Nat.le_of_ble_eq_true rfl) ?_
  intro X hG hnL hB hE hNx
  subst hG
  change gW X h 0 0 0 [(0, .ref (c 0)), (1, .int a1), (2, .int a2), (3, .ref ob)] []
  refine gI_aload_n hB 3 dL_waiting_0 rfl ?_
  refine gI_iconst (v := nI 0) hB dL_waiting_1 (by decide) ?_
  refine gI_aload_n hB 0 dL_waiting_2 rfl ?_
  refine gI_iload_n hB 1 dL_waiting_3 rfl ?_
  refine gI_iload_n hB 2 dL_waiting_4 rfl ?_
  refine gI_callV (n9 := 2) (As := [.int a1, .int a2]) (rest := [.int (nI 0), .ref ob]) hB (p_waiting X.2.1 h c Λ u T W z hC o a1 a2) (gCW.of ggL_waiting_X6_waiting rfl ⟨by decide, by decide, by decide +kernel⟩ ⟨Nat.le_of_ble_eq_true rfl, Nat.le_of_ble_eq_true rfl⟩) (by decide +kernel) (by decide +kernel) (by decide +kernel) (by decide +kernel) hC.1 (C := RX6) (T := TX6) (N := 9) rfl rfl rfl (Nat.le_of_ble_eq_true rfl) (by first | exact Nat.le_of_ble_eq_true rfl | (dsimp only [gRm]; omega)) (by first | exact Nat.le_of_ble_eq_true rfl | (dsimp only [gRm]; omega)) dL_waiting_5 (fun v9 h1 k1 n1 hp => ?_) (fun E9 h1 k1 n1 hp => ?_)
  · obtain ⟨F', hW, hFr, hle, hk9, hn9, hr⟩ := hp
    rcases hr with ⟨e9, e0⟩ | ⟨e9, -⟩ | ⟨e9, -⟩
    · cases e9
      have hob1 := hFr _ _ hob rfl
      refine gI_i2l hB dL_waiting_8 ?_
      refine gC_last hB hob1 dL_waiting_9 (fun h2 f2 ef hob2 hst => ?_)
      refine gI_goto hB 17 dL_waiting_10 (by decide) ?_
      refine gI_iconst (v := nI 0) hB dL_waiting_17 (by decide) ?_
      refine gI_iret hB hE dL_waiting_18 ?_
      exact ⟨F', f2, by rw [e0], hW.out hob1 hst, hob2, fun _ => ef, fun q e hq hk hne => hst q e (hFr q e hq hk) hne, hle, by omega, by omega⟩
    · cases e9
    · cases e9
  · obtain ⟨F', hW, hFr, hle, hk9, hn9, hr⟩ := hp
    have hob1 := hFr _ _ hob rfl
    rcases hr with ⟨e9, -⟩ | ⟨e9, e0⟩ | ⟨e9, e0⟩
    · cases e9
    · cases e9
      refine gI_catch hB hE (name := "java/lang/IndexOutOfBoundsException") [] ⟨0, 10, 13, 24⟩ [] rfl (fun z9 h9 => absurd h9 List.not_mem_nil) (by decide) (by decide) (by decide +kernel) cast_IOB (fun q9 => ?_)
      refine gI_astore hB ([(4, .ref q9), (0, .ref (c 0)), (1, .int a1), (2, .int a2), (3, .ref ob)]) hnL dL_waiting_13 (by decide) rfl ?_
      refine gI_iconst (v := nI 1) hB dL_waiting_15 (by decide) ?_
      refine gI_iret hB hE dL_waiting_16 ?_
      exact ⟨F', fo, by rw [e0], hW, hob1, fun z9 => absurd (e0.symm.trans z9) (by decide), fun q e hq hk _ => hFr q e hq hk, hle, by omega, by omega⟩
    · exact absurd e0 (ne2_waiting u a1 a2)

set_option maxRecDepth 100000 in
set_option maxHeartbeats 4000000 in
theorem w_fits (G : gG) (h : gH) (c : Nat → Nat) (Λ : CL) (u : MS) (T W z : Nat) (hC : cRep G h c Λ u T W z) (o : mOk u T W z) (a1 a2 a3 : Int32) (ob : Nat) (fo : Nat → Int64) (hob : gat h ob (.inl (gJ G, 1, .inr (.inl fo)))) : gMetN yL_fits wsL_fits (gRm 6 1 6) G h [.ref (c 0), .int a1, .int a2, .int a3, .ref ob] (wPo G h c (cPhi Λ) ob (mFitsC u a1 a2 a3) 1 6) := by
  refine gMetN_of (maxL := 6) (ret := (some .int)) (hh := [(0, 12, 15, 24), (0, 12, 19, 13)]) (by decide) rfl (Nat.le_of_ble_eq_true rfl) ?_
  intro X hG hnL hB hE hNx
  subst hG
  change gW X h 0 0 0 [(0, .ref (c 0)), (1, .int a1), (2, .int a2), (3, .int a3), (4, .ref ob)] []
  refine gI_aload hB 4 dL_fits_0 rfl ?_
  refine gI_iconst (v := nI 0) hB dL_fits_2 (by decide) ?_
  refine gI_aload_n hB 0 dL_fits_3 rfl ?_
  refine gI_iload_n hB 1 dL_fits_4 rfl ?_
  refine gI_iload_n hB 2 dL_fits_5 rfl ?_
  refine gI_iload_n hB 3 dL_fits_6 rfl ?_
  refine gI_callV (n9 := 3) (As := [.int a1, .int a2, .int a3]) (rest := [.int (nI 0), .ref ob]) hB (p_fits X.2.1 h c Λ u T W z hC o a1 a2 a3) (gCW.of ggL_fits_X6_fits rfl ⟨by decide, by decide, by decide +kernel⟩ ⟨Nat.le_of_ble_eq_true rfl, Nat.le_of_ble_eq_true rfl⟩) (by decide +kernel) (by decide +kernel) (by decide +kernel) (by decide +kernel) hC.1 (C := RX6) (T := TX6) (N := 9) rfl rfl rfl (Nat.le_of_ble_eq_true rfl) (by first | exact Nat.le_of_ble_eq_true rfl | (dsimp only [gRm]; omega)) (by first | exact Nat.le_of_ble_eq_true rfl | (dsimp only [gRm]; omega)) dL_fits_7 (fun v9 h1 k1 n1 hp => ?_) (fun E9 h1 k1 n1 hp => ?_)
  · obtain ⟨F', hW, hFr, hle, hk9, hn9, hr⟩ := hp
    rcases hr with ⟨e9, e0⟩ | ⟨e9, -⟩ | ⟨e9, -⟩
    · cases e9
      have hob1 := hFr _ _ hob rfl
      refine gI_i2l hB dL_fits_10 ?_
      refine gC_last hB hob1 dL_fits_11 (fun h2 f2 ef hob2 hst => ?_)
      refine gI_goto hB 23 dL_fits_12 (by decide) ?_
      refine gI_iconst (v := nI 0) hB dL_fits_23 (by decide) ?_
      refine gI_iret hB hE dL_fits_24 ?_
      exact ⟨F', f2, by rw [e0], hW.out hob1 hst, hob2, fun _ => ef, fun q e hq hk hne => hst q e (hFr q e hq hk) hne, hle, by omega, by omega⟩
    · cases e9
    · cases e9
  · obtain ⟨F', hW, hFr, hle, hk9, hn9, hr⟩ := hp
    have hob1 := hFr _ _ hob rfl
    rcases hr with ⟨e9, -⟩ | ⟨e9, e0⟩ | ⟨e9, e0⟩
    · cases e9
    · cases e9
      refine gI_catch hB hE (name := "java/lang/IndexOutOfBoundsException") [] ⟨0, 12, 15, 24⟩ [⟨0, 12, 19, 13⟩] rfl (fun z9 h9 => absurd h9 List.not_mem_nil) (by decide) (by decide) (by decide +kernel) cast_IOB (fun q9 => ?_)
      refine gI_astore hB ([(5, .ref q9), (0, .ref (c 0)), (1, .int a1), (2, .int a2), (3, .int a3), (4, .ref ob)]) hnL dL_fits_15 (by decide) rfl ?_
      refine gI_iconst (v := nI 1) hB dL_fits_17 (by decide) ?_
      refine gI_iret hB hE dL_fits_18 ?_
      exact ⟨F', fo, by rw [e0], hW, hob1, fun z9 => absurd (e0.symm.trans z9) (by decide), fun q e hq hk _ => hFr q e hq hk, hle, by omega, by omega⟩
    · cases e9
      refine gI_catch hB hE (name := "java/lang/IllegalArgumentException") [⟨0, 12, 15, 24⟩] ⟨0, 12, 19, 13⟩ [] rfl (fun z9 h9 => by
        rcases List.mem_singleton.mp h9 with rfl
        exact ⟨by decide, "java/lang/IndexOutOfBoundsException", by decide +kernel, hNx.2.2.1⟩) (by decide) (by decide) (by decide +kernel) cast_IAE (fun q9 => ?_)
      refine gI_astore hB ([(5, .ref q9), (0, .ref (c 0)), (1, .int a1), (2, .int a2), (3, .int a3), (4, .ref ob)]) hnL dL_fits_19 (by decide) rfl ?_
      refine gI_iconst (v := nI 2) hB dL_fits_21 (by decide) ?_
      refine gI_iret hB hE dL_fits_22 ?_
      exact ⟨F', fo, by rw [e0], hW, hob1, fun z9 => absurd (e0.symm.trans z9) (by decide), fun q e hq hk _ => hFr q e hq hk, hle, by omega, by omega⟩

theorem ne2_sung (u : MS) (a1 a2 : Int32) : ¬ (mSung u a1 a2).1.1 0 = nI 2 := by
  unfold mSung
  split <;> first | exact fun z9 => absurd (show nI 0 = nI 2 from z9) (by decide) | exact fun z9 => absurd (show nI 1 = nI 2 from z9) (by decide)
set_option maxRecDepth 100000 in
set_option maxHeartbeats 4000000 in
theorem w_sung (G : gG) (h : gH) (c : Nat → Nat) (Λ : CL) (u : MS) (T W z : Nat) (hC : cRep G h c Λ u T W z) (o : mOk u T W z) (a1 a2 : Int32) (ob : Nat) (fo : Nat → Int64) (hob : gat h ob (.inl (gJ G, 1, .inr (.inl fo)))) : gMetN yL_sung wsL_sung (gRm 6 1 6) G h [.ref (c 0), .int a1, .int a2, .ref ob] (wPo G h c (cPhi Λ) ob (mSung u a1 a2) 1 6) := by
  refine gMetN_of (maxL := 5) (ret := (some .int)) (hh := [(0, 10, 13, 24)]) (by decide) rfl (Nat.le_of_ble_eq_true rfl) ?_
  intro X hG hnL hB hE hNx
  subst hG
  change gW X h 0 0 0 [(0, .ref (c 0)), (1, .int a1), (2, .int a2), (3, .ref ob)] []
  refine gI_aload_n hB 3 dL_sung_0 rfl ?_
  refine gI_iconst (v := nI 0) hB dL_sung_1 (by decide) ?_
  refine gI_aload_n hB 0 dL_sung_2 rfl ?_
  refine gI_iload_n hB 1 dL_sung_3 rfl ?_
  refine gI_iload_n hB 2 dL_sung_4 rfl ?_
  refine gI_callV (n9 := 2) (As := [.int a1, .int a2]) (rest := [.int (nI 0), .ref ob]) hB (p_sung X.2.1 h c Λ u T W z hC o a1 a2) (gCW.of ggL_sung_X6_sung rfl ⟨by decide, by decide, by decide +kernel⟩ ⟨Nat.le_of_ble_eq_true rfl, Nat.le_of_ble_eq_true rfl⟩) (by decide +kernel) (by decide +kernel) (by decide +kernel) (by decide +kernel) hC.1 (C := RX6) (T := TX6) (N := 9) rfl rfl rfl (Nat.le_of_ble_eq_true rfl) (by first | exact Nat.le_of_ble_eq_true rfl | (dsimp only [gRm]; omega)) (by first | exact Nat.le_of_ble_eq_true rfl | (dsimp only [gRm]; omega)) dL_sung_5 (fun v9 h1 k1 n1 hp => ?_) (fun E9 h1 k1 n1 hp => ?_)
  · obtain ⟨F', hW, hFr, hle, hk9, hn9, hr⟩ := hp
    rcases hr with ⟨e9, e0⟩ | ⟨e9, -⟩ | ⟨e9, -⟩
    · cases e9
      have hob1 := hFr _ _ hob rfl
      refine gI_i2l hB dL_sung_8 ?_
      refine gC_last hB hob1 dL_sung_9 (fun h2 f2 ef hob2 hst => ?_)
      refine gI_goto hB 17 dL_sung_10 (by decide) ?_
      refine gI_iconst (v := nI 0) hB dL_sung_17 (by decide) ?_
      refine gI_iret hB hE dL_sung_18 ?_
      exact ⟨F', f2, by rw [e0], hW.out hob1 hst, hob2, fun _ => ef, fun q e hq hk hne => hst q e (hFr q e hq hk) hne, hle, by omega, by omega⟩
    · cases e9
    · cases e9
  · obtain ⟨F', hW, hFr, hle, hk9, hn9, hr⟩ := hp
    have hob1 := hFr _ _ hob rfl
    rcases hr with ⟨e9, -⟩ | ⟨e9, e0⟩ | ⟨e9, e0⟩
    · cases e9
    · cases e9
      refine gI_catch hB hE (name := "java/lang/IndexOutOfBoundsException") [] ⟨0, 10, 13, 24⟩ [] rfl (fun z9 h9 => absurd h9 List.not_mem_nil) (by decide) (by decide) (by decide +kernel) cast_IOB (fun q9 => ?_)
      refine gI_astore hB ([(4, .ref q9), (0, .ref (c 0)), (1, .int a1), (2, .int a2), (3, .ref ob)]) hnL dL_sung_13 (by decide) rfl ?_
      refine gI_iconst (v := nI 1) hB dL_sung_15 (by decide) ?_
      refine gI_iret hB hE dL_sung_16 ?_
      exact ⟨F', fo, by rw [e0], hW, hob1, fun z9 => absurd (e0.symm.trans z9) (by decide), fun q e hq hk _ => hFr q e hq hk, hle, by omega, by omega⟩
    · exact absurd e0 (ne2_sung u a1 a2)

theorem ne2_through (u : MS) (a1 a2 : Int32) : ¬ (mThrough u a1 a2).1.1 0 = nI 2 := by
  unfold mThrough
  split <;> first | exact fun z9 => absurd (show nI 0 = nI 2 from z9) (by decide) | exact fun z9 => absurd (show nI 1 = nI 2 from z9) (by decide)
set_option maxRecDepth 100000 in
set_option maxHeartbeats 4000000 in
theorem w_through (G : gG) (h : gH) (c : Nat → Nat) (Λ : CL) (u : MS) (T W z : Nat) (hC : cRep G h c Λ u T W z) (o : mOk u T W z) (a1 a2 : Int32) (ob : Nat) (fo : Nat → Int64) (hob : gat h ob (.inl (gJ G, 1, .inr (.inl fo)))) : gMetN yL_through wsL_through (gRm 6 1 6) G h [.ref (c 0), .int a1, .int a2, .ref ob] (wPo G h c (cPhi Λ) ob (mThrough u a1 a2) 1 6) := by
  refine gMetN_of (maxL := 5) (ret := (some .int)) (hh := [(0, 10, 13, 24)]) (by decide) rfl (Nat.le_of_ble_eq_true rfl) ?_
  intro X hG hnL hB hE hNx
  subst hG
  change gW X h 0 0 0 [(0, .ref (c 0)), (1, .int a1), (2, .int a2), (3, .ref ob)] []
  refine gI_aload_n hB 3 dL_through_0 rfl ?_
  refine gI_iconst (v := nI 0) hB dL_through_1 (by decide) ?_
  refine gI_aload_n hB 0 dL_through_2 rfl ?_
  refine gI_iload_n hB 1 dL_through_3 rfl ?_
  refine gI_iload_n hB 2 dL_through_4 rfl ?_
  refine gI_callV (n9 := 2) (As := [.int a1, .int a2]) (rest := [.int (nI 0), .ref ob]) hB (p_through X.2.1 h c Λ u T W z hC o a1 a2) (gCW.of ggL_through_X6_through rfl ⟨by decide, by decide, by decide +kernel⟩ ⟨Nat.le_of_ble_eq_true rfl, Nat.le_of_ble_eq_true rfl⟩) (by decide +kernel) (by decide +kernel) (by decide +kernel) (by decide +kernel) hC.1 (C := RX6) (T := TX6) (N := 9) rfl rfl rfl (Nat.le_of_ble_eq_true rfl) (by first | exact Nat.le_of_ble_eq_true rfl | (dsimp only [gRm]; omega)) (by first | exact Nat.le_of_ble_eq_true rfl | (dsimp only [gRm]; omega)) dL_through_5 (fun v9 h1 k1 n1 hp => ?_) (fun E9 h1 k1 n1 hp => ?_)
  · obtain ⟨F', hW, hFr, hle, hk9, hn9, hr⟩ := hp
    rcases hr with ⟨e9, e0⟩ | ⟨e9, -⟩ | ⟨e9, -⟩
    · cases e9
      have hob1 := hFr _ _ hob rfl
      refine gI_i2l hB dL_through_8 ?_
      refine gC_last hB hob1 dL_through_9 (fun h2 f2 ef hob2 hst => ?_)
      refine gI_goto hB 17 dL_through_10 (by decide) ?_
      refine gI_iconst (v := nI 0) hB dL_through_17 (by decide) ?_
      refine gI_iret hB hE dL_through_18 ?_
      exact ⟨F', f2, by rw [e0], hW.out hob1 hst, hob2, fun _ => ef, fun q e hq hk hne => hst q e (hFr q e hq hk) hne, hle, by omega, by omega⟩
    · cases e9
    · cases e9
  · obtain ⟨F', hW, hFr, hle, hk9, hn9, hr⟩ := hp
    have hob1 := hFr _ _ hob rfl
    rcases hr with ⟨e9, -⟩ | ⟨e9, e0⟩ | ⟨e9, e0⟩
    · cases e9
    · cases e9
      refine gI_catch hB hE (name := "java/lang/IndexOutOfBoundsException") [] ⟨0, 10, 13, 24⟩ [] rfl (fun z9 h9 => absurd h9 List.not_mem_nil) (by decide) (by decide) (by decide +kernel) cast_IOB (fun q9 => ?_)
      refine gI_astore hB ([(4, .ref q9), (0, .ref (c 0)), (1, .int a1), (2, .int a2), (3, .ref ob)]) hnL dL_through_13 (by decide) rfl ?_
      refine gI_iconst (v := nI 1) hB dL_through_15 (by decide) ?_
      refine gI_iret hB hE dL_through_16 ?_
      exact ⟨F', fo, by rw [e0], hW, hob1, fun z9 => absurd (e0.symm.trans z9) (by decide), fun q e hq hk _ => hFr q e hq hk, hle, by omega, by omega⟩
    · exact absurd e0 (ne2_through u a1 a2)

set_option maxRecDepth 100000 in
set_option maxHeartbeats 4000000 in
theorem w_sounds (G : gG) (h : gH) (c : Nat → Nat) (Λ : CL) (u : MS) (T W z : Nat) (hC : cRep G h c Λ u T W z) (o : mOk u T W z) (a1 a2 : Int32) (ob : Nat) (fo : Nat → Int64) (hob : gat h ob (.inl (gJ G, 1, .inr (.inl fo)))) : gMetN yL_sounds wsL_sounds (gRm 7 1 6) G h [.ref (c 0), .int a1, .int a2, .ref ob] (wPo G h c (cPhi Λ) ob (mSounds u a1 a2) 1 6) := by
  refine gMetN_of (maxL := 5) (ret := (some .int)) (hh := [(0, 10, 13, 13), (0, 10, 17, 24)]) (by decide) rfl (Nat.le_of_ble_eq_true rfl) ?_
  intro X hG hnL hB hE hNx
  subst hG
  change gW X h 0 0 0 [(0, .ref (c 0)), (1, .int a1), (2, .int a2), (3, .ref ob)] []
  refine gI_aload_n hB 3 dL_sounds_0 rfl ?_
  refine gI_iconst (v := nI 0) hB dL_sounds_1 (by decide) ?_
  refine gI_aload_n hB 0 dL_sounds_2 rfl ?_
  refine gI_iload_n hB 1 dL_sounds_3 rfl ?_
  refine gI_iload_n hB 2 dL_sounds_4 rfl ?_
  refine gI_callV (n9 := 2) (As := [.int a1, .int a2]) (rest := [.int (nI 0), .ref ob]) hB (p_sounds X.2.1 h c Λ u T W z hC o a1 a2) (gCW.of ggL_sounds_X6_sounds rfl ⟨by decide, by decide, by decide +kernel⟩ ⟨Nat.le_of_ble_eq_true rfl, Nat.le_of_ble_eq_true rfl⟩) (by decide +kernel) (by decide +kernel) (by decide +kernel) (by decide +kernel) hC.1 (C := RX6) (T := TX6) (N := 9) rfl rfl rfl (Nat.le_of_ble_eq_true rfl) (by first | exact Nat.le_of_ble_eq_true rfl | (dsimp only [gRm]; omega)) (by first | exact Nat.le_of_ble_eq_true rfl | (dsimp only [gRm]; omega)) dL_sounds_5 (fun v9 h1 k1 n1 hp => ?_) (fun E9 h1 k1 n1 hp => ?_)
  · obtain ⟨F', hW, hFr, hle, hk9, hn9, hr⟩ := hp
    rcases hr with ⟨e9, e0⟩ | ⟨e9, -⟩ | ⟨e9, -⟩
    · cases e9
      have hob1 := hFr _ _ hob rfl
      refine gI_i2l hB dL_sounds_8 ?_
      refine gC_last hB hob1 dL_sounds_9 (fun h2 f2 ef hob2 hst => ?_)
      refine gI_goto hB 21 dL_sounds_10 (by decide) ?_
      refine gI_iconst (v := nI 0) hB dL_sounds_21 (by decide) ?_
      refine gI_iret hB hE dL_sounds_22 ?_
      exact ⟨F', f2, by rw [e0], hW.out hob1 hst, hob2, fun _ => ef, fun q e hq hk hne => hst q e (hFr q e hq hk) hne, hle, by omega, by omega⟩
    · cases e9
    · cases e9
  · obtain ⟨F', hW, hFr, hle, hk9, hn9, hr⟩ := hp
    have hob1 := hFr _ _ hob rfl
    rcases hr with ⟨e9, -⟩ | ⟨e9, e0⟩ | ⟨e9, e0⟩
    · cases e9
    · cases e9
      refine gI_catch hB hE (name := "java/lang/IllegalArgumentException") [] ⟨0, 10, 13, 13⟩ [⟨0, 10, 17, 24⟩] rfl (fun z9 h9 => absurd h9 List.not_mem_nil) (by decide) (by decide) (by decide +kernel) cast_IAE (fun q9 => ?_)
      refine gI_astore hB ([(4, .ref q9), (0, .ref (c 0)), (1, .int a1), (2, .int a2), (3, .ref ob)]) hnL dL_sounds_13 (by decide) rfl ?_
      refine gI_iconst (v := nI 1) hB dL_sounds_15 (by decide) ?_
      refine gI_iret hB hE dL_sounds_16 ?_
      exact ⟨F', fo, by rw [e0], hW, hob1, fun z9 => absurd (e0.symm.trans z9) (by decide), fun q e hq hk _ => hFr q e hq hk, hle, by omega, by omega⟩
    · cases e9
      refine gI_catch hB hE (name := "java/lang/IndexOutOfBoundsException") [⟨0, 10, 13, 13⟩] ⟨0, 10, 17, 24⟩ [] rfl (fun z9 h9 => by
        rcases List.mem_singleton.mp h9 with rfl
        exact ⟨by decide, "java/lang/IllegalArgumentException", by decide +kernel, hNx.2.2.2⟩) (by decide) (by decide) (by decide +kernel) cast_IOB (fun q9 => ?_)
      refine gI_astore hB ([(4, .ref q9), (0, .ref (c 0)), (1, .int a1), (2, .int a2), (3, .ref ob)]) hnL dL_sounds_17 (by decide) rfl ?_
      refine gI_iconst (v := nI 2) hB dL_sounds_19 (by decide) ?_
      refine gI_iret hB hE dL_sounds_20 ?_
      exact ⟨F', fo, by rw [e0], hW, hob1, fun z9 => absurd (e0.symm.trans z9) (by decide), fun q e hq hk _ => hFr q e hq hk, hle, by omega, by omega⟩

theorem ne2_reach (u : MS) (a1 : Int32) : ¬ (mReach u a1).1.1 0 = nI 2 := by
  unfold mReach
  split <;> first | exact fun z9 => absurd (show nI 0 = nI 2 from z9) (by decide) | exact fun z9 => absurd (show nI 1 = nI 2 from z9) (by decide)
set_option maxRecDepth 100000 in
set_option maxHeartbeats 4000000 in
theorem w_reach (G : gG) (h : gH) (c : Nat → Nat) (Λ : CL) (u : MS) (T W z : Nat) (hC : cRep G h c Λ u T W z) (o : mOk u T W z) (a1 : Int32) (ob : Nat) (fo : Nat → Int64) (hob : gat h ob (.inl (gJ G, 1, .inr (.inl fo)))) : gMetN yL_reach wsL_reach (gRm 7 1 6) G h [.ref (c 0), .int a1, .ref ob] (wPo G h c (cPhi Λ) ob (mReach u a1) 1 6) := by
  refine gMetN_of (maxL := 4) (ret := (some .int)) (hh := [(0, 9, 12, 24)]) (by decide) rfl (Nat.le_of_ble_eq_true rfl) ?_
  intro X hG hnL hB hE hNx
  subst hG
  change gW X h 0 0 0 [(0, .ref (c 0)), (1, .int a1), (2, .ref ob)] []
  refine gI_aload_n hB 2 dL_reach_0 rfl ?_
  refine gI_iconst (v := nI 0) hB dL_reach_1 (by decide) ?_
  refine gI_aload_n hB 0 dL_reach_2 rfl ?_
  refine gI_iload_n hB 1 dL_reach_3 rfl ?_
  refine gI_callV (n9 := 1) (As := [.int a1]) (rest := [.int (nI 0), .ref ob]) hB (p_reach X.2.1 h c Λ u T W z hC o a1) (gCW.of ggL_reach_X6_reach rfl ⟨by decide, by decide, by decide +kernel⟩ ⟨Nat.le_of_ble_eq_true rfl, Nat.le_of_ble_eq_true rfl⟩) (by decide +kernel) (by decide +kernel) (by decide +kernel) (by decide +kernel) hC.1 (C := RX6) (T := TX6) (N := 9) rfl rfl rfl (Nat.le_of_ble_eq_true rfl) (by first | exact Nat.le_of_ble_eq_true rfl | (dsimp only [gRm]; omega)) (by first | exact Nat.le_of_ble_eq_true rfl | (dsimp only [gRm]; omega)) dL_reach_4 (fun v9 h1 k1 n1 hp => ?_) (fun E9 h1 k1 n1 hp => ?_)
  · obtain ⟨F', hW, hFr, hle, hk9, hn9, hr⟩ := hp
    rcases hr with ⟨e9, e0⟩ | ⟨e9, -⟩ | ⟨e9, -⟩
    · cases e9
      have hob1 := hFr _ _ hob rfl
      refine gI_i2l hB dL_reach_7 ?_
      refine gC_last hB hob1 dL_reach_8 (fun h2 f2 ef hob2 hst => ?_)
      refine gI_goto hB 15 dL_reach_9 (by decide) ?_
      refine gI_iconst (v := nI 0) hB dL_reach_15 (by decide) ?_
      refine gI_iret hB hE dL_reach_16 ?_
      exact ⟨F', f2, by rw [e0], hW.out hob1 hst, hob2, fun _ => ef, fun q e hq hk hne => hst q e (hFr q e hq hk) hne, hle, by omega, by omega⟩
    · cases e9
    · cases e9
  · obtain ⟨F', hW, hFr, hle, hk9, hn9, hr⟩ := hp
    have hob1 := hFr _ _ hob rfl
    rcases hr with ⟨e9, -⟩ | ⟨e9, e0⟩ | ⟨e9, e0⟩
    · cases e9
    · cases e9
      refine gI_catch hB hE (name := "java/lang/IndexOutOfBoundsException") [] ⟨0, 9, 12, 24⟩ [] rfl (fun z9 h9 => absurd h9 List.not_mem_nil) (by decide) (by decide) (by decide +kernel) cast_IOB (fun q9 => ?_)
      refine gI_astore_n hB ([(3, .ref q9), (0, .ref (c 0)), (1, .int a1), (2, .ref ob)]) hnL dL_reach_12 (by decide) rfl ?_
      refine gI_iconst (v := nI 1) hB dL_reach_13 (by decide) ?_
      refine gI_iret hB hE dL_reach_14 ?_
      exact ⟨F', fo, by rw [e0], hW, hob1, fun z9 => absurd (e0.symm.trans z9) (by decide), fun q e hq hk _ => hFr q e hq hk, hle, by omega, by omega⟩
    · exact absurd e0 (ne2_reach u a1)

theorem ne2_hops (u : MS) (a1 a2 : Int32) : ¬ (mHops u a1 a2).1.1 0 = nI 2 := by
  unfold mHops
  split <;> first | exact fun z9 => absurd (show nI 0 = nI 2 from z9) (by decide) | exact fun z9 => absurd (show nI 1 = nI 2 from z9) (by decide)
set_option maxRecDepth 100000 in
set_option maxHeartbeats 4000000 in
theorem w_hops (G : gG) (h : gH) (c : Nat → Nat) (Λ : CL) (u : MS) (T W z : Nat) (hC : cRep G h c Λ u T W z) (o : mOk u T W z) (a1 a2 : Int32) (ob : Nat) (fo : Nat → Int64) (hob : gat h ob (.inl (gJ G, 1, .inr (.inl fo)))) : gMetN yL_hops wsL_hops (gRm 7 1 6) G h [.ref (c 0), .int a1, .int a2, .ref ob] (wPo G h c (cPhi Λ) ob (mHops u a1 a2) 1 6) := by
  refine gMetN_of (maxL := 5) (ret := (some .int)) (hh := [(0, 10, 13, 24)]) (by decide) rfl (Nat.le_of_ble_eq_true rfl) ?_
  intro X hG hnL hB hE hNx
  subst hG
  change gW X h 0 0 0 [(0, .ref (c 0)), (1, .int a1), (2, .int a2), (3, .ref ob)] []
  refine gI_aload_n hB 3 dL_hops_0 rfl ?_
  refine gI_iconst (v := nI 0) hB dL_hops_1 (by decide) ?_
  refine gI_aload_n hB 0 dL_hops_2 rfl ?_
  refine gI_iload_n hB 1 dL_hops_3 rfl ?_
  refine gI_iload_n hB 2 dL_hops_4 rfl ?_
  refine gI_callV (n9 := 2) (As := [.int a1, .int a2]) (rest := [.int (nI 0), .ref ob]) hB (p_hops X.2.1 h c Λ u T W z hC o a1 a2) (gCW.of ggL_hops_X6_hops rfl ⟨by decide, by decide, by decide +kernel⟩ ⟨Nat.le_of_ble_eq_true rfl, Nat.le_of_ble_eq_true rfl⟩) (by decide +kernel) (by decide +kernel) (by decide +kernel) (by decide +kernel) hC.1 (C := RX6) (T := TX6) (N := 9) rfl rfl rfl (Nat.le_of_ble_eq_true rfl) (by first | exact Nat.le_of_ble_eq_true rfl | (dsimp only [gRm]; omega)) (by first | exact Nat.le_of_ble_eq_true rfl | (dsimp only [gRm]; omega)) dL_hops_5 (fun v9 h1 k1 n1 hp => ?_) (fun E9 h1 k1 n1 hp => ?_)
  · obtain ⟨F', hW, hFr, hle, hk9, hn9, hr⟩ := hp
    rcases hr with ⟨e9, e0⟩ | ⟨e9, -⟩ | ⟨e9, -⟩
    · cases e9
      have hob1 := hFr _ _ hob rfl
      refine gI_i2l hB dL_hops_8 ?_
      refine gC_last hB hob1 dL_hops_9 (fun h2 f2 ef hob2 hst => ?_)
      refine gI_goto hB 17 dL_hops_10 (by decide) ?_
      refine gI_iconst (v := nI 0) hB dL_hops_17 (by decide) ?_
      refine gI_iret hB hE dL_hops_18 ?_
      exact ⟨F', f2, by rw [e0], hW.out hob1 hst, hob2, fun _ => ef, fun q e hq hk hne => hst q e (hFr q e hq hk) hne, hle, by omega, by omega⟩
    · cases e9
    · cases e9
  · obtain ⟨F', hW, hFr, hle, hk9, hn9, hr⟩ := hp
    have hob1 := hFr _ _ hob rfl
    rcases hr with ⟨e9, -⟩ | ⟨e9, e0⟩ | ⟨e9, e0⟩
    · cases e9
    · cases e9
      refine gI_catch hB hE (name := "java/lang/IndexOutOfBoundsException") [] ⟨0, 10, 13, 24⟩ [] rfl (fun z9 h9 => absurd h9 List.not_mem_nil) (by decide) (by decide) (by decide +kernel) cast_IOB (fun q9 => ?_)
      refine gI_astore hB ([(4, .ref q9), (0, .ref (c 0)), (1, .int a1), (2, .int a2), (3, .ref ob)]) hnL dL_hops_13 (by decide) rfl ?_
      refine gI_iconst (v := nI 1) hB dL_hops_15 (by decide) ?_
      refine gI_iret hB hE dL_hops_16 ?_
      exact ⟨F', fo, by rw [e0], hW, hob1, fun z9 => absurd (e0.symm.trans z9) (by decide), fun q e hq hk _ => hFr q e hq hk, hle, by omega, by omega⟩
    · exact absurd e0 (ne2_hops u a1 a2)
