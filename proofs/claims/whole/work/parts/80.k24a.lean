theorem cast_IAE : Cond.castable "java/lang/IllegalArgumentException" "java/lang/IllegalArgumentException" ∈ lw_tbl := by decide +kernel
theorem cast_ISE : Cond.castable "java/lang/IllegalStateException" "java/lang/IllegalStateException" ∈ lw_tbl := by decide +kernel
theorem cast_IOB : Cond.castable "java/lang/IndexOutOfBoundsException" "java/lang/IndexOutOfBoundsException" ∈ lw_tbl := by decide +kernel

set_option maxRecDepth 100000 in
set_option maxHeartbeats 4000000 in
theorem w_moveIn (G : gG) (h : gH) (c : Nat → Nat) (Λ : CL) (u : MS) (T W z : Nat) (hC : cRep G h c Λ u T W z) (o : mOk u T W z) (a1 a2 : Int32) (ob : Nat) (fo : Nat → Int64) (hob : gat h ob (.inl (gJ G, 1, .inr (.inl fo)))) : gMetN yL_moveIn wsL_moveIn (gRm 8 3 720) G h [.ref (c 0), .int a1, .int a2, .ref ob] (wPo G h c (cPhi Λ) ob (mMoveIn u a1 a2) 3 720) := by
  refine gMetN_of (maxL := 5) (ret := (some .int)) (hh := [(0, 10, 13, 13), (0, 10, 17, 15)]) (by decide) rfl (Nat.le_of_ble_eq_true rfl) ?_
  intro X hG hnL hB hE hNx
  subst hG
  change gW X h 0 0 0 [(0, .ref (c 0)), (1, .int a1), (2, .int a2), (3, .ref ob)] []
  refine gI_aload_n hB 3 dL_moveIn_0 rfl ?_
  refine gI_iconst (v := nI 0) hB dL_moveIn_1 (by decide) ?_
  refine gI_aload_n hB 0 dL_moveIn_2 rfl ?_
  refine gI_iload_n hB 1 dL_moveIn_3 rfl ?_
  refine gI_iload_n hB 2 dL_moveIn_4 rfl ?_
  refine gI_callV (n9 := 2) (As := [.int a1, .int a2]) (rest := [.int (nI 0), .ref ob]) hB (p_moveIn X.2.1 h c Λ u T W z hC o a1 a2) (gCW.of ggL_moveIn_X6_moveIn rfl ⟨by decide, by decide, by decide +kernel⟩ ⟨Nat.le_of_ble_eq_true rfl, Nat.le_of_ble_eq_true rfl⟩) (by decide +kernel) (by decide +kernel) (by decide +kernel) (by decide +kernel) hC.1 (C := RX6) (T := TX6) (N := 9) rfl rfl rfl (Nat.le_of_ble_eq_true rfl) (by first | exact Nat.le_of_ble_eq_true rfl | (dsimp only [gRm]; omega)) (by first | exact Nat.le_of_ble_eq_true rfl | (dsimp only [gRm]; omega)) dL_moveIn_5 (fun v9 h1 k1 n1 hp => ?_) (fun E9 h1 k1 n1 hp => ?_)
  · obtain ⟨F', hW, hFr, hle, hk9, hn9, hr⟩ := hp
    rcases hr with ⟨e9, e0⟩ | ⟨e9, -⟩ | ⟨e9, -⟩
    · cases e9
      have hob1 := hFr _ _ hob rfl
      refine gI_i2l hB dL_moveIn_8 ?_
      refine gC_last hB hob1 dL_moveIn_9 (fun h2 f2 ef hob2 hst => ?_)
      refine gI_goto hB 21 dL_moveIn_10 (by decide) ?_
      refine gI_iconst (v := nI 0) hB dL_moveIn_21 (by decide) ?_
      refine gI_iret hB hE dL_moveIn_22 ?_
      exact ⟨F', f2, by rw [e0], hW.out hob1 hst, hob2, fun _ => ef, fun q e hq hk hne => hst q e (hFr q e hq hk) hne, hle, by omega, by omega⟩
    · cases e9
    · cases e9
  · obtain ⟨F', hW, hFr, hle, hk9, hn9, hr⟩ := hp
    have hob1 := hFr _ _ hob rfl
    rcases hr with ⟨e9, -⟩ | ⟨e9, e0⟩ | ⟨e9, e0⟩
    · cases e9
    · cases e9
      refine gI_catch hB hE (name := "java/lang/IllegalArgumentException") [] ⟨0, 10, 13, 13⟩ [⟨0, 10, 17, 15⟩] rfl (fun z9 h9 => absurd h9 List.not_mem_nil) (by decide) (by decide) (by decide +kernel) cast_IAE (fun q9 => ?_)
      refine gI_astore hB ([(4, .ref q9), (0, .ref (c 0)), (1, .int a1), (2, .int a2), (3, .ref ob)]) hnL dL_moveIn_13 (by decide) rfl ?_
      refine gI_iconst (v := nI 1) hB dL_moveIn_15 (by decide) ?_
      refine gI_iret hB hE dL_moveIn_16 ?_
      exact ⟨F', fo, by rw [e0], hW, hob1, fun z9 => absurd (e0.symm.trans z9) (by decide), fun q e hq hk _ => hFr q e hq hk, hle, by omega, by omega⟩
    · cases e9
      refine gI_catch hB hE (name := "java/lang/IllegalStateException") [⟨0, 10, 13, 13⟩] ⟨0, 10, 17, 15⟩ [] rfl (fun z9 h9 => by
        rcases List.mem_singleton.mp h9 with rfl
        exact ⟨by decide, "java/lang/IllegalArgumentException", by decide +kernel, hNx.1⟩) (by decide) (by decide) (by decide +kernel) cast_ISE (fun q9 => ?_)
      refine gI_astore hB ([(4, .ref q9), (0, .ref (c 0)), (1, .int a1), (2, .int a2), (3, .ref ob)]) hnL dL_moveIn_17 (by decide) rfl ?_
      refine gI_iconst (v := nI 2) hB dL_moveIn_19 (by decide) ?_
      refine gI_iret hB hE dL_moveIn_20 ?_
      exact ⟨F', fo, by rw [e0], hW, hob1, fun z9 => absurd (e0.symm.trans z9) (by decide), fun q e hq hk _ => hFr q e hq hk, hle, by omega, by omega⟩
