theorem mSetHour_ok {u : MS} {T W z : Nat} (o : mOk u T W z) {x : Int32} (h : mIn x (nI 5) (nI 500)) : mOk (sg (sg u 0 (nI 0)) 2 x) T W z := by
  obtain ⟨a1, a2, a3, a4, a5, a6, a7, a8⟩ := o
  obtain ⟨j, hj, rfl⟩ := mIn_lit (m := 500) (by omega) ⟨Int32.le_trans (by decide) h.1, h.2⟩
  exact ⟨a1, a2, a3, a4, a5, a6, ⟨j, (nI_leI (by omega) (by omega)).mp h.1, hj, rfl⟩, a8⟩
theorem kPo.wr {G : gG} {h0 h : gH} {c : Nat → Nat} {Λ : CL} {v : MS} {T W z k n F : Nat} {E1 E2 : String} (hC : cRep G h c Λ v T W z) {s : MS × Int32} {x : Int32} (hF : cFr h0 h) (e : s = (s.1, x)) (o : mOk s.1 T W z) (e0 : s.1.1 0 = nI 0) (hv : cRep G h c Λ v T W z → cRep G h c Λ s.1 T W z) (hP : cPhi Λ = F) (hk : k ≤ 1) (hn : n ≤ 6) : kPo G h0 c F s E1 E2 1 6 (.inl (some (.int x))) h k n := by
  subst hP
  exact ⟨_, ⟨Λ, T, W, z, hv hC, o, rfl⟩, hF, Nat.le_refl _, by omega, by omega, Or.inl ⟨by rw [e], e0⟩⟩

set_option maxRecDepth 100000 in
set_option maxHeartbeats 4000000 in
theorem p_setHour (G : gG) (h : gH) (c : Nat → Nat) (Λ : CL) (u : MS) (T W z : Nat) (hC : cRep G h c Λ u T W z) (o : mOk u T W z) (x : Int32) : gMet yX6_setHour wsX6_setHour (gRm 2 1 6) G h [.ref (c 0), .int x] (kPo G h c (cPhi Λ) (mSetHour u x) "java/lang/IllegalArgumentException" "java/lang/IllegalArgumentException" 1 6) := by
  refine gMet_of (maxL := 3) (ret := (some .int)) (by decide) rfl (Nat.le_of_ble_eq_true rfl) ?_
  intro X hG hnL hB hE
  subst hG
  change gW X h 0 0 0 [(0, .ref (c 0)), (1, .int x)] []
  have hT := o.2.1
  have hW60 := o.2.2.2.1
  have hz200 := o.2.2.2.2.2.1
  have ez := o.2.2.2.2.1
  have eW := o.2.2.1
  have eT := o.1
  have hF : cFr h h := cFr.rf
  refine gI_iload_n hB 1 dX6_setHour_0 rfl ?_
  refine gI_iconst (v := nI 5) hB dX6_setHour_1 (by decide) ?_
  refine gI_sipush (v := nI 500) hB dX6_setHour_2 (by decide) ?_
  refine gI_pureS (n9 := 3) (As := [.int x, .int (nI 5), .int (nI 500)]) (rest := []) hB (k_isOutside X.2.1 h x (nI 5) (nI 500)) (gCW.of ggX6_setHour_X6_isOutside rfl ⟨by decide, by decide, by decide +kernel⟩ ⟨Nat.le_of_ble_eq_true rfl, Nat.le_of_ble_eq_true rfl⟩) (Or.inl (by decide +kernel)) (by decide +kernel) (by decide +kernel) rfl rfl (Nat.le_of_ble_eq_true rfl) (by first | exact Nat.le_of_ble_eq_true rfl | (dsimp only [gRm]; omega)) (by first | exact Nat.le_of_ble_eq_true rfl | (dsimp only [gRm]; omega)) dX6_setHour_5 ?_
  refine gI_if_eq hB 19 dX6_setHour_8 (by decide) (fun c8_1 => ?_) (fun c8_1 => ?_)
  · skip
    have c8_1 := gbi_0.mp c8_1
    refine gI_aload_n hB 0 dX6_setHour_19 rfl ?_
    refine gI_get (v := .int (u.1 2)) hB 4 hC.1 (C := RX6) (T := TX6) (N := 9) rfl (by decide +kernel) (by decide) (by decide +kernel) (fun _ h9 => h9) rfl dX6_setHour_20 ?_
    refine gI_istore_n hB ([(2, .int (u.1 2)), (0, .ref (c 0)), (1, .int x)]) hnL dX6_setHour_23 (by decide) rfl ?_
    refine gI_aload_n hB 1 dX6_setHour_24 rfl ?_
    refine gI_iload_n hB 2 dX6_setHour_25 rfl ?_
    refine gC_put hB 4 tyX6 tyX6_ok nmX6 hC.1 (C := RX6) (T := TX6) (N := 9) rfl (by decide +kernel) (by decide) (by decide +kernel) (fun _ h9 => h9) rfl rfl rfl (Nat.le_of_ble_eq_true rfl) dX6_setHour_26 (fun h hN hK => ?_)
    have hF := hF.st hC.1 rfl hK
    have hC : cRep X.2.1 h c Λ (sg u 2 x) T W z := hC.putMain (v := (sg u 2 x)) hK hN rfl rfl rfl
    refine gI_iload_n hB 0 dX6_setHour_29 rfl ?_
    refine gI_iret hB hE dX6_setHour_30 ?_
    have hin := Decidable.not_not.mp c8_1
    have es : mSetHour u x = (sg (sg u 0 (nI 0)) 2 x, u.1 2) := by unfold mSetHour; rw [if_pos hin]
    refine kPo.wr hC hF (by rw [es]) (by rw [es]; exact mSetHour_ok o hin) (by rw [es]; rfl) (fun q9 => by rw [es]; exact q9.cg rfl rfl rfl rfl rfl rfl rfl (fun _ _ _ _ => rfl) (fun _ _ => rfl) rfl (fun _ _ _ _ => rfl) rfl o.ring4) rfl (by omega) (by omega)
  · skip
    have c8_1 := gbi_n0 c8_1
    refine gI_throw hB hE (cls := "java/lang/IllegalArgumentException") (names := ["java/lang/RuntimeException", "java/lang/Exception"]) (ik := 45) (ic := 47) (by decide +kernel) (by decide +kernel) (by decide +kernel) (by decide +kernel) (by decide +kernel) (by decide +kernel) (by decide +kernel) dX6_setHour_11 dX6_setHour_14 dX6_setHour_15 dX6_setHour_18 (Nat.le_of_ble_eq_true rfl) (Nat.le_of_ble_eq_true rfl) (by first | exact Nat.le_of_ble_eq_true rfl | (dsimp only [gRm]; omega)) (by first | exact Nat.le_of_ble_eq_true rfl | (dsimp only [gRm]; omega)) ?_
    exact kPo.err1 hC o (by unfold mSetHour; rw [if_neg c8_1]) (by omega) (by omega)
