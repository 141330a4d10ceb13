theorem cRep.zle {G : gG} {h : gH} {c : Nat → Nat} {Λ : CL} {u : MS} {T W z z2 : Nat} (hz : z2 ≤ z) (hC : cRep G h c Λ u T W z) : cRep G h c Λ u T W z2 := by
  obtain ⟨o1, o2, o3, o4, ⟨l1, l2, l3, l4⟩, o6, o7, o8, o9, o10, o11⟩ := hC
  exact ⟨o1, o2, o3, o4, ⟨l1, l2, by omega, l4⟩, o6, o7, o8, o9, fun n hn => by
    obtain ⟨f, w, h1, h2⟩ := o10 n hn
    exact ⟨f, w, h1, fun hl => h2 (by omega)⟩, o11⟩
theorem mEmpty_ok {u : MS} {T W z : Nat} (o : mOk u T W z) : mOk (mEmpty u).1 T W 0 := by
  obtain ⟨a1, a2, a3, a4, a5, a6, a7, a8, a9, a10⟩ := o
  exact ⟨a1, a2, a3, a4, rfl, by omega, a7, a8, a9, fun n hn => absurd hn (Nat.not_lt_zero n)⟩

set_option maxRecDepth 100000 in
set_option maxHeartbeats 4000000 in
theorem k_forget (G : gG) (h : gH) (c : Nat → Nat) (Λ : CL) (u : MS) (T W z : Nat) (hC : cRep G h c Λ u T W z) (o : mOk u T W z) : gMet yX3_forgetAll wsX3_forgetAll (gRm 1 0 0) G h [.ref (c 2)] ((fun r h9 k n => r = .inl (some (.int (u.1 12))) ∧ cRep G h9 c Λ (sg (sg u 12 (nI 0)) 10 (nI 0)) T W z ∧ cFr h h9 ∧ k = 0 ∧ n = 0)) := by
  refine gMet_of (maxL := 2) (ret := (some .int)) (by decide) rfl (Nat.le_of_ble_eq_true rfl) ?_
  intro X hG hnL hB hE
  subst hG
  change gW X h 0 0 0 [(0, .ref (c 2))] []
  have hT := o.2.1
  have hW60 := o.2.2.2.1
  have hz200 := o.2.2.2.2.2.1
  have ez := o.2.2.2.2.1
  have eW := o.2.2.1
  have eT := o.1
  have hF : cFr h h := cFr.rf
  refine gI_aload_n hB 0 dX3_forgetAll_0 rfl ?_
  refine gI_get (v := .int (u.1 12)) hB 2 hC.2.2.1 (C := RX3) (T := TX3) (N := 4) rfl (by decide +kernel) (by decide) (by decide +kernel) (fun _ h9 => h9) rfl dX3_forgetAll_1 ?_
  refine gI_istore_n hB ([(1, .int (u.1 12)), (0, .ref (c 2))]) hnL dX3_forgetAll_4 (by decide) rfl ?_
  refine gI_aload_n hB 1 dX3_forgetAll_5 rfl ?_
  refine gI_iconst (v := nI 0) hB dX3_forgetAll_6 (by decide) ?_
  refine gC_put hB 2 tyX3 tyX3_ok nmX3 hC.2.2.1 (C := RX3) (T := TX3) (N := 4) rfl (by decide +kernel) (by decide) (by decide +kernel) (fun _ h9 => h9) rfl rfl rfl (Nat.le_of_ble_eq_true rfl) dX3_forgetAll_7 (fun h hN hK => ?_)
  have hF := hF.st hC.2.2.1 rfl hK
  have hC : cRep X.2.1 h c Λ (sg u 12 (nI 0)) T W z := hC.putSong (v := (sg u 12 (nI 0))) hK hN rfl rfl rfl rfl rfl rfl
  refine gI_aload_n hB 1 dX3_forgetAll_10 rfl ?_
  refine gI_iconst (v := nI 0) hB dX3_forgetAll_11 (by decide) ?_
  refine gC_put hB 3 tyX3 tyX3_ok nmX3 hC.2.2.1 (C := RX3) (T := TX3) (N := 4) rfl (by decide +kernel) (by decide) (by decide +kernel) (fun _ h9 => h9) rfl rfl rfl (Nat.le_of_ble_eq_true rfl) dX3_forgetAll_12 (fun h hN hK => ?_)
  have hF := hF.st hC.2.2.1 rfl hK
  have hC : cRep X.2.1 h c Λ (sg (sg u 12 (nI 0)) 10 (nI 0)) T W z := hC.putSong (v := (sg (sg u 12 (nI 0)) 10 (nI 0))) hK hN rfl rfl rfl rfl rfl rfl
  refine gI_iload_n hB 0 dX3_forgetAll_15 rfl ?_
  refine gI_iret hB hE dX3_forgetAll_16 ?_
  exact ⟨rfl, hC, hF, rfl, rfl⟩

set_option maxRecDepth 100000 in
set_option maxHeartbeats 4000000 in
theorem p_emptySongs (G : gG) (h : gH) (c : Nat → Nat) (Λ : CL) (u : MS) (T W z : Nat) (hC : cRep G h c Λ u T W z) (o : mOk u T W z) : gMet yX6_emptySongs wsX6_emptySongs (gRm 2 1 6) G h [.ref (c 0)] (kPo G h c (cPhi Λ) (mEmpty u) "java/lang/IndexOutOfBoundsException" "java/lang/IndexOutOfBoundsException" 1 6) := by
  refine gMet_of (maxL := 1) (ret := (some .int)) (by decide) rfl (Nat.le_of_ble_eq_true rfl) ?_
  intro X hG hnL hB hE
  subst hG
  change gW X h 0 0 0 [(0, .ref (c 0))] []
  have hT := o.2.1
  have hW60 := o.2.2.2.1
  have hz200 := o.2.2.2.2.2.1
  have ez := o.2.2.2.2.1
  have eW := o.2.2.1
  have eT := o.1
  have hF : cFr h h := cFr.rf
  refine gI_aload_n hB 0 dX6_emptySongs_0 rfl ?_
  refine gI_get (v := .ref (c 2)) hB 2 hC.1 (C := RX6) (T := TX6) (N := 9) rfl (by decide +kernel) (by decide) (by decide +kernel) (fun _ h9 => h9) rfl dX6_emptySongs_1 ?_
  refine gI_callV (n9 := 0) (As := []) (rest := []) hB (k_forget X.2.1 h c Λ u T W z hC o) (gCW.of ggX6_emptySongs_X3_forgetAll rfl ⟨by decide, by decide, by decide +kernel⟩ ⟨Nat.le_of_ble_eq_true rfl, Nat.le_of_ble_eq_true rfl⟩) (by decide +kernel) (by decide +kernel) (by decide +kernel) (by decide +kernel) hC.2.2.1 (C := RX3) (T := TX3) (N := 4) rfl rfl rfl (Nat.le_of_ble_eq_true rfl) (by first | exact Nat.le_of_ble_eq_true rfl | (dsimp only [gRm]; omega)) (by first | exact Nat.le_of_ble_eq_true rfl | (dsimp only [gRm]; omega)) dX6_emptySongs_4 (fun v9 h k9 n9 hp => ?_) (fun E9 h1 k1 n1 hp => by cases hp.1)
  obtain ⟨e9, hC9, hF9, rfl, rfl⟩ := hp
  cases e9
  refine gI_iret hB hE dX6_emptySongs_7 ?_
  exact ⟨_, ⟨Λ, T, W, 0, (hC9.zle (Nat.zero_le z)).cg rfl rfl rfl rfl rfl rfl rfl (fun _ _ _ _ => rfl) (fun _ _ => rfl) rfl (fun _ _ _ _ => rfl) rfl o.ring4, mEmpty_ok o, rfl⟩, hF9, Nat.le_refl _, by omega, by omega, Or.inl ⟨rfl, rfl⟩⟩
