set_option maxRecDepth 100000 in
set_option maxHeartbeats 4000000 in
theorem k_tick (G : gG) (h_0 : gH) (c : Nat → Nat) (Λ : CL) (u : MS) (T W z : Nat) (hC : cRep G h_0 c Λ u T W z) (o : mOk u T W z) : gMet yX6_doNextTick wsX6_doNextTick (gRm 10 6000 40000) G h_0 [.ref (c 0)] ((fun r h9 k n => ∃ Λ9 W9 z9, r = .inl none ∧ cRep G h9 c Λ9 (mTick u) T W9 z9 ∧ mOk (mTick u) T W9 z9 ∧ cFr h_0 h9 ∧ cPhi Λ ≤ cPhi Λ9 ∧ k ≤ cPhi Λ9 - cPhi Λ ∧ n ≤ 7 * (cPhi Λ9 - cPhi Λ))) := by
  refine gMet_of (maxL := 3) (ret := none) (by decide) rfl (Nat.le_of_ble_eq_true rfl) ?_
  intro X hG hnL hB hE
  subst hG
  suffices go : ∀ h : gH, h = h_0 → gW X h 0 0 0 [(0, .ref (c 0))] [] from go h_0 rfl
  intro h eh
  rw [← eh] at hC
  have hT := o.2.1
  have hW60 := o.2.2.2.1
  have hz200 := o.2.2.2.2.2.1
  have ez := o.2.2.2.2.1
  have eW := o.2.2.1
  have eT := o.1
  have hF : cFr h_0 h := by rw [eh]; exact cFr.rf
  have o1 := mTick1_ok o
  have o2 := mTick2_ok o1
  refine gI_aload_n hB 0 dX6_doNextTick_0 rfl ?_
  refine gI_dup hB dX6_doNextTick_1 rfl ?_
  refine gI_get (v := .int (u.1 1)) hB 5 hC.1 (C := RX6) (T := TX6) (N := 9) rfl (by decide +kernel) (by decide) (by decide +kernel) (fun _ h9 => h9) rfl dX6_doNextTick_2 ?_
  refine gI_iconst (v := nI 1) hB dX6_doNextTick_5 (by decide) ?_
  refine gI_iadd hB dX6_doNextTick_6 ?_
  refine gC_put hB 5 tyX6 tyX6_ok nmX6 hC.1 (C := RX6) (T := TX6) (N := 9) rfl (by decide +kernel) (by decide) (by decide +kernel) (fun _ h9 => h9) rfl rfl rfl (Nat.le_of_ble_eq_true rfl) dX6_doNextTick_7 (fun h hN hK => ?_)
  have hF := hF.st hC.1 rfl hK
  have hC : cRep X.2.1 h c Λ (sg u 1 ((u.1 1) + (nI 1))) T W z := hC.putMain (v := (sg u 1 ((u.1 1) + (nI 1)))) hK hN rfl rfl rfl
  have hC : cRep X.2.1 h c Λ (mTick1 u) T W z := hC
  have j21 : ∀ (h : gH), cRep X.2.1 h c Λ (mTick2 (mTick1 u)) T W z → cFr h_0 h → gW X h 0 0 21 [(0, .ref (c 0))] [] := by
    intro h hC hF
    refine gI_iconst (v := nI 0) hB dX6_doNextTick_21 (by decide) ?_
    refine gI_istore_n hB ([(1, .int (nI 0)), (0, .ref (c 0))]) hnL dX6_doNextTick_22 (by decide) rfl ?_
    have lp : ∀ (r_lp : Nat) (h : gH) (Λ1 : CL) (v : MS) (V z1 i k n : Nat), 61 ≤ i + r_lp → i ≤ 60 → cRep X.2.1 h c Λ1 v T V z1 → mOk v T V z1 → cFr h_0 h → cPhi Λ ≤ cPhi Λ1 → k ≤ cPhi Λ1 - cPhi Λ → n ≤ 7 * (cPhi Λ1 - cPhi Λ) → mDrainL (60 - i) v = mTick u → gW X h k n 23 [(1, .int (nI i)), (0, .ref (c 0))] [] := by
      intro r_lp
      induction r_lp with
      | zero => intro h Λ1 v V z1 i k n hfu hi hC oV hF hP0 hPk hPn ev; exact absurd hfu (by omega)
      | succ r_lp ih_lp =>
        intro h Λ1 v V z1 i k n hfu hi hC oV hF hP0 hPk hPn ev
        have hPl := cPhi_le hC
        refine gI_iload_n hB 0 dX6_doNextTick_23 rfl ?_
        refine gI_bipush (v := nI 60) hB dX6_doNextTick_24 (by decide) ?_
        refine gI_icmp_ge hB 68 dX6_doNextTick_26 (by decide) (fun c26_1 => ?_) (fun c26_1 => ?_)
        · skip
          have c26_1 := (nI_leI (by omega) (by omega)).mp c26_1
          refine gI_vret hB hE dX6_doNextTick_68 ?_
          exact ⟨Λ1, V, z1, rfl, by rw [← ev, show 60 - i = 0 by omega]; exact hC, by rw [← ev, show 60 - i = 0 by omega]; exact oV, hF, hP0, hPk, hPn⟩
        · skip
          have c26_1 := mt (nI_leI (by omega) (by omega)).mpr c26_1
          refine gI_aload_n hB 1 dX6_doNextTick_29 rfl ?_
          refine gI_get (v := .ref (c 1)) hB 1 hC.1 (C := RX6) (T := TX6) (N := 9) rfl (by decide +kernel) (by decide) (by decide +kernel) (fun _ h9 => h9) rfl dX6_doNextTick_30 ?_
          refine gI_aload_n hB 1 dX6_doNextTick_33 rfl ?_
          refine gI_get (v := .int (v.1 1)) hB 5 hC.1 (C := RX6) (T := TX6) (N := 9) rfl (by decide +kernel) (by decide) (by decide +kernel) (fun _ h9 => h9) rfl dX6_doNextTick_34 ?_
          refine gI_callV (n9 := 1) (As := [.int (v.1 1)]) (rest := []) hB (k_takeDue X.2.1 h c Λ1 v T V z1 hC oV (v.1 1)) (gCW.of ggX6_doNextTick_X5_takeDue rfl ⟨by decide, by decide, by decide +kernel⟩ ⟨Nat.le_of_ble_eq_true rfl, Nat.le_of_ble_eq_true rfl⟩) (by decide +kernel) (by decide +kernel) (by decide +kernel) (by decide +kernel) hC.2.1.1 (C := RX5) (T := TX5) (N := 2) rfl rfl rfl (Nat.le_of_ble_eq_true rfl) (by dsimp only [gRm]; omega) (by dsimp only [gRm]; omega) dX6_doNextTick_37 (fun v9 h k9 n9 hp => ?_) (fun E9 h1 k1 n1 hp => by obtain ⟨-, -, ⟨e9, -⟩ | ⟨Λ9, V9, -, -, e9, -⟩⟩ := hp <;> cases e9)
          obtain ⟨rfl, rfl, ⟨e9, rfl, nD⟩ | ⟨Λ2, V2, eV, eR, e9, hC2, hy2, hny2, hec2, hsm2, hF2, hl2, hP2⟩⟩ := hp
          · skip
            cases e9
            refine gI_astoreN_n hB ([(2, .null), (1, .int (nI i)), (0, .ref (c 0))]) hnL dX6_doNextTick_40 (by decide) rfl ?_
            refine gI_aloadN_n hB 0 dX6_doNextTick_41 rfl ?_
            refine gI_ifnonnullN hB dX6_doNextTick_42 ?_
            refine gI_goto hB 68 dX6_doNextTick_45 (by decide) ?_
            refine gI_vret hB hE dX6_doNextTick_68 ?_
            have nD9 : ¬ (v.1 6 ≠ nI 0 ∧ v.2 2 0 = v.1 1) := fun z9 => nD ⟨fun e0 => z9.1 (by rw [oV.2.2.1, e0]), z9.2⟩
            exact ⟨Λ1, V, z1, rfl, by rw [← ev, mDrain_stop nD9]; exact hC, by rw [← ev, mDrain_stop nD9]; exact oV, hF, hP0, hPk, hPn⟩
          · skip
            cases e9
            subst eV
            have hF := hF.trans hF2
            obtain ⟨oT, hdR, t2, t3, -⟩ := mTake_ok oV
            obtain ⟨⟨t, ht, et⟩, -⟩ := oV.2.2.2.2.2.2.2.2.1 0 (by omega)
            have hl61 : cLen Λ1 1 + cLen Λ1 2 ≤ 61 := hC.2.2.2.2.1.2.2.2.2.1
            refine gI_astore_n hB ([(2, .ref (cEl Λ1 1 0)), (1, .int (nI i)), (0, .ref (c 0))]) hnL dX6_doNextTick_40 (by decide) rfl ?_
            refine gI_aload_n hB 0 dX6_doNextTick_41 rfl ?_
            refine gI_ifnonnull hB 48 dX6_doNextTick_42 (by decide) ?_
            refine gI_aload_n hB 2 dX6_doNextTick_48 rfl ?_
            refine gI_aload_n hB 0 dX6_doNextTick_49 rfl ?_
            refine gI_callV (n9 := 1) (As := [.ref (cEl Λ1 1 0)]) (rest := []) hB (k_doRing X.2.1 h c Λ2 (mTake v) T V2 z1 hC2 oT (cEl Λ1 1 0) ((mTake v).2 4) 60 hy2 hny2 rfl (by omega) (by omega) t ht hdR (t2.trans eR) (t3.trans et)) (gCW.of ggX6_doNextTick_X6_doRing rfl ⟨by decide, by decide, by decide +kernel⟩ ⟨Nat.le_of_ble_eq_true rfl, Nat.le_of_ble_eq_true rfl⟩) (by decide +kernel) (by decide +kernel) (by decide +kernel) (by decide +kernel) hC2.1 (C := RX6) (T := TX6) (N := 9) rfl rfl rfl (Nat.le_of_ble_eq_true rfl) (by dsimp only [gRm]; omega) (by dsimp only [gRm]; omega) dX6_doNextTick_50 (fun v9 h k9 n9 hp => ?_) (fun E9 h1 k1 n1 hp => by obtain ⟨Λ9, W9, z9, e9, -⟩ := hp; cases e9)
            obtain ⟨Λ3, W3, z3, e9, hC3, o3, hy3, hny3, hsm3, hF3, hlB3, hQ0, hQk, hQn⟩ := hp
            cases e9
            have hF := hF.trans hF3
            obtain ⟨ka, eka⟩ : ∃ ka, ka = k + 0 + k9 := ⟨_, rfl⟩
            obtain ⟨na, ena⟩ : ∃ na, na = n + 0 + n9 := ⟨_, rfl⟩
            rw [← eka, ← ena]
            have hPl3 := cPhi_le hC3
            refine gI_pop hB dX6_doNextTick_53 rfl ?_
            refine gI_aload_n hB 2 dX6_doNextTick_54 rfl ?_
            refine gI_get (v := .ref (c 1)) hB 1 hC3.1 (C := RX6) (T := TX6) (N := 9) rfl (by decide +kernel) (by decide) (by decide +kernel) (fun _ h9 => h9) rfl dX6_doNextTick_55 ?_
            refine gI_aload_n hB 0 dX6_doNextTick_58 rfl ?_
            refine gI_callV (n9 := 1) (As := [.ref (cEl Λ1 1 0)]) (rest := []) hB (k_giveBack X.2.1 h c Λ3 ((mHear (mTake v) t T).1) T W3 z3 hC3 o3 (cEl Λ1 1 0) (mRow ((mTake v).2 4) 0) (wOf ((mTake v).2 4) 5 ((mTake v).2 4 4)) hy3 hny3 hec2 hlB3) (gCW.of ggX6_doNextTick_X5_giveBack rfl ⟨by decide, by decide, by decide +kernel⟩ ⟨Nat.le_of_ble_eq_true rfl, Nat.le_of_ble_eq_true rfl⟩) (by decide +kernel) (by decide +kernel) (by decide +kernel) (by decide +kernel) hC3.2.1.1 (C := RX5) (T := TX5) (N := 2) rfl rfl rfl (Nat.le_of_ble_eq_true rfl) (by dsimp only [gRm]; omega) (by dsimp only [gRm]; omega) dX6_doNextTick_59 (fun v9 h k9 n9 hp => ?_) (fun E9 h1 k1 n1 hp => by obtain ⟨Λ9, e9, -⟩ := hp; cases e9)
            obtain ⟨Λ4, e9, hC4, hsm4, hF4, hG0, hGk, hGn⟩ := hp
            cases e9
            have hF := hF.trans hF4
            have ev2 : mDrainL (60 - (i + 1)) ((mHear (mTake v) t T).1) = mTick u := by rw [show 60 - i = (60 - (i + 1)) + 1 by omega, mDrainL, if_pos ⟨by rw [oV.2.2.1]; exact fun z9 => absurd ((nI_eq (by have := oV.2.2.2.1; omega) (by omega)).mp z9) (by omega), eR⟩, show v.2 2 1 = nI t from et, mCl (by omega), oV.1, mCl (by omega)] at ev; exact ev
            have hR0 : cPhi Λ ≤ cPhi Λ4 := by omega
            have hRk : ka + k9 ≤ cPhi Λ4 - cPhi Λ := by omega
            have hRn : na + n9 ≤ 7 * (cPhi Λ4 - cPhi Λ) := by omega
            refine gI_iinc hB 1 ([(1, .int (nI (i + 1))), (2, .ref (cEl Λ1 1 0)), (0, .ref (c 0))]) hnL dX6_doNextTick_62 rfl (nI_1 (i)) (by decide) rfl ?_
            refine gI_goto hB 23 dX6_doNextTick_65 (by decide) ?_
            refine gI_loc [0, 2] rfl ?_
            exact ih_lp h Λ4 ((mHear (mTake v) t T).1) W3 z3 (i + 1) _ _ (by omega) (by omega) hC4 o3 hF hR0 hRk hRn ev2
    refine gI_loc [0, 1] rfl ?_
    exact lp 61 h Λ (mTick2 (mTick1 u)) W z 0 0 0 (by omega) (by omega) hC o2 hF (Nat.le_refl _) (Nat.zero_le _) (Nat.zero_le _) rfl
  refine gI_aload_n hB 0 dX6_doNextTick_10 rfl ?_
  refine gI_pureV (n9 := 0) (As := []) (rest := []) hB (k_hourBegins X.2.1 h c Λ (mTick1 u) T W z hC o1) (gCW.of ggX6_doNextTick_X6_hourBegins rfl ⟨by decide, by decide, by decide +kernel⟩ ⟨Nat.le_of_ble_eq_true rfl, Nat.le_of_ble_eq_true rfl⟩) (by decide +kernel) (by decide +kernel) (by decide +kernel) (by decide +kernel) hC.1 (C := RX6) (T := TX6) (N := 9) rfl rfl rfl (Nat.le_of_ble_eq_true rfl) (by dsimp only [gRm]; omega) (by dsimp only [gRm]; omega) dX6_doNextTick_11 ?_
  refine gI_if_eq hB 21 dX6_doNextTick_14 (by decide) (fun c14_2 => ?_) (fun c14_2 => ?_)
  · skip
    have c14_2 := gbi_0.mp c14_2
    exact j21 h (by rw [show (mTick2 (mTick1 u)) = (mTick1 u) from if_neg c14_2]; exact hC) hF
  · skip
    have c14_2 := gbi_n0 c14_2
    refine gI_aload_n hB 0 dX6_doNextTick_17 rfl ?_
    refine gI_callV (n9 := 0) (As := []) (rest := []) hB (k_grow X.2.1 h c Λ (mTick1 u) T W z hC o1) (gCW.of ggX6_doNextTick_X6_growPatience rfl ⟨by decide, by decide, by decide +kernel⟩ ⟨Nat.le_of_ble_eq_true rfl, Nat.le_of_ble_eq_true rfl⟩) (by decide +kernel) (by decide +kernel) (by decide +kernel) (by decide +kernel) hC.1 (C := RX6) (T := TX6) (N := 9) rfl rfl rfl (Nat.le_of_ble_eq_true rfl) (by dsimp only [gRm]; omega) (by dsimp only [gRm]; omega) dX6_doNextTick_18 (fun v9 h k9 n9 hp => ?_) (fun E9 h1 k1 n1 hp => by cases hp.1)
    obtain ⟨e9, hC, hF9, rfl, rfl⟩ := hp
    cases e9
    have hF := hF.trans hF9
    have e2 : (mTick2 (mTick1 u)) = mGrowL T 0 (mTick1 u) := by unfold mTick2; rw [if_pos c14_2, o1.1, mCl (by omega)]
    exact j21 h (by rw [e2]; exact hC) hF

set_option maxRecDepth 100000 in
set_option maxHeartbeats 4000000 in
theorem p_pass (G : gG) (h_0 : gH) (c : Nat → Nat) (Λ : CL) (u : MS) (T W z : Nat) (hC : cRep G h_0 c Λ u T W z) (o : mOk u T W z) (p : Int32) : gMet yX6_pass wsX6_pass (gRm 11 8000 54000) G h_0 [.ref (c 0), .int p] (kPo G h_0 c (cPhi Λ) (mPass u p) "java/lang/IllegalArgumentException" "java/lang/IllegalArgumentException" 1 6) := by
  refine gMet_of (maxL := 4) (ret := (some .int)) (by decide) rfl (Nat.le_of_ble_eq_true rfl) ?_
  intro X hG hnL hB hE
  subst hG
  suffices go : ∀ h : gH, h = h_0 → gW X h 0 0 0 [(0, .ref (c 0)), (1, .int p)] [] from go h_0 rfl
  intro h eh
  rw [← eh] at hC
  have hT := o.2.1
  have hW60 := o.2.2.2.1
  have hz200 := o.2.2.2.2.2.1
  have ez := o.2.2.2.2.1
  have eW := o.2.2.1
  have eT := o.1
  have hF : cFr h_0 h := by rw [eh]; exact cFr.rf
  refine gI_iload_n hB 1 dX6_pass_0 rfl ?_
  refine gI_iconst (v := nI 1) hB dX6_pass_1 (by decide) ?_
  refine gI_sipush (v := nI 1000) hB dX6_pass_2 (by decide) ?_
  refine gI_pureS (n9 := 3) (As := [.int p, .int (nI 1), .int (nI 1000)]) (rest := []) hB (k_isOutside X.2.1 h p (nI 1) (nI 1000)) (gCW.of ggX6_pass_X6_isOutside rfl ⟨by decide, by decide, by decide +kernel⟩ ⟨Nat.le_of_ble_eq_true rfl, Nat.le_of_ble_eq_true rfl⟩) (Or.inl (by decide +kernel)) (by decide +kernel) (by decide +kernel) rfl rfl (Nat.le_of_ble_eq_true rfl) (by dsimp only [gRm]; omega) (by dsimp only [gRm]; omega) dX6_pass_5 ?_
  refine gI_if_eq hB 19 dX6_pass_8 (by decide) (fun c8_1 => ?_) (fun c8_1 => ?_)
  · skip
    have c8_1 := gbi_0.mp c8_1
    have hin := Decidable.not_not.mp c8_1
    obtain ⟨m, hm, em⟩ := mIn_lit (m := 1000) (by omega) ⟨Int32.le_trans (by decide) hin.1, hin.2⟩
    subst em
    have hC : cRep X.2.1 h c Λ (sg u 0 (nI 0)) T W z := hC.cg rfl rfl rfl rfl rfl rfl rfl (fun _ _ _ _ => rfl) (fun _ _ => rfl) rfl (fun _ _ _ _ => rfl) rfl o.ring4
    have oS : mOk (sg u 0 (nI 0)) T W z := o.tab rfl rfl rfl rfl (fun _ _ ot => ot) rfl rfl
    refine gI_aload_n hB 0 dX6_pass_19 rfl ?_
    refine gI_get (v := .int (u.1 8)) hB 6 hC.1 (C := RX6) (T := TX6) (N := 9) rfl (by decide +kernel) (by decide) (by decide +kernel) (fun _ h9 => h9) rfl dX6_pass_20 ?_
    refine gI_istore_n hB ([(2, .int (u.1 8)), (0, .ref (c 0)), (1, .int (nI m))]) hnL dX6_pass_23 (by decide) rfl ?_
    refine gI_iconst (v := nI 0) hB dX6_pass_24 (by decide) ?_
    refine gI_istore_n hB ([(3, .int (nI 0)), (2, .int (u.1 8)), (0, .ref (c 0)), (1, .int (nI m))]) hnL dX6_pass_25 (by decide) rfl ?_
    have lp : ∀ (r_lp : Nat) (h : gH) (Λ1 : CL) (v : MS) (V z1 i k n : Nat), m + 1 ≤ i + r_lp → i ≤ m → cRep X.2.1 h c Λ1 v T V z1 → mOk v T V z1 → cFr h_0 h → cPhi Λ ≤ cPhi Λ1 → k ≤ cPhi Λ1 - cPhi Λ → n ≤ 7 * (cPhi Λ1 - cPhi Λ) → mPassL (m - i) v = mPassL m (sg u 0 (nI 0)) → gW X h k n 26 [(3, .int (nI i)), (2, .int (u.1 8)), (0, .ref (c 0)), (1, .int (nI m))] [] := by
      intro r_lp
      induction r_lp with
      | zero => intro h Λ1 v V z1 i k n hfu hi hC oV hF hP0 hPk hPn ev; exact absurd hfu (by omega)
      | succ r_lp ih_lp =>
        intro h Λ1 v V z1 i k n hfu hi hC oV hF hP0 hPk hPn ev
        have hPl := cPhi_le hC
        refine gI_iload_n hB 0 dX6_pass_26 rfl ?_
        refine gI_iload_n hB 3 dX6_pass_27 rfl ?_
        refine gI_icmp_ge hB 41 dX6_pass_28 (by decide) (fun c28_2 => ?_) (fun c28_2 => ?_)
        · skip
          have c28_2 := (nI_leI (by omega) (by omega)).mp c28_2
          refine gI_aload_n hB 2 dX6_pass_41 rfl ?_
          refine gI_get (v := .int (v.1 8)) hB 6 hC.1 (C := RX6) (T := TX6) (N := 9) rfl (by decide +kernel) (by decide) (by decide +kernel) (fun _ h9 => h9) rfl dX6_pass_42 ?_
          refine gI_iload_n hB 1 dX6_pass_45 rfl ?_
          refine gI_isub hB dX6_pass_46 ?_
          refine gI_iret hB hE dX6_pass_47 ?_
          have es : mPass u (nI m) = (mPassL m (sg u 0 (nI 0)), (mPassL m (sg u 0 (nI 0))).1 8 - u.1 8) := by unfold mPass; rw [if_pos hin, mCl (by omega)]
          have e0 := mPassL_t m (sg u 0 (nI 0))
          rw [show m - i = 0 by omega] at ev
          rw [es, ← ev]
          exact ⟨cPhi Λ1, ⟨Λ1, T, V, z1, hC, oV, rfl⟩, hF, hP0, by omega, by omega, Or.inl ⟨rfl, by rw [← ev] at e0; exact e0⟩⟩
        · skip
          have c28_2 := mt (nI_leI (by omega) (by omega)).mpr c28_2
          refine gI_aload_n hB 2 dX6_pass_31 rfl ?_
          refine gI_callV (n9 := 0) (As := []) (rest := []) hB (k_tick X.2.1 h c Λ1 v T V z1 hC oV) (gCW.of ggX6_pass_X6_doNextTick rfl ⟨by decide, by decide, by decide +kernel⟩ ⟨Nat.le_of_ble_eq_true rfl, Nat.le_of_ble_eq_true rfl⟩) (by decide +kernel) (by decide +kernel) (by decide +kernel) (by decide +kernel) hC.1 (C := RX6) (T := TX6) (N := 9) rfl rfl rfl (Nat.le_of_ble_eq_true rfl) (by dsimp only [gRm]; omega) (by dsimp only [gRm]; omega) dX6_pass_32 (fun v9 h k9 n9 hp => ?_) (fun E9 h1 k1 n1 hp => by obtain ⟨Λ9, W9, z9, e9, -⟩ := hp; cases e9)
          obtain ⟨Λ2, W2, z2, e9, hC2, o2, hF2, hQ0, hQk, hQn⟩ := hp
          cases e9
          have hF := hF.trans hF2
          have ev2 : mPassL (m - (i + 1)) (mTick v) = mPassL m (sg u 0 (nI 0)) := by rw [show m - i = (m - (i + 1)) + 1 by omega, mPassL] at ev; exact ev
          have hR0 : cPhi Λ ≤ cPhi Λ2 := by omega
          have hRk : k + k9 ≤ cPhi Λ2 - cPhi Λ := by omega
          have hRn : n + n9 ≤ 7 * (cPhi Λ2 - cPhi Λ) := by omega
          refine gI_iinc hB 0 ([(3, .int (nI (i + 1))), (2, .int (u.1 8)), (0, .ref (c 0)), (1, .int (nI m))]) hnL dX6_pass_35 rfl (nI_1 (i)) (by decide) rfl ?_
          refine gI_goto hB 26 dX6_pass_38 (by decide) ?_
          refine gI_loc [0, 1, 2, 3] rfl ?_
          exact ih_lp h Λ2 (mTick v) W2 z2 (i + 1) _ _ (by omega) (by omega) hC2 o2 hF hR0 hRk hRn ev2
    refine gI_loc [0, 1, 2, 3] rfl ?_
    exact lp (m + 1) h Λ (sg u 0 (nI 0)) W z 0 0 0 (by omega) (by omega) hC oS hF (Nat.le_refl _) (Nat.zero_le _) (Nat.zero_le _) rfl
  · skip
    have c8_1 := gbi_n0 c8_1
    refine gI_throw hB hE (cls := "java/lang/IllegalArgumentException") (names := ["java/lang/RuntimeException", "java/lang/Exception"]) (ik := 45) (ic := 47) (by decide +kernel) (by decide +kernel) (by decide +kernel) (by decide +kernel) (by decide +kernel) (by decide +kernel) (by decide +kernel) dX6_pass_11 dX6_pass_14 dX6_pass_15 dX6_pass_18 (Nat.le_of_ble_eq_true rfl) (Nat.le_of_ble_eq_true rfl) (by dsimp only [gRm]; omega) (by dsimp only [gRm]; omega) ?_
    exact eh ▸ kPo.err1 hC o (by unfold mPass; rw [if_neg c8_1]) (by omega) (by omega)

