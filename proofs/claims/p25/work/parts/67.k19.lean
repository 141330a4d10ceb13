set_option maxRecDepth 100000 in
set_option maxHeartbeats 4000000 in
theorem k_follow (G : gG) (h_0 : gH) (c : Nat → Nat) (Λ0 : CL) (u : MS) (T W z : Nat) (hC : cRep G h_0 c Λ0 u T W z) (o : mOk u T W z) (y : Nat) (D : Nat → Int32) (B : Nat) (hy : gat h_0 y (.inr (5, rFS (mRow D 0) (wOf D 5 (D 4))))) (hny : ∀ k l, k < 4 + T → l < cLen Λ0 k → cEl Λ0 k l ≠ y) (eD : u.2 4 = D) (hB6 : 60 ≤ B) (hBl : cLen Λ0 1 + cLen Λ0 2 ≤ B) (t j : Nat) (ht : t < T) (hj : j < cLen Λ0 (4 + t)) (hd : mOkR D 0 T) (h0 : D 0 = u.1 1) (et : D 1 = nI t) : gMet yX6_follow wsX6_follow (gRm 8 4000 26000) G h_0 [.ref (c 0), .ref (cEl Λ0 (4 + t) j), .ref (cEl Λ0 0 t), .ref y] (kRg G h_0 c Λ0 (mFollow u (9 * (8 * t + j)) t T) T y D B none) := by
  refine gMet_of (maxL := 4) (ret := none) (by decide) rfl (Nat.le_of_ble_eq_true rfl) ?_
  intro X hG hnL hB hE
  subst hG
  suffices go : ∀ h : gH, h = h_0 → gW X h 0 0 0 [(0, .ref (c 0)), (1, .ref (cEl Λ0 (4 + t) j)), (2, .ref (cEl Λ0 0 t)), (3, .ref y)] [] from go h_0 rfl
  intro h eh
  rw [← eh] at hC hy
  subst eD
  have hF : cFr h_0 h := by rw [eh]; exact cFr.rf
  obtain ⟨Λ, eΛ⟩ : ∃ Λ, Λ = Λ0 := ⟨_, rfl⟩
  rw [← eΛ] at hC hny hBl
  rw [← eΛ] at hj
  have hT := o.2.1
  have hW60 := o.2.2.2.1
  have hz200 := o.2.2.2.2.2.1
  have ez := o.2.2.2.2.1
  have eW := o.2.2.1
  have eT := o.1
  have m8 : ∀ t', t' < T → cLen Λ (4 + t') ≤ 8 := fun t' ht' => (hC.many o ht').1
  obtain ⟨m9, m1, m2, -, -, -, hok⟩ := o.2.2.2.2.2.2.2.1 t ht
  have hm9 := hC.many o ht
  have hj8 : j < m9 := by have := mMany_of m1 m2; omega
  obtain ⟨⟨x, hx, ex⟩, ⟨y5, hy5, ey5⟩, dd, hd1, hd2, ed⟩ := hok j hj8
  obtain ⟨p, hp1, hp2, -⟩ := hd.hand
  obtain ⟨z5, hz5, o2⟩ := mFol2_ok (a := 8 * t + j) (t := t) o hd
  have k1 := mFol2_keep u (9 * (8 * t + j)) t
  have k2 := mFol2_keep2 u (9 * (8 * t + j)) t
  rw [← eΛ]
  rw [← eΛ] at hE
  refine gI_aload_n hB 1 dX6_follow_0 rfl ?_
  refine gI_dup hB dX6_follow_1 rfl ?_
  refine gI_get (v := .int (u.2 1 (9 * (8 * t + j) + 8))) hB 8 (hC.2.2.2.2.2.2.1 t j ht hj) (C := RX0) (T := TX0) (N := 9) rfl (by decide +kernel) (by decide) (by decide +kernel) (fun _ h9 => h9) rfl dX6_follow_2 ?_
  refine gI_iconst (v := nI 1) hB dX6_follow_5 (by decide) ?_
  refine gI_iadd hB dX6_follow_6 ?_
  refine gC_put hB 8 tyX0 tyX0_ok nmX0 (hC.2.2.2.2.2.2.1 t j ht hj) (C := RX0) (T := TX0) (N := 9) rfl (by decide +kernel) (by decide) (by decide +kernel) (fun _ h9 => h9) rfl rfl rfl (Nat.le_of_ble_eq_true rfl) dX6_follow_7 (fun h hN hK => ?_)
  have hy := hK _ _ hy (gat_ne hy (hC.2.2.2.2.2.2.1 t j ht hj) rfl)
  have hF := hF.st (hC.2.2.2.2.2.2.1 t j ht hj) rfl hK
  have hC : cRep X.2.1 h c Λ (sa u 1 (upd (u.2 1) (9 * (8 * t + j) + 8) ((u.2 1 (9 * (8 * t + j) + 8)) + (nI 1)))) T W z := hC.putHab (f := upd (u.2 1) (9 * (8 * t + j) + 8) ((u.2 1 (9 * (8 * t + j) + 8)) + (nI 1))) m8 ht hj hK (by rw [← hFS_upd (by omega)]; exact hN) (fun a9 i9 h9 h8 => pk_un (by omega))
  have hC : cRep X.2.1 h c Λ (mFol1 u (9 * (8 * t + j))) T W z := hC
  have e4 : (mFol1 u (9 * (8 * t + j))).2 1 ((9 * (8 * t + j)) + 4) = nI x := (mFol1_at (by omega)).trans ex
  have j61 : ∀ (h : gH) (Λ1 : CL) (k n : Nat), cRep X.2.1 h c Λ1 (mFol2 u (9 * (8 * t + j)) t) T W z5 → gat h y (.inr (5, rFS (mRow (u.2 4) 0) (wOf (u.2 4) 5 (u.2 4 4)))) → (∀ k l, k < 4 + T → l < cLen Λ1 k → cEl Λ1 k l ≠ y) → cSame Λ Λ1 → cFr h_0 h → cLen Λ1 1 + cLen Λ1 2 ≤ B → cPhi Λ ≤ cPhi Λ1 → k ≤ cPhi Λ1 - cPhi Λ → n ≤ 7 * (cPhi Λ1 - cPhi Λ) → gW X h k n 61 [(0, .ref (c 0)), (1, .ref (cEl Λ (4 + t) j)), (2, .ref (cEl Λ 0 t)), (3, .ref y)] [] := by
    intro h Λ1 k n hC hy hny hsm hF hlB hP0 hPk hPn
    have hPl := cPhi_le hC
    refine gI_aload_n hB 3 dX6_follow_61 rfl ?_
    refine gI_get (v := .int (u.2 4 4)) hB 4 hy (C := RX2) (T := TX2) (N := 6) rfl (by decide +kernel) (by decide) (by decide +kernel) (fun _ h9 => h9) rfl dX6_follow_62 ?_
    refine gI_topi hB (y := nI p) hp2 ?_
    refine gI_bipush (v := nI 8) hB dX6_follow_65 (by decide) ?_
    refine gI_icmp_ge hB 77 dX6_follow_67 (by decide) (fun c67_1 => ?_) (fun c67_1 => ?_)
    · skip
      have c67_1 := (nI_leI (by omega) (by omega)).mp c67_1
      refine gI_vret hB hE dX6_follow_77 ?_
      have es : mFollow u (9 * (8 * t + j)) t T = (mFol2 u (9 * (8 * t + j)) t) := by unfold mFollow; rw [if_pos (Or.inr (by rw [hp2]; exact congrArg nI (by omega)))]
      exact ⟨Λ1, W, z5, rfl, by rw [es]; exact hC, by rw [es]; exact o2.at (k1.2.1.trans eW) hW60 o2.2.2.2.2.1 o2.2.2.2.2.2.1, hy, hny, hsm, hF, hlB, hP0, hPk, hPn⟩
    · skip
      have c67_1 := mt (nI_leI (by omega) (by omega)).mpr c67_1
      rw [show cEl Λ (4 + t) = cEl Λ1 (4 + t) from (hsm (4 + t) (by omega) (by omega) (by omega)).2.symm, show cEl Λ 0 = cEl Λ1 0 from (hsm 0 (by omega) (by omega) (by omega)).2.symm]
      refine gI_aload_n hB 0 dX6_follow_70 rfl ?_
      refine gI_aload_n hB 1 dX6_follow_71 rfl ?_
      refine gI_aload_n hB 2 dX6_follow_72 rfl ?_
      refine gI_aload_n hB 3 dX6_follow_73 rfl ?_
      refine gI_callV (n9 := 3) (As := [.ref (cEl Λ1 (4 + t) j), .ref (cEl Λ1 0 t), .ref y]) (rest := []) hB (k_ringOn X.2.1 h c Λ1 (mFol2 u (9 * (8 * t + j)) t) T W z5 hC o2 y (u.2 4) B hy hny k1.2.2.1 hB6 hlB t j p ht (by rw [(hsm (4 + t) (by omega) (by omega) (by omega)).1]; exact hj) hp2 (by omega) hd (h0.trans k2.1.symm)) (gCW.of ggX6_follow_X6_ringOn rfl ⟨by decide, by decide, by decide +kernel⟩ ⟨Nat.le_of_ble_eq_true rfl, Nat.le_of_ble_eq_true rfl⟩) (by decide +kernel) (by decide +kernel) (by decide +kernel) (by decide +kernel) hC.1 (C := RX6) (T := TX6) (N := 9) rfl rfl rfl (Nat.le_of_ble_eq_true rfl) (by dsimp only [gRm]; omega) (by dsimp only [gRm]; omega) dX6_follow_74 (fun v9 h k9 n9 hp => ?_) (fun E9 h1 k1 n1 hp => by obtain ⟨Λ9, W9, z9, e9, -⟩ := hp; cases e9)
      obtain ⟨Λ2, W2, z2, e9, hC2, o9, hy, hny, hsm2, hF2, hlB, hQ0, hQk, hQn⟩ := hp
      cases e9
      refine gI_vret hB hE dX6_follow_77 ?_
      have es : mRgL (mRung ((mFol2 u (9 * (8 * t + j)) t).2 1) (9 * (8 * t + j)) T t) ((mFol2 u (9 * (8 * t + j)) t).2 1 ((9 * (8 * t + j)) + 6)) ((mFol2 u (9 * (8 * t + j)) t).2 1 ((9 * (8 * t + j)) + 7)) T 0 (mFol2 u (9 * (8 * t + j)) t) = mFollow u (9 * (8 * t + j)) t T := by
        rw [k1.2.2.2]
        unfold mFollow
        have n8 : ¬ u.2 4 4 = nI 8 := by rw [hp2]; exact nI_neq (by omega) (by omega) (by omega)
        by_cases hx2 : x < 2
        · rw [if_pos (Or.inl (by rw [ex]; exact (nI_ltI (by omega) (by omega)).mpr hx2)), mRung_0 hx2 e4]
          exact mRgL_0 T 0 _ (by omega)
        · rw [if_neg (fun z9 => z9.elim (fun y9 => hx2 ((nI_ltI (by omega) (by omega)).mp (by rw [ex] at y9; exact y9))) n8)]
          exact mFolL_rg hT ht hx (by omega) e4 hy5 ((mFol1_at (by omega)).trans ey5) T 0 _ (by omega)
      exact ⟨Λ2, W2, z2, rfl, by rw [← es]; exact hC2, by rw [← es]; exact o9, hy, hny, hsm.trans hsm2, hF.trans hF2, hlB, by omega, by omega, by omega⟩
  have j25 : x = 0 ∨ x = 4 → gW X h 0 0 25 [(0, .ref (c 0)), (1, .ref (cEl Λ (4 + t) j)), (2, .ref (cEl Λ 0 t)), (3, .ref y)] [] := by
    intro hx9
    refine gI_aload_n hB 2 dX6_follow_25 rfl ?_
    refine gI_dup hB dX6_follow_26 rfl ?_
    refine gI_get (v := .int ((mFol1 u (9 * (8 * t + j))).2 0 (7 * t + 5))) hB 6 (hC.2.2.2.2.2.1 t ht) (C := RX4) (T := TX4) (N := 8) rfl (by decide +kernel) (by decide) (by decide +kernel) (fun _ h9 => h9) rfl dX6_follow_27 ?_
    refine gI_iconst (v := nI 1) hB dX6_follow_30 (by decide) ?_
    refine gI_iadd hB dX6_follow_31 ?_
    refine gC_put hB 6 tyX4 tyX4_ok nmX4 (hC.2.2.2.2.2.1 t ht) (C := RX4) (T := TX4) (N := 8) rfl (by decide +kernel) (by decide) (by decide +kernel) (fun _ h9 => h9) rfl rfl rfl (Nat.le_of_ble_eq_true rfl) dX6_follow_32 (fun h hN hK => ?_)
    have hy := hK _ _ hy (gat_ne hy (hC.2.2.2.2.2.1 t ht) rfl)
    have hF := hF.st (hC.2.2.2.2.2.1 t ht) rfl hK
    have hC : cRep X.2.1 h c Λ (sa (mFol1 u (9 * (8 * t + j))) 0 (upd ((mFol1 u (9 * (8 * t + j))).2 0) (7 * t + 5) (((mFol1 u (9 * (8 * t + j))).2 0 (7 * t + 5)) + (nI 1)))) T W z := hC.putTen (f := upd ((mFol1 u (9 * (8 * t + j))).2 0) (7 * t + 5) (((mFol1 u (9 * (8 * t + j))).2 0 (7 * t + 5)) + (nI 1))) ht hK (by rw [← tFS_upd (pos := 6) (by decide)]; exact hN) (fun t9 i9 h9 h8 => pk_un (by omega)) (pk_un (by omega))
    have oS : mOk (sa (mFol1 u (9 * (8 * t + j))) 0 (upd ((mFol1 u (9 * (8 * t + j))).2 0) (7 * t + 5) (((mFol1 u (9 * (8 * t + j))).2 0 (7 * t + 5)) + (nI 1)))) T W z := (mFol1_ok (a := 8 * t + j) o).tab rfl rfl rfl rfl (fun t9 ht9 ot9 => mOkT.cg (pk_un (by omega)) (pk_un (by omega)) (pk_un (by omega)) (fun _ _ q9 => q9) ot9) rfl rfl
    refine gI_aload_n hB 0 dX6_follow_35 rfl ?_
    refine gI_get (v := .ref (c 2)) hB 2 hC.1 (C := RX6) (T := TX6) (N := 9) rfl (by decide +kernel) (by decide) (by decide +kernel) (fun _ h9 => h9) rfl dX6_follow_36 ?_
    refine gI_aload_n hB 2 dX6_follow_39 rfl ?_
    refine gI_get (v := .int ((sa (mFol1 u (9 * (8 * t + j))) 0 (upd ((mFol1 u (9 * (8 * t + j))).2 0) (7 * t + 5) (((mFol1 u (9 * (8 * t + j))).2 0 (7 * t + 5)) + (nI 1)))).2 0 (7 * t + 0))) hB 1 (hC.2.2.2.2.2.1 t ht) (C := RX4) (T := TX4) (N := 8) rfl (by decide +kernel) (by decide) (by decide +kernel) (fun _ h9 => h9) rfl dX6_follow_40 ?_
    refine gI_aload_n hB 3 dX6_follow_43 rfl ?_
    refine gI_get (v := .int (u.2 4 3)) hB 3 hy (C := RX2) (T := TX2) (N := 6) rfl (by decide +kernel) (by decide) (by decide +kernel) (fun _ h9 => h9) rfl dX6_follow_44 ?_
    refine gI_iadd hB dX6_follow_47 ?_
    refine gI_bipush (v := nI 88) hB dX6_follow_48 (by decide) ?_
    refine gI_pureS (n9 := 2) (As := [.int (((sa (mFol1 u (9 * (8 * t + j))) 0 (upd ((mFol1 u (9 * (8 * t + j))).2 0) (7 * t + 5) (((mFol1 u (9 * (8 * t + j))).2 0 (7 * t + 5)) + (nI 1)))).2 0 (7 * t + 0)) + (u.2 4 3)), .int (nI 88)]) (rest := [.ref (c 2)]) hB (c_floorMod X.2.1 h (((sa (mFol1 u (9 * (8 * t + j))) 0 (upd ((mFol1 u (9 * (8 * t + j))).2 0) (7 * t + 5) (((mFol1 u (9 * (8 * t + j))).2 0 (7 * t + 5)) + (nI 1)))).2 0 (7 * t + 0)) + (u.2 4 3)) (nI 88) (by decide)) (gCW.of ggX6_follow_J9_floorMod_7cf53 rfl ⟨by decide, by decide, by decide +kernel⟩ ⟨Nat.le_of_ble_eq_true rfl, Nat.le_of_ble_eq_true rfl⟩) (Or.inl (by decide +kernel)) (by decide +kernel) (by decide +kernel) rfl rfl (Nat.le_of_ble_eq_true rfl) (by dsimp only [gRm]; omega) (by dsimp only [gRm]; omega) dX6_follow_50 ?_
    refine gI_aload_n hB 1 dX6_follow_53 rfl ?_
    refine gI_get (v := .int ((sa (mFol1 u (9 * (8 * t + j))) 0 (upd ((mFol1 u (9 * (8 * t + j))).2 0) (7 * t + 5) (((mFol1 u (9 * (8 * t + j))).2 0 (7 * t + 5)) + (nI 1)))).2 1 (9 * (8 * t + j) + 6))) hB 6 (hC.2.2.2.2.2.2.1 t j ht hj) (C := RX0) (T := TX0) (N := 9) rfl (by decide +kernel) (by decide) (by decide +kernel) (fun _ h9 => h9) rfl dX6_follow_54 ?_
    refine gI_aload_n hB 3 dX6_follow_57 rfl ?_
    refine gI_callV (n9 := 3) (As := [.int (gFm (((sa (mFol1 u (9 * (8 * t + j))) 0 (upd ((mFol1 u (9 * (8 * t + j))).2 0) (7 * t + 5) (((mFol1 u (9 * (8 * t + j))).2 0 (7 * t + 5)) + (nI 1)))).2 0 (7 * t + 0)) + (u.2 4 3)) (nI 88)), .int ((sa (mFol1 u (9 * (8 * t + j))) 0 (upd ((mFol1 u (9 * (8 * t + j))).2 0) (7 * t + 5) (((mFol1 u (9 * (8 * t + j))).2 0 (7 * t + 5)) + (nI 1)))).2 1 (9 * (8 * t + j) + 6)), .ref y]) (rest := []) hB (k_sadd X.2.1 h c Λ (sa (mFol1 u (9 * (8 * t + j))) 0 (upd ((mFol1 u (9 * (8 * t + j))).2 0) (7 * t + 5) (((mFol1 u (9 * (8 * t + j))).2 0 (7 * t + 5)) + (nI 1)))) T W z hC oS y (u.2 4) B hy hny rfl hB6 hBl (gFm (((sa (mFol1 u (9 * (8 * t + j))) 0 (upd ((mFol1 u (9 * (8 * t + j))).2 0) (7 * t + 5) (((mFol1 u (9 * (8 * t + j))).2 0 (7 * t + 5)) + (nI 1)))).2 0 (7 * t + 0)) + (u.2 4 3)) (nI 88)) ((sa (mFol1 u (9 * (8 * t + j))) 0 (upd ((mFol1 u (9 * (8 * t + j))).2 0) (7 * t + 5) (((mFol1 u (9 * (8 * t + j))).2 0 (7 * t + 5)) + (nI 1)))).2 1 (9 * (8 * t + j) + 6)) hd) (gCW.of ggX6_follow_X3_add rfl ⟨by decide, by decide, by decide +kernel⟩ ⟨Nat.le_of_ble_eq_true rfl, Nat.le_of_ble_eq_true rfl⟩) (by decide +kernel) (by decide +kernel) (by decide +kernel) (by decide +kernel) hC.2.2.1 (C := RX3) (T := TX3) (N := 4) rfl rfl rfl (Nat.le_of_ble_eq_true rfl) (by dsimp only [gRm]; omega) (by dsimp only [gRm]; omega) dX6_follow_58 (fun v9 h k9 n9 hp => ?_) (fun E9 h1 k1 n1 hp => by obtain ⟨Λ9, z9, e9, -⟩ := hp; cases e9)
    obtain ⟨Λ9, z9, e9, hC9, e12, hz9, hy, hny9, hsm9, hF9, hl91, hl92, hP0, hPk, hPn⟩ := hp
    cases e9
    have es : mFol2 u (9 * (8 * t + j)) t = mSingC (sa (mFol1 u (9 * (8 * t + j))) 0 (upd ((mFol1 u (9 * (8 * t + j))).2 0) (7 * t + 5) (((mFol1 u (9 * (8 * t + j))).2 0 (7 * t + 5)) + (nI 1)))) (gFm (((sa (mFol1 u (9 * (8 * t + j))) 0 (upd ((mFol1 u (9 * (8 * t + j))).2 0) (7 * t + 5) (((mFol1 u (9 * (8 * t + j))).2 0 (7 * t + 5)) + (nI 1)))).2 0 (7 * t + 0)) + (u.2 4 3)) (nI 88)) ((sa (mFol1 u (9 * (8 * t + j))) 0 (upd ((mFol1 u (9 * (8 * t + j))).2 0) (7 * t + 5) (((mFol1 u (9 * (8 * t + j))).2 0 (7 * t + 5)) + (nI 1)))).2 1 ((9 * (8 * t + j)) + 6)) := by
      unfold mFol2; rw [if_pos (by rw [ex]; exact hx9.imp (fun q9 => congrArg nI q9) (fun q9 => congrArg nI q9)), mSing_C (w := mFol1 u (9 * (8 * t + j))) h0 et]; exact congrArg _ (mFol1_at (show (9 * (8 * t + j)) + 6 ≠ (9 * (8 * t + j)) + 8 by omega)).symm
    have ez5 : z9 = z5 := (nI_eq (by omega) (by have := o2.2.2.2.2.2.1; omega)).mp (e12.symm.trans (by rw [← es]; exact o2.2.2.2.2.1))
    rw [← es, ez5] at hC9
    exact j61 h Λ9 _ _ hC9 hy hny9 (eΛ ▸ hsm9) (hF.trans hF9) (by rw [hl91, hl92]; exact hBl) (by omega) (by omega) (by omega)
  refine gI_aload_n hB 1 dX6_follow_10 rfl ?_
  refine gI_get (v := .int ((mFol1 u (9 * (8 * t + j))).2 1 (9 * (8 * t + j) + 4))) hB 4 (hC.2.2.2.2.2.2.1 t j ht hj) (C := RX0) (T := TX0) (N := 9) rfl (by decide +kernel) (by decide) (by decide +kernel) (fun _ h9 => h9) rfl dX6_follow_11 ?_
  refine gI_topi hB (y := nI x) e4 ?_
  refine gI_if_eq hB 25 dX6_follow_14 (by decide) (fun c14_2 => ?_) (fun c14_2 => ?_)
  · skip
    have hx0 : x = 0 := (nI_eq (by omega) (by omega)).mp (show nI x = nI 0 from c14_2)
    exact j25 (Or.inl hx0)
  · skip
    have hx0 : ¬ x = 0 := fun z9 => c14_2 (by rw [z9]; rfl)
    refine gI_aload_n hB 1 dX6_follow_17 rfl ?_
    refine gI_get (v := .int ((mFol1 u (9 * (8 * t + j))).2 1 (9 * (8 * t + j) + 4))) hB 4 (hC.2.2.2.2.2.2.1 t j ht hj) (C := RX0) (T := TX0) (N := 9) rfl (by decide +kernel) (by decide) (by decide +kernel) (fun _ h9 => h9) rfl dX6_follow_18 ?_
    refine gI_topi hB (y := nI x) e4 ?_
    refine gI_iconst (v := nI 4) hB dX6_follow_21 (by decide) ?_
    refine gI_icmp_ne hB 61 dX6_follow_22 (by decide) (fun c22_3 => ?_) (fun c22_3 => ?_)
    · skip
      have c22_3 := mt (nI_eq (by omega) (by omega)).mpr c22_3
      have es : mFol2 u (9 * (8 * t + j)) t = mFol1 u (9 * (8 * t + j)) := by unfold mFol2; rw [if_neg (by rw [ex]; exact fun z9 => z9.elim (nI_neq (a := x) (b := 0) (by omega) (by omega) (by omega)) (nI_neq (a := x) (b := 4) (by omega) (by omega) (by omega)))]
      have ez5 : z5 = z := (nI_eq (by have := o2.2.2.2.2.2.1; omega) (by omega)).mp (o2.2.2.2.2.1.symm.trans (by rw [es]; exact ez))
      exact j61 h Λ _ _ (by rw [es, ez5]; exact hC) hy hny cSame.rf hF hBl (Nat.le_refl _) (Nat.zero_le _) (Nat.zero_le _)
    · skip
      have c22_3 := (nI_eq (by omega) (by omega)).mp c22_3
      exact j25 (Or.inr c22_3)

