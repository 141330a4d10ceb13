theorem mWait_t (u : MS) (to d s : Int32) : (mWait u to d s).1 0 = u.1 0 := by
  unfold mWait
  split <;> rfl
theorem mFolL_t {H : Nat → Int32} {J t : Nat} : ∀ r to u, (mFolL H J t r to u).1 0 = u.1 0
  | 0, _, _ => rfl
  | r + 1, to, u => by
    unfold mFolL
    rw [mFolL_t r (to + 1)]
    split
    · exact mWait_t _ _ _ _
    · rfl
theorem mFol2_t (u : MS) (J t : Nat) : (mFol2 u J t).1 0 = u.1 0 := by
  unfold mFol2 mSing mSing0
  split
  · split <;> rfl
  · rfl
theorem mHear_t (u : MS) (t T : Nat) : (mHear u t T).1.1 0 = u.1 0 := by
  unfold mHear
  split
  · rfl
  · show (mHearB u t T).1 0 = _
    unfold mHearB mFollow
    split
    · rfl
    · split
      · exact mFol2_t _ _ _
      · rw [mFolL_t]
        exact mFol2_t _ _ _
theorem mTire_0 {v : MS} {t : Nat} (e : v.2 0 (7 * t + 2) = nI 0) : mTire v t = v := by
  have e1 : upd (v.2 0) (7 * t + 2) (if nI 0 < v.2 0 (7 * t + 2) - nI 1 then v.2 0 (7 * t + 2) - nI 1 else nI 0) = v.2 0 := by
    funext i
    by_cases hi : i = 7 * t + 2
    · rw [hi, pk_us, e]
      decide
    · rw [pk_un hi]
  unfold mTire sa
  rw [e1]
  refine Prod.ext rfl ?_
  funext j
  by_cases hj : j = 0
  · rw [hj]
    show va_up v.2 0 (v.2 0) 0 = v.2 0
    exact va_up_self _ _ _
  · exact va_up_ne _ _ hj
theorem mTire_1 {v : MS} {t q : Nat} (hq : q < 100) (e : v.2 0 (7 * t + 2) = nI (q + 1)) : mTire v t = sa v 0 (upd (v.2 0) (7 * t + 2) (v.2 0 (7 * t + 2) - nI 1)) := by
  have e1 : (if nI 0 < v.2 0 (7 * t + 2) - nI 1 then v.2 0 (7 * t + 2) - nI 1 else nI 0) = v.2 0 (7 * t + 2) - nI 1 := by
    rw [e, nI_m1]
    rcases Nat.eq_zero_or_pos q with h0 | h0
    · rw [h0]
      decide
    · rw [if_pos ((nI_ltI (by omega) (by omega)).mpr h0)]
  unfold mTire
  rw [e1]

set_option maxRecDepth 100000 in
set_option maxHeartbeats 4000000 in
theorem k_doRing (G : gG) (h_0 : gH) (c : Nat → Nat) (Λ0 : CL) (u : MS) (T W z : Nat) (hC : cRep G h_0 c Λ0 u T W z) (o : mOk u T W z) (y : Nat) (D : Nat → Int32) (B : Nat) (hy : gat h_0 y (.inr (5, rFS (mRow D 0) (wOf D 5 (D 4))))) (hny : ∀ k l, k < 4 + T → l < cLen Λ0 k → cEl Λ0 k l ≠ y) (eD : u.2 4 = D) (hB6 : 60 ≤ B) (hBl : cLen Λ0 1 + cLen Λ0 2 ≤ B) (t : Nat) (ht : t < T) (hd : mOkR D 0 T) (h0 : D 0 = u.1 1) (et : D 1 = nI t) : gMet yX6_doRing wsX6_doRing (gRm 9 4000 26000) G h_0 [.ref (c 0), .ref y] (kRg G h_0 c Λ0 (mHear u t T).1 T y D B (some (.int (mHear u t T).2))) := by
  refine gMet_of (maxL := 4) (ret := (some .int)) (by decide) rfl (Nat.le_of_ble_eq_true rfl) ?_
  intro X hG hnL hB hE
  subst hG
  suffices go : ∀ h : gH, h = h_0 → gW X h 0 0 0 [(0, .ref (c 0)), (1, .ref y)] [] from go h_0 rfl
  intro h eh
  rw [← eh] at hC hy
  subst eD
  have hF : cFr h_0 h := by rw [eh]; exact cFr.rf
  obtain ⟨Λ, eΛ⟩ : ∃ Λ, Λ = Λ0 := ⟨_, rfl⟩
  rw [← eΛ] at hC hny hBl
  have hT := o.2.1
  have hW60 := o.2.2.2.1
  have hz200 := o.2.2.2.2.2.1
  have ez := o.2.2.2.2.1
  have eW := o.2.2.1
  have eT := o.1
  obtain ⟨md0, g0, hl0, -⟩ := hC.2.2.2.1 0 (by omega)
  refine gI_aload_n hB 0 dX6_doRing_0 rfl ?_
  refine gI_aload_n hB 1 dX6_doRing_1 rfl ?_
  refine gI_get (v := .int (u.2 4 1)) hB 1 hy (C := RX2) (T := TX2) (N := 6) rfl (by decide +kernel) (by decide) (by decide +kernel) (fun _ h9 => h9) rfl dX6_doRing_2 ?_
  refine gI_topi hB (y := nI t) et ?_
  refine gI_pureV (n9 := 1) (As := [.int (nI t)]) (rest := []) hB (k_tenantAt X.2.1 h c Λ u T W z hC o t ht) (gCW.of ggX6_doRing_X6_tenantAt rfl ⟨by decide, by decide, by decide +kernel⟩ ⟨Nat.le_of_ble_eq_true rfl, Nat.le_of_ble_eq_true rfl⟩) (by decide +kernel) (by decide +kernel) (by decide +kernel) (by decide +kernel) hC.1 (C := RX6) (T := TX6) (N := 9) rfl rfl rfl (Nat.le_of_ble_eq_true rfl) (by dsimp only [gRm]; omega) (by dsimp only [gRm]; omega) dX6_doRing_5 ?_
  refine gI_astore_n hB ([(2, .ref (cEl Λ 0 t)), (0, .ref (c 0)), (1, .ref y)]) hnL dX6_doRing_8 (by decide) rfl ?_
  refine gI_aload_n hB 0 dX6_doRing_9 rfl ?_
  refine gI_get (v := .int (u.2 0 (7 * t + 6))) hB 7 (hC.2.2.2.2.2.1 t ht) (C := RX4) (T := TX4) (N := 8) rfl (by decide +kernel) (by decide) (by decide +kernel) (fun _ h9 => h9) rfl dX6_doRing_10 ?_
  refine gI_aload_n hB 1 dX6_doRing_13 rfl ?_
  refine gI_get (v := .int (u.1 1)) hB 5 hC.1 (C := RX6) (T := TX6) (N := 9) rfl (by decide +kernel) (by decide) (by decide +kernel) (fun _ h9 => h9) rfl dX6_doRing_14 ?_
  refine gI_icmp_ne hB 32 dX6_doRing_17 (by decide) (fun c17_1 => ?_) (fun c17_1 => ?_)
  · skip
    have c17_n : ¬ u.2 0 (7 * t + 6) = u.1 1 := c17_1
    refine gI_aload_n hB 0 dX6_doRing_32 rfl ?_
    refine gI_aload_n hB 1 dX6_doRing_33 rfl ?_
    refine gI_get (v := .int (u.1 1)) hB 5 hC.1 (C := RX6) (T := TX6) (N := 9) rfl (by decide +kernel) (by decide) (by decide +kernel) (fun _ h9 => h9) rfl dX6_doRing_34 ?_
    refine gC_put hB 7 tyX4 tyX4_ok nmX4 (hC.2.2.2.2.2.1 t ht) (C := RX4) (T := TX4) (N := 8) rfl (by decide +kernel) (by decide) (by decide +kernel) (fun _ h9 => h9) rfl rfl rfl (Nat.le_of_ble_eq_true rfl) dX6_doRing_37 (fun h hN hK => ?_)
    have hy := hK _ _ hy (gat_ne hy (hC.2.2.2.2.2.1 t ht) rfl)
    have hF := hF.st (hC.2.2.2.2.2.1 t ht) rfl hK
    have hC : cRep X.2.1 h c Λ (sa u 0 (upd (u.2 0) (7 * t + 6) (u.1 1))) T W z := hC.putTen (f := upd (u.2 0) (7 * t + 6) (u.1 1)) ht hK (by rw [← tFS_upd (pos := 7) (by decide)]; exact hN) (fun t9 i9 h9 h8 => pk_un (by omega)) (pk_un (by omega))
    refine gI_aload_n hB 0 dX6_doRing_40 rfl ?_
    refine gI_dup hB dX6_doRing_41 rfl ?_
    refine gI_get (v := .int ((sa u 0 (upd (u.2 0) (7 * t + 6) (u.1 1))).2 0 (7 * t + 4))) hB 5 (hC.2.2.2.2.2.1 t ht) (C := RX4) (T := TX4) (N := 8) rfl (by decide +kernel) (by decide) (by decide +kernel) (fun _ h9 => h9) rfl dX6_doRing_42 ?_
    refine gI_iconst (v := nI 1) hB dX6_doRing_45 (by decide) ?_
    refine gI_iadd hB dX6_doRing_46 ?_
    refine gC_put hB 5 tyX4 tyX4_ok nmX4 (hC.2.2.2.2.2.1 t ht) (C := RX4) (T := TX4) (N := 8) rfl (by decide +kernel) (by decide) (by decide +kernel) (fun _ h9 => h9) rfl rfl rfl (Nat.le_of_ble_eq_true rfl) dX6_doRing_47 (fun h hN hK => ?_)
    have hy := hK _ _ hy (gat_ne hy (hC.2.2.2.2.2.1 t ht) rfl)
    have hF := hF.st (hC.2.2.2.2.2.1 t ht) rfl hK
    have hC : cRep X.2.1 h c Λ (sa (sa u 0 (upd (u.2 0) (7 * t + 6) (u.1 1))) 0 (upd ((sa u 0 (upd (u.2 0) (7 * t + 6) (u.1 1))).2 0) (7 * t + 4) (((sa u 0 (upd (u.2 0) (7 * t + 6) (u.1 1))).2 0 (7 * t + 4)) + (nI 1)))) T W z := hC.putTen (f := upd ((sa u 0 (upd (u.2 0) (7 * t + 6) (u.1 1))).2 0) (7 * t + 4) (((sa u 0 (upd (u.2 0) (7 * t + 6) (u.1 1))).2 0 (7 * t + 4)) + (nI 1))) ht hK (by rw [← tFS_upd (pos := 5) (by decide)]; exact hN) (fun t9 i9 h9 h8 => pk_un (by omega)) (pk_un (by omega))
    refine gI_aload_n hB 1 dX6_doRing_50 rfl ?_
    refine gI_dup hB dX6_doRing_51 rfl ?_
    refine gI_get (v := .int ((sa (sa u 0 (upd (u.2 0) (7 * t + 6) (u.1 1))) 0 (upd ((sa u 0 (upd (u.2 0) (7 * t + 6) (u.1 1))).2 0) (7 * t + 4) (((sa u 0 (upd (u.2 0) (7 * t + 6) (u.1 1))).2 0 (7 * t + 4)) + (nI 1)))).1 8)) hB 6 hC.1 (C := RX6) (T := TX6) (N := 9) rfl (by decide +kernel) (by decide) (by decide +kernel) (fun _ h9 => h9) rfl dX6_doRing_52 ?_
    refine gI_iconst (v := nI 1) hB dX6_doRing_55 (by decide) ?_
    refine gI_iadd hB dX6_doRing_56 ?_
    refine gC_put hB 6 tyX6 tyX6_ok nmX6 hC.1 (C := RX6) (T := TX6) (N := 9) rfl (by decide +kernel) (by decide) (by decide +kernel) (fun _ h9 => h9) rfl rfl rfl (Nat.le_of_ble_eq_true rfl) dX6_doRing_57 (fun h hN hK => ?_)
    have hy := hK _ _ hy (gat_ne hy hC.1 rfl)
    have hF := hF.st hC.1 rfl hK
    have hC : cRep X.2.1 h c Λ (sg (sa (sa u 0 (upd (u.2 0) (7 * t + 6) (u.1 1))) 0 (upd ((sa u 0 (upd (u.2 0) (7 * t + 6) (u.1 1))).2 0) (7 * t + 4) (((sa u 0 (upd (u.2 0) (7 * t + 6) (u.1 1))).2 0 (7 * t + 4)) + (nI 1)))) 8 (((sa (sa u 0 (upd (u.2 0) (7 * t + 6) (u.1 1))) 0 (upd ((sa u 0 (upd (u.2 0) (7 * t + 6) (u.1 1))).2 0) (7 * t + 4) (((sa u 0 (upd (u.2 0) (7 * t + 6) (u.1 1))).2 0 (7 * t + 4)) + (nI 1)))).1 8) + (nI 1))) T W z := hC.putMain (v := (sg (sa (sa u 0 (upd (u.2 0) (7 * t + 6) (u.1 1))) 0 (upd ((sa u 0 (upd (u.2 0) (7 * t + 6) (u.1 1))).2 0) (7 * t + 4) (((sa u 0 (upd (u.2 0) (7 * t + 6) (u.1 1))).2 0 (7 * t + 4)) + (nI 1)))) 8 (((sa (sa u 0 (upd (u.2 0) (7 * t + 6) (u.1 1))) 0 (upd ((sa u 0 (upd (u.2 0) (7 * t + 6) (u.1 1))).2 0) (7 * t + 4) (((sa u 0 (upd (u.2 0) (7 * t + 6) (u.1 1))).2 0 (7 * t + 4)) + (nI 1)))).1 8) + (nI 1)))) hK hN rfl rfl rfl
    refine gI_aload_n hB 1 dX6_doRing_60 rfl ?_
    refine gI_aload_n hB 1 dX6_doRing_61 rfl ?_
    refine gI_get (v := .int ((sg (sa (sa u 0 (upd (u.2 0) (7 * t + 6) (u.1 1))) 0 (upd ((sa u 0 (upd (u.2 0) (7 * t + 6) (u.1 1))).2 0) (7 * t + 4) (((sa u 0 (upd (u.2 0) (7 * t + 6) (u.1 1))).2 0 (7 * t + 4)) + (nI 1)))) 8 (((sa (sa u 0 (upd (u.2 0) (7 * t + 6) (u.1 1))) 0 (upd ((sa u 0 (upd (u.2 0) (7 * t + 6) (u.1 1))).2 0) (7 * t + 4) (((sa u 0 (upd (u.2 0) (7 * t + 6) (u.1 1))).2 0 (7 * t + 4)) + (nI 1)))).1 8) + (nI 1))).1 11)) hB 8 hC.1 (C := RX6) (T := TX6) (N := 9) rfl (by decide +kernel) (by decide) (by decide +kernel) (fun _ h9 => h9) rfl dX6_doRing_62 ?_
    refine gI_aload_n hB 2 dX6_doRing_65 rfl ?_
    refine gI_get (v := .int (u.2 4 4)) hB 4 hy (C := RX2) (T := TX2) (N := 6) rfl (by decide +kernel) (by decide) (by decide +kernel) (fun _ h9 => h9) rfl dX6_doRing_66 ?_
    refine gI_mmax hB (by decide +kernel) (by decide +kernel) (by decide +kernel) (by decide +kernel) (Nat.le_of_ble_eq_true rfl) (Nat.le_of_ble_eq_true rfl) (by dsimp only [gRm]; omega) (by dsimp only [gRm]; omega) dX6_doRing_69 ?_
    refine gC_put hB 8 tyX6 tyX6_ok nmX6 hC.1 (C := RX6) (T := TX6) (N := 9) rfl (by decide +kernel) (by decide) (by decide +kernel) (fun _ h9 => h9) rfl rfl rfl (Nat.le_of_ble_eq_true rfl) dX6_doRing_72 (fun h hN hK => ?_)
    have hy := hK _ _ hy (gat_ne hy hC.1 rfl)
    have hF := hF.st hC.1 rfl hK
    have hC : cRep X.2.1 h c Λ (sg (sg (sa (sa u 0 (upd (u.2 0) (7 * t + 6) (u.1 1))) 0 (upd ((sa u 0 (upd (u.2 0) (7 * t + 6) (u.1 1))).2 0) (7 * t + 4) (((sa u 0 (upd (u.2 0) (7 * t + 6) (u.1 1))).2 0 (7 * t + 4)) + (nI 1)))) 8 (((sa (sa u 0 (upd (u.2 0) (7 * t + 6) (u.1 1))) 0 (upd ((sa u 0 (upd (u.2 0) (7 * t + 6) (u.1 1))).2 0) (7 * t + 4) (((sa u 0 (upd (u.2 0) (7 * t + 6) (u.1 1))).2 0 (7 * t + 4)) + (nI 1)))).1 8) + (nI 1))) 11 (if ((sg (sa (sa u 0 (upd (u.2 0) (7 * t + 6) (u.1 1))) 0 (upd ((sa u 0 (upd (u.2 0) (7 * t + 6) (u.1 1))).2 0) (7 * t + 4) (((sa u 0 (upd (u.2 0) (7 * t + 6) (u.1 1))).2 0 (7 * t + 4)) + (nI 1)))) 8 (((sa (sa u 0 (upd (u.2 0) (7 * t + 6) (u.1 1))) 0 (upd ((sa u 0 (upd (u.2 0) (7 * t + 6) (u.1 1))).2 0) (7 * t + 4) (((sa u 0 (upd (u.2 0) (7 * t + 6) (u.1 1))).2 0 (7 * t + 4)) + (nI 1)))).1 8) + (nI 1))).1 11) < (u.2 4 4) then (u.2 4 4) else ((sg (sa (sa u 0 (upd (u.2 0) (7 * t + 6) (u.1 1))) 0 (upd ((sa u 0 (upd (u.2 0) (7 * t + 6) (u.1 1))).2 0) (7 * t + 4) (((sa u 0 (upd (u.2 0) (7 * t + 6) (u.1 1))).2 0 (7 * t + 4)) + (nI 1)))) 8 (((sa (sa u 0 (upd (u.2 0) (7 * t + 6) (u.1 1))) 0 (upd ((sa u 0 (upd (u.2 0) (7 * t + 6) (u.1 1))).2 0) (7 * t + 4) (((sa u 0 (upd (u.2 0) (7 * t + 6) (u.1 1))).2 0 (7 * t + 4)) + (nI 1)))).1 8) + (nI 1))).1 11))) T W z := hC.putMain (v := (sg (sg (sa (sa u 0 (upd (u.2 0) (7 * t + 6) (u.1 1))) 0 (upd ((sa u 0 (upd (u.2 0) (7 * t + 6) (u.1 1))).2 0) (7 * t + 4) (((sa u 0 (upd (u.2 0) (7 * t + 6) (u.1 1))).2 0 (7 * t + 4)) + (nI 1)))) 8 (((sa (sa u 0 (upd (u.2 0) (7 * t + 6) (u.1 1))) 0 (upd ((sa u 0 (upd (u.2 0) (7 * t + 6) (u.1 1))).2 0) (7 * t + 4) (((sa u 0 (upd (u.2 0) (7 * t + 6) (u.1 1))).2 0 (7 * t + 4)) + (nI 1)))).1 8) + (nI 1))) 11 (if ((sg (sa (sa u 0 (upd (u.2 0) (7 * t + 6) (u.1 1))) 0 (upd ((sa u 0 (upd (u.2 0) (7 * t + 6) (u.1 1))).2 0) (7 * t + 4) (((sa u 0 (upd (u.2 0) (7 * t + 6) (u.1 1))).2 0 (7 * t + 4)) + (nI 1)))) 8 (((sa (sa u 0 (upd (u.2 0) (7 * t + 6) (u.1 1))) 0 (upd ((sa u 0 (upd (u.2 0) (7 * t + 6) (u.1 1))).2 0) (7 * t + 4) (((sa u 0 (upd (u.2 0) (7 * t + 6) (u.1 1))).2 0 (7 * t + 4)) + (nI 1)))).1 8) + (nI 1))).1 11) < (u.2 4 4) then (u.2 4 4) else ((sg (sa (sa u 0 (upd (u.2 0) (7 * t + 6) (u.1 1))) 0 (upd ((sa u 0 (upd (u.2 0) (7 * t + 6) (u.1 1))).2 0) (7 * t + 4) (((sa u 0 (upd (u.2 0) (7 * t + 6) (u.1 1))).2 0 (7 * t + 4)) + (nI 1)))) 8 (((sa (sa u 0 (upd (u.2 0) (7 * t + 6) (u.1 1))) 0 (upd ((sa u 0 (upd (u.2 0) (7 * t + 6) (u.1 1))).2 0) (7 * t + 4) (((sa u 0 (upd (u.2 0) (7 * t + 6) (u.1 1))).2 0 (7 * t + 4)) + (nI 1)))).1 8) + (nI 1))).1 11)))) hK hN rfl rfl rfl
    have hC : cRep X.2.1 h c Λ (mHearA u t) T W z := hC
    have oA := mHearA_ok (t := t) o
    have j104 : ∀ (h : gH) (Λ1 : CL) (W1 z1 k n : Nat), cRep X.2.1 h c Λ1 (mHearB u t T) T W1 z1 → mOk (mHearB u t T) T W1 z1 → gat h y (.inr (5, rFS (mRow (u.2 4) 0) (wOf (u.2 4) 5 (u.2 4 4)))) → (∀ k l, k < 4 + T → l < cLen Λ1 k → cEl Λ1 k l ≠ y) → cSame Λ Λ1 → cFr h_0 h → cLen Λ1 1 + cLen Λ1 2 ≤ B → cPhi Λ ≤ cPhi Λ1 → k ≤ cPhi Λ1 - cPhi Λ → n ≤ 7 * (cPhi Λ1 - cPhi Λ) → gW X h k n 104 [(3, .int (mHearS u t)), (2, .ref (cEl Λ 0 t)), (0, .ref (c 0)), (1, .ref y)] [] := by
      intro h Λ1 W1 z1 k n hC oV hy hny hsm hF hlB hP0 hPk hPn
      have e0 := (hsm 0 (by omega) (by omega) (by omega)).2
      rw [show cEl Λ 0 = cEl Λ1 0 from e0.symm]
      obtain ⟨m9, -, -, ⟨q, hq, eq⟩, -⟩ := oV.2.2.2.2.2.2.2.1 t ht
      refine gI_aload_n hB 1 dX6_doRing_104 rfl ?_
      refine gI_get (v := .int ((mHearB u t T).2 0 (7 * t + 2))) hB 4 (hC.2.2.2.2.2.1 t ht) (C := RX4) (T := TX4) (N := 8) rfl (by decide +kernel) (by decide) (by decide +kernel) (fun _ h9 => h9) rfl dX6_doRing_105 ?_
      refine gI_if_le hB 121 dX6_doRing_108 (by decide) (fun c108_2 => ?_) (fun c108_2 => ?_)
      · skip
        have eT0 := mTire_0 (v := (mHearB u t T)) (t := t) (by rw [eq]; exact congrArg nI (by
          rcases q with _ | q
          · rfl
          · exact absurd ((nI_leI (a := q + 1) (b := 0) (by omega) (by omega)).mp (by rw [eq] at c108_2; exact c108_2)) (by omega)))
        refine gI_iload_n hB 0 dX6_doRing_121 rfl ?_
        refine gI_iconst (v := (-1)) hB dX6_doRing_122 (by decide) ?_
        refine gI_icmp_ne hB 130 dX6_doRing_123 (by decide) (fun c123_3 => ?_) (fun c123_3 => ?_)
        · skip
          refine gI_iconst (v := nI 0) hB dX6_doRing_130 (by decide) ?_
          refine gI_iret hB hE dX6_doRing_131 ?_
          have es : mHear u t T = (mTire (mHearB u t T) t, (nI 0)) := by unfold mHear; rw [if_neg c17_n, if_neg c123_3]
          exact ⟨Λ1, W1, z1, by rw [es], by rw [es]; show cRep _ h c Λ1 (mTire (mHearB u t T) t) T W1 z1; rw [eT0]; exact hC, by rw [es]; exact mTire_ok oV ht, hy, hny, by rw [← eΛ]; exact hsm, hF, hlB, by rw [← eΛ]; exact hP0, by rw [← eΛ]; exact hPk, by rw [← eΛ]; exact hPn⟩
        · skip
          refine gI_iconst (v := nI 1) hB dX6_doRing_126 (by decide) ?_
          refine gI_goto hB 131 dX6_doRing_127 (by decide) ?_
          refine gI_iret hB hE dX6_doRing_131 ?_
          have es : mHear u t T = (mTire (mHearB u t T) t, (nI 1)) := by unfold mHear; rw [if_neg c17_n, if_pos c123_3]
          exact ⟨Λ1, W1, z1, by rw [es], by rw [es]; show cRep _ h c Λ1 (mTire (mHearB u t T) t) T W1 z1; rw [eT0]; exact hC, by rw [es]; exact mTire_ok oV ht, hy, hny, by rw [← eΛ]; exact hsm, hF, hlB, by rw [← eΛ]; exact hP0, by rw [← eΛ]; exact hPk, by rw [← eΛ]; exact hPn⟩
      · skip
        obtain ⟨q1, eq1⟩ : ∃ q1, q = q1 + 1 := by
          rcases q with _ | q
          · exact absurd (show nI 0 ≤ 0 by decide) (by rw [eq] at c108_2; exact c108_2)
          · exact ⟨q, rfl⟩
        have eT1 := mTire_1 (v := (mHearB u t T)) (t := t) (q := q1) (by omega) (by rw [eq, eq1])
        refine gI_aload_n hB 1 dX6_doRing_111 rfl ?_
        refine gI_dup hB dX6_doRing_112 rfl ?_
        refine gI_get (v := .int ((mHearB u t T).2 0 (7 * t + 2))) hB 4 (hC.2.2.2.2.2.1 t ht) (C := RX4) (T := TX4) (N := 8) rfl (by decide +kernel) (by decide) (by decide +kernel) (fun _ h9 => h9) rfl dX6_doRing_113 ?_
        refine gI_iconst (v := nI 1) hB dX6_doRing_116 (by decide) ?_
        refine gI_isub hB dX6_doRing_117 ?_
        refine gC_put hB 4 tyX4 tyX4_ok nmX4 (hC.2.2.2.2.2.1 t ht) (C := RX4) (T := TX4) (N := 8) rfl (by decide +kernel) (by decide) (by decide +kernel) (fun _ h9 => h9) rfl rfl rfl (Nat.le_of_ble_eq_true rfl) dX6_doRing_118 (fun h hN hK => ?_)
        have hy := hK _ _ hy (gat_ne hy (hC.2.2.2.2.2.1 t ht) rfl)
        have hF := hF.st (hC.2.2.2.2.2.1 t ht) rfl hK
        have hC : cRep X.2.1 h c Λ1 (sa (mHearB u t T) 0 (upd ((mHearB u t T).2 0) (7 * t + 2) (((mHearB u t T).2 0 (7 * t + 2)) - (nI 1)))) T W1 z1 := hC.putTen (f := upd ((mHearB u t T).2 0) (7 * t + 2) (((mHearB u t T).2 0 (7 * t + 2)) - (nI 1))) ht hK (by rw [← tFS_upd (pos := 4) (by decide)]; exact hN) (fun t9 i9 h9 h8 => pk_un (by omega)) (pk_un (by omega))
        refine gI_iload_n hB 0 dX6_doRing_121 rfl ?_
        refine gI_iconst (v := (-1)) hB dX6_doRing_122 (by decide) ?_
        refine gI_icmp_ne hB 130 dX6_doRing_123 (by decide) (fun c123_4 => ?_) (fun c123_4 => ?_)
        · skip
          refine gI_iconst (v := nI 0) hB dX6_doRing_130 (by decide) ?_
          refine gI_iret hB hE dX6_doRing_131 ?_
          have es : mHear u t T = (mTire (mHearB u t T) t, (nI 0)) := by unfold mHear; rw [if_neg c17_n, if_neg c123_4]
          exact ⟨Λ1, W1, z1, by rw [es], by rw [es]; show cRep _ h c Λ1 (mTire (mHearB u t T) t) T W1 z1; rw [eT1]; exact hC, by rw [es]; exact mTire_ok oV ht, hy, hny, by rw [← eΛ]; exact hsm, hF, hlB, by rw [← eΛ]; exact hP0, by rw [← eΛ]; exact hPk, by rw [← eΛ]; exact hPn⟩
        · skip
          refine gI_iconst (v := nI 1) hB dX6_doRing_126 (by decide) ?_
          refine gI_goto hB 131 dX6_doRing_127 (by decide) ?_
          refine gI_iret hB hE dX6_doRing_131 ?_
          have es : mHear u t T = (mTire (mHearB u t T) t, (nI 1)) := by unfold mHear; rw [if_neg c17_n, if_pos c123_4]
          exact ⟨Λ1, W1, z1, by rw [es], by rw [es]; show cRep _ h c Λ1 (mTire (mHearB u t T) t) T W1 z1; rw [eT1]; exact hC, by rw [es]; exact mTire_ok oV ht, hy, hny, by rw [← eΛ]; exact hsm, hF, hlB, by rw [← eΛ]; exact hP0, by rw [← eΛ]; exact hPk, by rw [← eΛ]; exact hPn⟩
    refine gI_aload_n hB 0 dX6_doRing_75 rfl ?_
    refine gI_aload_n hB 2 dX6_doRing_76 rfl ?_
    refine gI_pureV (n9 := 0) (As := []) (rest := [.ref (cEl Λ 0 t)]) hB (k_sort X.2.1 h y (u.2 4) (wOf (u.2 4) 5 (u.2 4 4)) hy) (gCW.of ggX6_doRing_X2_sort rfl ⟨by decide, by decide, by decide +kernel⟩ ⟨Nat.le_of_ble_eq_true rfl, Nat.le_of_ble_eq_true rfl⟩) (by decide +kernel) (by decide +kernel) (by decide +kernel) (by decide +kernel) hy (C := RX2) (T := TX2) (N := 6) rfl rfl rfl (Nat.le_of_ble_eq_true rfl) (by dsimp only [gRm]; omega) (by dsimp only [gRm]; omega) dX6_doRing_77 ?_
    refine gI_aload_n hB 1 dX6_doRing_80 rfl ?_
    refine gI_pureV (n9 := 0) (As := []) (rest := [.int (if u.2 4 2 = -1 then nI 0 else nI 1), .ref (cEl Λ 0 t)]) hB (k_hourNow X.2.1 h c Λ (mHearA u t) T W z hC oA) (gCW.of ggX6_doRing_X6_hourNow rfl ⟨by decide, by decide, by decide +kernel⟩ ⟨Nat.le_of_ble_eq_true rfl, Nat.le_of_ble_eq_true rfl⟩) (by decide +kernel) (by decide +kernel) (by decide +kernel) (by decide +kernel) hC.1 (C := RX6) (T := TX6) (N := 9) rfl rfl rfl (Nat.le_of_ble_eq_true rfl) (by dsimp only [gRm]; omega) (by dsimp only [gRm]; omega) dX6_doRing_81 ?_
    refine gI_pureV (n9 := 2) (As := [.int (if u.2 4 2 = -1 then nI 0 else nI 1), .int (mHour u)]) (rest := []) hB (k_fitting X.2.1 h c Λ (mHearA u t) T W z hC oA t ht (if u.2 4 2 = -1 then nI 0 else nI 1) (mHour u)) (gCW.of ggX6_doRing_X4_fittingHabit rfl ⟨by decide, by decide, by decide +kernel⟩ ⟨Nat.le_of_ble_eq_true rfl, Nat.le_of_ble_eq_true rfl⟩) (by decide +kernel) (by decide +kernel) (by decide +kernel) (by decide +kernel) (hC.2.2.2.2.2.1 t ht) (C := RX4) (T := TX4) (N := 8) rfl rfl rfl (Nat.le_of_ble_eq_true rfl) (by dsimp only [gRm]; omega) (by dsimp only [gRm]; omega) dX6_doRing_84 ?_
    refine gI_istore_n hB ([(3, .int (mHearS u t)), (2, .ref (cEl Λ 0 t)), (0, .ref (c 0)), (1, .ref y)]) hnL dX6_doRing_87 (by decide) rfl ?_
    refine gI_iload_n hB 0 dX6_doRing_88 rfl ?_
    refine gI_iconst (v := (-1)) hB dX6_doRing_89 (by decide) ?_
    refine gI_icmp_eq hB 104 dX6_doRing_90 (by decide) (fun c90_5 => ?_) (fun c90_5 => ?_)
    · skip
      have hS : mHearS u t = -1 := c90_5
      exact j104 h Λ W z _ _ (by rw [show (mHearB u t T) = (mHearA u t) from if_pos hS]; exact hC) (by rw [show (mHearB u t T) = (mHearA u t) from if_pos hS]; exact oA) hy hny cSame.rf hF hBl (Nat.le_refl _) (Nat.zero_le _) (Nat.zero_le _)
    · skip
      have hS : ¬ mHearS u t = -1 := c90_5
      obtain ⟨m9, i, hm9, em9, hi9, eS⟩ := mHearS_of o ht hS
      have h9 := (hC.many oA ht).1
      have h7 := hC.2.2.2.2.1.2.2.2.2.2 t ht
      have h6 : (mHearA u t).2 0 (7 * t + 3) = u.2 0 (7 * t + 3) := by
        show upd (upd (u.2 0) (7 * t + 6) (u.1 1)) (7 * t + 4) _ (7 * t + 3) = _
        rw [pk_un (by omega), pk_un (by omega)]
      rw [h6, em9] at h7
      have h5 := (nI_eq (by omega) (by omega)).mp h7
      have hi5 : i < cLen Λ (4 + t) := by omega
      refine gI_aload_n hB 2 dX6_doRing_93 rfl ?_
      refine gI_aload_n hB 1 dX6_doRing_94 rfl ?_
      refine gI_iload_n hB 0 dX6_doRing_95 rfl ?_
      refine gI_topi hB (y := nI i) eS ?_
      refine gI_pureV (n9 := 1) (As := [.int (nI i)]) (rest := [.ref (c 0)]) hB (k_habitAt X.2.1 h c Λ (mHearA u t) T W z hC oA t ht i hi5) (gCW.of ggX6_doRing_X4_habitAt rfl ⟨by decide, by decide, by decide +kernel⟩ ⟨Nat.le_of_ble_eq_true rfl, Nat.le_of_ble_eq_true rfl⟩) (by decide +kernel) (by decide +kernel) (by decide +kernel) (by decide +kernel) (hC.2.2.2.2.2.1 t ht) (C := RX4) (T := TX4) (N := 8) rfl rfl rfl (Nat.le_of_ble_eq_true rfl) (by dsimp only [gRm]; omega) (by dsimp only [gRm]; omega) dX6_doRing_96 ?_
      refine gI_aload_n hB 1 dX6_doRing_99 rfl ?_
      refine gI_aload_n hB 3 dX6_doRing_100 rfl ?_
      refine gI_callV (n9 := 3) (As := [.ref (cEl Λ (4 + t) i), .ref (cEl Λ 0 t), .ref y]) (rest := []) hB (k_follow X.2.1 h c Λ (mHearA u t) T W z hC oA y (u.2 4) B hy hny rfl hB6 hBl t i ht hi5 hd h0 et) (gCW.of ggX6_doRing_X6_follow rfl ⟨by decide, by decide, by decide +kernel⟩ ⟨Nat.le_of_ble_eq_true rfl, Nat.le_of_ble_eq_true rfl⟩) (by decide +kernel) (by decide +kernel) (by decide +kernel) (by decide +kernel) hC.1 (C := RX6) (T := TX6) (N := 9) rfl rfl rfl (Nat.le_of_ble_eq_true rfl) (by dsimp only [gRm]; omega) (by dsimp only [gRm]; omega) dX6_doRing_101 (fun v9 h k9 n9 hp => ?_) (fun E9 h1 k1 n1 hp => by obtain ⟨Λ9, W9, z9, e9, -⟩ := hp; cases e9)
      obtain ⟨Λ2, W2, z2, e9, hC2, o9, hy, hny2, hsm2, hF2, hlB, hQ0, hQk, hQn⟩ := hp
      cases e9
      have eB : (mHearB u t T) = mFollow (mHearA u t) (9 * (8 * t + i)) t T := by unfold mHearB; rw [if_neg hS, eS, mCl (by omega)]
      exact j104 h Λ2 W2 z2 _ _ (by rw [eB]; exact hC2) (by rw [eB]; exact o9) hy hny2 hsm2 (hF.trans hF2) hlB hQ0 (by omega) (by omega)
  · skip
    refine gI_aload_n hB 1 dX6_doRing_20 rfl ?_
    refine gI_dup hB dX6_doRing_21 rfl ?_
    refine gI_get (v := .int (u.1 9)) hB 7 hC.1 (C := RX6) (T := TX6) (N := 9) rfl (by decide +kernel) (by decide) (by decide +kernel) (fun _ h9 => h9) rfl dX6_doRing_22 ?_
    refine gI_iconst (v := nI 1) hB dX6_doRing_25 (by decide) ?_
    refine gI_iadd hB dX6_doRing_26 ?_
    refine gC_put hB 7 tyX6 tyX6_ok nmX6 hC.1 (C := RX6) (T := TX6) (N := 9) rfl (by decide +kernel) (by decide) (by decide +kernel) (fun _ h9 => h9) rfl rfl rfl (Nat.le_of_ble_eq_true rfl) dX6_doRing_27 (fun h hN hK => ?_)
    have hy := hK _ _ hy (gat_ne hy hC.1 rfl)
    have hF := hF.st hC.1 rfl hK
    have hC : cRep X.2.1 h c Λ (sg u 9 ((u.1 9) + (nI 1))) T W z := hC.putMain (v := (sg u 9 ((u.1 9) + (nI 1)))) hK hN rfl rfl rfl
    refine gI_iconst (v := nI 2) hB dX6_doRing_30 (by decide) ?_
    refine gI_iret hB hE dX6_doRing_31 ?_
    have es : mHear u t T = (sg u 9 (u.1 9 + nI 1), nI 2) := if_pos c17_1
    exact ⟨Λ, W, z, by rw [es], by rw [es]; exact hC, by rw [es]; exact o.tab rfl rfl rfl rfl (fun _ _ ot => ot) rfl rfl, hy, hny, by rw [eΛ]; exact cSame.rf, hF, hBl, by rw [eΛ]; exact Nat.le_refl _, Nat.zero_le _, Nat.zero_le _⟩

