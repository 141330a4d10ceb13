theorem hd0_row {u : MS} {t : Nat} : rFS (mRow ((mHd0 u (nI t)).2 4) 0) (wOf ((mHd0 u (nI t)).2 4) 5 ((mHd0 u (nI t)).2 4 4)) = [.int (u.1 1), .int (nI t), .int (-1), .int (nI 0), .int (nI 0), .long (nI t).toInt64] := by
  have e4 : (mHd0 u (nI t)).2 4 4 = nI 0 := rfl
  have eo : wOf ((mHd0 u (nI t)).2 4) 5 ((mHd0 u (nI t)).2 4 4) = (nI t).toInt64 := by
    unfold wOf
    rw [e4, mCl (by omega)]
    rfl
  rw [eo]
  rfl
/-- the visitor's ring is no list's -/
theorem cRep.visNe {G : gG} {h : gH} {c : Nat → Nat} {Λ : CL} {u : MS} {T W z : Nat} (hC : cRep G h c Λ u T W z) : ∀ k l, k < 4 + T → l < cLen Λ k → cEl Λ k l ≠ c 3 := fun k l hk hl => by
  obtain ⟨o1, ⟨f1, f2, ff, fw, f3⟩, o3, o4, ⟨l1, l2, l3, l4, l5, l6⟩, o6, o7, o8, o9, o10, o11, o12, o13⟩ := hC
  by_cases e0 : k = 0
  · subst e0
    exact gat_ne (o6 l (by omega)) f3 rfl
  · by_cases e1 : k = 1
    · subst e1
      exact o12 l (by omega)
    · by_cases e2 : k = 2
      · subst e2
        exact o13 l hl
      · by_cases e3 : k = 3
        · subst e3
          obtain ⟨f, w, x, -⟩ := o10 l hl
          exact gat_ne x f3 rfl
        · obtain ⟨t, rfl⟩ : ∃ t, k = 4 + t := ⟨k - 4, by omega⟩
          exact gat_ne (o7 t l (by omega) hl) f3 rfl
theorem mTake_hand {x : MS} : ∀ i, i < 14 → (mTake x).2 4 (0 + i) = x.2 2 (14 * 0 + i) := fun i hi => by
  show va_cpy (x.2 2) (x.2 4) 0 0 14 (0 + i) = _
  rw [pk_cpy_in (by omega) (by omega), show 0 + (0 + i - 0) = 14 * 0 + i by omega]
theorem mGrow1_keep {v : MS} {t q : Nat} (hq : q < 100) (e2 : v.2 0 (7 * t + 2) = nI q) (e1 : v.2 0 (7 * t + 1) = nI q) : mGrow1 v t = v := by
  have e : upd (v.2 0) (7 * t + 2) (if v.2 0 (7 * t + 2) + nI 1 < v.2 0 (7 * t + 1) then v.2 0 (7 * t + 2) + nI 1 else v.2 0 (7 * t + 1)) = v.2 0 := by
    funext i
    by_cases hi : i = 7 * t + 2
    · rw [hi, pk_us, e2, e1, show nI q + nI 1 = nI (q + 1) from nI_1 q, if_neg (fun z9 => absurd ((nI_ltI (by omega) (by omega)).mp z9) (by omega))]
    · rw [pk_un hi]
  unfold mGrow1 sa
  rw [e]
  refine Prod.ext rfl ?_
  funext j
  by_cases hj : j = 0
  · rw [hj]
    show va_up v.2 0 (v.2 0) 0 = v.2 0
    exact va_up_self _ _ _
  · exact va_up_ne _ _ hj
theorem mGrow1_inc {v : MS} {t q g : Nat} (hq : q < g) (hg : g < 100) (e2 : v.2 0 (7 * t + 2) = nI q) (e1 : v.2 0 (7 * t + 1) = nI g) : mGrow1 v t = sa v 0 (upd (v.2 0) (7 * t + 2) (nI (q + 1))) := by
  have e : (if v.2 0 (7 * t + 2) + nI 1 < v.2 0 (7 * t + 1) then v.2 0 (7 * t + 2) + nI 1 else v.2 0 (7 * t + 1)) = nI (q + 1) := by
    rw [e2, e1, show nI q + nI 1 = nI (q + 1) from nI_1 q]
    by_cases c : q + 1 < g
    · rw [if_pos ((nI_ltI (by omega) (by omega)).mpr c)]
    · rw [if_neg (fun z9 => c ((nI_ltI (by omega) (by omega)).mp z9)), show g = q + 1 by omega]
  unfold mGrow1
  rw [e]
theorem mGrowL_t : ∀ r t v, (mGrowL r t v).1 0 = v.1 0
  | 0, _, _ => rfl
  | r + 1, t, v => by
    unfold mGrowL
    rw [mGrowL_t r (t + 1)]
    rfl
theorem mDrainL_t : ∀ f v, (mDrainL f v).1 0 = v.1 0
  | 0, _ => rfl
  | f + 1, v => by
    unfold mDrainL
    split
    · rw [mDrainL_t f, mHear_t]
      rfl
    · rfl
theorem mTick_t (v : MS) : (mTick v).1 0 = v.1 0 := by
  unfold mTick
  rw [mDrainL_t]
  unfold mTick2
  split
  · rw [mGrowL_t]
    rfl
  · rfl
theorem mPassL_t : ∀ r v, (mPassL r v).1 0 = v.1 0
  | 0, _ => rfl
  | r + 1, v => by
    unfold mPassL
    rw [mPassL_t r, mTick_t]

set_option maxRecDepth 100000 in
set_option maxHeartbeats 4000000 in
theorem p_ring (G : gG) (h_0 : gH) (c : Nat → Nat) (Λ : CL) (u : MS) (T W z : Nat) (hC : cRep G h_0 c Λ u T W z) (o : mOk u T W z) (p : Int32) : gMet yX6_ring wsX6_ring (gRm 10 4100 26100) G h_0 [.ref (c 0), .int p] (kPo G h_0 c (cPhi Λ) (mRing u p) "java/lang/IndexOutOfBoundsException" "java/lang/IndexOutOfBoundsException" 1 6) := by
  refine gMet_of (maxL := 3) (ret := (some .int)) (by decide) rfl (Nat.le_of_ble_eq_true rfl) ?_
  intro X hG hnL hB hE
  subst hG
  suffices go : ∀ h : gH, h = h_0 → gW X h 0 0 0 [(0, .ref (c 0)), (1, .int p)] [] from go h_0 rfl
  intro h eh
  rw [← eh] at hC
  have hT := o.2.1
  have hW60 := o.2.2.2.1
  have hz200 := o.2.2.2.2.2.1
  have ez := o.2.2.2.2.1
  have eW := o.2.2.1
  have eT := o.1
  have hF : cFr h_0 h := by rw [eh]; exact cFr.rf
  by_cases hp9 : mTen u p
  · skip
    obtain ⟨t, ht, et⟩ := mTen_of o.W hp9
    subst et
    obtain ⟨mdt, gt, hlt, -⟩ := hC.2.2.2.1 (4 + t) (by omega)
    obtain ⟨hm8, emm⟩ := hC.many o ht
    obtain ⟨fv, wv, hv⟩ := hC.2.1.2.2
    refine gI_aload_n hB 0 dX6_ring_0 rfl ?_
    refine gI_iload_n hB 1 dX6_ring_1 rfl ?_
    refine gI_pureV (n9 := 1) (As := [.int (nI t)]) (rest := []) hB (k_tenantAt X.2.1 h c Λ u T W z hC o t ht) (gCW.of ggX6_ring_X6_tenantAt rfl ⟨by decide, by decide, by decide +kernel⟩ ⟨Nat.le_of_ble_eq_true rfl, Nat.le_of_ble_eq_true rfl⟩) (by decide +kernel) (by decide +kernel) (by decide +kernel) (by decide +kernel) hC.1 (C := RX6) (T := TX6) (N := 9) rfl rfl rfl (Nat.le_of_ble_eq_true rfl) (by dsimp only [gRm]; omega) (by dsimp only [gRm]; omega) dX6_ring_2 ?_
    refine gI_astore_n hB ([(2, .ref (cEl Λ 0 t)), (0, .ref (c 0)), (1, .int (nI t))]) hnL dX6_ring_5 (by decide) rfl ?_
    refine gI_aload_n hB 1 dX6_ring_6 rfl ?_
    refine gI_get (v := .ref (c 3)) hB 3 hC.1 (C := RX6) (T := TX6) (N := 9) rfl (by decide +kernel) (by decide) (by decide +kernel) (fun _ h9 => h9) rfl dX6_ring_7 ?_
    refine gI_aload_n hB 1 dX6_ring_10 rfl ?_
    refine gI_get (v := .int (u.1 1)) hB 5 hC.1 (C := RX6) (T := TX6) (N := 9) rfl (by decide +kernel) (by decide) (by decide +kernel) (fun _ h9 => h9) rfl dX6_ring_11 ?_
    refine gI_aload_n hB 0 dX6_ring_14 rfl ?_
    refine gI_get (v := .int (nI t)) hB 0 (hC.2.2.2.2.2.1 t ht) (C := RX4) (T := TX4) (N := 8) rfl (by decide +kernel) (by decide) (by decide +kernel) (fun _ h9 => h9) rfl dX6_ring_15 ?_
    refine gI_callV (n9 := 2) (As := [.int (u.1 1), .int (nI t)]) (rest := []) hB (k_startAt X.2.1 h (c 3) fv wv hv (u.1 1) (nI t)) (gCW.of ggX6_ring_X2_startAt rfl ⟨by decide, by decide, by decide +kernel⟩ ⟨Nat.le_of_ble_eq_true rfl, Nat.le_of_ble_eq_true rfl⟩) (by decide +kernel) (by decide +kernel) (by decide +kernel) (by decide +kernel) hv (C := RX2) (T := TX2) (N := 6) rfl rfl rfl (Nat.le_of_ble_eq_true rfl) (by dsimp only [gRm]; omega) (by dsimp only [gRm]; omega) dX6_ring_18 (fun v9 h k9 n9 hp => ?_) (fun E9 h1 k1 n1 hp => by cases hp.1)
    obtain ⟨e9, N_v, hK, rfl, rfl⟩ := hp
    cases e9
    have hF := hF.st hv rfl hK
    have hv : gat h (c 3) (.inr (5, rFS (mRow ((mHd0 u (nI t)).2 4) 0) (wOf ((mHd0 u (nI t)).2 4) 5 ((mHd0 u (nI t)).2 4 4)))) := by rw [hd0_row]; exact N_v
    have hC := hC.vis hK hv
    have hC : cRep X.2.1 h c Λ (mHd0 u (nI t)) T W z := hC.cg rfl rfl rfl rfl rfl rfl rfl (fun _ _ _ _ => rfl) (fun _ _ => rfl) rfl (fun _ _ _ _ => rfl) rfl o.ring4
    obtain ⟨oH, hdR, h0R⟩ := mHd0_ok o ht
    refine gI_aload_n hB 1 dX6_ring_21 rfl ?_
    refine gI_aload_n hB 1 dX6_ring_22 rfl ?_
    refine gI_get (v := .ref (c 3)) hB 3 hC.1 (C := RX6) (T := TX6) (N := 9) rfl (by decide +kernel) (by decide) (by decide +kernel) (fun _ h9 => h9) rfl dX6_ring_23 ?_
    refine gI_callV (n9 := 1) (As := [.ref (c 3)]) (rest := []) hB (k_doRing X.2.1 h c Λ (mHd0 u (nI t)) T W z hC oH (c 3) ((mHd0 u (nI t)).2 4) 61 hv hC.visNe rfl (by omega) hC.2.2.2.2.1.2.2.2.2.1 t ht hdR h0R rfl) (gCW.of ggX6_ring_X6_doRing rfl ⟨by decide, by decide, by decide +kernel⟩ ⟨Nat.le_of_ble_eq_true rfl, Nat.le_of_ble_eq_true rfl⟩) (by decide +kernel) (by decide +kernel) (by decide +kernel) (by decide +kernel) hC.1 (C := RX6) (T := TX6) (N := 9) rfl rfl rfl (Nat.le_of_ble_eq_true rfl) (by dsimp only [gRm]; omega) (by dsimp only [gRm]; omega) dX6_ring_26 (fun v9 h k9 n9 hp => ?_) (fun E9 h1 k1 n1 hp => by obtain ⟨Λ9, W9, z9, e9, -⟩ := hp; cases e9)
    obtain ⟨Λ2, W2, z2, e9, hC2, o2, hy2, hny2, hsm2, hF2, hlB2, hQ0, hQk, hQn⟩ := hp
    cases e9
    refine gI_iret hB hE dX6_ring_29 ?_
    have es : mRing u (nI t) = mHear (mHd0 u (nI t)) t T := by unfold mRing; rw [if_pos hp9, mCl (by omega), eT, mCl (by omega)]
    rw [es]
    exact ⟨cPhi Λ2, ⟨Λ2, T, W2, z2, hC2, o2, rfl⟩, hF.trans hF2, hQ0, by omega, by omega, Or.inl ⟨rfl, mHear_t _ _ _⟩⟩
  · skip
    refine gI_aload_n hB 0 dX6_ring_0 rfl ?_
    refine gI_iload_n hB 1 dX6_ring_1 rfl ?_
    refine gI_callV (n9 := 1) (As := [.int p]) (rest := []) hB (k_tenantAtNo X.2.1 h c Λ u T W z hC o p (by unfold mTen at hp9; rw [eT] at hp9; exact hp9)) (gCW.of ggX6_ring_X6_tenantAt rfl ⟨by decide, by decide, by decide +kernel⟩ ⟨Nat.le_of_ble_eq_true rfl, Nat.le_of_ble_eq_true rfl⟩) (by decide +kernel) (by decide +kernel) (by decide +kernel) (by decide +kernel) hC.1 (C := RX6) (T := TX6) (N := 9) rfl rfl rfl (Nat.le_of_ble_eq_true rfl) (by dsimp only [gRm]; omega) (by dsimp only [gRm]; omega) dX6_ring_2 (fun v9 h9 k9 n9 hp => by cases hp.1) (fun E9 h9 k9 n9 hp => ?_)
    obtain ⟨e9, rfl, rfl, rfl⟩ := hp
    cases e9
    exact gI_out hB hE (eh ▸ kPo.err1 hC o (by unfold mRing; rw [if_neg hp9]) (by omega) (by omega))

set_option maxRecDepth 100000 in
set_option maxHeartbeats 4000000 in
theorem k_takeDue (G : gG) (h_0 : gH) (c : Nat → Nat) (Λ : CL) (u : MS) (T W z : Nat) (hC : cRep G h_0 c Λ u T W z) (o : mOk u T W z) (x : Int32) : gMet yX5_takeDue wsX5_takeDue (gRm 4 0 0) G h_0 [.ref (c 1), .int x] ((fun r h9 k n => k = 0 ∧ n = 0 ∧ ((r = .inl (some .null) ∧ h9 = h_0 ∧ ¬ (W ≠ 0 ∧ u.2 2 0 = x)) ∨ ∃ Λ9 V, W = V + 1 ∧ u.2 2 0 = x ∧ r = .inl (some (.ref (cEl Λ 1 0))) ∧ cRep G h9 c Λ9 (mTake u) T V z ∧ gat h9 (cEl Λ 1 0) (.inr (5, rFS (mRow ((mTake u).2 4) 0) (wOf ((mTake u).2 4) 5 (((mTake u).2 4) 4)))) ∧ (∀ k l, k < 4 + T → l < cLen Λ9 k → cEl Λ9 k l ≠ (cEl Λ 1 0)) ∧ (cEl Λ 1 0) ≠ c 3 ∧ cSame Λ Λ9 ∧ cFr h_0 h9 ∧ cLen Λ9 1 + cLen Λ9 2 + 1 = cLen Λ 1 + cLen Λ 2 ∧ cPhi Λ9 + 1 = cPhi Λ))) := by
  refine gMet_of (maxL := 2) (ret := (some (.object "DoorbellChoir$Ring"))) (by decide) rfl (Nat.le_of_ble_eq_true rfl) ?_
  intro X hG hnL hB hE
  subst hG
  suffices go : ∀ h : gH, h = h_0 → gW X h 0 0 0 [(0, .ref (c 1)), (1, .int x)] [] from go h_0 rfl
  intro h eh
  rw [← eh] at hC
  have hT := o.2.1
  have hW60 := o.2.2.2.1
  have hz200 := o.2.2.2.2.2.1
  have ez := o.2.2.2.2.1
  have eW := o.2.2.1
  have eT := o.1
  have hF : cFr h_0 h := by rw [eh]; exact cFr.rf
  obtain ⟨md1, g1, hl1, -⟩ := hC.2.2.2.1 1 (by omega)
  have hL1 : cLen Λ 1 = W := hC.2.2.2.2.1.2.1
  refine gI_aload_n hB 0 dX5_takeDue_0 rfl ?_
  refine gI_get (v := .ref (cLa Λ 1)) hB 0 hC.2.1.1 (C := RX5) (T := TX5) (N := 2) rfl (by decide +kernel) (by decide) (by decide +kernel) (fun _ h9 => h9) rfl dX5_takeDue_1 ?_
  refine gI_pureV (n9 := 0) (As := []) (rest := []) hB (l_isEmpty X.2.1 h Λ 1 (hC.2.2.2.1 1 (by omega))) (gCW.of ggX5_takeDue_Jx4a65c_isEmpty_aae02 rfl ⟨by decide, by decide, by decide +kernel⟩ ⟨Nat.le_of_ble_eq_true rfl, Nat.le_of_ble_eq_true rfl⟩) (by decide +kernel) (by decide +kernel) (by decide +kernel) (by decide +kernel) hl1 (C := RJx4a65c) (T := TJx4a65c) (N := 3) rfl rfl rfl (Nat.le_of_ble_eq_true rfl) (by first | exact Nat.le_of_ble_eq_true rfl | (dsimp only [gRm]; omega)) (by first | exact Nat.le_of_ble_eq_true rfl | (dsimp only [gRm]; omega)) dX5_takeDue_4 ?_
  refine gI_if_ne hB 28 dX5_takeDue_7 (by decide) (fun c7_1 => ?_) (fun c7_1 => ?_)
  · skip
    have c7_1 := gbi_n0 c7_1
    refine gI_null hB dX5_takeDue_28 ?_
    refine gI_aret hB hE (Or.inl ⟨_, rfl⟩) (Or.inl rfl) dX5_takeDue_29 ?_
    exact ⟨rfl, rfl, Or.inl ⟨rfl, eh, fun z9 => z9.1 (by omega)⟩⟩
  · skip
    have c7_1 := gbi_0.mp c7_1
    obtain ⟨V, eV⟩ : ∃ V, W = V + 1 := ⟨W - 1, by omega⟩
    refine gI_aload_n hB 0 dX5_takeDue_10 rfl ?_
    refine gI_get (v := .ref (cLa Λ 1)) hB 0 hC.2.1.1 (C := RX5) (T := TX5) (N := 2) rfl (by decide +kernel) (by decide) (by decide +kernel) (fun _ h9 => h9) rfl dX5_takeDue_11 ?_
    refine gI_iconst (v := nI 0) hB dX5_takeDue_14 (by decide) ?_
    refine gI_pureV (n9 := 1) (As := [.int (nI 0)]) (rest := []) hB (l_get X.2.1 h Λ 1 (hC.2.2.2.1 1 (by omega)) 0 (by rw [hC.2.2.2.2.1.2.1]; omega)) (gCW.of ggX5_takeDue_Jx4a65c_get_915e3 rfl ⟨by decide, by decide, by decide +kernel⟩ ⟨Nat.le_of_ble_eq_true rfl, Nat.le_of_ble_eq_true rfl⟩) (by decide +kernel) (by decide +kernel) (by decide +kernel) (by decide +kernel) hl1 (C := RJx4a65c) (T := TJx4a65c) (N := 3) rfl rfl rfl (Nat.le_of_ble_eq_true rfl) (by first | exact Nat.le_of_ble_eq_true rfl | (dsimp only [gRm]; omega)) (by first | exact Nat.le_of_ble_eq_true rfl | (dsimp only [gRm]; omega)) dX5_takeDue_15 ?_
    refine gI_cast hB (hC.2.2.2.2.2.2.2.1 0 (by omega)) (C := RX2) (T := TX2) (N := 6) rfl (by decide +kernel) dX5_takeDue_18 ?_
    refine gI_get (v := .int (u.2 2 (14 * 0 + 0))) hB 0 (hC.2.2.2.2.2.2.2.1 0 (by omega)) (C := RX2) (T := TX2) (N := 6) rfl (by decide +kernel) (by decide) (by decide +kernel) (fun _ h9 => h9) rfl dX5_takeDue_21 ?_
    refine gI_topi hB (y := u.2 2 0) rfl ?_
    refine gI_iload_n hB 1 dX5_takeDue_24 rfl ?_
    refine gI_icmp_eq hB 30 dX5_takeDue_25 (by decide) (fun c25_2 => ?_) (fun c25_2 => ?_)
    · skip
      refine gI_aload_n hB 0 dX5_takeDue_30 rfl ?_
      refine gI_get (v := .ref (cLa Λ 1)) hB 0 hC.2.1.1 (C := RX5) (T := TX5) (N := 2) rfl (by decide +kernel) (by decide) (by decide +kernel) (fun _ h9 => h9) rfl dX5_takeDue_31 ?_
      refine gI_iconst (v := nI 0) hB dX5_takeDue_34 (by decide) ?_
      obtain ⟨md9, g9, hl9, hr9, hn9, hc9, hb9, he9⟩ := hC.2.2.2.1 1 (by omega)
      have hA9 : gat h (cAa Λ 1) (.inl (gO X.2.1, cCap Λ 1, .inr (.inr (.inr (.inr g9))))) := by rcases hr9 with ⟨h0, -⟩ | ⟨-, hA⟩; exact absurd h0 (by omega); exact hA
      refine gI_callV (n9 := 1) (As := [.int (nI 0)]) (rest := []) hB (j_remove X.2.1 h (cLa Λ 1) (cAa Λ 1) (cLen Λ 1) (cCap Λ 1) 0 md9 g9 hl9 hA9 (hC.hel (by omega) he9) hn9 (by omega) (by omega) _ (he9 0 (by omega))) (gCW.of ggX5_takeDue_Jx4a65c_remove_915e3 rfl ⟨by decide, by decide, by decide +kernel⟩ ⟨Nat.le_of_ble_eq_true rfl, Nat.le_of_ble_eq_true rfl⟩) (by decide +kernel) (by decide +kernel) (by decide +kernel) (by decide +kernel) hl9 (C := RJx4a65c) (T := TJx4a65c) (N := 3) rfl rfl rfl (Nat.le_of_ble_eq_true rfl) (by first | exact Nat.le_of_ble_eq_true rfl | (dsimp only [gRm]; omega)) (by first | exact Nat.le_of_ble_eq_true rfl | (dsimp only [gRm]; omega)) dX5_takeDue_35 (fun v9 h k9 n9 hp => ?_) (fun E9 h1 k1 n1 hp => by obtain ⟨g9, e9, -⟩ := hp; cases e9)
      obtain ⟨g8, e9, hl8, hA8, ha1, ha2, ha3, rfl, rfl⟩ := hp
      cases e9
      have hf9 : gLf _ h (cLa Λ 1) (cAa Λ 1) (cLen Λ 1) (cCap Λ 1) := fun q9 e9 hq9 hw9 => ha3 q9 e9 hq9 ⟨hw9.1, fun z9 => absurd (hw9.2 z9) (by omega)⟩
      have hL9 := cLst.del he9 hl8 hA8 (by omega) ha1 ha2 hn9 hc9 hb9
      have hk := gLf.l2 (hC.2.2.2.1 1 (by omega)) hf9
      have hF := hF.lf (hC.2.2.2.1 1 (by omega)) hf9
      subst eV
      have hC1 := hC.rngDel o.ring4 (by rw [o.2.2.1, mCl (by omega)]; rfl) hf9 hL9
      obtain ⟨q9, q1, q2⟩ := o.ring4 0 (by omega)
      have He := hk _ _ (hC.2.2.2.2.2.2.2.1 0 (by omega)) (tgN_ne rfl) (tgN_ne rfl)
      rw [← rng_cg (R := u.2 2) (R' := (mTake u).2 4) (K := 14 * 0) (K' := 0) mTake_hand q1 q2] at He
      refine gI_cast hB He (C := RX2) (T := TX2) (N := 6) rfl (by decide +kernel) dX5_takeDue_38 ?_
      refine gI_aret hB hE (Or.inl ⟨_, rfl⟩) (Or.inr ⟨_, rfl⟩) dX5_takeDue_41 ?_
      exact ⟨rfl, rfl, Or.inr ⟨_, V, rfl, c25_2, rfl, hC1, He, hC.2.2.2.2.2.2.2.2.2.2.1.gone (show 1 < 4 + T by omega) (show 0 < cLen Λ 1 by omega), hC.2.2.2.2.2.2.2.2.2.2.2.1 0 (by omega), cSame.up (Or.inl rfl), hF, by rw [cUp_len, cUp_len_ne (show 2 ≠ 1 by omega)]; omega, cPhi_d1 (by omega)⟩⟩
    · skip
      refine gI_null hB dX5_takeDue_28 ?_
      refine gI_aret hB hE (Or.inl ⟨_, rfl⟩) (Or.inl rfl) dX5_takeDue_29 ?_
      exact ⟨rfl, rfl, Or.inl ⟨rfl, eh, fun z9 => c25_2 z9.2⟩⟩

set_option maxRecDepth 100000 in
set_option maxHeartbeats 4000000 in
theorem k_giveBack (G : gG) (h_0 : gH) (c : Nat → Nat) (Λ : CL) (u : MS) (T W z : Nat) (hC : cRep G h_0 c Λ u T W z) (o : mOk u T W z) (y : Nat) (f : Nat → Int32) (w9 : Int64) (hy : gat h_0 y (.inr (5, rFS f w9))) (hny : ∀ k l, k < 4 + T → l < cLen Λ k → cEl Λ k l ≠ y) (hec : y ≠ c 3) (hs : cLen Λ 1 + cLen Λ 2 ≤ 60) : gMet yX5_giveBack wsX5_giveBack (gRm 7 1 675) G h_0 [.ref (c 1), .ref y] ((fun r h9 k n => ∃ Λ9, r = .inl none ∧ cRep G h9 c Λ9 u T W z ∧ cSame Λ Λ9 ∧ cFr h_0 h9 ∧ cPhi Λ + 1 ≤ cPhi Λ9 ∧ k + 1 ≤ cPhi Λ9 - cPhi Λ ∧ n + 7 ≤ 7 * (cPhi Λ9 - cPhi Λ))) := by
  refine gMet_of (maxL := 2) (ret := none) (by decide) rfl (Nat.le_of_ble_eq_true rfl) ?_
  intro X hG hnL hB hE
  subst hG
  suffices go : ∀ h : gH, h = h_0 → gW X h 0 0 0 [(0, .ref (c 1)), (1, .ref y)] [] from go h_0 rfl
  intro h eh
  rw [← eh] at hC hy
  have hT := o.2.1
  have hW60 := o.2.2.2.1
  have hz200 := o.2.2.2.2.2.1
  have ez := o.2.2.2.2.1
  have eW := o.2.2.1
  have eT := o.1
  have hF : cFr h_0 h := by rw [eh]; exact cFr.rf
  obtain ⟨md2, g2, hl2, -⟩ := hC.2.2.2.1 2 (by omega)
  refine gI_aload_n hB 0 dX5_giveBack_0 rfl ?_
  refine gI_get (v := .ref (cLa Λ 2)) hB 1 hC.2.1.1 (C := RX5) (T := TX5) (N := 2) rfl (by decide +kernel) (by decide) (by decide +kernel) (fun _ h9 => h9) rfl dX5_giveBack_1 ?_
  refine gI_aload_n hB 1 dX5_giveBack_4 rfl ?_
  obtain ⟨md9, g9, hl9, hr9, hn9, hc9, hb9, he9⟩ := hC.2.2.2.1 2 (by omega)
  have hgc := gCap_675 hc9
  refine gI_callV (n9 := 1) (As := [.ref y]) (rest := []) hB (j_add1 X.2.1 h (cLa Λ 2) (cAa Λ 2) (cLen Λ 2) (cCap Λ 2) y md9 g9 hl9 hr9 (hC.hel (by omega) he9) ⟨5, _, _, hy, rfl, by decide +kernel⟩ hn9 (by omega) (by omega)) (gCW.of ggX5_giveBack_Jx4a65c_add_9ea2d rfl ⟨by decide, by decide, by decide +kernel⟩ ⟨Nat.le_of_ble_eq_true rfl, Nat.le_of_ble_eq_true rfl⟩) (by decide +kernel) (by decide +kernel) (by decide +kernel) (by decide +kernel) hl9 (C := RJx4a65c) (T := TJx4a65c) (N := 3) rfl rfl rfl (Nat.le_of_ble_eq_true rfl) (by first | exact Nat.le_of_ble_eq_true rfl | (dsimp only [gRm]; omega)) (by first | exact Nat.le_of_ble_eq_true rfl | (dsimp only [gRm]; omega)) dX5_giveBack_5 (fun v9 h k9 n9 hp => ?_) (fun E9 h1 k1 n1 hp => by obtain ⟨a9, c9, g9, e9, -⟩ := hp; cases e9)
  obtain ⟨e9, A9, cap9, hf9, hL9, hA9, hc1, hk1, hs1, hk2, hs2, hs3⟩ := hC.added (by omega) hr9 hn9 hc9 he9 (by omega) (by omega) hp
  cases e9
  have hk := gLf.l2 (hC.2.2.2.1 2 (by omega)) hf9
  have hF := hF.lf (hC.2.2.2.1 2 (by omega)) hf9
  have hy := hk _ _ hy (tgN_ne rfl) (tgN_ne rfl)
  have hC2 := hC.sparAdd hf9 hL9 hA9 hny hec hs hy
  have hP2 := cPhi_2 (Λ := Λ) (A := A9) (cap := cap9) (f := eIns (cEl Λ 2) (cLen Λ 2) y)
  refine gI_pop hB dX5_giveBack_8 rfl ?_
  refine gI_vret hB hE dX5_giveBack_9 ?_
  exact ⟨_, rfl, hC2, cSame.up (Or.inr (Or.inl rfl)), hF, by omega, by omega, by omega⟩

set_option maxRecDepth 100000 in
set_option maxHeartbeats 4000000 in
theorem k_hourBegins (G : gG) (h : gH) (c : Nat → Nat) (Λ : CL) (u : MS) (T W z : Nat) (hC : cRep G h c Λ u T W z) (o : mOk u T W z) : gMet yX6_hourBegins wsX6_hourBegins (gRm 1 0 0) G h [.ref (c 0)] (gRet h (some (.int (gbi (u.1 1 - u.1 1 / u.1 2 * u.1 2 = 0))))) := by
  refine gMet_of (maxL := 1) (ret := (some .boolean)) (by decide) rfl (Nat.le_of_ble_eq_true rfl) ?_
  intro X hG hnL hB hE
  subst hG
  change gW X h 0 0 0 [(0, .ref (c 0))] []
  have hT := o.2.1
  have hW60 := o.2.2.2.1
  have hz200 := o.2.2.2.2.2.1
  have ez := o.2.2.2.2.1
  have eW := o.2.2.1
  have eT := o.1
  obtain ⟨q9, hq1, hq2, hq3⟩ := o.2.2.2.2.2.2.1
  refine gI_aload_n hB 0 dX6_hourBegins_0 rfl ?_
  refine gI_get (v := .int (u.1 2)) hB 4 hC.1 (C := RX6) (T := TX6) (N := 9) rfl (by decide +kernel) (by decide) (by decide +kernel) (fun _ h9 => h9) rfl dX6_hourBegins_1 ?_
  refine gI_if_le hB 23 dX6_hourBegins_4 (by decide) (fun z => absurd z (by rw [hq3]; exact nI_nle (by omega) (by omega))) (fun _ => ?_)
  refine gI_aload_n hB 0 dX6_hourBegins_7 rfl ?_
  refine gI_get (v := .int (u.1 1)) hB 5 hC.1 (C := RX6) (T := TX6) (N := 9) rfl (by decide +kernel) (by decide) (by decide +kernel) (fun _ h9 => h9) rfl dX6_hourBegins_8 ?_
  refine gI_aload_n hB 0 dX6_hourBegins_11 rfl ?_
  refine gI_get (v := .int (u.1 2)) hB 4 hC.1 (C := RX6) (T := TX6) (N := 9) rfl (by decide +kernel) (by decide) (by decide +kernel) (fun _ h9 => h9) rfl dX6_hourBegins_12 ?_
  refine gI_irem hB dX6_hourBegins_15 o.hour ?_
  refine gI_if_ne hB 23 dX6_hourBegins_16 (by decide) (fun c16_1 => ?_) (fun c16_1 => ?_)
  · skip
    refine gI_iconst (v := nI 0) hB dX6_hourBegins_23 (by decide) ?_
    refine gI_zret hB hE (by decide) dX6_hourBegins_24 ?_
    exact ⟨by rw [gbi_f (c16_1)]; rfl, rfl, rfl, rfl⟩
  · skip
    refine gI_iconst (v := nI 1) hB dX6_hourBegins_19 (by decide) ?_
    refine gI_goto hB 24 dX6_hourBegins_20 (by decide) ?_
    refine gI_zret hB hE (by decide) dX6_hourBegins_24 ?_
    exact ⟨by rw [gbi_t (c16_1)]; rfl, rfl, rfl, rfl⟩

set_option maxRecDepth 100000 in
set_option maxHeartbeats 4000000 in
theorem k_grow (G : gG) (h_0 : gH) (c : Nat → Nat) (Λ : CL) (u : MS) (T W z : Nat) (hC : cRep G h_0 c Λ u T W z) (o : mOk u T W z) : gMet yX6_growPatience wsX6_growPatience (gRm 4 0 0) G h_0 [.ref (c 0)] ((fun r h9 k n => r = .inl none ∧ cRep G h9 c Λ (mGrowL T 0 u) T W z ∧ cFr h_0 h9 ∧ k = 0 ∧ n = 0)) := by
  refine gMet_of (maxL := 3) (ret := none) (by decide) rfl (Nat.le_of_ble_eq_true rfl) ?_
  intro X hG hnL hB hE
  subst hG
  suffices go : ∀ h : gH, h = h_0 → gW X h 0 0 0 [(0, .ref (c 0))] [] from go h_0 rfl
  intro h eh
  rw [← eh] at hC
  have hT := o.2.1
  have hW60 := o.2.2.2.1
  have hz200 := o.2.2.2.2.2.1
  have ez := o.2.2.2.2.1
  have eW := o.2.2.1
  have eT := o.1
  have hF : cFr h_0 h := by rw [eh]; exact cFr.rf
  refine gI_iconst (v := nI 0) hB dX6_growPatience_0 (by decide) ?_
  refine gI_istore_n hB ([(1, .int (nI 0)), (0, .ref (c 0))]) hnL dX6_growPatience_1 (by decide) rfl ?_
  have lp : ∀ (r_lp : Nat) (h : gH) (v : MS) (i : Nat), T + 1 ≤ i + r_lp → i ≤ T → cRep X.2.1 h c Λ v T W z → mOk v T W z → cFr h_0 h → mGrowL (T - i) i v = mGrowL T 0 u → gW X h 0 0 2 [(1, .int (nI i)), (0, .ref (c 0))] [] := by
    intro r_lp
    induction r_lp with
    | zero => intro h v i hfu hi hC oV hF ev; exact absurd hfu (by omega)
    | succ r_lp ih_lp =>
      intro h v i hfu hi hC oV hF ev
      obtain ⟨md0, g0, hl0, -⟩ := hC.2.2.2.1 0 (by omega)
      refine gI_iload_n hB 0 dX6_growPatience_2 rfl ?_
      refine gI_aload_n hB 1 dX6_growPatience_3 rfl ?_
      refine gI_get (v := .ref (cLa Λ 0)) hB 0 hC.1 (C := RX6) (T := TX6) (N := 9) rfl (by decide +kernel) (by decide) (by decide +kernel) (fun _ h9 => h9) rfl dX6_growPatience_4 ?_
      refine gI_pureV (n9 := 0) (As := []) (rest := [.int (nI i)]) hB (l_size X.2.1 h Λ 0 (hC.2.2.2.1 0 (by omega))) (gCW.of ggX6_growPatience_Jx4a65c_size_8abf5 rfl ⟨by decide, by decide, by decide +kernel⟩ ⟨Nat.le_of_ble_eq_true rfl, Nat.le_of_ble_eq_true rfl⟩) (by decide +kernel) (by decide +kernel) (by decide +kernel) (by decide +kernel) hl0 (C := RJx4a65c) (T := TJx4a65c) (N := 3) rfl rfl rfl (Nat.le_of_ble_eq_true rfl) (by first | exact Nat.le_of_ble_eq_true rfl | (dsimp only [gRm]; omega)) (by first | exact Nat.le_of_ble_eq_true rfl | (dsimp only [gRm]; omega)) dX6_growPatience_7 ?_
      refine gI_topi hB (y := nI T) (congrArg nI hC.2.2.2.2.1.1) ?_
      refine gI_icmp_ge hB 52 dX6_growPatience_10 (by decide) (fun c10_1 => ?_) (fun c10_1 => ?_)
      · skip
        have c10_1 := (nI_leI (by omega) (by omega)).mp c10_1
        refine gI_vret hB hE dX6_growPatience_52 ?_
        exact ⟨rfl, by rw [← ev, show T - i = 0 by omega]; exact hC, hF, rfl, rfl⟩
      · skip
        have c10_1 := mt (nI_leI (by omega) (by omega)).mpr c10_1
        obtain ⟨m9, -, -, ⟨q, hq, eq⟩, ⟨g, hg, eg⟩, le, -⟩ := oV.2.2.2.2.2.2.2.1 i (by omega)
        rw [eq, eg] at le
        have le := (nI_leI (by omega) (by omega)).mp le
        refine gI_aload_n hB 1 dX6_growPatience_13 rfl ?_
        refine gI_get (v := .ref (cLa Λ 0)) hB 0 hC.1 (C := RX6) (T := TX6) (N := 9) rfl (by decide +kernel) (by decide) (by decide +kernel) (fun _ h9 => h9) rfl dX6_growPatience_14 ?_
        refine gI_iload_n hB 0 dX6_growPatience_17 rfl ?_
        refine gI_pureV (n9 := 1) (As := [.int (nI i)]) (rest := []) hB (l_get X.2.1 h Λ 0 (hC.2.2.2.1 0 (by omega)) i (by rw [hC.2.2.2.2.1.1]; omega)) (gCW.of ggX6_growPatience_Jx4a65c_get_915e3 rfl ⟨by decide, by decide, by decide +kernel⟩ ⟨Nat.le_of_ble_eq_true rfl, Nat.le_of_ble_eq_true rfl⟩) (by decide +kernel) (by decide +kernel) (by decide +kernel) (by decide +kernel) hl0 (C := RJx4a65c) (T := TJx4a65c) (N := 3) rfl rfl rfl (Nat.le_of_ble_eq_true rfl) (by first | exact Nat.le_of_ble_eq_true rfl | (dsimp only [gRm]; omega)) (by first | exact Nat.le_of_ble_eq_true rfl | (dsimp only [gRm]; omega)) dX6_growPatience_18 ?_
        refine gI_cast hB (hC.2.2.2.2.2.1 i (by omega)) (C := RX4) (T := TX4) (N := 8) rfl (by decide +kernel) dX6_growPatience_21 ?_
        refine gI_astore_n hB ([(2, .ref (cEl Λ 0 i)), (1, .int (nI i)), (0, .ref (c 0))]) hnL dX6_growPatience_24 (by decide) rfl ?_
        refine gI_aload_n hB 0 dX6_growPatience_25 rfl ?_
        refine gI_get (v := .int (v.2 0 (7 * i + 2))) hB 4 (hC.2.2.2.2.2.1 i (by omega)) (C := RX4) (T := TX4) (N := 8) rfl (by decide +kernel) (by decide) (by decide +kernel) (fun _ h9 => h9) rfl dX6_growPatience_26 ?_
        refine gI_topi hB (y := nI q) eq ?_
        refine gI_aload_n hB 0 dX6_growPatience_29 rfl ?_
        refine gI_get (v := .int (v.2 0 (7 * i + 1))) hB 2 (hC.2.2.2.2.2.1 i (by omega)) (C := RX4) (T := TX4) (N := 8) rfl (by decide +kernel) (by decide) (by decide +kernel) (fun _ h9 => h9) rfl dX6_growPatience_30 ?_
        refine gI_topi hB (y := nI g) eg ?_
        refine gI_icmp_ge hB 46 dX6_growPatience_33 (by decide) (fun c33_2 => ?_) (fun c33_2 => ?_)
        · skip
          have c33_2 := (nI_leI (by omega) (by omega)).mp c33_2
          have eG := mGrow1_keep (v := v) (t := i) (q := q) (by omega) eq (eg.trans (congrArg nI (by omega)))
          have hC : cRep X.2.1 h c Λ (mGrow1 v i) T W z := by rw [eG]; exact hC
          have oV := mGrow1_ok (t := i) oV (by omega)
          have ev : mGrowL (T - (i + 1)) (i + 1) (mGrow1 v i) = mGrowL T 0 u := by rw [show T - i = (T - (i + 1)) + 1 by omega, mGrowL] at ev; exact ev
          refine gI_iinc hB 1 ([(1, .int (nI (i + 1))), (2, .ref (cEl Λ 0 i)), (0, .ref (c 0))]) hnL dX6_growPatience_46 rfl (nI_1 (i)) (by decide) rfl ?_
          refine gI_goto hB 2 dX6_growPatience_49 (by decide) ?_
          refine gI_loc [0, 2] rfl ?_
          exact ih_lp h (mGrow1 v i) (i + 1) (by omega) (by omega) hC oV hF ev
        · skip
          have c33_2 := mt (nI_leI (by omega) (by omega)).mpr c33_2
          refine gI_aload_n hB 0 dX6_growPatience_36 rfl ?_
          refine gI_dup hB dX6_growPatience_37 rfl ?_
          refine gI_get (v := .int (v.2 0 (7 * i + 2))) hB 4 (hC.2.2.2.2.2.1 i (by omega)) (C := RX4) (T := TX4) (N := 8) rfl (by decide +kernel) (by decide) (by decide +kernel) (fun _ h9 => h9) rfl dX6_growPatience_38 ?_
          refine gI_topi hB (y := nI q) eq ?_
          refine gI_iconst (v := nI 1) hB dX6_growPatience_41 (by decide) ?_
          refine gI_iaddN hB dX6_growPatience_42 ?_
          refine gC_put hB 4 tyX4 tyX4_ok nmX4 (hC.2.2.2.2.2.1 i (by omega)) (C := RX4) (T := TX4) (N := 8) rfl (by decide +kernel) (by decide) (by decide +kernel) (fun _ h9 => h9) rfl rfl rfl (Nat.le_of_ble_eq_true rfl) dX6_growPatience_43 (fun h hN hK => ?_)
          have hF := hF.st (hC.2.2.2.2.2.1 i (by omega)) rfl hK
          have hC : cRep X.2.1 h c Λ (sa v 0 (upd (v.2 0) (7 * i + 2) (nI (q + 1)))) T W z := hC.putTen (f := upd (v.2 0) (7 * i + 2) (nI (q + 1))) (show i < T by omega) hK (by rw [← tFS_upd (pos := 4) (by decide)]; exact hN) (fun t9 i9 h9 h8 => pk_un (by omega)) (pk_un (by omega))
          have eG := mGrow1_inc (v := v) (t := i) (q := q) (g := g) (by omega) (by omega) eq eg
          have hC : cRep X.2.1 h c Λ (mGrow1 v i) T W z := by rw [eG]; exact hC
          have oV := mGrow1_ok (t := i) oV (by omega)
          have ev : mGrowL (T - (i + 1)) (i + 1) (mGrow1 v i) = mGrowL T 0 u := by rw [show T - i = (T - (i + 1)) + 1 by omega, mGrowL] at ev; exact ev
          refine gI_iinc hB 1 ([(1, .int (nI (i + 1))), (2, .ref (cEl Λ 0 i)), (0, .ref (c 0))]) hnL dX6_growPatience_46 rfl (nI_1 (i)) (by decide) rfl ?_
          refine gI_goto hB 2 dX6_growPatience_49 (by decide) ?_
          refine gI_loc [0, 2] rfl ?_
          exact ih_lp h (mGrow1 v i) (i + 1) (by omega) (by omega) hC oV hF ev
  refine gI_loc [0, 1] rfl ?_
  exact lp (T + 1) h u 0 (by omega) (by omega) hC o hF rfl

