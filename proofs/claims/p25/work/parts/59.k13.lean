theorem tFS_upd {A : Nat → Int32} {t l : Nat} {x : Int32} {w pos : Nat} (h : (w = 2 ∧ pos = 4) ∨ (w = 4 ∧ pos = 5) ∨ (w = 5 ∧ pos = 6) ∨ (w = 6 ∧ pos = 7)) : (tFS A t l).set pos (.int x) = tFS (upd A (7 * t + w) x) t l := by
  have e : ∀ k, upd A (7 * t + w) x (7 * t + k) = if k = w then x else A (7 * t + k) := fun k => by
    by_cases c : k = w
    · subst c
      rw [pk_us, if_pos rfl]
    · rw [pk_un (by omega), if_neg c]
  show _ = [Value.int (nI t), .int (upd A (7 * t + w) x (7 * t + 0)), .int (upd A (7 * t + w) x (7 * t + 1)), .ref l, .int (upd A (7 * t + w) x (7 * t + 2)), .int (upd A (7 * t + w) x (7 * t + 4)), .int (upd A (7 * t + w) x (7 * t + 5)), .int (upd A (7 * t + w) x (7 * t + 6))]
  rw [e 0, e 1, e 2, e 4, e 5, e 6]
  rcases h with ⟨h1, h2⟩ | ⟨h1, h2⟩ | ⟨h1, h2⟩ | ⟨h1, h2⟩ <;> rw [h1, h2] <;> rfl
theorem hab0_row {H : Nat → Int32} {J : Nat} {x : Int32} : hFS (mRow (va_cpy (mHab0 x) H 0 J 9) J) = [.int 0, .int (nI 23), .int (nI 2), .int 0, .int (nI 1), .int x, .int (nI 1), .int 0, .int 0] := by
  have e : ∀ k, k < 9 → va_cpy (mHab0 x) H 0 J 9 (J + k) = mHab0 x k := fun k hk => by rw [pk_cpy_in (by omega) (by omega), show 0 + (J + k - J) = k by omega]
  show [Value.int (va_cpy (mHab0 x) H 0 J 9 (J + 0)), .int (va_cpy (mHab0 x) H 0 J 9 (J + 1)), .int (va_cpy (mHab0 x) H 0 J 9 (J + 2)), .int (va_cpy (mHab0 x) H 0 J 9 (J + 3)), .int (va_cpy (mHab0 x) H 0 J 9 (J + 4)), .int (va_cpy (mHab0 x) H 0 J 9 (J + 5)), .int (va_cpy (mHab0 x) H 0 J 9 (J + 6)), .int (va_cpy (mHab0 x) H 0 J 9 (J + 7)), .int (va_cpy (mHab0 x) H 0 J 9 (J + 8))] = _
  rw [e 0 (by omega), e 1 (by omega), e 2 (by omega), e 3 (by omega), e 4 (by omega), e 5 (by omega), e 6 (by omega), e 7 (by omega), e 8 (by omega)]
  rfl

set_option maxRecDepth 100000 in
set_option maxHeartbeats 4000000 in
theorem p_addHabit (G : gG) (h : gH) (c : Nat → Nat) (Λ : CL) (u : MS) (T W z : Nat) (hC : cRep G h c Λ u T W z) (o : mOk u T W z) (p : Int32) : gMet yX6_addHabit wsX6_addHabit (gRm 7 2 700) G h [.ref (c 0), .int p] (kPo G h c (cPhi Λ) (mAddHabit u p) "java/lang/IndexOutOfBoundsException" "java/lang/IllegalStateException" 2 700) := by
  refine gMet_of (maxL := 3) (ret := (some .int)) (by decide) rfl (Nat.le_of_ble_eq_true rfl) ?_
  intro X hG hnL hB hE
  subst hG
  change gW X h 0 0 0 [(0, .ref (c 0)), (1, .int p)] []
  have hT := o.2.1
  have hW60 := o.2.2.2.1
  have hz200 := o.2.2.2.2.2.1
  have ez := o.2.2.2.2.1
  have eW := o.2.2.1
  have eT := o.1
  have hF : cFr h h := cFr.rf
  have m8 : ∀ t', t' < T → cLen Λ (4 + t') ≤ 8 := fun t' ht' => (hC.many o ht').1
  by_cases hp9 : mTen u p
  · skip
    obtain ⟨t, ht, et⟩ := mTen_of o.W hp9
    subst et
    obtain ⟨mdt, gt, hlt, -⟩ := hC.2.2.2.1 (4 + t) (by omega)
    obtain ⟨hm8, emm⟩ := hC.many o ht
    have e3 := hC.2.2.2.2.1.2.2.2.2.2 t ht
    refine gI_aload_n hB 0 dX6_addHabit_0 rfl ?_
    refine gI_iload_n hB 1 dX6_addHabit_1 rfl ?_
    refine gI_pureV (n9 := 1) (As := [.int (nI t)]) (rest := []) hB (k_tenantAt X.2.1 h c Λ u T W z hC o t ht) (gCW.of ggX6_addHabit_X6_tenantAt rfl ⟨by decide, by decide, by decide +kernel⟩ ⟨Nat.le_of_ble_eq_true rfl, Nat.le_of_ble_eq_true rfl⟩) (by decide +kernel) (by decide +kernel) (by decide +kernel) (by decide +kernel) hC.1 (C := RX6) (T := TX6) (N := 9) rfl rfl rfl (Nat.le_of_ble_eq_true rfl) (by first | exact Nat.le_of_ble_eq_true rfl | (dsimp only [gRm]; omega)) (by first | exact Nat.le_of_ble_eq_true rfl | (dsimp only [gRm]; omega)) dX6_addHabit_2 ?_
    refine gI_astore_n hB ([(2, .ref (cEl Λ 0 t)), (0, .ref (c 0)), (1, .int (nI t))]) hnL dX6_addHabit_5 (by decide) rfl ?_
    refine gI_aload_n hB 0 dX6_addHabit_6 rfl ?_
    refine gI_get (v := .ref (cLa Λ (4 + t))) hB 3 (hC.2.2.2.2.2.1 t ht) (C := RX4) (T := TX4) (N := 8) rfl (by decide +kernel) (by decide) (by decide +kernel) (fun _ h9 => h9) rfl dX6_addHabit_7 ?_
    refine gI_pureV (n9 := 0) (As := []) (rest := []) hB (l_size X.2.1 h Λ (4 + t) (hC.2.2.2.1 (4 + t) (by omega))) (gCW.of ggX6_addHabit_Jx4a65c_size_8abf5 rfl ⟨by decide, by decide, by decide +kernel⟩ ⟨Nat.le_of_ble_eq_true rfl, Nat.le_of_ble_eq_true rfl⟩) (by decide +kernel) (by decide +kernel) (by decide +kernel) (by decide +kernel) hlt (C := RJx4a65c) (T := TJx4a65c) (N := 3) rfl rfl rfl (Nat.le_of_ble_eq_true rfl) (by first | exact Nat.le_of_ble_eq_true rfl | (dsimp only [gRm]; omega)) (by first | exact Nat.le_of_ble_eq_true rfl | (dsimp only [gRm]; omega)) dX6_addHabit_10 ?_
    refine gI_bipush (v := nI 8) hB dX6_addHabit_13 (by decide) ?_
    refine gI_icmp_lt hB 26 dX6_addHabit_15 (by decide) (fun c15_1 => ?_) (fun c15_1 => ?_)
    · skip
      have c15_1 := (nI_ltI (by omega) (by omega)).mp c15_1
      refine gI_aload_n hB 0 dX6_addHabit_26 rfl ?_
      refine gI_get (v := .ref (cLa Λ (4 + t))) hB 3 (hC.2.2.2.2.2.1 t ht) (C := RX4) (T := TX4) (N := 8) rfl (by decide +kernel) (by decide) (by decide +kernel) (fun _ h9 => h9) rfl dX6_addHabit_27 ?_
      refine gC_new hB (ci := 3) (C := RX0) (T := TX0) (N := 9) [.int 0, .int 0, .int 0, .int 0, .int 0, .int 0, .int 0, .int 0, .int 0] tyX0 tyX0_ok rfl (by decide +kernel) (by decide +kernel) (by decide +kernel) (by decide +kernel) (fun j hj => by rcases (show j = 0 ∨ j = 1 ∨ j = 2 ∨ j = 3 ∨ j = 4 ∨ j = 5 ∨ j = 6 ∨ j = 7 ∨ j = 8 by omega) with rfl | rfl | rfl | rfl | rfl | rfl | rfl | rfl | rfl <;> rfl) (by first | exact Nat.le_of_ble_eq_true rfl | (dsimp only [gRm]; omega)) (by first | exact Nat.le_of_ble_eq_true rfl | (dsimp only [gRm]; omega)) dX6_addHabit_30 (fun q2 h hq2 Hq2 hK => ?_)
      have ne_q2 : ∀ k l, k < 4 + T → l < cLen Λ k → cEl Λ k l ≠ q2 := fun k l hk hl z9 => hq2 (z9 ▸ hC.elMem hk hl)
      have n3_q2 : c 3 ≠ q2 := fun z9 => hq2 (by obtain ⟨-, -, ff, fw, f3⟩ := hC.2.1; exact z9 ▸ f3.1)
      have hF := hF.sa hK
      have hC := hC.fresh hK
      obtain ⟨mdt, gt, hlt, -⟩ := hC.2.2.2.1 (4 + t) (by omega)
      refine gI_dup hB dX6_addHabit_33 rfl ?_
      refine gI_iload_n hB 2 dX6_addHabit_34 rfl ?_
      refine gI_callI (n9 := 1) (As := [.int (nI t)]) (rest := [.ref q2, .ref (cLa Λ (4 + t))]) hB (k_hinit X.2.1 h q2 (nI t) Hq2) (gCW.of ggX6_addHabit_X0_init rfl ⟨by decide, by decide, by decide +kernel⟩ ⟨Nat.le_of_ble_eq_true rfl, Nat.le_of_ble_eq_true rfl⟩) rfl rfl (Or.inl (by decide +kernel)) (by decide +kernel) (by decide +kernel) rfl rfl (Nat.le_of_ble_eq_true rfl) (by first | exact Nat.le_of_ble_eq_true rfl | (dsimp only [gRm]; omega)) (by first | exact Nat.le_of_ble_eq_true rfl | (dsimp only [gRm]; omega)) dX6_addHabit_35 (fun v9 h k9 n9 hp => ?_) (fun E9 h1 k1 n1 hp => by cases hp.1)
      obtain ⟨e9, N_q2, hK, rfl, rfl⟩ := hp
      cases e9
      have hF := hF.st Hq2 rfl hK
      have hC := hC.free Hq2 (by decide) hK ne_q2 n3_q2
      replace Hq2 := N_q2
      obtain ⟨mdt, gt, hlt, -⟩ := hC.2.2.2.1 (4 + t) (by omega)
      obtain ⟨md9, g9, hl9, hr9, hn9, hc9, hb9, he9⟩ := hC.2.2.2.1 (4 + t) (by omega)
      have hgc := gCap_675 hc9
      refine gI_callV (n9 := 1) (As := [.ref q2]) (rest := []) hB (j_add1 X.2.1 h (cLa Λ (4 + t)) (cAa Λ (4 + t)) (cLen Λ (4 + t)) (cCap Λ (4 + t)) q2 md9 g9 hl9 hr9 (hC.hel (by omega) he9) ⟨3, _, _, Hq2, rfl, by decide +kernel⟩ hn9 (by omega) (by omega)) (gCW.of ggX6_addHabit_Jx4a65c_add_9ea2d rfl ⟨by decide, by decide, by decide +kernel⟩ ⟨Nat.le_of_ble_eq_true rfl, Nat.le_of_ble_eq_true rfl⟩) (by decide +kernel) (by decide +kernel) (by decide +kernel) (by decide +kernel) hl9 (C := RJx4a65c) (T := TJx4a65c) (N := 3) rfl rfl rfl (Nat.le_of_ble_eq_true rfl) (by first | exact Nat.le_of_ble_eq_true rfl | (dsimp only [gRm]; omega)) (by first | exact Nat.le_of_ble_eq_true rfl | (dsimp only [gRm]; omega)) dX6_addHabit_38 (fun v9 h k9 n9 hp => ?_) (fun E9 h1 k1 n1 hp => by obtain ⟨a9, c9, g9, e9, -⟩ := hp; cases e9)
      obtain ⟨e9, A9, cap9, hf9, hL9, hA9, hc1, hk1, hs1, hk2, hs2, hs3⟩ := hC.added (by omega) hr9 hn9 hc9 he9 (by omega) (by omega) hp
      cases e9
      have hk := gLf.l2 (hC.2.2.2.1 (4 + t) (by omega)) hf9
      have hF := hF.lf (hC.2.2.2.1 (4 + t) (by omega)) hf9
      have Hq2 := hk _ _ Hq2 (tgN_ne rfl) (tgN_ne rfl)
      have hC2 := hC.addHab m8 ht (by omega) hf9 hL9 hA9 ne_q2 (f := va_cpy (mHab0 (nI t)) (u.2 1) 0 (9 * (8 * t + cLen Λ (4 + t))) 9) (by rw [hab0_row]; exact Hq2) (fun a9 i9 h9 h8 => pk_cpy_out (by omega))
      have ht9 := hk _ _ (hC.2.2.2.2.2.1 t ht) (tgN_ne rfl) (tgN_ne rfl)
      obtain ⟨md8, g8, hl8, -⟩ := hL9
      rw [cUp_aa, cUp_len] at hl8
      refine gI_pop hB dX6_addHabit_41 rfl ?_
      refine gI_aload_n hB 0 dX6_addHabit_42 rfl ?_
      refine gI_get (v := .ref (cLa Λ (4 + t))) hB 3 ht9 (C := RX4) (T := TX4) (N := 8) rfl (by decide +kernel) (by decide) (by decide +kernel) (fun _ h9 => h9) rfl dX6_addHabit_43 ?_
      refine gI_pureV (n9 := 0) (As := []) (rest := []) hB (j_size X.2.1 h _  A9 (cLen Λ (4 + t) + 1) 0 md8 g8 hl8) (gCW.of ggX6_addHabit_Jx4a65c_size_8abf5 rfl ⟨by decide, by decide, by decide +kernel⟩ ⟨Nat.le_of_ble_eq_true rfl, Nat.le_of_ble_eq_true rfl⟩) (by decide +kernel) (by decide +kernel) (by decide +kernel) (by decide +kernel) hl8 (C := RJx4a65c) (T := TJx4a65c) (N := 3) rfl rfl rfl (Nat.le_of_ble_eq_true rfl) (by first | exact Nat.le_of_ble_eq_true rfl | (dsimp only [gRm]; omega)) (by first | exact Nat.le_of_ble_eq_true rfl | (dsimp only [gRm]; omega)) dX6_addHabit_46 ?_
      refine gI_iret hB hE dX6_addHabit_49 ?_
      have es : mAddHabit u (nI t) = (sa (sa (sg u 0 (nI 0)) 1 (va_cpy (mHab0 (nI t)) (u.2 1) 0 (9 * (8 * t + cLen Λ (4 + t))) 9)) 0 (upd (u.2 0) (7 * t + 3) (nI (cLen Λ (4 + t) + 1))), nI (cLen Λ (4 + t) + 1)) := by
        unfold mAddHabit; rw [if_pos hp9, mCl (by omega), if_neg (by rw [e3]; exact fun z9 => absurd ((nI_eq (by omega) (by omega)).mp z9) (by omega)), emm]
      rw [es]
      exact ⟨_, ⟨_, T, W, z, hC2.cg rfl rfl rfl rfl rfl rfl rfl (fun _ _ _ _ => rfl) (fun _ _ => rfl) rfl (fun _ _ _ _ => rfl) rfl o.ring4, mAddHabit_ok o ht e3 (by omega), cPhi_hab⟩, hF, Nat.le_refl _, by omega, by omega, Or.inl ⟨rfl, rfl⟩⟩
    · skip
      have c15_1 := mt (nI_ltI (by omega) (by omega)).mpr c15_1
      refine gI_throw hB hE (cls := "java/lang/IllegalStateException") (names := ["java/lang/RuntimeException", "java/lang/Exception"]) (ik := 52) (ic := 54) (by decide +kernel) (by decide +kernel) (by decide +kernel) (by decide +kernel) (by decide +kernel) (by decide +kernel) (by decide +kernel) dX6_addHabit_18 dX6_addHabit_21 dX6_addHabit_22 dX6_addHabit_25 (Nat.le_of_ble_eq_true rfl) (Nat.le_of_ble_eq_true rfl) (by first | exact Nat.le_of_ble_eq_true rfl | (dsimp only [gRm]; omega)) (by first | exact Nat.le_of_ble_eq_true rfl | (dsimp only [gRm]; omega)) ?_
      exact kPo.mono (by omega) (by omega) (kPo.err2 hC o (by unfold mAddHabit; rw [if_pos hp9, mCl (by omega), if_pos (by rw [e3]; exact congrArg nI (by omega))]) (by omega) (by omega))
  · skip
    refine gI_aload_n hB 0 dX6_addHabit_0 rfl ?_
    refine gI_iload_n hB 1 dX6_addHabit_1 rfl ?_
    refine gI_callV (n9 := 1) (As := [.int p]) (rest := []) hB (k_tenantAtNo X.2.1 h c Λ u T W z hC o p (by unfold mTen at hp9; rw [eT] at hp9; exact hp9)) (gCW.of ggX6_addHabit_X6_tenantAt rfl ⟨by decide, by decide, by decide +kernel⟩ ⟨Nat.le_of_ble_eq_true rfl, Nat.le_of_ble_eq_true rfl⟩) (by decide +kernel) (by decide +kernel) (by decide +kernel) (by decide +kernel) hC.1 (C := RX6) (T := TX6) (N := 9) rfl rfl rfl (Nat.le_of_ble_eq_true rfl) (by first | exact Nat.le_of_ble_eq_true rfl | (dsimp only [gRm]; omega)) (by first | exact Nat.le_of_ble_eq_true rfl | (dsimp only [gRm]; omega)) dX6_addHabit_2 (fun v9 h9 k9 n9 hp => by cases hp.1) (fun E9 h9 k9 n9 hp => ?_)
    obtain ⟨e9, rfl, rfl, rfl⟩ := hp
    cases e9
    exact gI_out hB hE (kPo.mono (by omega) (by omega) (kPo.err1 hC o (by unfold mAddHabit; rw [if_neg hp9]) (by omega) (by omega)))

