theorem hFS_upd {H : Nat → Int32} {J i : Nat} {x : Int32} (hi : i < 9) : (hFS (mRow H J)).set i (.int x) = hFS (mRow (upd H (J + i) x) J) := by
  have e : ∀ k, mRow (upd H (J + i) x) J k = if k = i then x else mRow H J k := fun k => by
    show upd H (J + i) x (J + k) = _
    by_cases c : k = i
    · subst c
      rw [pk_us, if_pos rfl]
    · rw [pk_un (by omega), if_neg c]
  show _ = [Value.int (mRow (upd H (J + i) x) J 0), Value.int (mRow (upd H (J + i) x) J 1), Value.int (mRow (upd H (J + i) x) J 2), Value.int (mRow (upd H (J + i) x) J 3), Value.int (mRow (upd H (J + i) x) J 4), Value.int (mRow (upd H (J + i) x) J 5), Value.int (mRow (upd H (J + i) x) J 6), Value.int (mRow (upd H (J + i) x) J 7), Value.int (mRow (upd H (J + i) x) J 8)]
  rw [e 0, e 1, e 2, e 3, e 4, e 5, e 6, e 7, e 8]
  rcases (show i = 0 ∨ i = 1 ∨ i = 2 ∨ i = 3 ∨ i = 4 ∨ i = 5 ∨ i = 6 ∨ i = 7 ∨ i = 8 by omega) with q | q | q | q | q | q | q | q | q <;> rw [q] <;> rfl

theorem mSetHour_ok {u : MS} {T W z : Nat} (o : mOk u T W z) {x : Int32} (h : mIn x (nI 5) (nI 500)) : mOk (sg (sg u 0 (nI 0)) 2 x) T W z := by
  obtain ⟨a1, a2, a3, a4, a5, a6, a7, a8⟩ := o
  obtain ⟨j, hj, rfl⟩ := mIn_lit (m := 500) (by omega) ⟨Int32.le_trans (by decide) h.1, h.2⟩
  exact ⟨a1, a2, a3, a4, a5, a6, ⟨j, (nI_leI (by omega) (by omega)).mp h.1, hj, rfl⟩, a8⟩
theorem kPo.wr {G : gG} {h0 h : gH} {c : Nat → Nat} {Λ : CL} {v : MS} {T W z k n F : Nat} {E1 E2 : String} (hC : cRep G h c Λ v T W z) {s : MS × Int32} {x : Int32} (hF : cFr h0 h) (e : s = (s.1, x)) (o : mOk s.1 T W z) (e0 : s.1.1 0 = nI 0) (hv : cRep G h c Λ v T W z → cRep G h c Λ s.1 T W z) (hP : cPhi Λ = F) (hk : k ≤ 1) (hn : n ≤ 6) : kPo G h0 c F s E1 E2 1 6 (.inl (some (.int x))) h k n := by
  subst hP
  exact ⟨_, ⟨Λ, T, W, z, hv hC, o, rfl⟩, hF, Nat.le_refl _, by omega, by omega, Or.inl ⟨by rw [e], e0⟩⟩

set_option maxRecDepth 100000 in
set_option maxHeartbeats 4000000 in
theorem p_setHour (G : gG) (h : gH) (c : Nat → Nat) (Λ : CL) (u : MS) (T W z : Nat) (hC : cRep G h c Λ u T W z) (o : mOk u T W z) (x : Int32) : gMet yX6_setHour wsX6_setHour (gRm 4 1 6) G h [.ref (c 0), .int x] (kPo G h c (cPhi Λ) (mSetHour u x) "java/lang/IllegalArgumentException" "java/lang/IllegalArgumentException" 1 6) := by
  refine gMet_of (maxL := 3) (ret := (some .int)) (by decide) rfl (Nat.le_of_ble_eq_true rfl) ?_
  intro X hG hnL hB hE
  subst hG
  change gW X h 0 0 0 [(0, .ref (c 0)), (1, .int x)] []
  have hT := o.2.1
  have hW60 := o.2.2.2.1
  have hz200 := o.2.2.2.2.2.1
  have ez := o.2.2.2.2.1
  have eW := o.2.2.1
  have eT := o.1
  have hF : cFr h h := cFr.rf
  refine gI_iload_n hB 1 dX6_setHour_0 rfl ?_
  refine gI_iconst (v := nI 5) hB dX6_setHour_1 (by decide) ?_
  refine gI_sipush (v := nI 500) hB dX6_setHour_2 (by decide) ?_
  refine gI_pureS (n9 := 3) (As := [.int x, .int (nI 5), .int (nI 500)]) (rest := []) hB (k_isOutside X.2.1 h x (nI 5) (nI 500)) (gCW.of ggX6_setHour_X6_isOutside rfl ⟨by decide, by decide, by decide +kernel⟩ ⟨Nat.le_of_ble_eq_true rfl, Nat.le_of_ble_eq_true rfl⟩) (Or.inl (by decide +kernel)) (by decide +kernel) (by decide +kernel) rfl rfl (Nat.le_of_ble_eq_true rfl) (by first | exact Nat.le_of_ble_eq_true rfl | (dsimp only [gRm]; omega)) (by first | exact Nat.le_of_ble_eq_true rfl | (dsimp only [gRm]; omega)) dX6_setHour_5 ?_
  refine gI_if_eq hB 19 dX6_setHour_8 (by decide) (fun c8_1 => ?_) (fun c8_1 => ?_)
  · skip
    have c8_1 := gbi_0.mp c8_1
    refine gI_aload_n hB 0 dX6_setHour_19 rfl ?_
    refine gI_get (v := .int (u.1 2)) hB 4 hC.1 (C := RX6) (T := TX6) (N := 9) rfl (by decide +kernel) (by decide) (by decide +kernel) (fun _ h9 => h9) rfl dX6_setHour_20 ?_
    refine gI_istore_n hB ([(2, .int (u.1 2)), (0, .ref (c 0)), (1, .int x)]) hnL dX6_setHour_23 (by decide) rfl ?_
    refine gI_aload_n hB 1 dX6_setHour_24 rfl ?_
    refine gI_iload_n hB 2 dX6_setHour_25 rfl ?_
    refine gC_put hB 4 tyX6 tyX6_ok nmX6 hC.1 (C := RX6) (T := TX6) (N := 9) rfl (by decide +kernel) (by decide) (by decide +kernel) (fun _ h9 => h9) rfl rfl rfl (Nat.le_of_ble_eq_true rfl) dX6_setHour_26 (fun h hN hK => ?_)
    have hF := hF.st hC.1 rfl hK
    have hC : cRep X.2.1 h c Λ (sg u 2 x) T W z := hC.putMain (v := (sg u 2 x)) hK hN rfl rfl rfl
    refine gI_iload_n hB 0 dX6_setHour_29 rfl ?_
    refine gI_iret hB hE dX6_setHour_30 ?_
    have hin := Decidable.not_not.mp c8_1
    have es : mSetHour u x = (sg (sg u 0 (nI 0)) 2 x, u.1 2) := by unfold mSetHour; rw [if_pos hin]
    refine kPo.wr hC hF (by rw [es]) (by rw [es]; exact mSetHour_ok o hin) (by rw [es]; rfl) (fun q9 => by rw [es]; exact q9.cg rfl rfl rfl rfl rfl rfl rfl (fun _ _ _ _ => rfl) (fun _ _ => rfl) rfl (fun _ _ _ _ => rfl) rfl o.ring4) rfl (by omega) (by omega)
  · skip
    have c8_1 := gbi_n0 c8_1
    refine gI_throw hB hE (cls := "java/lang/IllegalArgumentException") (names := ["java/lang/RuntimeException", "java/lang/Exception"]) (ik := 45) (ic := 47) (by decide +kernel) (by decide +kernel) (by decide +kernel) (by decide +kernel) (by decide +kernel) (by decide +kernel) (by decide +kernel) dX6_setHour_11 dX6_setHour_14 dX6_setHour_15 dX6_setHour_18 (Nat.le_of_ble_eq_true rfl) (Nat.le_of_ble_eq_true rfl) (by first | exact Nat.le_of_ble_eq_true rfl | (dsimp only [gRm]; omega)) (by first | exact Nat.le_of_ble_eq_true rfl | (dsimp only [gRm]; omega)) ?_
    exact kPo.err1 hC o (by unfold mSetHour; rw [if_neg c8_1]) (by omega) (by omega)

theorem cpy4 {H : Nat → Int32} {J : Nat} {x y z w : Int32} : va_cpy (m4 x y z w) H 0 J 4 = upd (upd (upd (upd H (J + 0) x) (J + 1) y) (J + 2) z) (J + 3) w := by
  funext i
  by_cases c : i < J ∨ J + 4 ≤ i
  · rw [pk_cpy_out c, pk_un (by omega), pk_un (by omega), pk_un (by omega), pk_un (by omega)]
  · rw [pk_cpy_in (by omega) (by omega)]
    rcases (show i = J + 0 ∨ i = J + 1 ∨ i = J + 2 ∨ i = J + 3 by omega) with e9 | e9 | e9 | e9 <;> rw [e9]
    · rw [show 0 + (J + 0 - J) = 0 by omega, pk_un (by omega), pk_un (by omega), pk_un (by omega), pk_us]
      rfl
    · rw [show 0 + (J + 1 - J) = 1 by omega, pk_un (by omega), pk_un (by omega), pk_us]
      rfl
    · rw [show 0 + (J + 2 - J) = 2 by omega, pk_un (by omega), pk_us]
      rfl
    · rw [show 0 + (J + 3 - J) = 3 by omega, pk_us]
      rfl
theorem mSetWhen_ok {u : MS} {T W z b : Nat} (o : mOk u T W z) (x y s w : Int32) : mOk (sa (sg u 0 (nI 0)) 1 (va_cpy (m4 x y s w) (u.2 1) 0 (9 * b) 4)) T W z := by
  refine o.tab rfl rfl rfl rfl (fun t ht ot => mOkT.cg rfl rfl rfl (fun j hj oh => ?_) ot) rfl rfl
  exact mOkH.cg (pk_cpy_out (by omega)) (pk_cpy_out (by omega)) (pk_cpy_out (by omega)) oh

set_option maxRecDepth 100000 in
set_option maxHeartbeats 4000000 in
theorem p_setWhen (G : gG) (h : gH) (c : Nat → Nat) (Λ : CL) (u : MS) (T W z : Nat) (hC : cRep G h c Λ u T W z) (o : mOk u T W z) (p q x y s v : Int32) : gMet yX6_setWhen wsX6_setWhen (gRm 5 1 6) G h [.ref (c 0), .int p, .int q, .int x, .int y, .int s, .int v] (kPo G h c (cPhi Λ) (mSetWhen u p q x y s v) "java/lang/IndexOutOfBoundsException" "java/lang/IllegalArgumentException" 1 6) := by
  refine gMet_of (maxL := 9) (ret := (some .int)) (by decide) rfl (Nat.le_of_ble_eq_true rfl) ?_
  intro X hG hnL hB hE
  subst hG
  change gW X h 0 0 0 [(0, .ref (c 0)), (1, .int p), (2, .int q), (3, .int x), (4, .int y), (5, .int s), (6, .int v)] []
  have hT := o.2.1
  have hW60 := o.2.2.2.1
  have hz200 := o.2.2.2.2.2.1
  have ez := o.2.2.2.2.1
  have eW := o.2.2.1
  have eT := o.1
  have hF : cFr h h := cFr.rf
  have m8 : ∀ t', t' < T → cLen Λ (4 + t') ≤ 8 := fun t' ht' => (hC.many o ht').1
  obtain ⟨md0, g0, hl0, -⟩ := hC.2.2.2.1 0 (by omega)
  by_cases hp9 : mTen u p
  · skip
    obtain ⟨t, ht, et⟩ := mTen_of o.W hp9
    subst et
    obtain ⟨mdt, gt, hlt, -⟩ := hC.2.2.2.1 (4 + t) (by omega)
    obtain ⟨hm8, emm⟩ := hC.many o ht
    have e3 := hC.2.2.2.2.1.2.2.2.2.2 t ht
    by_cases hq9 : mHab u (nI t) q
    · skip
      obtain ⟨j, hj, ej⟩ := mIn_of (m := cLen Λ (4 + t)) (by omega) (by have := hq9.2; rw [mCl (by omega), e3] at this; exact this)
      subst ej
      refine gI_aload_n hB 0 dX6_setWhen_0 rfl ?_
      refine gI_iload_n hB 1 dX6_setWhen_1 rfl ?_
      refine gI_pureV (n9 := 1) (As := [.int (nI t)]) (rest := []) hB (k_tenantAt X.2.1 h c Λ u T W z hC o t ht) (gCW.of ggX6_setWhen_X6_tenantAt rfl ⟨by decide, by decide, by decide +kernel⟩ ⟨Nat.le_of_ble_eq_true rfl, Nat.le_of_ble_eq_true rfl⟩) (by decide +kernel) (by decide +kernel) (by decide +kernel) (by decide +kernel) hC.1 (C := RX6) (T := TX6) (N := 9) rfl rfl rfl (Nat.le_of_ble_eq_true rfl) (by first | exact Nat.le_of_ble_eq_true rfl | (dsimp only [gRm]; omega)) (by first | exact Nat.le_of_ble_eq_true rfl | (dsimp only [gRm]; omega)) dX6_setWhen_2 ?_
      refine gI_iload_n hB 2 dX6_setWhen_5 rfl ?_
      refine gI_pureV (n9 := 1) (As := [.int (nI j)]) (rest := []) hB (k_habitAt X.2.1 h c Λ u T W z hC o t ht j hj) (gCW.of ggX6_setWhen_X4_habitAt rfl ⟨by decide, by decide, by decide +kernel⟩ ⟨Nat.le_of_ble_eq_true rfl, Nat.le_of_ble_eq_true rfl⟩) (by decide +kernel) (by decide +kernel) (by decide +kernel) (by decide +kernel) (hC.2.2.2.2.2.1 t ht) (C := RX4) (T := TX4) (N := 8) rfl rfl rfl (Nat.le_of_ble_eq_true rfl) (by first | exact Nat.le_of_ble_eq_true rfl | (dsimp only [gRm]; omega)) (by first | exact Nat.le_of_ble_eq_true rfl | (dsimp only [gRm]; omega)) dX6_setWhen_6 ?_
      refine gI_astore hB ([(7, .ref (cEl Λ (4 + t) j)), (0, .ref (c 0)), (1, .int (nI t)), (2, .int (nI j)), (3, .int x), (4, .int y), (5, .int s), (6, .int v)]) hnL dX6_setWhen_9 (by decide) rfl ?_
      refine gI_iload_n hB 4 dX6_setWhen_11 rfl ?_
      refine gI_iconst (v := nI 0) hB dX6_setWhen_12 (by decide) ?_
      refine gI_bipush (v := nI 23) hB dX6_setWhen_13 (by decide) ?_
      refine gI_pureS (n9 := 3) (As := [.int x, .int (nI 0), .int (nI 23)]) (rest := []) hB (k_isOutside X.2.1 h x (nI 0) (nI 23)) (gCW.of ggX6_setWhen_X6_isOutside rfl ⟨by decide, by decide, by decide +kernel⟩ ⟨Nat.le_of_ble_eq_true rfl, Nat.le_of_ble_eq_true rfl⟩) (Or.inl (by decide +kernel)) (by decide +kernel) (by decide +kernel) rfl rfl (Nat.le_of_ble_eq_true rfl) (by first | exact Nat.le_of_ble_eq_true rfl | (dsimp only [gRm]; omega)) (by first | exact Nat.le_of_ble_eq_true rfl | (dsimp only [gRm]; omega)) dX6_setWhen_15 ?_
      refine gI_if_ne hB 53 dX6_setWhen_18 (by decide) (fun c18_1 => ?_) (fun c18_1 => ?_)
      · skip
        have c18_1 := gbi_n0 c18_1
        refine gI_throw hB hE (cls := "java/lang/IllegalArgumentException") (names := ["java/lang/RuntimeException", "java/lang/Exception"]) (ik := 45) (ic := 47) (by decide +kernel) (by decide +kernel) (by decide +kernel) (by decide +kernel) (by decide +kernel) (by decide +kernel) (by decide +kernel) dX6_setWhen_53 dX6_setWhen_56 dX6_setWhen_57 dX6_setWhen_60 (Nat.le_of_ble_eq_true rfl) (Nat.le_of_ble_eq_true rfl) (by first | exact Nat.le_of_ble_eq_true rfl | (dsimp only [gRm]; omega)) (by first | exact Nat.le_of_ble_eq_true rfl | (dsimp only [gRm]; omega)) ?_
        exact kPo.err2 hC o (by unfold mSetWhen; rw [if_pos hq9, if_neg (fun z9 => c18_1 z9.1)]) (by omega) (by omega)
      · skip
        have c18_1 := gbi_0.mp c18_1
        refine gI_iload hB 5 dX6_setWhen_21 rfl ?_
        refine gI_iconst (v := nI 0) hB dX6_setWhen_23 (by decide) ?_
        refine gI_bipush (v := nI 23) hB dX6_setWhen_24 (by decide) ?_
        refine gI_pureS (n9 := 3) (As := [.int y, .int (nI 0), .int (nI 23)]) (rest := []) hB (k_isOutside X.2.1 h y (nI 0) (nI 23)) (gCW.of ggX6_setWhen_X6_isOutside rfl ⟨by decide, by decide, by decide +kernel⟩ ⟨Nat.le_of_ble_eq_true rfl, Nat.le_of_ble_eq_true rfl⟩) (Or.inl (by decide +kernel)) (by decide +kernel) (by decide +kernel) rfl rfl (Nat.le_of_ble_eq_true rfl) (by first | exact Nat.le_of_ble_eq_true rfl | (dsimp only [gRm]; omega)) (by first | exact Nat.le_of_ble_eq_true rfl | (dsimp only [gRm]; omega)) dX6_setWhen_26 ?_
        refine gI_if_ne hB 53 dX6_setWhen_29 (by decide) (fun c29_2 => ?_) (fun c29_2 => ?_)
        · skip
          have c29_2 := gbi_n0 c29_2
          refine gI_throw hB hE (cls := "java/lang/IllegalArgumentException") (names := ["java/lang/RuntimeException", "java/lang/Exception"]) (ik := 45) (ic := 47) (by decide +kernel) (by decide +kernel) (by decide +kernel) (by decide +kernel) (by decide +kernel) (by decide +kernel) (by decide +kernel) dX6_setWhen_53 dX6_setWhen_56 dX6_setWhen_57 dX6_setWhen_60 (Nat.le_of_ble_eq_true rfl) (Nat.le_of_ble_eq_true rfl) (by first | exact Nat.le_of_ble_eq_true rfl | (dsimp only [gRm]; omega)) (by first | exact Nat.le_of_ble_eq_true rfl | (dsimp only [gRm]; omega)) ?_
          exact kPo.err2 hC o (by unfold mSetWhen; rw [if_pos hq9, if_neg (fun z9 => c29_2 z9.2.1)]) (by omega) (by omega)
        · skip
          have c29_2 := gbi_0.mp c29_2
          refine gI_iload hB 6 dX6_setWhen_32 rfl ?_
          refine gI_iconst (v := nI 0) hB dX6_setWhen_34 (by decide) ?_
          refine gI_iconst (v := nI 2) hB dX6_setWhen_35 (by decide) ?_
          refine gI_pureS (n9 := 3) (As := [.int s, .int (nI 0), .int (nI 2)]) (rest := []) hB (k_isOutside X.2.1 h s (nI 0) (nI 2)) (gCW.of ggX6_setWhen_X6_isOutside rfl ⟨by decide, by decide, by decide +kernel⟩ ⟨Nat.le_of_ble_eq_true rfl, Nat.le_of_ble_eq_true rfl⟩) (Or.inl (by decide +kernel)) (by decide +kernel) (by decide +kernel) rfl rfl (Nat.le_of_ble_eq_true rfl) (by first | exact Nat.le_of_ble_eq_true rfl | (dsimp only [gRm]; omega)) (by first | exact Nat.le_of_ble_eq_true rfl | (dsimp only [gRm]; omega)) dX6_setWhen_36 ?_
          refine gI_if_ne hB 53 dX6_setWhen_39 (by decide) (fun c39_3 => ?_) (fun c39_3 => ?_)
          · skip
            have c39_3 := gbi_n0 c39_3
            refine gI_throw hB hE (cls := "java/lang/IllegalArgumentException") (names := ["java/lang/RuntimeException", "java/lang/Exception"]) (ik := 45) (ic := 47) (by decide +kernel) (by decide +kernel) (by decide +kernel) (by decide +kernel) (by decide +kernel) (by decide +kernel) (by decide +kernel) dX6_setWhen_53 dX6_setWhen_56 dX6_setWhen_57 dX6_setWhen_60 (Nat.le_of_ble_eq_true rfl) (Nat.le_of_ble_eq_true rfl) (by first | exact Nat.le_of_ble_eq_true rfl | (dsimp only [gRm]; omega)) (by first | exact Nat.le_of_ble_eq_true rfl | (dsimp only [gRm]; omega)) ?_
            exact kPo.err2 hC o (by unfold mSetWhen; rw [if_pos hq9, if_neg (fun z9 => c39_3 z9.2.2.1)]) (by omega) (by omega)
          · skip
            have c39_3 := gbi_0.mp c39_3
            refine gI_iload hB 7 dX6_setWhen_42 rfl ?_
            refine gI_iconst (v := nI 0) hB dX6_setWhen_44 (by decide) ?_
            refine gI_bipush (v := nI 9) hB dX6_setWhen_45 (by decide) ?_
            refine gI_pureS (n9 := 3) (As := [.int v, .int (nI 0), .int (nI 9)]) (rest := []) hB (k_isOutside X.2.1 h v (nI 0) (nI 9)) (gCW.of ggX6_setWhen_X6_isOutside rfl ⟨by decide, by decide, by decide +kernel⟩ ⟨Nat.le_of_ble_eq_true rfl, Nat.le_of_ble_eq_true rfl⟩) (Or.inl (by decide +kernel)) (by decide +kernel) (by decide +kernel) rfl rfl (Nat.le_of_ble_eq_true rfl) (by first | exact Nat.le_of_ble_eq_true rfl | (dsimp only [gRm]; omega)) (by first | exact Nat.le_of_ble_eq_true rfl | (dsimp only [gRm]; omega)) dX6_setWhen_47 ?_
            refine gI_if_eq hB 61 dX6_setWhen_50 (by decide) (fun c50_4 => ?_) (fun c50_4 => ?_)
            · skip
              have c50_4 := gbi_0.mp c50_4
              refine gI_aload hB 0 dX6_setWhen_61 rfl ?_
              refine gI_get (v := .int (u.2 1 (9 * (8 * t + j) + 2))) hB 2 (hC.2.2.2.2.2.2.1 t j ht hj) (C := RX0) (T := TX0) (N := 9) rfl (by decide +kernel) (by decide) (by decide +kernel) (fun _ h9 => h9) rfl dX6_setWhen_63 ?_
              refine gI_istore hB ([(8, .int (u.2 1 (9 * (8 * t + j) + 2))), (7, .ref (cEl Λ (4 + t) j)), (0, .ref (c 0)), (1, .int (nI t)), (2, .int (nI j)), (3, .int x), (4, .int y), (5, .int s), (6, .int v)]) hnL dX6_setWhen_66 (by decide) rfl ?_
              refine gI_aload hB 1 dX6_setWhen_68 rfl ?_
              refine gI_iload_n hB 5 dX6_setWhen_70 rfl ?_
              refine gC_put hB 0 tyX0 tyX0_ok nmX0 (hC.2.2.2.2.2.2.1 t j ht hj) (C := RX0) (T := TX0) (N := 9) rfl (by decide +kernel) (by decide) (by decide +kernel) (fun _ h9 => h9) rfl rfl rfl (Nat.le_of_ble_eq_true rfl) dX6_setWhen_71 (fun h hN hK => ?_)
              have hF := hF.st (hC.2.2.2.2.2.2.1 t j ht hj) rfl hK
              have hC : cRep X.2.1 h c Λ (sa u 1 (upd (u.2 1) (9 * (8 * t + j) + 0) x)) T W z := hC.putHab (f := upd (u.2 1) (9 * (8 * t + j) + 0) x) m8 ht hj hK (by rw [← hFS_upd (by omega)]; exact hN) (fun a9 i9 h9 h8 => pk_un (by omega))
              refine gI_aload hB 1 dX6_setWhen_74 rfl ?_
              refine gI_iload hB 6 dX6_setWhen_76 rfl ?_
              refine gC_put hB 1 tyX0 tyX0_ok nmX0 (hC.2.2.2.2.2.2.1 t j ht hj) (C := RX0) (T := TX0) (N := 9) rfl (by decide +kernel) (by decide) (by decide +kernel) (fun _ h9 => h9) rfl rfl rfl (Nat.le_of_ble_eq_true rfl) dX6_setWhen_78 (fun h hN hK => ?_)
              have hF := hF.st (hC.2.2.2.2.2.2.1 t j ht hj) rfl hK
              have hC : cRep X.2.1 h c Λ (sa (sa u 1 (upd (u.2 1) (9 * (8 * t + j) + 0) x)) 1 (upd ((sa u 1 (upd (u.2 1) (9 * (8 * t + j) + 0) x)).2 1) (9 * (8 * t + j) + 1) y)) T W z := hC.putHab (f := upd ((sa u 1 (upd (u.2 1) (9 * (8 * t + j) + 0) x)).2 1) (9 * (8 * t + j) + 1) y) m8 ht hj hK (by rw [← hFS_upd (by omega)]; exact hN) (fun a9 i9 h9 h8 => pk_un (by omega))
              refine gI_aload hB 1 dX6_setWhen_81 rfl ?_
              refine gI_iload hB 7 dX6_setWhen_83 rfl ?_
              refine gC_put hB 2 tyX0 tyX0_ok nmX0 (hC.2.2.2.2.2.2.1 t j ht hj) (C := RX0) (T := TX0) (N := 9) rfl (by decide +kernel) (by decide) (by decide +kernel) (fun _ h9 => h9) rfl rfl rfl (Nat.le_of_ble_eq_true rfl) dX6_setWhen_85 (fun h hN hK => ?_)
              have hF := hF.st (hC.2.2.2.2.2.2.1 t j ht hj) rfl hK
              have hC : cRep X.2.1 h c Λ (sa (sa (sa u 1 (upd (u.2 1) (9 * (8 * t + j) + 0) x)) 1 (upd ((sa u 1 (upd (u.2 1) (9 * (8 * t + j) + 0) x)).2 1) (9 * (8 * t + j) + 1) y)) 1 (upd ((sa (sa u 1 (upd (u.2 1) (9 * (8 * t + j) + 0) x)) 1 (upd ((sa u 1 (upd (u.2 1) (9 * (8 * t + j) + 0) x)).2 1) (9 * (8 * t + j) + 1) y)).2 1) (9 * (8 * t + j) + 2) s)) T W z := hC.putHab (f := upd ((sa (sa u 1 (upd (u.2 1) (9 * (8 * t + j) + 0) x)) 1 (upd ((sa u 1 (upd (u.2 1) (9 * (8 * t + j) + 0) x)).2 1) (9 * (8 * t + j) + 1) y)).2 1) (9 * (8 * t + j) + 2) s) m8 ht hj hK (by rw [← hFS_upd (by omega)]; exact hN) (fun a9 i9 h9 h8 => pk_un (by omega))
              refine gI_aload hB 1 dX6_setWhen_88 rfl ?_
              refine gI_iload hB 8 dX6_setWhen_90 rfl ?_
              refine gC_put hB 3 tyX0 tyX0_ok nmX0 (hC.2.2.2.2.2.2.1 t j ht hj) (C := RX0) (T := TX0) (N := 9) rfl (by decide +kernel) (by decide) (by decide +kernel) (fun _ h9 => h9) rfl rfl rfl (Nat.le_of_ble_eq_true rfl) dX6_setWhen_92 (fun h hN hK => ?_)
              have hF := hF.st (hC.2.2.2.2.2.2.1 t j ht hj) rfl hK
              have hC : cRep X.2.1 h c Λ (sa (sa (sa (sa u 1 (upd (u.2 1) (9 * (8 * t + j) + 0) x)) 1 (upd ((sa u 1 (upd (u.2 1) (9 * (8 * t + j) + 0) x)).2 1) (9 * (8 * t + j) + 1) y)) 1 (upd ((sa (sa u 1 (upd (u.2 1) (9 * (8 * t + j) + 0) x)) 1 (upd ((sa u 1 (upd (u.2 1) (9 * (8 * t + j) + 0) x)).2 1) (9 * (8 * t + j) + 1) y)).2 1) (9 * (8 * t + j) + 2) s)) 1 (upd ((sa (sa (sa u 1 (upd (u.2 1) (9 * (8 * t + j) + 0) x)) 1 (upd ((sa u 1 (upd (u.2 1) (9 * (8 * t + j) + 0) x)).2 1) (9 * (8 * t + j) + 1) y)) 1 (upd ((sa (sa u 1 (upd (u.2 1) (9 * (8 * t + j) + 0) x)) 1 (upd ((sa u 1 (upd (u.2 1) (9 * (8 * t + j) + 0) x)).2 1) (9 * (8 * t + j) + 1) y)).2 1) (9 * (8 * t + j) + 2) s)).2 1) (9 * (8 * t + j) + 3) v)) T W z := hC.putHab (f := upd ((sa (sa (sa u 1 (upd (u.2 1) (9 * (8 * t + j) + 0) x)) 1 (upd ((sa u 1 (upd (u.2 1) (9 * (8 * t + j) + 0) x)).2 1) (9 * (8 * t + j) + 1) y)) 1 (upd ((sa (sa u 1 (upd (u.2 1) (9 * (8 * t + j) + 0) x)) 1 (upd ((sa u 1 (upd (u.2 1) (9 * (8 * t + j) + 0) x)).2 1) (9 * (8 * t + j) + 1) y)).2 1) (9 * (8 * t + j) + 2) s)).2 1) (9 * (8 * t + j) + 3) v) m8 ht hj hK (by rw [← hFS_upd (by omega)]; exact hN) (fun a9 i9 h9 h8 => pk_un (by omega))
              refine gI_iload hB 0 dX6_setWhen_95 rfl ?_
              refine gI_iret hB hE dX6_setWhen_97 ?_
              have es : mSetWhen u (nI t) (nI j) x y s v = (sa (sg u 0 (nI 0)) 1 (va_cpy (m4 x y s v) (u.2 1) 0 (9 * (8 * t + j)) 4), u.2 1 (9 * (8 * t + j) + 2)) := by
                unfold mSetWhen; rw [if_pos hq9, if_pos ⟨Decidable.not_not.mp c18_1, Decidable.not_not.mp c29_2, Decidable.not_not.mp c39_3, Decidable.not_not.mp c50_4⟩, mJ_of (by omega) (by omega)]
              refine kPo.wr hC hF (by rw [es]) (by rw [es]; exact mSetWhen_ok o x y s v) (by rw [es]; rfl) (fun q9 => by rw [es, cpy4]; exact q9.cg rfl rfl rfl rfl rfl rfl rfl (fun _ _ _ _ => rfl) (fun _ _ => rfl) rfl (fun _ _ _ _ => rfl) rfl o.ring4) rfl (by omega) (by omega)
            · skip
              have c50_4 := gbi_n0 c50_4
              refine gI_throw hB hE (cls := "java/lang/IllegalArgumentException") (names := ["java/lang/RuntimeException", "java/lang/Exception"]) (ik := 45) (ic := 47) (by decide +kernel) (by decide +kernel) (by decide +kernel) (by decide +kernel) (by decide +kernel) (by decide +kernel) (by decide +kernel) dX6_setWhen_53 dX6_setWhen_56 dX6_setWhen_57 dX6_setWhen_60 (Nat.le_of_ble_eq_true rfl) (Nat.le_of_ble_eq_true rfl) (by first | exact Nat.le_of_ble_eq_true rfl | (dsimp only [gRm]; omega)) (by first | exact Nat.le_of_ble_eq_true rfl | (dsimp only [gRm]; omega)) ?_
              exact kPo.err2 hC o (by unfold mSetWhen; rw [if_pos hq9, if_neg (fun z9 => c50_4 z9.2.2.2)]) (by omega) (by omega)
    · skip
      refine gI_aload_n hB 0 dX6_setWhen_0 rfl ?_
      refine gI_iload_n hB 1 dX6_setWhen_1 rfl ?_
      refine gI_pureV (n9 := 1) (As := [.int (nI t)]) (rest := []) hB (k_tenantAt X.2.1 h c Λ u T W z hC o t ht) (gCW.of ggX6_setWhen_X6_tenantAt rfl ⟨by decide, by decide, by decide +kernel⟩ ⟨Nat.le_of_ble_eq_true rfl, Nat.le_of_ble_eq_true rfl⟩) (by decide +kernel) (by decide +kernel) (by decide +kernel) (by decide +kernel) hC.1 (C := RX6) (T := TX6) (N := 9) rfl rfl rfl (Nat.le_of_ble_eq_true rfl) (by first | exact Nat.le_of_ble_eq_true rfl | (dsimp only [gRm]; omega)) (by first | exact Nat.le_of_ble_eq_true rfl | (dsimp only [gRm]; omega)) dX6_setWhen_2 ?_
      refine gI_iload_n hB 2 dX6_setWhen_5 rfl ?_
      refine gI_callV (n9 := 1) (As := [.int q]) (rest := []) hB (k_habitAtNo X.2.1 h c Λ u T W z hC o t ht q (fun z9 => hq9 ⟨hp9, by rw [mCl (by omega), e3]; exact z9⟩)) (gCW.of ggX6_setWhen_X4_habitAt rfl ⟨by decide, by decide, by decide +kernel⟩ ⟨Nat.le_of_ble_eq_true rfl, Nat.le_of_ble_eq_true rfl⟩) (by decide +kernel) (by decide +kernel) (by decide +kernel) (by decide +kernel) (hC.2.2.2.2.2.1 t ht) (C := RX4) (T := TX4) (N := 8) rfl rfl rfl (Nat.le_of_ble_eq_true rfl) (by first | exact Nat.le_of_ble_eq_true rfl | (dsimp only [gRm]; omega)) (by first | exact Nat.le_of_ble_eq_true rfl | (dsimp only [gRm]; omega)) dX6_setWhen_6 (fun v9 h9 k9 n9 hp => by cases hp.1) (fun E9 h9 k9 n9 hp => ?_)
      obtain ⟨e9, rfl, rfl, rfl⟩ := hp
      cases e9
      exact gI_out hB hE (kPo.err1 hC o (by unfold mSetWhen; rw [if_neg hq9]) (by omega) (by omega))
  · skip
    refine gI_aload_n hB 0 dX6_setWhen_0 rfl ?_
    refine gI_iload_n hB 1 dX6_setWhen_1 rfl ?_
    refine gI_callV (n9 := 1) (As := [.int p]) (rest := []) hB (k_tenantAtNo X.2.1 h c Λ u T W z hC o p (by unfold mTen at hp9; rw [eT] at hp9; exact hp9)) (gCW.of ggX6_setWhen_X6_tenantAt rfl ⟨by decide, by decide, by decide +kernel⟩ ⟨Nat.le_of_ble_eq_true rfl, Nat.le_of_ble_eq_true rfl⟩) (by decide +kernel) (by decide +kernel) (by decide +kernel) (by decide +kernel) hC.1 (C := RX6) (T := TX6) (N := 9) rfl rfl rfl (Nat.le_of_ble_eq_true rfl) (by first | exact Nat.le_of_ble_eq_true rfl | (dsimp only [gRm]; omega)) (by first | exact Nat.le_of_ble_eq_true rfl | (dsimp only [gRm]; omega)) dX6_setWhen_2 (fun v9 h9 k9 n9 hp => by cases hp.1) (fun E9 h9 k9 n9 hp => ?_)
    obtain ⟨e9, rfl, rfl, rfl⟩ := hp
    cases e9
    exact gI_out hB hE (kPo.err1 hC o (by unfold mSetWhen; rw [if_neg (fun z9 => hp9 z9.1)]) (by omega) (by omega))

