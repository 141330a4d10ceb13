theorem mSetWhat_ok {u : MS} {T W z b : Nat} (o : mOk u T W z) {x y d w : Int32} (hx : mIn x (nI 0) (nI 5)) (hy : mTen u y) (hd : mIn d (nI 1) (nI 99)) : mOk (sa (sg u 0 (nI 0)) 1 (va_cpy (m4 x y d w) (u.2 1) 0 (9 * b + 4) 4)) T W z := by
  obtain ⟨x9, hx9, rfl⟩ := mIn_lit (m := 5) (by omega) hx
  obtain ⟨y9, hy9, rfl⟩ := mTen_of o.W hy
  obtain ⟨d9, hd9, rfl⟩ := mIn_lit (m := 99) (by omega) ⟨Int32.le_trans (by decide) hd.1, hd.2⟩
  have hd1 : 1 ≤ d9 := (nI_leI (by omega) (by omega)).mp hd.1
  refine o.tab rfl rfl rfl rfl (fun t ht ot => mOkT.cg rfl rfl rfl (fun j hj oh => ?_) ot) rfl rfl
  by_cases e : 8 * t + j = b
  · rw [e]
    refine ⟨⟨x9, by omega, ?_⟩, ⟨y9, hy9, ?_⟩, d9, by omega, by omega, ?_⟩
    · show va_cpy _ _ 0 (9 * b + 4) 4 (9 * b + 4) = _
      rw [pk_cpy_in (by omega) (by omega), show 0 + (9 * b + 4 - (9 * b + 4)) = 0 by omega]
      rfl
    · show va_cpy _ _ 0 (9 * b + 4) 4 (9 * b + 5) = _
      rw [pk_cpy_in (by omega) (by omega), show 0 + (9 * b + 5 - (9 * b + 4)) = 1 by omega]
      rfl
    · show va_cpy _ _ 0 (9 * b + 4) 4 (9 * b + 6) = _
      rw [pk_cpy_in (by omega) (by omega), show 0 + (9 * b + 6 - (9 * b + 4)) = 2 by omega]
      rfl
  · exact mOkH.cg (pk_cpy_out (by omega)) (pk_cpy_out (by omega)) (pk_cpy_out (by omega)) oh

set_option maxRecDepth 100000 in
set_option maxHeartbeats 4000000 in
theorem p_setWhat (G : gG) (h : gH) (c : Nat → Nat) (Λ : CL) (u : MS) (T W z : Nat) (hC : cRep G h c Λ u T W z) (o : mOk u T W z) (p q x y s v : Int32) : gMet yX6_setWhat wsX6_setWhat (gRm 5 1 6) G h [.ref (c 0), .int p, .int q, .int x, .int y, .int s, .int v] (kPo G h c (cPhi Λ) (mSetWhat u p q x y s v) "java/lang/IndexOutOfBoundsException" "java/lang/IllegalArgumentException" 1 6) := by
  refine gMet_of (maxL := 9) (ret := (some .int)) (by decide) rfl (Nat.le_of_ble_eq_true rfl) ?_
  intro X hG hnL hB hE
  subst hG
  change gW X h 0 0 0 [(0, .ref (c 0)), (1, .int p), (2, .int q), (3, .int x), (4, .int y), (5, .int s), (6, .int v)] []
  have hT := o.2.1
  have hW60 := o.2.2.2.1
  have hz200 := o.2.2.2.2.2.1
  have ez := o.2.2.2.2.1
  have eW := o.2.2.1
  have eT := o.1
  have hF : cFr h h := cFr.rf
  have m8 : ∀ t', t' < T → cLen Λ (4 + t') ≤ 8 := fun t' ht' => (hC.many o ht').1
  obtain ⟨md0, g0, hl0, -⟩ := hC.2.2.2.1 0 (by omega)
  by_cases hp9 : mTen u p
  · skip
    obtain ⟨t, ht, et⟩ := mTen_of o.W hp9
    subst et
    obtain ⟨mdt, gt, hlt, -⟩ := hC.2.2.2.1 (4 + t) (by omega)
    obtain ⟨hm8, emm⟩ := hC.many o ht
    have e3 := hC.2.2.2.2.1.2.2.2.2.2 t ht
    by_cases hq9 : mHab u (nI t) q
    · skip
      obtain ⟨j, hj, ej⟩ := mIn_of (m := cLen Λ (4 + t)) (by omega) (by have := hq9.2; rw [mCl (by omega), e3] at this; exact this)
      subst ej
      refine gI_aload_n hB 0 dX6_setWhat_0 rfl ?_
      refine gI_iload_n hB 1 dX6_setWhat_1 rfl ?_
      refine gI_pureV (n9 := 1) (As := [.int (nI t)]) (rest := []) hB (k_tenantAt X.2.1 h c Λ u T W z hC o t ht) (gCW.of ggX6_setWhat_X6_tenantAt rfl ⟨by decide, by decide, by decide +kernel⟩ ⟨Nat.le_of_ble_eq_true rfl, Nat.le_of_ble_eq_true rfl⟩) (by decide +kernel) (by decide +kernel) (by decide +kernel) (by decide +kernel) hC.1 (C := RX6) (T := TX6) (N := 9) rfl rfl rfl (Nat.le_of_ble_eq_true rfl) (by first | exact Nat.le_of_ble_eq_true rfl | (dsimp only [gRm]; omega)) (by first | exact Nat.le_of_ble_eq_true rfl | (dsimp only [gRm]; omega)) dX6_setWhat_2 ?_
      refine gI_iload_n hB 2 dX6_setWhat_5 rfl ?_
      refine gI_pureV (n9 := 1) (As := [.int (nI j)]) (rest := []) hB (k_habitAt X.2.1 h c Λ u T W z hC o t ht j hj) (gCW.of ggX6_setWhat_X4_habitAt rfl ⟨by decide, by decide, by decide +kernel⟩ ⟨Nat.le_of_ble_eq_true rfl, Nat.le_of_ble_eq_true rfl⟩) (by decide +kernel) (by decide +kernel) (by decide +kernel) (by decide +kernel) (hC.2.2.2.2.2.1 t ht) (C := RX4) (T := TX4) (N := 8) rfl rfl rfl (Nat.le_of_ble_eq_true rfl) (by first | exact Nat.le_of_ble_eq_true rfl | (dsimp only [gRm]; omega)) (by first | exact Nat.le_of_ble_eq_true rfl | (dsimp only [gRm]; omega)) dX6_setWhat_6 ?_
      refine gI_astore hB ([(7, .ref (cEl Λ (4 + t) j)), (0, .ref (c 0)), (1, .int (nI t)), (2, .int (nI j)), (3, .int x), (4, .int y), (5, .int s), (6, .int v)]) hnL dX6_setWhat_9 (by decide) rfl ?_
      refine gI_iload hB 5 dX6_setWhat_11 rfl ?_
      refine gI_iconst (v := nI 0) hB dX6_setWhat_13 (by decide) ?_
      refine gI_aload_n hB 1 dX6_setWhat_14 rfl ?_
      refine gI_get (v := .ref (cLa Λ 0)) hB 0 hC.1 (C := RX6) (T := TX6) (N := 9) rfl (by decide +kernel) (by decide) (by decide +kernel) (fun _ h9 => h9) rfl dX6_setWhat_15 ?_
      refine gI_pureV (n9 := 0) (As := []) (rest := [.int (nI 0), .int y]) hB (l_size X.2.1 h Λ 0 (hC.2.2.2.1 0 (by omega))) (gCW.of ggX6_setWhat_Jx4a65c_size_8abf5 rfl ⟨by decide, by decide, by decide +kernel⟩ ⟨Nat.le_of_ble_eq_true rfl, Nat.le_of_ble_eq_true rfl⟩) (by decide +kernel) (by decide +kernel) (by decide +kernel) (by decide +kernel) hl0 (C := RJx4a65c) (T := TJx4a65c) (N := 3) rfl rfl rfl (Nat.le_of_ble_eq_true rfl) (by first | exact Nat.le_of_ble_eq_true rfl | (dsimp only [gRm]; omega)) (by first | exact Nat.le_of_ble_eq_true rfl | (dsimp only [gRm]; omega)) dX6_setWhat_18 ?_
      refine gI_topi hB (y := nI T) (congrArg nI hC.2.2.2.2.1.1) ?_
      refine gI_iconst (v := nI 1) hB dX6_setWhat_21 (by decide) ?_
      refine gI_isub hB dX6_setWhat_22 ?_
      refine gI_pureS (n9 := 3) (As := [.int y, .int (nI 0), .int ((nI T) - (nI 1))]) (rest := []) hB (k_isOutside X.2.1 h y (nI 0) ((nI T) - (nI 1))) (gCW.of ggX6_setWhat_X6_isOutside rfl ⟨by decide, by decide, by decide +kernel⟩ ⟨Nat.le_of_ble_eq_true rfl, Nat.le_of_ble_eq_true rfl⟩) (Or.inl (by decide +kernel)) (by decide +kernel) (by decide +kernel) rfl rfl (Nat.le_of_ble_eq_true rfl) (by first | exact Nat.le_of_ble_eq_true rfl | (dsimp only [gRm]; omega)) (by first | exact Nat.le_of_ble_eq_true rfl | (dsimp only [gRm]; omega)) dX6_setWhat_23 ?_
      refine gI_if_eq hB 37 dX6_setWhat_26 (by decide) (fun c26_1 => ?_) (fun c26_1 => ?_)
      · skip
        have c26_1 := gbi_0.mp c26_1
        have hy9 : mTen u y := by unfold mTen; rw [eT]; exact Decidable.not_not.mp c26_1
        refine gI_iload_n hB 4 dX6_setWhat_37 rfl ?_
        refine gI_iconst (v := nI 0) hB dX6_setWhat_38 (by decide) ?_
        refine gI_iconst (v := nI 5) hB dX6_setWhat_39 (by decide) ?_
        refine gI_pureS (n9 := 3) (As := [.int x, .int (nI 0), .int (nI 5)]) (rest := []) hB (k_isOutside X.2.1 h x (nI 0) (nI 5)) (gCW.of ggX6_setWhat_X6_isOutside rfl ⟨by decide, by decide, by decide +kernel⟩ ⟨Nat.le_of_ble_eq_true rfl, Nat.le_of_ble_eq_true rfl⟩) (Or.inl (by decide +kernel)) (by decide +kernel) (by decide +kernel) rfl rfl (Nat.le_of_ble_eq_true rfl) (by first | exact Nat.le_of_ble_eq_true rfl | (dsimp only [gRm]; omega)) (by first | exact Nat.le_of_ble_eq_true rfl | (dsimp only [gRm]; omega)) dX6_setWhat_40 ?_
        refine gI_if_ne hB 69 dX6_setWhat_43 (by decide) (fun c43_2 => ?_) (fun c43_2 => ?_)
        · skip
          have c43_2 := gbi_n0 c43_2
          refine gI_throw hB hE (cls := "java/lang/IllegalArgumentException") (names := ["java/lang/RuntimeException", "java/lang/Exception"]) (ik := 45) (ic := 47) (by decide +kernel) (by decide +kernel) (by decide +kernel) (by decide +kernel) (by decide +kernel) (by decide +kernel) (by decide +kernel) dX6_setWhat_69 dX6_setWhat_72 dX6_setWhat_73 dX6_setWhat_76 (Nat.le_of_ble_eq_true rfl) (Nat.le_of_ble_eq_true rfl) (by first | exact Nat.le_of_ble_eq_true rfl | (dsimp only [gRm]; omega)) (by first | exact Nat.le_of_ble_eq_true rfl | (dsimp only [gRm]; omega)) ?_
          exact kPo.err2 hC o (by unfold mSetWhat; rw [if_pos ⟨hq9, hy9⟩, if_neg (fun z9 => c43_2 z9.1)]) (by omega) (by omega)
        · skip
          have c43_2 := gbi_0.mp c43_2
          refine gI_iload hB 6 dX6_setWhat_46 rfl ?_
          refine gI_iconst (v := nI 1) hB dX6_setWhat_48 (by decide) ?_
          refine gI_bipush (v := nI 99) hB dX6_setWhat_49 (by decide) ?_
          refine gI_pureS (n9 := 3) (As := [.int s, .int (nI 1), .int (nI 99)]) (rest := []) hB (k_isOutside X.2.1 h s (nI 1) (nI 99)) (gCW.of ggX6_setWhat_X6_isOutside rfl ⟨by decide, by decide, by decide +kernel⟩ ⟨Nat.le_of_ble_eq_true rfl, Nat.le_of_ble_eq_true rfl⟩) (Or.inl (by decide +kernel)) (by decide +kernel) (by decide +kernel) rfl rfl (Nat.le_of_ble_eq_true rfl) (by first | exact Nat.le_of_ble_eq_true rfl | (dsimp only [gRm]; omega)) (by first | exact Nat.le_of_ble_eq_true rfl | (dsimp only [gRm]; omega)) dX6_setWhat_51 ?_
          refine gI_if_ne hB 69 dX6_setWhat_54 (by decide) (fun c54_3 => ?_) (fun c54_3 => ?_)
          · skip
            have c54_3 := gbi_n0 c54_3
            refine gI_throw hB hE (cls := "java/lang/IllegalArgumentException") (names := ["java/lang/RuntimeException", "java/lang/Exception"]) (ik := 45) (ic := 47) (by decide +kernel) (by decide +kernel) (by decide +kernel) (by decide +kernel) (by decide +kernel) (by decide +kernel) (by decide +kernel) dX6_setWhat_69 dX6_setWhat_72 dX6_setWhat_73 dX6_setWhat_76 (Nat.le_of_ble_eq_true rfl) (Nat.le_of_ble_eq_true rfl) (by first | exact Nat.le_of_ble_eq_true rfl | (dsimp only [gRm]; omega)) (by first | exact Nat.le_of_ble_eq_true rfl | (dsimp only [gRm]; omega)) ?_
            exact kPo.err2 hC o (by unfold mSetWhat; rw [if_pos ⟨hq9, hy9⟩, if_neg (fun z9 => c54_3 z9.2.1)]) (by omega) (by omega)
          · skip
            have c54_3 := gbi_0.mp c54_3
            refine gI_iload hB 7 dX6_setWhat_57 rfl ?_
            refine gI_bipush (v := (-12)) hB dX6_setWhat_59 (by decide) ?_
            refine gI_bipush (v := nI 12) hB dX6_setWhat_61 (by decide) ?_
            refine gI_pureS (n9 := 3) (As := [.int v, .int (-12), .int (nI 12)]) (rest := []) hB (k_isOutside X.2.1 h v (-12) (nI 12)) (gCW.of ggX6_setWhat_X6_isOutside rfl ⟨by decide, by decide, by decide +kernel⟩ ⟨Nat.le_of_ble_eq_true rfl, Nat.le_of_ble_eq_true rfl⟩) (Or.inl (by decide +kernel)) (by decide +kernel) (by decide +kernel) rfl rfl (Nat.le_of_ble_eq_true rfl) (by first | exact Nat.le_of_ble_eq_true rfl | (dsimp only [gRm]; omega)) (by first | exact Nat.le_of_ble_eq_true rfl | (dsimp only [gRm]; omega)) dX6_setWhat_63 ?_
            refine gI_if_eq hB 77 dX6_setWhat_66 (by decide) (fun c66_4 => ?_) (fun c66_4 => ?_)
            · skip
              have c66_4 := gbi_0.mp c66_4
              refine gI_aload hB 0 dX6_setWhat_77 rfl ?_
              refine gI_get (v := .int (u.2 1 (9 * (8 * t + j) + 4))) hB 4 (hC.2.2.2.2.2.2.1 t j ht hj) (C := RX0) (T := TX0) (N := 9) rfl (by decide +kernel) (by decide) (by decide +kernel) (fun _ h9 => h9) rfl dX6_setWhat_79 ?_
              refine gI_istore hB ([(8, .int (u.2 1 (9 * (8 * t + j) + 4))), (7, .ref (cEl Λ (4 + t) j)), (0, .ref (c 0)), (1, .int (nI t)), (2, .int (nI j)), (3, .int x), (4, .int y), (5, .int s), (6, .int v)]) hnL dX6_setWhat_82 (by decide) rfl ?_
              refine gI_aload hB 1 dX6_setWhat_84 rfl ?_
              refine gI_iload_n hB 5 dX6_setWhat_86 rfl ?_
              refine gC_put hB 4 tyX0 tyX0_ok nmX0 (hC.2.2.2.2.2.2.1 t j ht hj) (C := RX0) (T := TX0) (N := 9) rfl (by decide +kernel) (by decide) (by decide +kernel) (fun _ h9 => h9) rfl rfl rfl (Nat.le_of_ble_eq_true rfl) dX6_setWhat_87 (fun h hN hK => ?_)
              have hF := hF.st (hC.2.2.2.2.2.2.1 t j ht hj) rfl hK
              have hC : cRep X.2.1 h c Λ (sa u 1 (upd (u.2 1) (9 * (8 * t + j) + 4) x)) T W z := hC.putHab (f := upd (u.2 1) (9 * (8 * t + j) + 4) x) m8 ht hj hK (by rw [← hFS_upd (by omega)]; exact hN) (fun a9 i9 h9 h8 => pk_un (by omega))
              refine gI_aload hB 1 dX6_setWhat_90 rfl ?_
              refine gI_iload hB 6 dX6_setWhat_92 rfl ?_
              refine gC_put hB 5 tyX0 tyX0_ok nmX0 (hC.2.2.2.2.2.2.1 t j ht hj) (C := RX0) (T := TX0) (N := 9) rfl (by decide +kernel) (by decide) (by decide +kernel) (fun _ h9 => h9) rfl rfl rfl (Nat.le_of_ble_eq_true rfl) dX6_setWhat_94 (fun h hN hK => ?_)
              have hF := hF.st (hC.2.2.2.2.2.2.1 t j ht hj) rfl hK
              have hC : cRep X.2.1 h c Λ (sa (sa u 1 (upd (u.2 1) (9 * (8 * t + j) + 4) x)) 1 (upd ((sa u 1 (upd (u.2 1) (9 * (8 * t + j) + 4) x)).2 1) (9 * (8 * t + j) + 5) y)) T W z := hC.putHab (f := upd ((sa u 1 (upd (u.2 1) (9 * (8 * t + j) + 4) x)).2 1) (9 * (8 * t + j) + 5) y) m8 ht hj hK (by rw [← hFS_upd (by omega)]; exact hN) (fun a9 i9 h9 h8 => pk_un (by omega))
              refine gI_aload hB 1 dX6_setWhat_97 rfl ?_
              refine gI_iload hB 7 dX6_setWhat_99 rfl ?_
              refine gC_put hB 6 tyX0 tyX0_ok nmX0 (hC.2.2.2.2.2.2.1 t j ht hj) (C := RX0) (T := TX0) (N := 9) rfl (by decide +kernel) (by decide) (by decide +kernel) (fun _ h9 => h9) rfl rfl rfl (Nat.le_of_ble_eq_true rfl) dX6_setWhat_101 (fun h hN hK => ?_)
              have hF := hF.st (hC.2.2.2.2.2.2.1 t j ht hj) rfl hK
              have hC : cRep X.2.1 h c Λ (sa (sa (sa u 1 (upd (u.2 1) (9 * (8 * t + j) + 4) x)) 1 (upd ((sa u 1 (upd (u.2 1) (9 * (8 * t + j) + 4) x)).2 1) (9 * (8 * t + j) + 5) y)) 1 (upd ((sa (sa u 1 (upd (u.2 1) (9 * (8 * t + j) + 4) x)) 1 (upd ((sa u 1 (upd (u.2 1) (9 * (8 * t + j) + 4) x)).2 1) (9 * (8 * t + j) + 5) y)).2 1) (9 * (8 * t + j) + 6) s)) T W z := hC.putHab (f := upd ((sa (sa u 1 (upd (u.2 1) (9 * (8 * t + j) + 4) x)) 1 (upd ((sa u 1 (upd (u.2 1) (9 * (8 * t + j) + 4) x)).2 1) (9 * (8 * t + j) + 5) y)).2 1) (9 * (8 * t + j) + 6) s) m8 ht hj hK (by rw [← hFS_upd (by omega)]; exact hN) (fun a9 i9 h9 h8 => pk_un (by omega))
              refine gI_aload hB 1 dX6_setWhat_104 rfl ?_
              refine gI_iload hB 8 dX6_setWhat_106 rfl ?_
              refine gC_put hB 7 tyX0 tyX0_ok nmX0 (hC.2.2.2.2.2.2.1 t j ht hj) (C := RX0) (T := TX0) (N := 9) rfl (by decide +kernel) (by decide) (by decide +kernel) (fun _ h9 => h9) rfl rfl rfl (Nat.le_of_ble_eq_true rfl) dX6_setWhat_108 (fun h hN hK => ?_)
              have hF := hF.st (hC.2.2.2.2.2.2.1 t j ht hj) rfl hK
              have hC : cRep X.2.1 h c Λ (sa (sa (sa (sa u 1 (upd (u.2 1) (9 * (8 * t + j) + 4) x)) 1 (upd ((sa u 1 (upd (u.2 1) (9 * (8 * t + j) + 4) x)).2 1) (9 * (8 * t + j) + 5) y)) 1 (upd ((sa (sa u 1 (upd (u.2 1) (9 * (8 * t + j) + 4) x)) 1 (upd ((sa u 1 (upd (u.2 1) (9 * (8 * t + j) + 4) x)).2 1) (9 * (8 * t + j) + 5) y)).2 1) (9 * (8 * t + j) + 6) s)) 1 (upd ((sa (sa (sa u 1 (upd (u.2 1) (9 * (8 * t + j) + 4) x)) 1 (upd ((sa u 1 (upd (u.2 1) (9 * (8 * t + j) + 4) x)).2 1) (9 * (8 * t + j) + 5) y)) 1 (upd ((sa (sa u 1 (upd (u.2 1) (9 * (8 * t + j) + 4) x)) 1 (upd ((sa u 1 (upd (u.2 1) (9 * (8 * t + j) + 4) x)).2 1) (9 * (8 * t + j) + 5) y)).2 1) (9 * (8 * t + j) + 6) s)).2 1) (9 * (8 * t + j) + 7) v)) T W z := hC.putHab (f := upd ((sa (sa (sa u 1 (upd (u.2 1) (9 * (8 * t + j) + 4) x)) 1 (upd ((sa u 1 (upd (u.2 1) (9 * (8 * t + j) + 4) x)).2 1) (9 * (8 * t + j) + 5) y)) 1 (upd ((sa (sa u 1 (upd (u.2 1) (9 * (8 * t + j) + 4) x)) 1 (upd ((sa u 1 (upd (u.2 1) (9 * (8 * t + j) + 4) x)).2 1) (9 * (8 * t + j) + 5) y)).2 1) (9 * (8 * t + j) + 6) s)).2 1) (9 * (8 * t + j) + 7) v) m8 ht hj hK (by rw [← hFS_upd (by omega)]; exact hN) (fun a9 i9 h9 h8 => pk_un (by omega))
              refine gI_iload hB 0 dX6_setWhat_111 rfl ?_
              refine gI_iret hB hE dX6_setWhat_113 ?_
              have es : mSetWhat u (nI t) (nI j) x y s v = (sa (sg u 0 (nI 0)) 1 (va_cpy (m4 x y s v) (u.2 1) 0 (9 * (8 * t + j) + 4) 4), u.2 1 (9 * (8 * t + j) + 4)) := by
                unfold mSetWhat; rw [if_pos ⟨hq9, hy9⟩, if_pos ⟨Decidable.not_not.mp c43_2, Decidable.not_not.mp c54_3, Decidable.not_not.mp c66_4⟩, mJ_of (by omega) (by omega)]
              refine kPo.wr hC hF (by rw [es]) (by rw [es]; exact mSetWhat_ok o (Decidable.not_not.mp c43_2) hy9 (Decidable.not_not.mp c54_3)) (by rw [es]; rfl) (fun q9 => by rw [es, cpy4]; exact q9.cg rfl rfl rfl rfl rfl rfl rfl (fun _ _ _ _ => rfl) (fun _ _ => rfl) rfl (fun _ _ _ _ => rfl) rfl o.ring4) rfl (by omega) (by omega)
            · skip
              have c66_4 := gbi_n0 c66_4
              refine gI_throw hB hE (cls := "java/lang/IllegalArgumentException") (names := ["java/lang/RuntimeException", "java/lang/Exception"]) (ik := 45) (ic := 47) (by decide +kernel) (by decide +kernel) (by decide +kernel) (by decide +kernel) (by decide +kernel) (by decide +kernel) (by decide +kernel) dX6_setWhat_69 dX6_setWhat_72 dX6_setWhat_73 dX6_setWhat_76 (Nat.le_of_ble_eq_true rfl) (Nat.le_of_ble_eq_true rfl) (by first | exact Nat.le_of_ble_eq_true rfl | (dsimp only [gRm]; omega)) (by first | exact Nat.le_of_ble_eq_true rfl | (dsimp only [gRm]; omega)) ?_
              exact kPo.err2 hC o (by unfold mSetWhat; rw [if_pos ⟨hq9, hy9⟩, if_neg (fun z9 => c66_4 z9.2.2)]) (by omega) (by omega)
      · skip
        have c26_1 := gbi_n0 c26_1
        refine gI_throw hB hE (cls := "java/lang/IndexOutOfBoundsException") (names := ["java/lang/RuntimeException", "java/lang/Exception"]) (ik := 92) (ic := 94) (by decide +kernel) (by decide +kernel) (by decide +kernel) (by decide +kernel) (by decide +kernel) (by decide +kernel) (by decide +kernel) dX6_setWhat_29 dX6_setWhat_32 dX6_setWhat_33 dX6_setWhat_36 (Nat.le_of_ble_eq_true rfl) (Nat.le_of_ble_eq_true rfl) (by first | exact Nat.le_of_ble_eq_true rfl | (dsimp only [gRm]; omega)) (by first | exact Nat.le_of_ble_eq_true rfl | (dsimp only [gRm]; omega)) ?_
        exact kPo.err1 hC o (by unfold mSetWhat; rw [if_neg (fun z9 => c26_1 (by have := z9.2; unfold mTen at this; rw [eT] at this; exact this))]) (by omega) (by omega)
    · skip
      refine gI_aload_n hB 0 dX6_setWhat_0 rfl ?_
      refine gI_iload_n hB 1 dX6_setWhat_1 rfl ?_
      refine gI_pureV (n9 := 1) (As := [.int (nI t)]) (rest := []) hB (k_tenantAt X.2.1 h c Λ u T W z hC o t ht) (gCW.of ggX6_setWhat_X6_tenantAt rfl ⟨by decide, by decide, by decide +kernel⟩ ⟨Nat.le_of_ble_eq_true rfl, Nat.le_of_ble_eq_true rfl⟩) (by decide +kernel) (by decide +kernel) (by decide +kernel) (by decide +kernel) hC.1 (C := RX6) (T := TX6) (N := 9) rfl rfl rfl (Nat.le_of_ble_eq_true rfl) (by first | exact Nat.le_of_ble_eq_true rfl | (dsimp only [gRm]; omega)) (by first | exact Nat.le_of_ble_eq_true rfl | (dsimp only [gRm]; omega)) dX6_setWhat_2 ?_
      refine gI_iload_n hB 2 dX6_setWhat_5 rfl ?_
      refine gI_callV (n9 := 1) (As := [.int q]) (rest := []) hB (k_habitAtNo X.2.1 h c Λ u T W z hC o t ht q (fun z9 => hq9 ⟨hp9, by rw [mCl (by omega), e3]; exact z9⟩)) (gCW.of ggX6_setWhat_X4_habitAt rfl ⟨by decide, by decide, by decide +kernel⟩ ⟨Nat.le_of_ble_eq_true rfl, Nat.le_of_ble_eq_true rfl⟩) (by decide +kernel) (by decide +kernel) (by decide +kernel) (by decide +kernel) (hC.2.2.2.2.2.1 t ht) (C := RX4) (T := TX4) (N := 8) rfl rfl rfl (Nat.le_of_ble_eq_true rfl) (by first | exact Nat.le_of_ble_eq_true rfl | (dsimp only [gRm]; omega)) (by first | exact Nat.le_of_ble_eq_true rfl | (dsimp only [gRm]; omega)) dX6_setWhat_6 (fun v9 h9 k9 n9 hp => by cases hp.1) (fun E9 h9 k9 n9 hp => ?_)
      obtain ⟨e9, rfl, rfl, rfl⟩ := hp
      cases e9
      exact gI_out hB hE (kPo.err1 hC o (by unfold mSetWhat; rw [if_neg (fun z9 => hq9 z9.1)]) (by omega) (by omega))
  · skip
    refine gI_aload_n hB 0 dX6_setWhat_0 rfl ?_
    refine gI_iload_n hB 1 dX6_setWhat_1 rfl ?_
    refine gI_callV (n9 := 1) (As := [.int p]) (rest := []) hB (k_tenantAtNo X.2.1 h c Λ u T W z hC o p (by unfold mTen at hp9; rw [eT] at hp9; exact hp9)) (gCW.of ggX6_setWhat_X6_tenantAt rfl ⟨by decide, by decide, by decide +kernel⟩ ⟨Nat.le_of_ble_eq_true rfl, Nat.le_of_ble_eq_true rfl⟩) (by decide +kernel) (by decide +kernel) (by decide +kernel) (by decide +kernel) hC.1 (C := RX6) (T := TX6) (N := 9) rfl rfl rfl (Nat.le_of_ble_eq_true rfl) (by first | exact Nat.le_of_ble_eq_true rfl | (dsimp only [gRm]; omega)) (by first | exact Nat.le_of_ble_eq_true rfl | (dsimp only [gRm]; omega)) dX6_setWhat_2 (fun v9 h9 k9 n9 hp => by cases hp.1) (fun E9 h9 k9 n9 hp => ?_)
    obtain ⟨e9, rfl, rfl, rfl⟩ := hp
    cases e9
    exact gI_out hB hE (kPo.err1 hC o (by unfold mSetWhat; rw [if_neg (fun z9 => hp9 z9.1.1)]) (by omega) (by omega))

