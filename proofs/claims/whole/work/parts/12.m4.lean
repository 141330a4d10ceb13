theorem gbi_cg {p q : Prop} [Decidable p] [Decidable q] (h : p ↔ q) : gbi p = gbi q := by
  by_cases hp : p
  · rw [gbi_t hp, gbi_t (h.mp hp)]
  · rw [gbi_f hp, gbi_f (fun z => hp (h.mpr z))]
abbrev mHr (f t x : Int32) : Prop := (f ≤ t ∧ mIn x f t) ∨ (¬ f ≤ t ∧ (f ≤ x ∨ x ≤ t))
abbrev mFits (u : MS) (t j : Nat) (sort hour : Int32) : Prop :=
  mHr (u.2 1 (9 * (8 * t + j) + 0)) (u.2 1 (9 * (8 * t + j) + 1)) hour ∧ (u.2 1 (9 * (8 * t + j) + 2) = nI 2 ∨ u.2 1 (9 * (8 * t + j) + 2) = sort) ∧ u.2 1 (9 * (8 * t + j) + 3) ≤ u.2 0 (7 * t + 2)
def mFitL (u : MS) (t : Nat) (sort hour : Int32) : Nat → Nat → Int32
  | 0, _ => -1
  | r + 1, j => if mFits u t j sort hour then nI j else mFitL u t sort hour r (j + 1)
def mFit (u : MS) (t : Nat) (sort hour : Int32) : Int32 := mFitL u t sort hour (mMany u t) 0

set_option maxRecDepth 100000 in
set_option maxHeartbeats 4000000 in
theorem c_fitting (G : gG) (h : gH) (a : Nat → Nat) (u : MS) (T : Nat) (hM : mRep G h a u) (hw : mW u T) (t : Nat) (sort hour : Int32) (ht : t < T) : gMet yX7_fitting wsX7_fitting (gRm 2 0 0) G h [.ref (a 0), .int (nI t), .int sort, .int hour] (gRet h (some (.int (mFit u t sort hour)))) := by
  refine gMet_of (maxL := 9) (ret := (some .int)) (by decide) rfl (Nat.le_of_ble_eq_true rfl) ?_
  intro X hG hnL hB hE
  subst hG
  change gW X h 0 0 0 [(0, .ref (a 0)), (1, .int (nI t)), (2, .int sort), (3, .int hour)] []
  have hT := hw.2.1
  obtain ⟨m, hm8, em⟩ := hw.2.2 t ht
  refine gI_iconst (v := nI 0) hB dX7_fitting_0 (by decide) ?_
  refine gI_istore hB ([(4, .int (nI 0)), (0, .ref (a 0)), (1, .int (nI t)), (2, .int sort), (3, .int hour)]) hnL dX7_fitting_1 (by decide) rfl ?_
  have lp : ∀ (r_lp : Nat) (i : Nat), m + 1 ≤ i + r_lp → i ≤ m → mFitL u t sort hour (m - i) i = mFit u t sort hour → gW X h 0 0 3 [(4, .int (nI i)), (0, .ref (a 0)), (1, .int (nI t)), (2, .int sort), (3, .int hour)] [] := by
    intro r_lp
    induction r_lp with
    | zero => intro i hfu hi hinv; exact absurd hfu (by omega)
    | succ r_lp ih_lp =>
      intro i hfu hi hinv
      refine gI_iload hB 0 dX7_fitting_3 rfl ?_
      refine gI_aload_n hB 1 dX7_fitting_5 rfl ?_
      refine gI_iload_n hB 2 dX7_fitting_6 rfl ?_
      refine gI_iconst (v := nI 3) hB dX7_fitting_7 (by decide) ?_
      refine gM_pure (n9 := 2) (As := [.int (nI t), .int (nI 3)]) (rest := [.int (nI i)]) hB hM (c_get X.2.1 h a u hM t 3 (by omega) (by omega)) (gCW.of ggX7_fitting_X7_get rfl ⟨by decide, by decide, by decide +kernel⟩ ⟨Nat.le_of_ble_eq_true rfl, Nat.le_of_ble_eq_true rfl⟩) (by decide +kernel) (by decide +kernel) (by decide +kernel) (by decide +kernel) rfl rfl (Nat.le_of_ble_eq_true rfl) (by first | exact Nat.le_of_ble_eq_true rfl | (dsimp only [gRm]; omega)) (by first | exact Nat.le_of_ble_eq_true rfl | (dsimp only [gRm]; omega)) dX7_fitting_8 ?_
      refine gI_topi hB (y := nI m) em ?_
      refine gI_icmp_ge hB 144 dX7_fitting_11 (by decide) (fun c11_1 => ?_) (fun c11_1 => ?_)
      · skip
        have c11_1 := (nI_leI (by omega) (by omega)).mp c11_1
        refine gI_iconst (v := (-1)) hB dX7_fitting_144 (by decide) ?_
        refine gI_iret hB hE dX7_fitting_145 ?_
        exact ⟨by rw [← hinv, show m - i = 0 by omega]; rfl, rfl, rfl, rfl⟩
      · skip
        have c11_1 := mt (nI_leI (by omega) (by omega)).mpr c11_1
        refine gI_aload_n hB 1 dX7_fitting_14 rfl ?_
        refine gM_get hB hM 5 (v := .ref (a 2)) (by decide +kernel) (by decide) (by decide +kernel) rfl rfl dX7_fitting_15 ?_
        refine gI_iload_n hB 2 dX7_fitting_18 rfl ?_
        refine gI_iload hB 0 dX7_fitting_19 rfl ?_
        refine gI_pureS (n9 := 2) (As := [.int (nI t), .int (nI i)]) (rest := [.ref (a 2)]) hB (c_at X.2.1 h t i) (gCW.of ggX7_fitting_X7_at rfl ⟨by decide, by decide, by decide +kernel⟩ ⟨Nat.le_of_ble_eq_true rfl, Nat.le_of_ble_eq_true rfl⟩) (Or.inl (by decide +kernel)) (by decide +kernel) (by decide +kernel) rfl rfl (Nat.le_of_ble_eq_true rfl) (by first | exact Nat.le_of_ble_eq_true rfl | (dsimp only [gRm]; omega)) (by first | exact Nat.le_of_ble_eq_true rfl | (dsimp only [gRm]; omega)) dX7_fitting_21 ?_
        refine gI_iconst (v := nI 0) hB dX7_fitting_24 (by decide) ?_
        refine gI_iaddN hB dX7_fitting_25 ?_
        refine gM_ald hB hM 1 (by decide) ((9 * (8 * t + i)) + 0) rfl (show (9 * (8 * t + i)) + 0 < 1152 by omega) dX7_fitting_26 ?_
        refine gI_istore hB ([(5, .int (u.2 1 ((9 * (8 * t + i)) + 0))), (4, .int (nI i)), (0, .ref (a 0)), (1, .int (nI t)), (2, .int sort), (3, .int hour)]) hnL dX7_fitting_27 (by decide) rfl ?_
        refine gI_aload_n hB 2 dX7_fitting_29 rfl ?_
        refine gM_get hB hM 5 (v := .ref (a 2)) (by decide +kernel) (by decide) (by decide +kernel) rfl rfl dX7_fitting_30 ?_
        refine gI_iload_n hB 3 dX7_fitting_33 rfl ?_
        refine gI_iload hB 1 dX7_fitting_34 rfl ?_
        refine gI_pureS (n9 := 2) (As := [.int (nI t), .int (nI i)]) (rest := [.ref (a 2)]) hB (c_at X.2.1 h t i) (gCW.of ggX7_fitting_X7_at rfl ⟨by decide, by decide, by decide +kernel⟩ ⟨Nat.le_of_ble_eq_true rfl, Nat.le_of_ble_eq_true rfl⟩) (Or.inl (by decide +kernel)) (by decide +kernel) (by decide +kernel) rfl rfl (Nat.le_of_ble_eq_true rfl) (by first | exact Nat.le_of_ble_eq_true rfl | (dsimp only [gRm]; omega)) (by first | exact Nat.le_of_ble_eq_true rfl | (dsimp only [gRm]; omega)) dX7_fitting_36 ?_
        refine gI_iconst (v := nI 1) hB dX7_fitting_39 (by decide) ?_
        refine gI_iaddN hB dX7_fitting_40 ?_
        refine gM_ald hB hM 1 (by decide) ((9 * (8 * t + i)) + 1) rfl (show (9 * (8 * t + i)) + 1 < 1152 by omega) dX7_fitting_41 ?_
        refine gI_istore hB ([(6, .int (u.2 1 ((9 * (8 * t + i)) + 1))), (5, .int (u.2 1 ((9 * (8 * t + i)) + 0))), (4, .int (nI i)), (0, .ref (a 0)), (1, .int (nI t)), (2, .int sort), (3, .int hour)]) hnL dX7_fitting_42 (by decide) rfl ?_
        refine gI_iload hB 1 dX7_fitting_44 rfl ?_
        refine gI_iload hB 0 dX7_fitting_46 rfl ?_
        refine gI_icmp_gt hB 62 dX7_fitting_48 (by decide) (fun c48_2 => ?_) (fun c48_2 => ?_)
        · skip
          refine gI_iload_n hB 6 dX7_fitting_62 rfl ?_
          refine gI_iload hB 1 dX7_fitting_63 rfl ?_
          refine gI_icmp_ge hB 74 dX7_fitting_65 (by decide) (fun c65_3 => ?_) (fun c65_3 => ?_)
          · skip
            refine gI_iconst (v := nI 1) hB dX7_fitting_74 (by decide) ?_
            refine gI_goto hB 79 dX7_fitting_75 (by decide) ?_
            refine gI_topi hB (y := gbi (mHr (u.2 1 (9 * (8 * t + i) + 0)) (u.2 1 (9 * (8 * t + i) + 1)) hour)) (gbi_t (Or.inr ⟨Int32.not_le.mpr c48_2, Or.inl c65_3⟩)).symm ?_
            refine gI_istore hB ([(7, .int (gbi (mHr (u.2 1 (9 * (8 * t + i) + 0)) (u.2 1 (9 * (8 * t + i) + 1)) hour))), (6, .int (u.2 1 ((9 * (8 * t + i)) + 1))), (5, .int (u.2 1 ((9 * (8 * t + i)) + 0))), (4, .int (nI i)), (0, .ref (a 0)), (1, .int (nI t)), (2, .int sort), (3, .int hour)]) hnL dX7_fitting_79 (by decide) rfl ?_
            refine gI_aload_n hB 4 dX7_fitting_81 rfl ?_
            refine gM_get hB hM 5 (v := .ref (a 2)) (by decide +kernel) (by decide) (by decide +kernel) rfl rfl dX7_fitting_82 ?_
            refine gI_iload_n hB 5 dX7_fitting_85 rfl ?_
            refine gI_iload hB 3 dX7_fitting_86 rfl ?_
            refine gI_pureS (n9 := 2) (As := [.int (nI t), .int (nI i)]) (rest := [.ref (a 2)]) hB (c_at X.2.1 h t i) (gCW.of ggX7_fitting_X7_at rfl ⟨by decide, by decide, by decide +kernel⟩ ⟨Nat.le_of_ble_eq_true rfl, Nat.le_of_ble_eq_true rfl⟩) (Or.inl (by decide +kernel)) (by decide +kernel) (by decide +kernel) rfl rfl (Nat.le_of_ble_eq_true rfl) (by first | exact Nat.le_of_ble_eq_true rfl | (dsimp only [gRm]; omega)) (by first | exact Nat.le_of_ble_eq_true rfl | (dsimp only [gRm]; omega)) dX7_fitting_88 ?_
            refine gI_iconst (v := nI 2) hB dX7_fitting_91 (by decide) ?_
            refine gI_iaddN hB dX7_fitting_92 ?_
            refine gM_ald hB hM 1 (by decide) ((9 * (8 * t + i)) + 2) rfl (show (9 * (8 * t + i)) + 2 < 1152 by omega) dX7_fitting_93 ?_
            refine gI_istore hB ([(8, .int (u.2 1 ((9 * (8 * t + i)) + 2))), (7, .int (gbi (mHr (u.2 1 (9 * (8 * t + i) + 0)) (u.2 1 (9 * (8 * t + i) + 1)) hour))), (6, .int (u.2 1 ((9 * (8 * t + i)) + 1))), (5, .int (u.2 1 ((9 * (8 * t + i)) + 0))), (4, .int (nI i)), (0, .ref (a 0)), (1, .int (nI t)), (2, .int sort), (3, .int hour)]) hnL dX7_fitting_94 (by decide) rfl ?_
            refine gI_iload hB 1 dX7_fitting_96 rfl ?_
            refine gI_if_eq hB 138 dX7_fitting_98 (by decide) (fun c98_4 => ?_) (fun c98_4 => ?_)
            · skip
              have c98_4 := gbi_0.mp c98_4
              refine gI_iinc hB 4 ([(4, .int (nI (i + 1))), (8, .int (u.2 1 ((9 * (8 * t + i)) + 2))), (7, .int (gbi (mHr (u.2 1 (9 * (8 * t + i) + 0)) (u.2 1 (9 * (8 * t + i) + 1)) hour))), (6, .int (u.2 1 ((9 * (8 * t + i)) + 1))), (5, .int (u.2 1 ((9 * (8 * t + i)) + 0))), (0, .ref (a 0)), (1, .int (nI t)), (2, .int sort), (3, .int hour)]) hnL dX7_fitting_138 rfl (nI_1 (i)) (by decide) rfl ?_
              refine gI_goto hB 3 dX7_fitting_141 (by decide) ?_
              refine gI_loc [0, 5, 6, 7, 8] rfl ?_
              exact ih_lp (i + 1) (by omega) (by omega) (by rw [show m - i = (m - (i + 1)) + 1 by omega, mFitL, if_neg (fun z => c98_4 z.1)] at hinv; exact hinv)
            · skip
              have c98_4 := gbi_n0 c98_4
              refine gI_iload hB 0 dX7_fitting_101 rfl ?_
              refine gI_iconst (v := nI 2) hB dX7_fitting_103 (by decide) ?_
              refine gI_icmp_eq hB 113 dX7_fitting_104 (by decide) (fun c104_5 => ?_) (fun c104_5 => ?_)
              · skip
                refine gI_aload_n hB 5 dX7_fitting_113 rfl ?_
                refine gI_iload_n hB 6 dX7_fitting_114 rfl ?_
                refine gI_iconst (v := nI 2) hB dX7_fitting_115 (by decide) ?_
                refine gM_pure (n9 := 2) (As := [.int (nI t), .int (nI 2)]) (rest := []) hB hM (c_get X.2.1 h a u hM t 2 (by omega) (by omega)) (gCW.of ggX7_fitting_X7_get rfl ⟨by decide, by decide, by decide +kernel⟩ ⟨Nat.le_of_ble_eq_true rfl, Nat.le_of_ble_eq_true rfl⟩) (by decide +kernel) (by decide +kernel) (by decide +kernel) (by decide +kernel) rfl rfl (Nat.le_of_ble_eq_true rfl) (by first | exact Nat.le_of_ble_eq_true rfl | (dsimp only [gRm]; omega)) (by first | exact Nat.le_of_ble_eq_true rfl | (dsimp only [gRm]; omega)) dX7_fitting_116 ?_
                refine gI_aload_n hB 5 dX7_fitting_119 rfl ?_
                refine gM_get hB hM 5 (v := .ref (a 2)) (by decide +kernel) (by decide) (by decide +kernel) rfl rfl dX7_fitting_120 ?_
                refine gI_iload_n hB 6 dX7_fitting_123 rfl ?_
                refine gI_iload hB 4 dX7_fitting_124 rfl ?_
                refine gI_pureS (n9 := 2) (As := [.int (nI t), .int (nI i)]) (rest := [.ref (a 2), .int (u.2 0 (7 * t + 2))]) hB (c_at X.2.1 h t i) (gCW.of ggX7_fitting_X7_at rfl ⟨by decide, by decide, by decide +kernel⟩ ⟨Nat.le_of_ble_eq_true rfl, Nat.le_of_ble_eq_true rfl⟩) (Or.inl (by decide +kernel)) (by decide +kernel) (by decide +kernel) rfl rfl (Nat.le_of_ble_eq_true rfl) (by first | exact Nat.le_of_ble_eq_true rfl | (dsimp only [gRm]; omega)) (by first | exact Nat.le_of_ble_eq_true rfl | (dsimp only [gRm]; omega)) dX7_fitting_126 ?_
                refine gI_iconst (v := nI 3) hB dX7_fitting_129 (by decide) ?_
                refine gI_iaddN hB dX7_fitting_130 ?_
                refine gM_ald hB hM 1 (by decide) ((9 * (8 * t + i)) + 3) rfl (show (9 * (8 * t + i)) + 3 < 1152 by omega) dX7_fitting_131 ?_
                refine gI_icmp_lt hB 138 dX7_fitting_132 (by decide) (fun c132_6 => ?_) (fun c132_6 => ?_)
                · skip
                  refine gI_iinc hB 4 ([(4, .int (nI (i + 1))), (8, .int (u.2 1 ((9 * (8 * t + i)) + 2))), (7, .int (gbi (mHr (u.2 1 (9 * (8 * t + i) + 0)) (u.2 1 (9 * (8 * t + i) + 1)) hour))), (6, .int (u.2 1 ((9 * (8 * t + i)) + 1))), (5, .int (u.2 1 ((9 * (8 * t + i)) + 0))), (0, .ref (a 0)), (1, .int (nI t)), (2, .int sort), (3, .int hour)]) hnL dX7_fitting_138 rfl (nI_1 (i)) (by decide) rfl ?_
                  refine gI_goto hB 3 dX7_fitting_141 (by decide) ?_
                  refine gI_loc [0, 5, 6, 7, 8] rfl ?_
                  exact ih_lp (i + 1) (by omega) (by omega) (by rw [show m - i = (m - (i + 1)) + 1 by omega, mFitL, if_neg (fun z => absurd c132_6 (Int32.not_lt.mpr z.2.2))] at hinv; exact hinv)
                · skip
                  refine gI_iload hB 4 dX7_fitting_135 rfl ?_
                  refine gI_iret hB hE dX7_fitting_137 ?_
                  exact ⟨by rw [← hinv, show m - i = (m - (i + 1)) + 1 by omega, mFitL, if_pos ⟨c98_4, Or.inl c104_5, Int32.not_lt.mp c132_6⟩], rfl, rfl, rfl⟩
              · skip
                refine gI_iload hB 0 dX7_fitting_107 rfl ?_
                refine gI_iload_n hB 7 dX7_fitting_109 rfl ?_
                refine gI_icmp_ne hB 138 dX7_fitting_110 (by decide) (fun c110_7 => ?_) (fun c110_7 => ?_)
                · skip
                  refine gI_iinc hB 4 ([(4, .int (nI (i + 1))), (8, .int (u.2 1 ((9 * (8 * t + i)) + 2))), (7, .int (gbi (mHr (u.2 1 (9 * (8 * t + i) + 0)) (u.2 1 (9 * (8 * t + i) + 1)) hour))), (6, .int (u.2 1 ((9 * (8 * t + i)) + 1))), (5, .int (u.2 1 ((9 * (8 * t + i)) + 0))), (0, .ref (a 0)), (1, .int (nI t)), (2, .int sort), (3, .int hour)]) hnL dX7_fitting_138 rfl (nI_1 (i)) (by decide) rfl ?_
                  refine gI_goto hB 3 dX7_fitting_141 (by decide) ?_
                  refine gI_loc [0, 5, 6, 7, 8] rfl ?_
                  exact ih_lp (i + 1) (by omega) (by omega) (by rw [show m - i = (m - (i + 1)) + 1 by omega, mFitL, if_neg (fun z => z.2.1.elim (fun y => c104_5 y) (fun y => c110_7 y))] at hinv; exact hinv)
                · skip
                  refine gI_aload_n hB 5 dX7_fitting_113 rfl ?_
                  refine gI_iload_n hB 6 dX7_fitting_114 rfl ?_
                  refine gI_iconst (v := nI 2) hB dX7_fitting_115 (by decide) ?_
                  refine gM_pure (n9 := 2) (As := [.int (nI t), .int (nI 2)]) (rest := []) hB hM (c_get X.2.1 h a u hM t 2 (by omega) (by omega)) (gCW.of ggX7_fitting_X7_get rfl ⟨by decide, by decide, by decide +kernel⟩ ⟨Nat.le_of_ble_eq_true rfl, Nat.le_of_ble_eq_true rfl⟩) (by decide +kernel) (by decide +kernel) (by decide +kernel) (by decide +kernel) rfl rfl (Nat.le_of_ble_eq_true rfl) (by first | exact Nat.le_of_ble_eq_true rfl | (dsimp only [gRm]; omega)) (by first | exact Nat.le_of_ble_eq_true rfl | (dsimp only [gRm]; omega)) dX7_fitting_116 ?_
                  refine gI_aload_n hB 5 dX7_fitting_119 rfl ?_
                  refine gM_get hB hM 5 (v := .ref (a 2)) (by decide +kernel) (by decide) (by decide +kernel) rfl rfl dX7_fitting_120 ?_
                  refine gI_iload_n hB 6 dX7_fitting_123 rfl ?_
                  refine gI_iload hB 4 dX7_fitting_124 rfl ?_
                  refine gI_pureS (n9 := 2) (As := [.int (nI t), .int (nI i)]) (rest := [.ref (a 2), .int (u.2 0 (7 * t + 2))]) hB (c_at X.2.1 h t i) (gCW.of ggX7_fitting_X7_at rfl ⟨by decide, by decide, by decide +kernel⟩ ⟨Nat.le_of_ble_eq_true rfl, Nat.le_of_ble_eq_true rfl⟩) (Or.inl (by decide +kernel)) (by decide +kernel) (by decide +kernel) rfl rfl (Nat.le_of_ble_eq_true rfl) (by first | exact Nat.le_of_ble_eq_true rfl | (dsimp only [gRm]; omega)) (by first | exact Nat.le_of_ble_eq_true rfl | (dsimp only [gRm]; omega)) dX7_fitting_126 ?_
                  refine gI_iconst (v := nI 3) hB dX7_fitting_129 (by decide) ?_
                  refine gI_iaddN hB dX7_fitting_130 ?_
                  refine gM_ald hB hM 1 (by decide) ((9 * (8 * t + i)) + 3) rfl (show (9 * (8 * t + i)) + 3 < 1152 by omega) dX7_fitting_131 ?_
                  refine gI_icmp_lt hB 138 dX7_fitting_132 (by decide) (fun c132_8 => ?_) (fun c132_8 => ?_)
                  · skip
                    refine gI_iinc hB 4 ([(4, .int (nI (i + 1))), (8, .int (u.2 1 ((9 * (8 * t + i)) + 2))), (7, .int (gbi (mHr (u.2 1 (9 * (8 * t + i) + 0)) (u.2 1 (9 * (8 * t + i) + 1)) hour))), (6, .int (u.2 1 ((9 * (8 * t + i)) + 1))), (5, .int (u.2 1 ((9 * (8 * t + i)) + 0))), (0, .ref (a 0)), (1, .int (nI t)), (2, .int sort), (3, .int hour)]) hnL dX7_fitting_138 rfl (nI_1 (i)) (by decide) rfl ?_
                    refine gI_goto hB 3 dX7_fitting_141 (by decide) ?_
                    refine gI_loc [0, 5, 6, 7, 8] rfl ?_
                    exact ih_lp (i + 1) (by omega) (by omega) (by rw [show m - i = (m - (i + 1)) + 1 by omega, mFitL, if_neg (fun z => absurd c132_8 (Int32.not_lt.mpr z.2.2))] at hinv; exact hinv)
                  · skip
                    refine gI_iload hB 4 dX7_fitting_135 rfl ?_
                    refine gI_iret hB hE dX7_fitting_137 ?_
                    exact ⟨by rw [← hinv, show m - i = (m - (i + 1)) + 1 by omega, mFitL, if_pos ⟨c98_4, Or.inr c110_7, Int32.not_lt.mp c132_8⟩], rfl, rfl, rfl⟩
          · skip
            refine gI_iload_n hB 6 dX7_fitting_68 rfl ?_
            refine gI_iload hB 0 dX7_fitting_69 rfl ?_
            refine gI_icmp_gt hB 78 dX7_fitting_71 (by decide) (fun c71_9 => ?_) (fun c71_9 => ?_)
            · skip
              refine gI_iconst (v := nI 0) hB dX7_fitting_78 (by decide) ?_
              refine gI_topi hB (y := gbi (mHr (u.2 1 (9 * (8 * t + i) + 0)) (u.2 1 (9 * (8 * t + i) + 1)) hour)) (gbi_f (fun z => z.elim (fun y => absurd c48_2 (Int32.not_lt.mpr y.1)) (fun y => y.2.elim (fun x => c65_3 x) (fun x => absurd c71_9 (Int32.not_lt.mpr x))))).symm ?_
              refine gI_istore hB ([(7, .int (gbi (mHr (u.2 1 (9 * (8 * t + i) + 0)) (u.2 1 (9 * (8 * t + i) + 1)) hour))), (6, .int (u.2 1 ((9 * (8 * t + i)) + 1))), (5, .int (u.2 1 ((9 * (8 * t + i)) + 0))), (4, .int (nI i)), (0, .ref (a 0)), (1, .int (nI t)), (2, .int sort), (3, .int hour)]) hnL dX7_fitting_79 (by decide) rfl ?_
              refine gI_aload_n hB 4 dX7_fitting_81 rfl ?_
              refine gM_get hB hM 5 (v := .ref (a 2)) (by decide +kernel) (by decide) (by decide +kernel) rfl rfl dX7_fitting_82 ?_
              refine gI_iload_n hB 5 dX7_fitting_85 rfl ?_
              refine gI_iload hB 3 dX7_fitting_86 rfl ?_
              refine gI_pureS (n9 := 2) (As := [.int (nI t), .int (nI i)]) (rest := [.ref (a 2)]) hB (c_at X.2.1 h t i) (gCW.of ggX7_fitting_X7_at rfl ⟨by decide, by decide, by decide +kernel⟩ ⟨Nat.le_of_ble_eq_true rfl, Nat.le_of_ble_eq_true rfl⟩) (Or.inl (by decide +kernel)) (by decide +kernel) (by decide +kernel) rfl rfl (Nat.le_of_ble_eq_true rfl) (by first | exact Nat.le_of_ble_eq_true rfl | (dsimp only [gRm]; omega)) (by first | exact Nat.le_of_ble_eq_true rfl | (dsimp only [gRm]; omega)) dX7_fitting_88 ?_
              refine gI_iconst (v := nI 2) hB dX7_fitting_91 (by decide) ?_
              refine gI_iaddN hB dX7_fitting_92 ?_
              refine gM_ald hB hM 1 (by decide) ((9 * (8 * t + i)) + 2) rfl (show (9 * (8 * t + i)) + 2 < 1152 by omega) dX7_fitting_93 ?_
              refine gI_istore hB ([(8, .int (u.2 1 ((9 * (8 * t + i)) + 2))), (7, .int (gbi (mHr (u.2 1 (9 * (8 * t + i) + 0)) (u.2 1 (9 * (8 * t + i) + 1)) hour))), (6, .int (u.2 1 ((9 * (8 * t + i)) + 1))), (5, .int (u.2 1 ((9 * (8 * t + i)) + 0))), (4, .int (nI i)), (0, .ref (a 0)), (1, .int (nI t)), (2, .int sort), (3, .int hour)]) hnL dX7_fitting_94 (by decide) rfl ?_
              refine gI_iload hB 1 dX7_fitting_96 rfl ?_
              refine gI_if_eq hB 138 dX7_fitting_98 (by decide) (fun c98_10 => ?_) (fun c98_10 => ?_)
              · skip
                have c98_10 := gbi_0.mp c98_10
                refine gI_iinc hB 4 ([(4, .int (nI (i + 1))), (8, .int (u.2 1 ((9 * (8 * t + i)) + 2))), (7, .int (gbi (mHr (u.2 1 (9 * (8 * t + i) + 0)) (u.2 1 (9 * (8 * t + i) + 1)) hour))), (6, .int (u.2 1 ((9 * (8 * t + i)) + 1))), (5, .int (u.2 1 ((9 * (8 * t + i)) + 0))), (0, .ref (a 0)), (1, .int (nI t)), (2, .int sort), (3, .int hour)]) hnL dX7_fitting_138 rfl (nI_1 (i)) (by decide) rfl ?_
                refine gI_goto hB 3 dX7_fitting_141 (by decide) ?_
                refine gI_loc [0, 5, 6, 7, 8] rfl ?_
                exact ih_lp (i + 1) (by omega) (by omega) (by rw [show m - i = (m - (i + 1)) + 1 by omega, mFitL, if_neg (fun z => c98_10 z.1)] at hinv; exact hinv)
              · skip
                have c98_10 := gbi_n0 c98_10
                refine gI_iload hB 0 dX7_fitting_101 rfl ?_
                refine gI_iconst (v := nI 2) hB dX7_fitting_103 (by decide) ?_
                refine gI_icmp_eq hB 113 dX7_fitting_104 (by decide) (fun c104_11 => ?_) (fun c104_11 => ?_)
                · skip
                  refine gI_aload_n hB 5 dX7_fitting_113 rfl ?_
                  refine gI_iload_n hB 6 dX7_fitting_114 rfl ?_
                  refine gI_iconst (v := nI 2) hB dX7_fitting_115 (by decide) ?_
                  refine gM_pure (n9 := 2) (As := [.int (nI t), .int (nI 2)]) (rest := []) hB hM (c_get X.2.1 h a u hM t 2 (by omega) (by omega)) (gCW.of ggX7_fitting_X7_get rfl ⟨by decide, by decide, by decide +kernel⟩ ⟨Nat.le_of_ble_eq_true rfl, Nat.le_of_ble_eq_true rfl⟩) (by decide +kernel) (by decide +kernel) (by decide +kernel) (by decide +kernel) rfl rfl (Nat.le_of_ble_eq_true rfl) (by first | exact Nat.le_of_ble_eq_true rfl | (dsimp only [gRm]; omega)) (by first | exact Nat.le_of_ble_eq_true rfl | (dsimp only [gRm]; omega)) dX7_fitting_116 ?_
                  refine gI_aload_n hB 5 dX7_fitting_119 rfl ?_
                  refine gM_get hB hM 5 (v := .ref (a 2)) (by decide +kernel) (by decide) (by decide +kernel) rfl rfl dX7_fitting_120 ?_
                  refine gI_iload_n hB 6 dX7_fitting_123 rfl ?_
                  refine gI_iload hB 4 dX7_fitting_124 rfl ?_
                  refine gI_pureS (n9 := 2) (As := [.int (nI t), .int (nI i)]) (rest := [.ref (a 2), .int (u.2 0 (7 * t + 2))]) hB (c_at X.2.1 h t i) (gCW.of ggX7_fitting_X7_at rfl ⟨by decide, by decide, by decide +kernel⟩ ⟨Nat.le_of_ble_eq_true rfl, Nat.le_of_ble_eq_true rfl⟩) (Or.inl (by decide +kernel)) (by decide +kernel) (by decide +kernel) rfl rfl (Nat.le_of_ble_eq_true rfl) (by first | exact Nat.le_of_ble_eq_true rfl | (dsimp only [gRm]; omega)) (by first | exact Nat.le_of_ble_eq_true rfl | (dsimp only [gRm]; omega)) dX7_fitting_126 ?_
                  refine gI_iconst (v := nI 3) hB dX7_fitting_129 (by decide) ?_
                  refine gI_iaddN hB dX7_fitting_130 ?_
                  refine gM_ald hB hM 1 (by decide) ((9 * (8 * t + i)) + 3) rfl (show (9 * (8 * t + i)) + 3 < 1152 by omega) dX7_fitting_131 ?_
                  refine gI_icmp_lt hB 138 dX7_fitting_132 (by decide) (fun c132_12 => ?_) (fun c132_12 => ?_)
                  · skip
                    refine gI_iinc hB 4 ([(4, .int (nI (i + 1))), (8, .int (u.2 1 ((9 * (8 * t + i)) + 2))), (7, .int (gbi (mHr (u.2 1 (9 * (8 * t + i) + 0)) (u.2 1 (9 * (8 * t + i) + 1)) hour))), (6, .int (u.2 1 ((9 * (8 * t + i)) + 1))), (5, .int (u.2 1 ((9 * (8 * t + i)) + 0))), (0, .ref (a 0)), (1, .int (nI t)), (2, .int sort), (3, .int hour)]) hnL dX7_fitting_138 rfl (nI_1 (i)) (by decide) rfl ?_
                    refine gI_goto hB 3 dX7_fitting_141 (by decide) ?_
                    refine gI_loc [0, 5, 6, 7, 8] rfl ?_
                    exact ih_lp (i + 1) (by omega) (by omega) (by rw [show m - i = (m - (i + 1)) + 1 by omega, mFitL, if_neg (fun z => absurd c132_12 (Int32.not_lt.mpr z.2.2))] at hinv; exact hinv)
                  · skip
                    refine gI_iload hB 4 dX7_fitting_135 rfl ?_
                    refine gI_iret hB hE dX7_fitting_137 ?_
                    exact ⟨by rw [← hinv, show m - i = (m - (i + 1)) + 1 by omega, mFitL, if_pos ⟨c98_10, Or.inl c104_11, Int32.not_lt.mp c132_12⟩], rfl, rfl, rfl⟩
                · skip
                  refine gI_iload hB 0 dX7_fitting_107 rfl ?_
                  refine gI_iload_n hB 7 dX7_fitting_109 rfl ?_
                  refine gI_icmp_ne hB 138 dX7_fitting_110 (by decide) (fun c110_13 => ?_) (fun c110_13 => ?_)
                  · skip
                    refine gI_iinc hB 4 ([(4, .int (nI (i + 1))), (8, .int (u.2 1 ((9 * (8 * t + i)) + 2))), (7, .int (gbi (mHr (u.2 1 (9 * (8 * t + i) + 0)) (u.2 1 (9 * (8 * t + i) + 1)) hour))), (6, .int (u.2 1 ((9 * (8 * t + i)) + 1))), (5, .int (u.2 1 ((9 * (8 * t + i)) + 0))), (0, .ref (a 0)), (1, .int (nI t)), (2, .int sort), (3, .int hour)]) hnL dX7_fitting_138 rfl (nI_1 (i)) (by decide) rfl ?_
                    refine gI_goto hB 3 dX7_fitting_141 (by decide) ?_
                    refine gI_loc [0, 5, 6, 7, 8] rfl ?_
                    exact ih_lp (i + 1) (by omega) (by omega) (by rw [show m - i = (m - (i + 1)) + 1 by omega, mFitL, if_neg (fun z => z.2.1.elim (fun y => c104_11 y) (fun y => c110_13 y))] at hinv; exact hinv)
                  · skip
                    refine gI_aload_n hB 5 dX7_fitting_113 rfl ?_
                    refine gI_iload_n hB 6 dX7_fitting_114 rfl ?_
                    refine gI_iconst (v := nI 2) hB dX7_fitting_115 (by decide) ?_
                    refine gM_pure (n9 := 2) (As := [.int (nI t), .int (nI 2)]) (rest := []) hB hM (c_get X.2.1 h a u hM t 2 (by omega) (by omega)) (gCW.of ggX7_fitting_X7_get rfl ⟨by decide, by decide, by decide +kernel⟩ ⟨Nat.le_of_ble_eq_true rfl, Nat.le_of_ble_eq_true rfl⟩) (by decide +kernel) (by decide +kernel) (by decide +kernel) (by decide +kernel) rfl rfl (Nat.le_of_ble_eq_true rfl) (by first | exact Nat.le_of_ble_eq_true rfl | (dsimp only [gRm]; omega)) (by first | exact Nat.le_of_ble_eq_true rfl | (dsimp only [gRm]; omega)) dX7_fitting_116 ?_
                    refine gI_aload_n hB 5 dX7_fitting_119 rfl ?_
                    refine gM_get hB hM 5 (v := .ref (a 2)) (by decide +kernel) (by decide) (by decide +kernel) rfl rfl dX7_fitting_120 ?_
                    refine gI_iload_n hB 6 dX7_fitting_123 rfl ?_
                    refine gI_iload hB 4 dX7_fitting_124 rfl ?_
                    refine gI_pureS (n9 := 2) (As := [.int (nI t), .int (nI i)]) (rest := [.ref (a 2), .int (u.2 0 (7 * t + 2))]) hB (c_at X.2.1 h t i) (gCW.of ggX7_fitting_X7_at rfl ⟨by decide, by decide, by decide +kernel⟩ ⟨Nat.le_of_ble_eq_true rfl, Nat.le_of_ble_eq_true rfl⟩) (Or.inl (by decide +kernel)) (by decide +kernel) (by decide +kernel) rfl rfl (Nat.le_of_ble_eq_true rfl) (by first | exact Nat.le_of_ble_eq_true rfl | (dsimp only [gRm]; omega)) (by first | exact Nat.le_of_ble_eq_true rfl | (dsimp only [gRm]; omega)) dX7_fitting_126 ?_
                    refine gI_iconst (v := nI 3) hB dX7_fitting_129 (by decide) ?_
                    refine gI_iaddN hB dX7_fitting_130 ?_
                    refine gM_ald hB hM 1 (by decide) ((9 * (8 * t + i)) + 3) rfl (show (9 * (8 * t + i)) + 3 < 1152 by omega) dX7_fitting_131 ?_
                    refine gI_icmp_lt hB 138 dX7_fitting_132 (by decide) (fun c132_14 => ?_) (fun c132_14 => ?_)
                    · skip
                      refine gI_iinc hB 4 ([(4, .int (nI (i + 1))), (8, .int (u.2 1 ((9 * (8 * t + i)) + 2))), (7, .int (gbi (mHr (u.2 1 (9 * (8 * t + i) + 0)) (u.2 1 (9 * (8 * t + i) + 1)) hour))), (6, .int (u.2 1 ((9 * (8 * t + i)) + 1))), (5, .int (u.2 1 ((9 * (8 * t + i)) + 0))), (0, .ref (a 0)), (1, .int (nI t)), (2, .int sort), (3, .int hour)]) hnL dX7_fitting_138 rfl (nI_1 (i)) (by decide) rfl ?_
                      refine gI_goto hB 3 dX7_fitting_141 (by decide) ?_
                      refine gI_loc [0, 5, 6, 7, 8] rfl ?_
                      exact ih_lp (i + 1) (by omega) (by omega) (by rw [show m - i = (m - (i + 1)) + 1 by omega, mFitL, if_neg (fun z => absurd c132_14 (Int32.not_lt.mpr z.2.2))] at hinv; exact hinv)
                    · skip
                      refine gI_iload hB 4 dX7_fitting_135 rfl ?_
                      refine gI_iret hB hE dX7_fitting_137 ?_
                      exact ⟨by rw [← hinv, show m - i = (m - (i + 1)) + 1 by omega, mFitL, if_pos ⟨c98_10, Or.inr c110_13, Int32.not_lt.mp c132_14⟩], rfl, rfl, rfl⟩
            · skip
              refine gI_iconst (v := nI 1) hB dX7_fitting_74 (by decide) ?_
              refine gI_goto hB 79 dX7_fitting_75 (by decide) ?_
              refine gI_topi hB (y := gbi (mHr (u.2 1 (9 * (8 * t + i) + 0)) (u.2 1 (9 * (8 * t + i) + 1)) hour)) (gbi_t (Or.inr ⟨Int32.not_le.mpr c48_2, Or.inr (Int32.not_lt.mp c71_9)⟩)).symm ?_
              refine gI_istore hB ([(7, .int (gbi (mHr (u.2 1 (9 * (8 * t + i) + 0)) (u.2 1 (9 * (8 * t + i) + 1)) hour))), (6, .int (u.2 1 ((9 * (8 * t + i)) + 1))), (5, .int (u.2 1 ((9 * (8 * t + i)) + 0))), (4, .int (nI i)), (0, .ref (a 0)), (1, .int (nI t)), (2, .int sort), (3, .int hour)]) hnL dX7_fitting_79 (by decide) rfl ?_
              refine gI_aload_n hB 4 dX7_fitting_81 rfl ?_
              refine gM_get hB hM 5 (v := .ref (a 2)) (by decide +kernel) (by decide) (by decide +kernel) rfl rfl dX7_fitting_82 ?_
              refine gI_iload_n hB 5 dX7_fitting_85 rfl ?_
              refine gI_iload hB 3 dX7_fitting_86 rfl ?_
              refine gI_pureS (n9 := 2) (As := [.int (nI t), .int (nI i)]) (rest := [.ref (a 2)]) hB (c_at X.2.1 h t i) (gCW.of ggX7_fitting_X7_at rfl ⟨by decide, by decide, by decide +kernel⟩ ⟨Nat.le_of_ble_eq_true rfl, Nat.le_of_ble_eq_true rfl⟩) (Or.inl (by decide +kernel)) (by decide +kernel) (by decide +kernel) rfl rfl (Nat.le_of_ble_eq_true rfl) (by first | exact Nat.le_of_ble_eq_true rfl | (dsimp only [gRm]; omega)) (by first | exact Nat.le_of_ble_eq_true rfl | (dsimp only [gRm]; omega)) dX7_fitting_88 ?_
              refine gI_iconst (v := nI 2) hB dX7_fitting_91 (by decide) ?_
              refine gI_iaddN hB dX7_fitting_92 ?_
              refine gM_ald hB hM 1 (by decide) ((9 * (8 * t + i)) + 2) rfl (show (9 * (8 * t + i)) + 2 < 1152 by omega) dX7_fitting_93 ?_
              refine gI_istore hB ([(8, .int (u.2 1 ((9 * (8 * t + i)) + 2))), (7, .int (gbi (mHr (u.2 1 (9 * (8 * t + i) + 0)) (u.2 1 (9 * (8 * t + i) + 1)) hour))), (6, .int (u.2 1 ((9 * (8 * t + i)) + 1))), (5, .int (u.2 1 ((9 * (8 * t + i)) + 0))), (4, .int (nI i)), (0, .ref (a 0)), (1, .int (nI t)), (2, .int sort), (3, .int hour)]) hnL dX7_fitting_94 (by decide) rfl ?_
              refine gI_iload hB 1 dX7_fitting_96 rfl ?_
              refine gI_if_eq hB 138 dX7_fitting_98 (by decide) (fun c98_15 => ?_) (fun c98_15 => ?_)
              · skip
                have c98_15 := gbi_0.mp c98_15
                refine gI_iinc hB 4 ([(4, .int (nI (i + 1))), (8, .int (u.2 1 ((9 * (8 * t + i)) + 2))), (7, .int (gbi (mHr (u.2 1 (9 * (8 * t + i) + 0)) (u.2 1 (9 * (8 * t + i) + 1)) hour))), (6, .int (u.2 1 ((9 * (8 * t + i)) + 1))), (5, .int (u.2 1 ((9 * (8 * t + i)) + 0))), (0, .ref (a 0)), (1, .int (nI t)), (2, .int sort), (3, .int hour)]) hnL dX7_fitting_138 rfl (nI_1 (i)) (by decide) rfl ?_
                refine gI_goto hB 3 dX7_fitting_141 (by decide) ?_
                refine gI_loc [0, 5, 6, 7, 8] rfl ?_
                exact ih_lp (i + 1) (by omega) (by omega) (by rw [show m - i = (m - (i + 1)) + 1 by omega, mFitL, if_neg (fun z => c98_15 z.1)] at hinv; exact hinv)
              · skip
                have c98_15 := gbi_n0 c98_15
                refine gI_iload hB 0 dX7_fitting_101 rfl ?_
                refine gI_iconst (v := nI 2) hB dX7_fitting_103 (by decide) ?_
                refine gI_icmp_eq hB 113 dX7_fitting_104 (by decide) (fun c104_16 => ?_) (fun c104_16 => ?_)
                · skip
                  refine gI_aload_n hB 5 dX7_fitting_113 rfl ?_
                  refine gI_iload_n hB 6 dX7_fitting_114 rfl ?_
                  refine gI_iconst (v := nI 2) hB dX7_fitting_115 (by decide) ?_
                  refine gM_pure (n9 := 2) (As := [.int (nI t), .int (nI 2)]) (rest := []) hB hM (c_get X.2.1 h a u hM t 2 (by omega) (by omega)) (gCW.of ggX7_fitting_X7_get rfl ⟨by decide, by decide, by decide +kernel⟩ ⟨Nat.le_of_ble_eq_true rfl, Nat.le_of_ble_eq_true rfl⟩) (by decide +kernel) (by decide +kernel) (by decide +kernel) (by decide +kernel) rfl rfl (Nat.le_of_ble_eq_true rfl) (by first | exact Nat.le_of_ble_eq_true rfl | (dsimp only [gRm]; omega)) (by first | exact Nat.le_of_ble_eq_true rfl | (dsimp only [gRm]; omega)) dX7_fitting_116 ?_
                  refine gI_aload_n hB 5 dX7_fitting_119 rfl ?_
                  refine gM_get hB hM 5 (v := .ref (a 2)) (by decide +kernel) (by decide) (by decide +kernel) rfl rfl dX7_fitting_120 ?_
                  refine gI_iload_n hB 6 dX7_fitting_123 rfl ?_
                  refine gI_iload hB 4 dX7_fitting_124 rfl ?_
                  refine gI_pureS (n9 := 2) (As := [.int (nI t), .int (nI i)]) (rest := [.ref (a 2), .int (u.2 0 (7 * t + 2))]) hB (c_at X.2.1 h t i) (gCW.of ggX7_fitting_X7_at rfl ⟨by decide, by decide, by decide +kernel⟩ ⟨Nat.le_of_ble_eq_true rfl, Nat.le_of_ble_eq_true rfl⟩) (Or.inl (by decide +kernel)) (by decide +kernel) (by decide +kernel) rfl rfl (Nat.le_of_ble_eq_true rfl) (by first | exact Nat.le_of_ble_eq_true rfl | (dsimp only [gRm]; omega)) (by first | exact Nat.le_of_ble_eq_true rfl | (dsimp only [gRm]; omega)) dX7_fitting_126 ?_
                  refine gI_iconst (v := nI 3) hB dX7_fitting_129 (by decide) ?_
                  refine gI_iaddN hB dX7_fitting_130 ?_
                  refine gM_ald hB hM 1 (by decide) ((9 * (8 * t + i)) + 3) rfl (show (9 * (8 * t + i)) + 3 < 1152 by omega) dX7_fitting_131 ?_
                  refine gI_icmp_lt hB 138 dX7_fitting_132 (by decide) (fun c132_17 => ?_) (fun c132_17 => ?_)
                  · skip
                    refine gI_iinc hB 4 ([(4, .int (nI (i + 1))), (8, .int (u.2 1 ((9 * (8 * t + i)) + 2))), (7, .int (gbi (mHr (u.2 1 (9 * (8 * t + i) + 0)) (u.2 1 (9 * (8 * t + i) + 1)) hour))), (6, .int (u.2 1 ((9 * (8 * t + i)) + 1))), (5, .int (u.2 1 ((9 * (8 * t + i)) + 0))), (0, .ref (a 0)), (1, .int (nI t)), (2, .int sort), (3, .int hour)]) hnL dX7_fitting_138 rfl (nI_1 (i)) (by decide) rfl ?_
                    refine gI_goto hB 3 dX7_fitting_141 (by decide) ?_
                    refine gI_loc [0, 5, 6, 7, 8] rfl ?_
                    exact ih_lp (i + 1) (by omega) (by omega) (by rw [show m - i = (m - (i + 1)) + 1 by omega, mFitL, if_neg (fun z => absurd c132_17 (Int32.not_lt.mpr z.2.2))] at hinv; exact hinv)
                  · skip
                    refine gI_iload hB 4 dX7_fitting_135 rfl ?_
                    refine gI_iret hB hE dX7_fitting_137 ?_
                    exact ⟨by rw [← hinv, show m - i = (m - (i + 1)) + 1 by omega, mFitL, if_pos ⟨c98_15, Or.inl c104_16, Int32.not_lt.mp c132_17⟩], rfl, rfl, rfl⟩
                · skip
                  refine gI_iload hB 0 dX7_fitting_107 rfl ?_
                  refine gI_iload_n hB 7 dX7_fitting_109 rfl ?_
                  refine gI_icmp_ne hB 138 dX7_fitting_110 (by decide) (fun c110_18 => ?_) (fun c110_18 => ?_)
                  · skip
                    refine gI_iinc hB 4 ([(4, .int (nI (i + 1))), (8, .int (u.2 1 ((9 * (8 * t + i)) + 2))), (7, .int (gbi (mHr (u.2 1 (9 * (8 * t + i) + 0)) (u.2 1 (9 * (8 * t + i) + 1)) hour))), (6, .int (u.2 1 ((9 * (8 * t + i)) + 1))), (5, .int (u.2 1 ((9 * (8 * t + i)) + 0))), (0, .ref (a 0)), (1, .int (nI t)), (2, .int sort), (3, .int hour)]) hnL dX7_fitting_138 rfl (nI_1 (i)) (by decide) rfl ?_
                    refine gI_goto hB 3 dX7_fitting_141 (by decide) ?_
                    refine gI_loc [0, 5, 6, 7, 8] rfl ?_
                    exact ih_lp (i + 1) (by omega) (by omega) (by rw [show m - i = (m - (i + 1)) + 1 by omega, mFitL, if_neg (fun z => z.2.1.elim (fun y => c104_16 y) (fun y => c110_18 y))] at hinv; exact hinv)
                  · skip
                    refine gI_aload_n hB 5 dX7_fitting_113 rfl ?_
                    refine gI_iload_n hB 6 dX7_fitting_114 rfl ?_
                    refine gI_iconst (v := nI 2) hB dX7_fitting_115 (by decide) ?_
                    refine gM_pure (n9 := 2) (As := [.int (nI t), .int (nI 2)]) (rest := []) hB hM (c_get X.2.1 h a u hM t 2 (by omega) (by omega)) (gCW.of ggX7_fitting_X7_get rfl ⟨by decide, by decide, by decide +kernel⟩ ⟨Nat.le_of_ble_eq_true rfl, Nat.le_of_ble_eq_true rfl⟩) (by decide +kernel) (by decide +kernel) (by decide +kernel) (by decide +kernel) rfl rfl (Nat.le_of_ble_eq_true rfl) (by first | exact Nat.le_of_ble_eq_true rfl | (dsimp only [gRm]; omega)) (by first | exact Nat.le_of_ble_eq_true rfl | (dsimp only [gRm]; omega)) dX7_fitting_116 ?_
                    refine gI_aload_n hB 5 dX7_fitting_119 rfl ?_
                    refine gM_get hB hM 5 (v := .ref (a 2)) (by decide +kernel) (by decide) (by decide +kernel) rfl rfl dX7_fitting_120 ?_
                    refine gI_iload_n hB 6 dX7_fitting_123 rfl ?_
                    refine gI_iload hB 4 dX7_fitting_124 rfl ?_
                    refine gI_pureS (n9 := 2) (As := [.int (nI t), .int (nI i)]) (rest := [.ref (a 2), .int (u.2 0 (7 * t + 2))]) hB (c_at X.2.1 h t i) (gCW.of ggX7_fitting_X7_at rfl ⟨by decide, by decide, by decide +kernel⟩ ⟨Nat.le_of_ble_eq_true rfl, Nat.le_of_ble_eq_true rfl⟩) (Or.inl (by decide +kernel)) (by decide +kernel) (by decide +kernel) rfl rfl (Nat.le_of_ble_eq_true rfl) (by first | exact Nat.le_of_ble_eq_true rfl | (dsimp only [gRm]; omega)) (by first | exact Nat.le_of_ble_eq_true rfl | (dsimp only [gRm]; omega)) dX7_fitting_126 ?_
                    refine gI_iconst (v := nI 3) hB dX7_fitting_129 (by decide) ?_
                    refine gI_iaddN hB dX7_fitting_130 ?_
                    refine gM_ald hB hM 1 (by decide) ((9 * (8 * t + i)) + 3) rfl (show (9 * (8 * t + i)) + 3 < 1152 by omega) dX7_fitting_131 ?_
                    refine gI_icmp_lt hB 138 dX7_fitting_132 (by decide) (fun c132_19 => ?_) (fun c132_19 => ?_)
                    · skip
                      refine gI_iinc hB 4 ([(4, .int (nI (i + 1))), (8, .int (u.2 1 ((9 * (8 * t + i)) + 2))), (7, .int (gbi (mHr (u.2 1 (9 * (8 * t + i) + 0)) (u.2 1 (9 * (8 * t + i) + 1)) hour))), (6, .int (u.2 1 ((9 * (8 * t + i)) + 1))), (5, .int (u.2 1 ((9 * (8 * t + i)) + 0))), (0, .ref (a 0)), (1, .int (nI t)), (2, .int sort), (3, .int hour)]) hnL dX7_fitting_138 rfl (nI_1 (i)) (by decide) rfl ?_
                      refine gI_goto hB 3 dX7_fitting_141 (by decide) ?_
                      refine gI_loc [0, 5, 6, 7, 8] rfl ?_
                      exact ih_lp (i + 1) (by omega) (by omega) (by rw [show m - i = (m - (i + 1)) + 1 by omega, mFitL, if_neg (fun z => absurd c132_19 (Int32.not_lt.mpr z.2.2))] at hinv; exact hinv)
                    · skip
                      refine gI_iload hB 4 dX7_fitting_135 rfl ?_
                      refine gI_iret hB hE dX7_fitting_137 ?_
                      exact ⟨by rw [← hinv, show m - i = (m - (i + 1)) + 1 by omega, mFitL, if_pos ⟨c98_15, Or.inr c110_18, Int32.not_lt.mp c132_19⟩], rfl, rfl, rfl⟩
        · skip
          refine gI_iload_n hB 6 dX7_fitting_51 rfl ?_
          refine gI_iload hB 1 dX7_fitting_52 rfl ?_
          refine gI_iload hB 0 dX7_fitting_54 rfl ?_
          refine gI_pureS (n9 := 3) (As := [.int hour, .int (u.2 1 ((9 * (8 * t + i)) + 0)), .int (u.2 1 ((9 * (8 * t + i)) + 1))]) (rest := []) hB (c_isIn X.2.1 h hour (u.2 1 ((9 * (8 * t + i)) + 0)) (u.2 1 ((9 * (8 * t + i)) + 1))) (gCW.of ggX7_fitting_X7_isIn rfl ⟨by decide, by decide, by decide +kernel⟩ ⟨Nat.le_of_ble_eq_true rfl, Nat.le_of_ble_eq_true rfl⟩) (Or.inl (by decide +kernel)) (by decide +kernel) (by decide +kernel) rfl rfl (Nat.le_of_ble_eq_true rfl) (by first | exact Nat.le_of_ble_eq_true rfl | (dsimp only [gRm]; omega)) (by first | exact Nat.le_of_ble_eq_true rfl | (dsimp only [gRm]; omega)) dX7_fitting_56 ?_
          refine gI_goto hB 79 dX7_fitting_59 (by decide) ?_
          refine gI_topi hB (y := gbi (mHr (u.2 1 (9 * (8 * t + i) + 0)) (u.2 1 (9 * (8 * t + i) + 1)) hour)) (gbi_cg ⟨fun z => Or.inl ⟨Int32.not_lt.mp c48_2, z⟩, fun z => z.elim (fun y => y.2) (fun y => absurd (Int32.not_lt.mp c48_2) y.1)⟩) ?_
          refine gI_istore hB ([(7, .int (gbi (mHr (u.2 1 (9 * (8 * t + i) + 0)) (u.2 1 (9 * (8 * t + i) + 1)) hour))), (6, .int (u.2 1 ((9 * (8 * t + i)) + 1))), (5, .int (u.2 1 ((9 * (8 * t + i)) + 0))), (4, .int (nI i)), (0, .ref (a 0)), (1, .int (nI t)), (2, .int sort), (3, .int hour)]) hnL dX7_fitting_79 (by decide) rfl ?_
          refine gI_aload_n hB 4 dX7_fitting_81 rfl ?_
          refine gM_get hB hM 5 (v := .ref (a 2)) (by decide +kernel) (by decide) (by decide +kernel) rfl rfl dX7_fitting_82 ?_
          refine gI_iload_n hB 5 dX7_fitting_85 rfl ?_
          refine gI_iload hB 3 dX7_fitting_86 rfl ?_
          refine gI_pureS (n9 := 2) (As := [.int (nI t), .int (nI i)]) (rest := [.ref (a 2)]) hB (c_at X.2.1 h t i) (gCW.of ggX7_fitting_X7_at rfl ⟨by decide, by decide, by decide +kernel⟩ ⟨Nat.le_of_ble_eq_true rfl, Nat.le_of_ble_eq_true rfl⟩) (Or.inl (by decide +kernel)) (by decide +kernel) (by decide +kernel) rfl rfl (Nat.le_of_ble_eq_true rfl) (by first | exact Nat.le_of_ble_eq_true rfl | (dsimp only [gRm]; omega)) (by first | exact Nat.le_of_ble_eq_true rfl | (dsimp only [gRm]; omega)) dX7_fitting_88 ?_
          refine gI_iconst (v := nI 2) hB dX7_fitting_91 (by decide) ?_
          refine gI_iaddN hB dX7_fitting_92 ?_
          refine gM_ald hB hM 1 (by decide) ((9 * (8 * t + i)) + 2) rfl (show (9 * (8 * t + i)) + 2 < 1152 by omega) dX7_fitting_93 ?_
          refine gI_istore hB ([(8, .int (u.2 1 ((9 * (8 * t + i)) + 2))), (7, .int (gbi (mHr (u.2 1 (9 * (8 * t + i) + 0)) (u.2 1 (9 * (8 * t + i) + 1)) hour))), (6, .int (u.2 1 ((9 * (8 * t + i)) + 1))), (5, .int (u.2 1 ((9 * (8 * t + i)) + 0))), (4, .int (nI i)), (0, .ref (a 0)), (1, .int (nI t)), (2, .int sort), (3, .int hour)]) hnL dX7_fitting_94 (by decide) rfl ?_
          refine gI_iload hB 1 dX7_fitting_96 rfl ?_
          refine gI_if_eq hB 138 dX7_fitting_98 (by decide) (fun c98_20 => ?_) (fun c98_20 => ?_)
          · skip
            have c98_20 := gbi_0.mp c98_20
            refine gI_iinc hB 4 ([(4, .int (nI (i + 1))), (8, .int (u.2 1 ((9 * (8 * t + i)) + 2))), (7, .int (gbi (mHr (u.2 1 (9 * (8 * t + i) + 0)) (u.2 1 (9 * (8 * t + i) + 1)) hour))), (6, .int (u.2 1 ((9 * (8 * t + i)) + 1))), (5, .int (u.2 1 ((9 * (8 * t + i)) + 0))), (0, .ref (a 0)), (1, .int (nI t)), (2, .int sort), (3, .int hour)]) hnL dX7_fitting_138 rfl (nI_1 (i)) (by decide) rfl ?_
            refine gI_goto hB 3 dX7_fitting_141 (by decide) ?_
            refine gI_loc [0, 5, 6, 7, 8] rfl ?_
            exact ih_lp (i + 1) (by omega) (by omega) (by rw [show m - i = (m - (i + 1)) + 1 by omega, mFitL, if_neg (fun z => c98_20 z.1)] at hinv; exact hinv)
          · skip
            have c98_20 := gbi_n0 c98_20
            refine gI_iload hB 0 dX7_fitting_101 rfl ?_
            refine gI_iconst (v := nI 2) hB dX7_fitting_103 (by decide) ?_
            refine gI_icmp_eq hB 113 dX7_fitting_104 (by decide) (fun c104_21 => ?_) (fun c104_21 => ?_)
            · skip
              refine gI_aload_n hB 5 dX7_fitting_113 rfl ?_
              refine gI_iload_n hB 6 dX7_fitting_114 rfl ?_
              refine gI_iconst (v := nI 2) hB dX7_fitting_115 (by decide) ?_
              refine gM_pure (n9 := 2) (As := [.int (nI t), .int (nI 2)]) (rest := []) hB hM (c_get X.2.1 h a u hM t 2 (by omega) (by omega)) (gCW.of ggX7_fitting_X7_get rfl ⟨by decide, by decide, by decide +kernel⟩ ⟨Nat.le_of_ble_eq_true rfl, Nat.le_of_ble_eq_true rfl⟩) (by decide +kernel) (by decide +kernel) (by decide +kernel) (by decide +kernel) rfl rfl (Nat.le_of_ble_eq_true rfl) (by first | exact Nat.le_of_ble_eq_true rfl | (dsimp only [gRm]; omega)) (by first | exact Nat.le_of_ble_eq_true rfl | (dsimp only [gRm]; omega)) dX7_fitting_116 ?_
              refine gI_aload_n hB 5 dX7_fitting_119 rfl ?_
              refine gM_get hB hM 5 (v := .ref (a 2)) (by decide +kernel) (by decide) (by decide +kernel) rfl rfl dX7_fitting_120 ?_
              refine gI_iload_n hB 6 dX7_fitting_123 rfl ?_
              refine gI_iload hB 4 dX7_fitting_124 rfl ?_
              refine gI_pureS (n9 := 2) (As := [.int (nI t), .int (nI i)]) (rest := [.ref (a 2), .int (u.2 0 (7 * t + 2))]) hB (c_at X.2.1 h t i) (gCW.of ggX7_fitting_X7_at rfl ⟨by decide, by decide, by decide +kernel⟩ ⟨Nat.le_of_ble_eq_true rfl, Nat.le_of_ble_eq_true rfl⟩) (Or.inl (by decide +kernel)) (by decide +kernel) (by decide +kernel) rfl rfl (Nat.le_of_ble_eq_true rfl) (by first | exact Nat.le_of_ble_eq_true rfl | (dsimp only [gRm]; omega)) (by first | exact Nat.le_of_ble_eq_true rfl | (dsimp only [gRm]; omega)) dX7_fitting_126 ?_
              refine gI_iconst (v := nI 3) hB dX7_fitting_129 (by decide) ?_
              refine gI_iaddN hB dX7_fitting_130 ?_
              refine gM_ald hB hM 1 (by decide) ((9 * (8 * t + i)) + 3) rfl (show (9 * (8 * t + i)) + 3 < 1152 by omega) dX7_fitting_131 ?_
              refine gI_icmp_lt hB 138 dX7_fitting_132 (by decide) (fun c132_22 => ?_) (fun c132_22 => ?_)
              · skip
                refine gI_iinc hB 4 ([(4, .int (nI (i + 1))), (8, .int (u.2 1 ((9 * (8 * t + i)) + 2))), (7, .int (gbi (mHr (u.2 1 (9 * (8 * t + i) + 0)) (u.2 1 (9 * (8 * t + i) + 1)) hour))), (6, .int (u.2 1 ((9 * (8 * t + i)) + 1))), (5, .int (u.2 1 ((9 * (8 * t + i)) + 0))), (0, .ref (a 0)), (1, .int (nI t)), (2, .int sort), (3, .int hour)]) hnL dX7_fitting_138 rfl (nI_1 (i)) (by decide) rfl ?_
                refine gI_goto hB 3 dX7_fitting_141 (by decide) ?_
                refine gI_loc [0, 5, 6, 7, 8] rfl ?_
                exact ih_lp (i + 1) (by omega) (by omega) (by rw [show m - i = (m - (i + 1)) + 1 by omega, mFitL, if_neg (fun z => absurd c132_22 (Int32.not_lt.mpr z.2.2))] at hinv; exact hinv)
              · skip
                refine gI_iload hB 4 dX7_fitting_135 rfl ?_
                refine gI_iret hB hE dX7_fitting_137 ?_
                exact ⟨by rw [← hinv, show m - i = (m - (i + 1)) + 1 by omega, mFitL, if_pos ⟨c98_20, Or.inl c104_21, Int32.not_lt.mp c132_22⟩], rfl, rfl, rfl⟩
            · skip
              refine gI_iload hB 0 dX7_fitting_107 rfl ?_
              refine gI_iload_n hB 7 dX7_fitting_109 rfl ?_
              refine gI_icmp_ne hB 138 dX7_fitting_110 (by decide) (fun c110_23 => ?_) (fun c110_23 => ?_)
              · skip
                refine gI_iinc hB 4 ([(4, .int (nI (i + 1))), (8, .int (u.2 1 ((9 * (8 * t + i)) + 2))), (7, .int (gbi (mHr (u.2 1 (9 * (8 * t + i) + 0)) (u.2 1 (9 * (8 * t + i) + 1)) hour))), (6, .int (u.2 1 ((9 * (8 * t + i)) + 1))), (5, .int (u.2 1 ((9 * (8 * t + i)) + 0))), (0, .ref (a 0)), (1, .int (nI t)), (2, .int sort), (3, .int hour)]) hnL dX7_fitting_138 rfl (nI_1 (i)) (by decide) rfl ?_
                refine gI_goto hB 3 dX7_fitting_141 (by decide) ?_
                refine gI_loc [0, 5, 6, 7, 8] rfl ?_
                exact ih_lp (i + 1) (by omega) (by omega) (by rw [show m - i = (m - (i + 1)) + 1 by omega, mFitL, if_neg (fun z => z.2.1.elim (fun y => c104_21 y) (fun y => c110_23 y))] at hinv; exact hinv)
              · skip
                refine gI_aload_n hB 5 dX7_fitting_113 rfl ?_
                refine gI_iload_n hB 6 dX7_fitting_114 rfl ?_
                refine gI_iconst (v := nI 2) hB dX7_fitting_115 (by decide) ?_
                refine gM_pure (n9 := 2) (As := [.int (nI t), .int (nI 2)]) (rest := []) hB hM (c_get X.2.1 h a u hM t 2 (by omega) (by omega)) (gCW.of ggX7_fitting_X7_get rfl ⟨by decide, by decide, by decide +kernel⟩ ⟨Nat.le_of_ble_eq_true rfl, Nat.le_of_ble_eq_true rfl⟩) (by decide +kernel) (by decide +kernel) (by decide +kernel) (by decide +kernel) rfl rfl (Nat.le_of_ble_eq_true rfl) (by first | exact Nat.le_of_ble_eq_true rfl | (dsimp only [gRm]; omega)) (by first | exact Nat.le_of_ble_eq_true rfl | (dsimp only [gRm]; omega)) dX7_fitting_116 ?_
                refine gI_aload_n hB 5 dX7_fitting_119 rfl ?_
                refine gM_get hB hM 5 (v := .ref (a 2)) (by decide +kernel) (by decide) (by decide +kernel) rfl rfl dX7_fitting_120 ?_
                refine gI_iload_n hB 6 dX7_fitting_123 rfl ?_
                refine gI_iload hB 4 dX7_fitting_124 rfl ?_
                refine gI_pureS (n9 := 2) (As := [.int (nI t), .int (nI i)]) (rest := [.ref (a 2), .int (u.2 0 (7 * t + 2))]) hB (c_at X.2.1 h t i) (gCW.of ggX7_fitting_X7_at rfl ⟨by decide, by decide, by decide +kernel⟩ ⟨Nat.le_of_ble_eq_true rfl, Nat.le_of_ble_eq_true rfl⟩) (Or.inl (by decide +kernel)) (by decide +kernel) (by decide +kernel) rfl rfl (Nat.le_of_ble_eq_true rfl) (by first | exact Nat.le_of_ble_eq_true rfl | (dsimp only [gRm]; omega)) (by first | exact Nat.le_of_ble_eq_true rfl | (dsimp only [gRm]; omega)) dX7_fitting_126 ?_
                refine gI_iconst (v := nI 3) hB dX7_fitting_129 (by decide) ?_
                refine gI_iaddN hB dX7_fitting_130 ?_
                refine gM_ald hB hM 1 (by decide) ((9 * (8 * t + i)) + 3) rfl (show (9 * (8 * t + i)) + 3 < 1152 by omega) dX7_fitting_131 ?_
                refine gI_icmp_lt hB 138 dX7_fitting_132 (by decide) (fun c132_24 => ?_) (fun c132_24 => ?_)
                · skip
                  refine gI_iinc hB 4 ([(4, .int (nI (i + 1))), (8, .int (u.2 1 ((9 * (8 * t + i)) + 2))), (7, .int (gbi (mHr (u.2 1 (9 * (8 * t + i) + 0)) (u.2 1 (9 * (8 * t + i) + 1)) hour))), (6, .int (u.2 1 ((9 * (8 * t + i)) + 1))), (5, .int (u.2 1 ((9 * (8 * t + i)) + 0))), (0, .ref (a 0)), (1, .int (nI t)), (2, .int sort), (3, .int hour)]) hnL dX7_fitting_138 rfl (nI_1 (i)) (by decide) rfl ?_
                  refine gI_goto hB 3 dX7_fitting_141 (by decide) ?_
                  refine gI_loc [0, 5, 6, 7, 8] rfl ?_
                  exact ih_lp (i + 1) (by omega) (by omega) (by rw [show m - i = (m - (i + 1)) + 1 by omega, mFitL, if_neg (fun z => absurd c132_24 (Int32.not_lt.mpr z.2.2))] at hinv; exact hinv)
                · skip
                  refine gI_iload hB 4 dX7_fitting_135 rfl ?_
                  refine gI_iret hB hE dX7_fitting_137 ?_
                  exact ⟨by rw [← hinv, show m - i = (m - (i + 1)) + 1 by omega, mFitL, if_pos ⟨c98_20, Or.inr c110_23, Int32.not_lt.mp c132_24⟩], rfl, rfl, rfl⟩
  refine gI_loc [0, 1, 2, 3, 4] rfl ?_
  exact lp (m + 1) 0 (by omega) (by omega) (by unfold mFit; rw [mMany_of hm8 em]; rfl)

theorem sa_sa {u : MS} {j : Nat} {f g : Nat → Int32} : sa (sa u j f) j g = sa u j g := by
  unfold sa
  refine Prod.ext rfl ?_
  funext i
  by_cases hi : i = j
  · subst hi; simp [va_up]
  · simp [va_up, hi]
def mPos (R : Nat → Int32) (wh to : Int32) : Nat → Nat
  | 0 => 0
  | k + 1 => if wh < R (14 * k) ∨ (R (14 * k) = wh ∧ to < R (14 * k + 1)) then mPos R wh to k else k + 1
theorem mPos_le (R : Nat → Int32) (wh to : Int32) : ∀ k, mPos R wh to k ≤ k
  | 0 => Nat.le_refl 0
  | k + 1 => by
    unfold mPos
    split
    · exact Nat.le_succ_of_le (mPos_le R wh to k)
    · exact Nat.le_refl _
def mIns (R D : Nat → Int32) (W K p : Nat) (to delay shift : Int32) : Nat → Int32 :=
  upd (upd (upd (upd (upd (upd (va_cpy D (va_cpy R R (14 * K) (14 * (K + 1)) (14 * (W - K))) 0 (14 * K) 14) (14 * K) (D 0 + delay)) (14 * K + 1) to) (14 * K + 2) (D 1)) (14 * K + 3) (D 3 + shift)) (14 * K + 4) (nI (p + 1))) (14 * K + 5 + p + 1) to
/-- a ring comes to wait behind the one in hand, or is lost -/
def mWait (u : MS) (to delay shift : Int32) : MS :=
  if u.1 6 = nI 60 then sg u 9 (u.1 9 + nI 1)
  else sg (sa u 2 (mIns (u.2 2) (u.2 4) (u.1 6).toNatClampNeg (mPos (u.2 2) (u.2 4 0 + delay) to (u.1 6).toNatClampNeg) (u.2 4 4).toNatClampNeg to delay shift)) 6 (nI ((u.1 6).toNatClampNeg + 1))

set_option maxRecDepth 100000 in
set_option maxHeartbeats 4000000 in
theorem c_comeToWait (G : gG) (h : gH) (a : Nat → Nat) (u : MS) (hM : mRep G h a u) (W p : Nat) (to delay shift : Int32) (eW : u.1 6 = nI W) (hW : W ≤ 60) (ep : u.2 4 4 = nI p) (hp : p ≤ 7) : gMet yX7_comeToWait wsX7_comeToWait (gRm 1 0 0) G h [.ref (a 0), .ref (a 5), .int to, .int delay, .int shift] (mPo G h a (mSt none (mWait u to delay shift))) := by
  refine gMet_of (maxL := 7) (ret := none) (by decide) rfl (Nat.le_of_ble_eq_true rfl) ?_
  intro X hG hnL hB hE
  subst hG
  change gW X h 0 0 0 [(0, .ref (a 0)), (1, .ref (a 5)), (2, .int to), (3, .int delay), (4, .int shift)] []
  have hF : mFr h h := mFr.rf
  refine gI_aload_n hB 0 dX7_comeToWait_0 rfl ?_
  refine gM_get hB hM 6 (v := .int (u.1 6)) (by decide +kernel) (by decide) (by decide +kernel) rfl rfl dX7_comeToWait_1 ?_
  refine gI_topi hB (y := nI W) eW ?_
  refine gI_bipush (v := nI 60) hB dX7_comeToWait_4 (by decide) ?_
  refine gI_icmp_ne hB 20 dX7_comeToWait_6 (by decide) (fun c6_1 => ?_) (fun c6_1 => ?_)
  · skip
    have c6_1 := mt (nI_eq (by omega) (by omega)).mpr c6_1
    refine gI_aload_n hB 1 dX7_comeToWait_20 rfl ?_
    refine gI_iconst (v := nI 0) hB dX7_comeToWait_21 (by decide) ?_
    refine gM_ald hB hM 4 (by decide) 0 rfl (show 0 < 14 by omega) dX7_comeToWait_22 ?_
    refine gI_iload_n hB 3 dX7_comeToWait_23 rfl ?_
    refine gI_iadd hB dX7_comeToWait_24 ?_
    refine gI_istore hB ([(5, .int ((u.2 4 0) + delay)), (0, .ref (a 0)), (1, .ref (a 5)), (2, .int to), (3, .int delay), (4, .int shift)]) hnL dX7_comeToWait_25 (by decide) rfl ?_
    refine gI_aload_n hB 1 dX7_comeToWait_27 rfl ?_
    refine gM_get hB hM 6 (v := .int (u.1 6)) (by decide +kernel) (by decide) (by decide +kernel) rfl rfl dX7_comeToWait_28 ?_
    refine gI_topi hB (y := nI W) eW ?_
    refine gI_istore hB ([(6, .int (nI W)), (5, .int ((u.2 4 0) + delay)), (0, .ref (a 0)), (1, .ref (a 5)), (2, .int to), (3, .int delay), (4, .int shift)]) hnL dX7_comeToWait_31 (by decide) rfl ?_
    obtain ⟨K, hK⟩ : ∃ K, K = mPos (u.2 2) (u.2 4 0 + delay) to W := ⟨_, rfl⟩
    have hKW : K ≤ W := by rw [hK]; exact mPos_le _ _ _ _
    have hW9 : W ≠ 60 := fun z => c6_1 z
    have tl : gW X h 0 0 96 [(6, .int (nI K)), (5, .int (u.2 4 0 + delay)), (0, .ref (a 0)), (1, .ref (a 5)), (2, .int to), (3, .int delay), (4, .int shift)] [] := by
      refine gI_aload_n hB 2 dX7_comeToWait_96 rfl ?_
      refine gM_get hB hM 7 (v := .ref (a 3)) (by decide +kernel) (by decide) (by decide +kernel) rfl rfl dX7_comeToWait_97 ?_
      refine gI_bipush (v := nI 14) hB dX7_comeToWait_100 (by decide) ?_
      refine gI_iload hB 0 dX7_comeToWait_102 rfl ?_
      refine gI_imulN hB dX7_comeToWait_104 ?_
      refine gI_aload_n hB 2 dX7_comeToWait_105 rfl ?_
      refine gM_get hB hM 7 (v := .ref (a 3)) (by decide +kernel) (by decide) (by decide +kernel) rfl rfl dX7_comeToWait_106 ?_
      refine gI_bipush (v := nI 14) hB dX7_comeToWait_109 (by decide) ?_
      refine gI_iload hB 0 dX7_comeToWait_111 rfl ?_
      refine gI_iconst (v := nI 1) hB dX7_comeToWait_113 (by decide) ?_
      refine gI_iaddN hB dX7_comeToWait_114 ?_
      refine gI_imulN hB dX7_comeToWait_115 ?_
      refine gI_bipush (v := nI 14) hB dX7_comeToWait_116 (by decide) ?_
      refine gI_aload_n hB 2 dX7_comeToWait_118 rfl ?_
      refine gM_get hB hM 6 (v := .int (u.1 6)) (by decide +kernel) (by decide) (by decide +kernel) rfl rfl dX7_comeToWait_119 ?_
      refine gI_topi hB (y := nI W) eW ?_
      refine gI_iload hB 0 dX7_comeToWait_122 rfl ?_
      refine gI_isubN hB (by omega) dX7_comeToWait_124 ?_
      refine gI_imulN hB dX7_comeToWait_125 ?_
      refine gM_copyA hB hM hF 2 2 (by decide) (by decide) (14 * K) (14 * (K + 1)) (14 * (W - K)) rfl rfl rfl (by decide +kernel) (by decide +kernel) (by decide +kernel) (by decide +kernel) (show (14 * K) + (14 * (W - K)) ≤ 840 by omega) (show (14 * (K + 1)) + (14 * (W - K)) ≤ 840 by omega) (Nat.le_of_ble_eq_true rfl) (Nat.le_of_ble_eq_true rfl) dX7_comeToWait_126 (fun h hM hF => ?_)
      refine gI_aload_n hB 3 dX7_comeToWait_129 rfl ?_
      refine gI_iconst (v := nI 0) hB dX7_comeToWait_130 (by decide) ?_
      refine gI_aload_n hB 2 dX7_comeToWait_131 rfl ?_
      refine gM_get hB hM 7 (v := .ref (a 3)) (by decide +kernel) (by decide) (by decide +kernel) rfl rfl dX7_comeToWait_132 ?_
      refine gI_bipush (v := nI 14) hB dX7_comeToWait_135 (by decide) ?_
      refine gI_iload hB 0 dX7_comeToWait_137 rfl ?_
      refine gI_imulN hB dX7_comeToWait_139 ?_
      refine gI_bipush (v := nI 14) hB dX7_comeToWait_140 (by decide) ?_
      refine gM_copyA hB hM hF 4 2 (by decide) (by decide) 0 (14 * K) 14 rfl rfl rfl (by decide +kernel) (by decide +kernel) (by decide +kernel) (by decide +kernel) (show 0 + 14 ≤ 14 by omega) (show (14 * K) + 14 ≤ 840 by omega) (Nat.le_of_ble_eq_true rfl) (Nat.le_of_ble_eq_true rfl) dX7_comeToWait_142 (fun h hM hF => ?_)
      refine gI_aload_n hB 2 dX7_comeToWait_145 rfl ?_
      refine gM_get hB hM 7 (v := .ref (a 3)) (by decide +kernel) (by decide) (by decide +kernel) rfl rfl dX7_comeToWait_146 ?_
      refine gI_bipush (v := nI 14) hB dX7_comeToWait_149 (by decide) ?_
      refine gI_iload hB 0 dX7_comeToWait_151 rfl ?_
      refine gI_imulN hB dX7_comeToWait_153 ?_
      refine gI_iload hB 1 dX7_comeToWait_154 rfl ?_
      refine gM_ast hB hM hF 2 (by decide) (14 * K) rfl (show 14 * K < 840 by omega) dX7_comeToWait_156 (fun h hM hF => ?_)
      refine gI_aload_n hB 2 dX7_comeToWait_157 rfl ?_
      refine gM_get hB hM 7 (v := .ref (a 3)) (by decide +kernel) (by decide) (by decide +kernel) rfl rfl dX7_comeToWait_158 ?_
      refine gI_bipush (v := nI 14) hB dX7_comeToWait_161 (by decide) ?_
      refine gI_iload hB 0 dX7_comeToWait_163 rfl ?_
      refine gI_imulN hB dX7_comeToWait_165 ?_
      refine gI_iconst (v := nI 1) hB dX7_comeToWait_166 (by decide) ?_
      refine gI_iaddN hB dX7_comeToWait_167 ?_
      refine gI_iload_n hB 4 dX7_comeToWait_168 rfl ?_
      refine gM_ast hB hM hF 2 (by decide) ((14 * K) + 1) rfl (show (14 * K) + 1 < 840 by omega) dX7_comeToWait_169 (fun h hM hF => ?_)
      refine gI_aload_n hB 2 dX7_comeToWait_170 rfl ?_
      refine gM_get hB hM 7 (v := .ref (a 3)) (by decide +kernel) (by decide) (by decide +kernel) rfl rfl dX7_comeToWait_171 ?_
      refine gI_bipush (v := nI 14) hB dX7_comeToWait_174 (by decide) ?_
      refine gI_iload hB 0 dX7_comeToWait_176 rfl ?_
      refine gI_imulN hB dX7_comeToWait_178 ?_
      refine gI_iconst (v := nI 2) hB dX7_comeToWait_179 (by decide) ?_
      refine gI_iaddN hB dX7_comeToWait_180 ?_
      refine gI_aload_n hB 3 dX7_comeToWait_181 rfl ?_
      refine gI_iconst (v := nI 1) hB dX7_comeToWait_182 (by decide) ?_
      refine gM_ald hB hM 4 (by decide) 1 rfl (show 1 < 14 by omega) dX7_comeToWait_183 ?_
      refine gM_ast hB hM hF 2 (by decide) ((14 * K) + 2) rfl (show (14 * K) + 2 < 840 by omega) dX7_comeToWait_184 (fun h hM hF => ?_)
      refine gI_aload_n hB 2 dX7_comeToWait_185 rfl ?_
      refine gM_get hB hM 7 (v := .ref (a 3)) (by decide +kernel) (by decide) (by decide +kernel) rfl rfl dX7_comeToWait_186 ?_
      refine gI_bipush (v := nI 14) hB dX7_comeToWait_189 (by decide) ?_
      refine gI_iload hB 0 dX7_comeToWait_191 rfl ?_
      refine gI_imulN hB dX7_comeToWait_193 ?_
      refine gI_iconst (v := nI 3) hB dX7_comeToWait_194 (by decide) ?_
      refine gI_iaddN hB dX7_comeToWait_195 ?_
      refine gI_aload_n hB 3 dX7_comeToWait_196 rfl ?_
      refine gI_iconst (v := nI 3) hB dX7_comeToWait_197 (by decide) ?_
      refine gM_ald hB hM 4 (by decide) 3 rfl (show 3 < 14 by omega) dX7_comeToWait_198 ?_
      refine gI_iload hB 6 dX7_comeToWait_199 rfl ?_
      refine gI_iadd hB dX7_comeToWait_201 ?_
      refine gM_ast hB hM hF 2 (by decide) ((14 * K) + 3) rfl (show (14 * K) + 3 < 840 by omega) dX7_comeToWait_202 (fun h hM hF => ?_)
      refine gI_aload_n hB 2 dX7_comeToWait_203 rfl ?_
      refine gM_get hB hM 7 (v := .ref (a 3)) (by decide +kernel) (by decide) (by decide +kernel) rfl rfl dX7_comeToWait_204 ?_
      refine gI_bipush (v := nI 14) hB dX7_comeToWait_207 (by decide) ?_
      refine gI_iload hB 0 dX7_comeToWait_209 rfl ?_
      refine gI_imulN hB dX7_comeToWait_211 ?_
      refine gI_iconst (v := nI 4) hB dX7_comeToWait_212 (by decide) ?_
      refine gI_iaddN hB dX7_comeToWait_213 ?_
      refine gI_aload_n hB 3 dX7_comeToWait_214 rfl ?_
      refine gI_iconst (v := nI 4) hB dX7_comeToWait_215 (by decide) ?_
      refine gM_ald hB hM 4 (by decide) 4 rfl (show 4 < 14 by omega) dX7_comeToWait_216 ?_
      refine gI_topi hB (y := nI p) ep ?_
      refine gI_iconst (v := nI 1) hB dX7_comeToWait_217 (by decide) ?_
      refine gI_iaddN hB dX7_comeToWait_218 ?_
      refine gM_ast hB hM hF 2 (by decide) ((14 * K) + 4) rfl (show (14 * K) + 4 < 840 by omega) dX7_comeToWait_219 (fun h hM hF => ?_)
      refine gI_aload_n hB 2 dX7_comeToWait_220 rfl ?_
      refine gM_get hB hM 7 (v := .ref (a 3)) (by decide +kernel) (by decide) (by decide +kernel) rfl rfl dX7_comeToWait_221 ?_
      refine gI_bipush (v := nI 14) hB dX7_comeToWait_224 (by decide) ?_
      refine gI_iload hB 0 dX7_comeToWait_226 rfl ?_
      refine gI_imulN hB dX7_comeToWait_228 ?_
      refine gI_iconst (v := nI 5) hB dX7_comeToWait_229 (by decide) ?_
      refine gI_iaddN hB dX7_comeToWait_230 ?_
      refine gI_aload_n hB 3 dX7_comeToWait_231 rfl ?_
      refine gI_iconst (v := nI 4) hB dX7_comeToWait_232 (by decide) ?_
      refine gM_ald hB hM 4 (by decide) 4 rfl (show 4 < 14 by omega) dX7_comeToWait_233 ?_
      refine gI_topi hB (y := nI p) ep ?_
      refine gI_iaddN hB dX7_comeToWait_234 ?_
      refine gI_iconst (v := nI 1) hB dX7_comeToWait_235 (by decide) ?_
      refine gI_iaddN hB dX7_comeToWait_236 ?_
      refine gI_iload_n hB 4 dX7_comeToWait_237 rfl ?_
      refine gM_ast hB hM hF 2 (by decide) ((((14 * K) + 5) + p) + 1) rfl (show (((14 * K) + 5) + p) + 1 < 840 by omega) dX7_comeToWait_238 (fun h hM hF => ?_)
      refine gI_aload_n hB 2 dX7_comeToWait_239 rfl ?_
      refine gI_dup hB dX7_comeToWait_240 rfl ?_
      refine gM_get hB hM 6 (v := .int (u.1 6)) (by decide +kernel) (by decide) (by decide +kernel) rfl rfl dX7_comeToWait_241 ?_
      refine gI_topi hB (y := nI W) eW ?_
      refine gI_iconst (v := nI 1) hB dX7_comeToWait_244 (by decide) ?_
      refine gI_iaddN hB dX7_comeToWait_245 ?_
      refine gM_put hB hM hF 6 (sg (sa (sa (sa (sa (sa (sa (sa (sa u 2 (va_cpy (u.2 2) (u.2 2) (14 * K) (14 * (K + 1)) (14 * (W - K)))) 2 (va_cpy (u.2 4) (va_cpy (u.2 2) (u.2 2) (14 * K) (14 * (K + 1)) (14 * (W - K))) 0 (14 * K) 14)) 2 (upd (va_cpy (u.2 4) (va_cpy (u.2 2) (u.2 2) (14 * K) (14 * (K + 1)) (14 * (W - K))) 0 (14 * K) 14) (14 * K) (u.2 4 0 + delay))) 2 (upd (upd (va_cpy (u.2 4) (va_cpy (u.2 2) (u.2 2) (14 * K) (14 * (K + 1)) (14 * (W - K))) 0 (14 * K) 14) (14 * K) (u.2 4 0 + delay)) ((14 * K) + 1) to)) 2 (upd (upd (upd (va_cpy (u.2 4) (va_cpy (u.2 2) (u.2 2) (14 * K) (14 * (K + 1)) (14 * (W - K))) 0 (14 * K) 14) (14 * K) (u.2 4 0 + delay)) ((14 * K) + 1) to) ((14 * K) + 2) (u.2 4 1))) 2 (upd (upd (upd (upd (va_cpy (u.2 4) (va_cpy (u.2 2) (u.2 2) (14 * K) (14 * (K + 1)) (14 * (W - K))) 0 (14 * K) 14) (14 * K) (u.2 4 0 + delay)) ((14 * K) + 1) to) ((14 * K) + 2) (u.2 4 1)) ((14 * K) + 3) ((u.2 4 3) + shift))) 2 (upd (upd (upd (upd (upd (va_cpy (u.2 4) (va_cpy (u.2 2) (u.2 2) (14 * K) (14 * (K + 1)) (14 * (W - K))) 0 (14 * K) 14) (14 * K) (u.2 4 0 + delay)) ((14 * K) + 1) to) ((14 * K) + 2) (u.2 4 1)) ((14 * K) + 3) ((u.2 4 3) + shift)) ((14 * K) + 4) (nI (p + 1)))) 2 (upd (upd (upd (upd (upd (upd (va_cpy (u.2 4) (va_cpy (u.2 2) (u.2 2) (14 * K) (14 * (K + 1)) (14 * (W - K))) 0 (14 * K) 14) (14 * K) (u.2 4 0 + delay)) ((14 * K) + 1) to) ((14 * K) + 2) (u.2 4 1)) ((14 * K) + 3) ((u.2 4 3) + shift)) ((14 * K) + 4) (nI (p + 1))) ((((14 * K) + 5) + p) + 1) to)) 6 (nI (W + 1))) (by decide +kernel) (by decide) (by decide +kernel) rfl rfl rfl rfl rfl rfl dX7_comeToWait_246 (fun h hM hF => ?_)
      refine gI_vret hB hE dX7_comeToWait_249 ?_
      refine ⟨_, hM, hF, rfl, ?_, rfl, rfl⟩
      unfold mWait
      rw [if_neg (by rw [eW]; exact fun z => hW9 ((nI_eq (by omega) (by omega)).mp z)), eW, mCl (by omega), ep, mCl (by omega), ← hK]
      simp only [sa_sa]; rfl
    have lp : ∀ (r_lp : Nat) (k : Nat), k + 1 ≤ r_lp → k ≤ W → mPos (u.2 2) (u.2 4 0 + delay) to k = K → gW X h 0 0 33 [(6, .int (nI k)), (5, .int (u.2 4 0 + delay)), (0, .ref (a 0)), (1, .ref (a 5)), (2, .int to), (3, .int delay), (4, .int shift)] [] := by
      intro r_lp
      induction r_lp with
      | zero => intro k hfu hk hinv; exact absurd hfu (by omega)
      | succ r_lp ih_lp =>
        intro k hfu hk hinv
        refine gI_iload hB 0 dX7_comeToWait_33 rfl ?_
        refine gI_if_le hB 96 dX7_comeToWait_35 (by decide) (fun c35_2 => ?_) (fun c35_2 => ?_)
        · skip
          have k0 : k = 0 := by rcases Nat.eq_zero_or_pos k with z | z; exact z; exact absurd c35_2 (nI_nle z (by omega))
          have eK : k = K := by subst k0; exact hinv
          rw [eK]
          refine gI_loc [0, 1, 2, 3, 4, 5, 6] rfl ?_
          exact tl
        · skip
          obtain ⟨j, ej⟩ : ∃ j, k = j + 1 := ⟨k - 1, by rcases Nat.eq_zero_or_pos k with z | z; exact absurd (by rw [z]; decide) c35_2; omega⟩
          subst ej
          refine gI_aload_n hB 2 dX7_comeToWait_38 rfl ?_
          refine gM_get hB hM 7 (v := .ref (a 3)) (by decide +kernel) (by decide) (by decide +kernel) rfl rfl dX7_comeToWait_39 ?_
          refine gI_bipush (v := nI 14) hB dX7_comeToWait_42 (by decide) ?_
          refine gI_iload hB 0 dX7_comeToWait_44 rfl ?_
          refine gI_iconst (v := nI 1) hB dX7_comeToWait_46 (by decide) ?_
          refine gI_isub hB dX7_comeToWait_47 ?_
          refine gI_topi hB (y := nI j) (nI_m1 j) ?_
          refine gI_imulN hB dX7_comeToWait_48 ?_
          refine gM_ald hB hM 2 (by decide) (14 * j) rfl (show 14 * j < 840 by omega) dX7_comeToWait_49 ?_
          refine gI_iload hB 1 dX7_comeToWait_50 rfl ?_
          refine gI_icmp_gt hB 90 dX7_comeToWait_52 (by decide) (fun c52_3 => ?_) (fun c52_3 => ?_)
          · skip
            refine gI_iinc hB 0 ([(6, .int (nI j)), (5, .int (u.2 4 0 + delay)), (0, .ref (a 0)), (1, .ref (a 5)), (2, .int to), (3, .int delay), (4, .int shift)]) hnL dX7_comeToWait_90 rfl (pk_m1 j) (by decide) rfl ?_
            refine gI_goto hB 33 dX7_comeToWait_93 (by decide) ?_
            refine gI_loc [0, 1, 2, 3, 4, 5, 6] rfl ?_
            exact ih_lp j (by omega) (by omega) (by rw [mPos, if_pos (Or.inl c52_3)] at hinv; exact hinv)
          · skip
            refine gI_aload_n hB 2 dX7_comeToWait_55 rfl ?_
            refine gM_get hB hM 7 (v := .ref (a 3)) (by decide +kernel) (by decide) (by decide +kernel) rfl rfl dX7_comeToWait_56 ?_
            refine gI_bipush (v := nI 14) hB dX7_comeToWait_59 (by decide) ?_
            refine gI_iload hB 0 dX7_comeToWait_61 rfl ?_
            refine gI_iconst (v := nI 1) hB dX7_comeToWait_63 (by decide) ?_
            refine gI_isub hB dX7_comeToWait_64 ?_
            refine gI_topi hB (y := nI j) (nI_m1 j) ?_
            refine gI_imulN hB dX7_comeToWait_65 ?_
            refine gM_ald hB hM 2 (by decide) (14 * j) rfl (show 14 * j < 840 by omega) dX7_comeToWait_66 ?_
            refine gI_iload hB 1 dX7_comeToWait_67 rfl ?_
            refine gI_icmp_ne hB 96 dX7_comeToWait_69 (by decide) (fun c69_4 => ?_) (fun c69_4 => ?_)
            · skip
              have eK : (j + 1) = K := by rw [mPos, if_neg (fun z => z.elim (fun y => c52_3 y) (fun y => c69_4 y.1))] at hinv; exact hinv
              rw [eK]
              refine gI_loc [0, 1, 2, 3, 4, 5, 6] rfl ?_
              exact tl
            · skip
              refine gI_aload_n hB 2 dX7_comeToWait_72 rfl ?_
              refine gM_get hB hM 7 (v := .ref (a 3)) (by decide +kernel) (by decide) (by decide +kernel) rfl rfl dX7_comeToWait_73 ?_
              refine gI_bipush (v := nI 14) hB dX7_comeToWait_76 (by decide) ?_
              refine gI_iload hB 0 dX7_comeToWait_78 rfl ?_
              refine gI_iconst (v := nI 1) hB dX7_comeToWait_80 (by decide) ?_
              refine gI_isub hB dX7_comeToWait_81 ?_
              refine gI_topi hB (y := nI j) (nI_m1 j) ?_
              refine gI_imulN hB dX7_comeToWait_82 ?_
              refine gI_iconst (v := nI 1) hB dX7_comeToWait_83 (by decide) ?_
              refine gI_iaddN hB dX7_comeToWait_84 ?_
              refine gM_ald hB hM 2 (by decide) ((14 * j) + 1) rfl (show (14 * j) + 1 < 840 by omega) dX7_comeToWait_85 ?_
              refine gI_iload_n hB 4 dX7_comeToWait_86 rfl ?_
              refine gI_icmp_le hB 96 dX7_comeToWait_87 (by decide) (fun c87_5 => ?_) (fun c87_5 => ?_)
              · skip
                have eK : (j + 1) = K := by rw [mPos, if_neg (fun z => z.elim (fun y => c52_3 y) (fun y => absurd y.2 (Int32.not_lt.mpr c87_5)))] at hinv; exact hinv
                rw [eK]
                refine gI_loc [0, 1, 2, 3, 4, 5, 6] rfl ?_
                exact tl
              · skip
                refine gI_iinc hB 0 ([(6, .int (nI j)), (5, .int (u.2 4 0 + delay)), (0, .ref (a 0)), (1, .ref (a 5)), (2, .int to), (3, .int delay), (4, .int shift)]) hnL dX7_comeToWait_90 rfl (pk_m1 j) (by decide) rfl ?_
                refine gI_goto hB 33 dX7_comeToWait_93 (by decide) ?_
                refine gI_loc [0, 1, 2, 3, 4, 5, 6] rfl ?_
                exact ih_lp j (by omega) (by omega) (by rw [mPos, if_pos (Or.inr ⟨c69_4, Int32.not_le.mp c87_5⟩)] at hinv; exact hinv)
    refine gI_loc [0, 1, 2, 3, 4, 5, 6] rfl ?_
    exact lp (W + 1) W (by omega) (by omega) hK.symm
  · skip
    have c6_1 := (nI_eq (by omega) (by omega)).mp c6_1
    refine gI_aload_n hB 0 dX7_comeToWait_9 rfl ?_
    refine gI_dup hB dX7_comeToWait_10 rfl ?_
    refine gM_get hB hM 9 (v := .int (u.1 9)) (by decide +kernel) (by decide) (by decide +kernel) rfl rfl dX7_comeToWait_11 ?_
    refine gI_iconst (v := nI 1) hB dX7_comeToWait_14 (by decide) ?_
    refine gI_iadd hB dX7_comeToWait_15 ?_
    refine gM_put hB hM hF 9 (sg u 9 ((u.1 9) + (nI 1))) (by decide +kernel) (by decide) (by decide +kernel) rfl rfl rfl rfl rfl rfl dX7_comeToWait_16 (fun h hM hF => ?_)
    refine gI_vret hB hE dX7_comeToWait_19 ?_
    refine ⟨_, hM, hF, rfl, ?_, rfl, rfl⟩
    unfold mWait; rw [if_pos (eW.trans (congrArg nI c6_1))]; try rfl
