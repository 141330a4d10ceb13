set_option maxRecDepth 100000 in
set_option maxHeartbeats 4000000 in
theorem c_sounds (G : gG) (h : gH) (a : Nat → Nat) (u : MS) (T W z : Nat) (hM : mRep G h a u) (o : mOk u T W z) (x q : Int32) : gMet yX7_sounds wsX7_sounds (gRm 3 0 0) G h [.ref (a 0), .int x, .int q] (mPo G h a (mSp (mSounds u x q) 0 0)) := by
  refine gMet_of (maxL := 8) (ret := (some .int)) (by decide) rfl (Nat.le_of_ble_eq_true rfl) ?_
  intro X hG hnL hB hE
  subst hG
  change gW X h 0 0 0 [(0, .ref (a 0)), (1, .int x), (2, .int q)] []
  have hF : mFr h h := mFr.rf
  have hw := o.W
  have hT := o.2.1
  have hW60 := o.2.2.2.1
  have hz200 := o.2.2.2.2.2.1
  have ez := o.2.2.2.2.1
  have eW := o.2.2.1
  have eK : mKept u = z := by unfold mKept; rw [ez, mCl (by omega)]
  refine gI_aload_n hB 0 dX7_sounds_0 rfl ?_
  refine gI_iconst (v := nI 0) hB dX7_sounds_1 (by decide) ?_
  refine gM_put hB hM hF 0 (sg u 0 (nI 0)) (by decide +kernel) (by decide) (by decide +kernel) rfl rfl rfl rfl rfl rfl dX7_sounds_2 (fun h hM hF => ?_)
  refine gI_iload_n hB 1 dX7_sounds_5 rfl ?_
  refine gI_if_ge hB 15 dX7_sounds_6 (by decide) (fun c6_1 => ?_) (fun c6_1 => ?_)
  · skip
    refine gI_iload_n hB 2 dX7_sounds_15 rfl ?_
    refine gI_iconst (v := nI 0) hB dX7_sounds_16 (by decide) ?_
    refine gI_iconst (v := nI 3) hB dX7_sounds_17 (by decide) ?_
    refine gI_pureS (n9 := 3) (As := [.int q, .int (nI 0), .int (nI 3)]) (rest := []) hB (c_isIn X.2.1 h q (nI 0) (nI 3)) (gCW.of ggX7_sounds_X7_isIn rfl ⟨by decide, by decide, by decide +kernel⟩ ⟨Nat.le_of_ble_eq_true rfl, Nat.le_of_ble_eq_true rfl⟩) (Or.inl (by decide +kernel)) (by decide +kernel) (by decide +kernel) rfl rfl (Nat.le_of_ble_eq_true rfl) (by first | exact Nat.le_of_ble_eq_true rfl | (dsimp only [gRm]; omega)) (by first | exact Nat.le_of_ble_eq_true rfl | (dsimp only [gRm]; omega)) dX7_sounds_18 ?_
    refine gI_if_ne hB 30 dX7_sounds_21 (by decide) (fun c21_2 => ?_) (fun c21_2 => ?_)
    · skip
      have c21_2 := gbi_n0 c21_2
      have hq := c21_2
      refine gI_iload_n hB 2 dX7_sounds_30 rfl ?_
      refine gI_iconst (v := nI 3) hB dX7_sounds_31 (by decide) ?_
      refine gI_icmp_ne hB 41 dX7_sounds_32 (by decide) (fun c32_3 => ?_) (fun c32_3 => ?_)
      · skip
        refine gI_iconst (v := nI 0) hB dX7_sounds_41 (by decide) ?_
        refine gI_istore_n hB ([(3, .int (nI 0)), (0, .ref (a 0)), (1, .int x), (2, .int q)]) hnL dX7_sounds_42 (by decide) rfl ?_
        refine gI_iconst (v := (-1)) hB dX7_sounds_43 (by decide) ?_
        refine gI_istore hB ([(4, .int (-1)), (3, .int (nI 0)), (0, .ref (a 0)), (1, .int x), (2, .int q)]) hnL dX7_sounds_44 (by decide) rfl ?_
        refine gI_iconst (v := (-1)) hB dX7_sounds_46 (by decide) ?_
        refine gI_istore hB ([(5, .int (-1)), (4, .int (-1)), (3, .int (nI 0)), (0, .ref (a 0)), (1, .int x), (2, .int q)]) hnL dX7_sounds_47 (by decide) rfl ?_
        refine gI_iconst (v := nI 0) hB dX7_sounds_49 (by decide) ?_
        refine gI_istore hB ([(6, .int (nI 0)), (5, .int (-1)), (4, .int (-1)), (3, .int (nI 0)), (0, .ref (a 0)), (1, .int x), (2, .int q)]) hnL dX7_sounds_50 (by decide) rfl ?_
        have ls : ∀ (r_ls : Nat) (i m : Nat) (l g : Int32), z + 1 ≤ i + r_ls → i ≤ z → m = mSnM u x i → l = mSnL u x i → g = mSnG u x i → gW X h 0 0 52 [(6, .int (nI i)), (5, .int (g)), (4, .int (l)), (3, .int (nI (m))), (0, .ref (a 0)), (1, .int x), (2, .int q)] [] := by
          intro r_ls
          induction r_ls with
          | zero => intro i m l g hfu hi em9 el9 eg9; exact absurd hfu (by omega)
          | succ r_ls ih_ls =>
            intro i m l g hfu hi em9 el9 eg9
            refine gI_iload hB 0 dX7_sounds_52 rfl ?_
            refine gI_aload_n hB 4 dX7_sounds_54 rfl ?_
            refine gM_get hB hM 12 (v := .int (u.1 12)) (by decide +kernel) (by decide) (by decide +kernel) rfl rfl dX7_sounds_55 ?_
            refine gI_topi hB (y := nI z) ez ?_
            refine gI_icmp_ge hB 124 dX7_sounds_58 (by decide) (fun c58_4 => ?_) (fun c58_4 => ?_)
            · skip
              have c58_4 := (nI_leI (by omega) (by omega)).mp c58_4
              refine gI_iload_n hB 6 dX7_sounds_124 rfl ?_
              refine gI_if_ne hB 132 dX7_sounds_125 (by decide) (fun c125_5 => ?_) (fun c125_5 => ?_)
              · skip
                refine gI_iload_n hB 6 dX7_sounds_132 rfl ?_
                refine gI_iconst (v := nI 1) hB dX7_sounds_133 (by decide) ?_
                refine gI_icmp_ne hB 142 dX7_sounds_134 (by decide) (fun c134_6 => ?_) (fun c134_6 => ?_)
                · skip
                  refine gI_iload hB 1 dX7_sounds_142 rfl ?_
                  refine gI_iret hB hE dX7_sounds_144 ?_
                  refine ⟨_, hM, hF, ?_⟩
                  have e9 : mSounds u x q = ((sg u 0 (nI 0)), (g)) := by
                    unfold mSounds; rw [if_neg (Int32.not_lt.mpr c6_1), if_pos hq, if_neg c32_3, if_neg c125_5, if_neg c134_6, eK, show z = i by omega, ← eg9]; try rfl
                  rw [e9]
                  exact ⟨rfl, rfl, by omega, by omega⟩
                · skip
                  refine gI_iload hB 2 dX7_sounds_137 rfl ?_
                  refine gI_goto hB 144 dX7_sounds_139 (by decide) ?_
                  refine gI_iret hB hE dX7_sounds_144 ?_
                  refine ⟨_, hM, hF, ?_⟩
                  have e9 : mSounds u x q = ((sg u 0 (nI 0)), (l)) := by
                    unfold mSounds; rw [if_neg (Int32.not_lt.mpr c6_1), if_pos hq, if_neg c32_3, if_neg c125_5, if_pos c134_6, eK, show z = i by omega, ← el9]; try rfl
                  rw [e9]
                  exact ⟨rfl, rfl, by omega, by omega⟩
              · skip
                refine gI_iload_n hB 3 dX7_sounds_128 rfl ?_
                refine gI_goto hB 144 dX7_sounds_129 (by decide) ?_
                refine gI_iret hB hE dX7_sounds_144 ?_
                refine ⟨_, hM, hF, ?_⟩
                have e9 : mSounds u x q = ((sg u 0 (nI 0)), (nI (m))) := by
                  unfold mSounds; rw [if_neg (Int32.not_lt.mpr c6_1), if_pos hq, if_neg c32_3, if_pos c125_5, eK, show z = i by omega, ← em9]; try rfl
                rw [e9]
                exact ⟨rfl, rfl, by omega, by omega⟩
            · skip
              have c58_4 := mt (nI_leI (by omega) (by omega)).mpr c58_4
              refine gI_aload_n hB 4 dX7_sounds_61 rfl ?_
              refine gI_iload hB 0 dX7_sounds_62 rfl ?_
              refine gI_iload_n hB 5 dX7_sounds_64 rfl ?_
              refine gM_pure (n9 := 2) (As := [.int (nI i), .int x]) (rest := []) hB hM (c_isSounding X.2.1 h a (sg u 0 (nI 0)) hM i x (by omega)) (gCW.of ggX7_sounds_X7_isSounding rfl ⟨by decide, by decide, by decide +kernel⟩ ⟨Nat.le_of_ble_eq_true rfl, Nat.le_of_ble_eq_true rfl⟩) (by decide +kernel) (by decide +kernel) (by decide +kernel) (by decide +kernel) rfl rfl (Nat.le_of_ble_eq_true rfl) (by first | exact Nat.le_of_ble_eq_true rfl | (dsimp only [gRm]; omega)) (by first | exact Nat.le_of_ble_eq_true rfl | (dsimp only [gRm]; omega)) dX7_sounds_65 ?_
              refine gI_topi hB (y := gbi (mSnd u i x)) rfl ?_
              refine gI_if_ne hB 74 dX7_sounds_68 (by decide) (fun c68_7 => ?_) (fun c68_7 => ?_)
              · skip
                have c68_7 := gbi_n0 c68_7
                have hm200 : m ≤ i := by rw [em9]; exact mSnM_le u x i
                refine gI_aload_n hB 4 dX7_sounds_74 rfl ?_
                refine gM_get hB hM 13 (v := .ref (a 4)) (by decide +kernel) (by decide) (by decide +kernel) rfl rfl dX7_sounds_75 ?_
                refine gI_bipush (v := nI 15) hB dX7_sounds_78 (by decide) ?_
                refine gI_iload hB 0 dX7_sounds_80 rfl ?_
                refine gI_imulN hB dX7_sounds_82 ?_
                refine gI_iconst (v := nI 2) hB dX7_sounds_83 (by decide) ?_
                refine gI_iaddN hB dX7_sounds_84 ?_
                refine gM_ald hB hM 3 (by decide) ((15 * i) + 2) rfl (show (15 * i) + 2 < 3000 by omega) dX7_sounds_85 ?_
                refine gI_istore hB ([(7, .int (u.2 3 ((15 * i) + 2))), (6, .int (nI i)), (5, .int (g)), (4, .int (l)), (3, .int (nI (m))), (0, .ref (a 0)), (1, .int x), (2, .int q)]) hnL dX7_sounds_86 (by decide) rfl ?_
                refine gI_iload_n hB 4 dX7_sounds_88 rfl ?_
                refine gI_if_ne hB 97 dX7_sounds_89 (by decide) (fun c89_8 => ?_) (fun c89_8 => ?_)
                · skip
                  have c89_8 : m ≠ 0 := fun z9 => c89_8 (by rw [z9]; rfl)
                  refine gI_iload hB 3 dX7_sounds_97 rfl ?_
                  refine gI_iload hB 0 dX7_sounds_99 rfl ?_
                  refine gI_mmin hB (by decide +kernel) (by decide +kernel) (by decide +kernel) (by decide +kernel) (Nat.le_of_ble_eq_true rfl) (Nat.le_of_ble_eq_true rfl) (by first | exact Nat.le_of_ble_eq_true rfl | (dsimp only [gRm]; omega)) (by first | exact Nat.le_of_ble_eq_true rfl | (dsimp only [gRm]; omega)) dX7_sounds_101 ?_
                  refine gI_istore hB ([(4, .int (if (u.2 3 ((15 * i) + 2)) < (l) then (u.2 3 ((15 * i) + 2)) else (l))), (7, .int (u.2 3 ((15 * i) + 2))), (6, .int (nI i)), (5, .int (g)), (3, .int (nI (m))), (0, .ref (a 0)), (1, .int x), (2, .int q)]) hnL dX7_sounds_104 (by decide) rfl ?_
                  refine gI_iload hB 3 dX7_sounds_106 rfl ?_
                  refine gI_iload hB 1 dX7_sounds_108 rfl ?_
                  refine gI_mmax hB (by decide +kernel) (by decide +kernel) (by decide +kernel) (by decide +kernel) (Nat.le_of_ble_eq_true rfl) (Nat.le_of_ble_eq_true rfl) (by first | exact Nat.le_of_ble_eq_true rfl | (dsimp only [gRm]; omega)) (by first | exact Nat.le_of_ble_eq_true rfl | (dsimp only [gRm]; omega)) dX7_sounds_110 ?_
                  refine gI_istore hB ([(5, .int (if (g) < (u.2 3 ((15 * i) + 2)) then (u.2 3 ((15 * i) + 2)) else (g))), (4, .int (if (u.2 3 ((15 * i) + 2)) < (l) then (u.2 3 ((15 * i) + 2)) else (l))), (7, .int (u.2 3 ((15 * i) + 2))), (6, .int (nI i)), (3, .int (nI (m))), (0, .ref (a 0)), (1, .int x), (2, .int q)]) hnL dX7_sounds_113 (by decide) rfl ?_
                  refine gI_iinc hB 4 ([(3, .int (nI (m + 1))), (5, .int (if (g) < (u.2 3 ((15 * i) + 2)) then (u.2 3 ((15 * i) + 2)) else (g))), (4, .int (if (u.2 3 ((15 * i) + 2)) < (l) then (u.2 3 ((15 * i) + 2)) else (l))), (7, .int (u.2 3 ((15 * i) + 2))), (6, .int (nI i)), (0, .ref (a 0)), (1, .int x), (2, .int q)]) hnL dX7_sounds_115 rfl (nI_1 (m)) (by decide) rfl ?_
                  refine gI_iinc hB 4 ([(6, .int (nI (i + 1))), (3, .int (nI (m + 1))), (5, .int (if (g) < (u.2 3 ((15 * i) + 2)) then (u.2 3 ((15 * i) + 2)) else (g))), (4, .int (if (u.2 3 ((15 * i) + 2)) < (l) then (u.2 3 ((15 * i) + 2)) else (l))), (7, .int (u.2 3 ((15 * i) + 2))), (0, .ref (a 0)), (1, .int x), (2, .int q)]) hnL dX7_sounds_118 rfl (nI_1 (i)) (by decide) rfl ?_
                  refine gI_goto hB 52 dX7_sounds_121 (by decide) ?_
                  refine gI_loc [0, 2, 3, 1, 5, 6, 7] rfl ?_
                  exact ih_ls (i + 1) (m + 1) (if (u.2 3 ((15 * i) + 2)) < (l) then (u.2 3 ((15 * i) + 2)) else (l)) (if (g) < (u.2 3 ((15 * i) + 2)) then (u.2 3 ((15 * i) + 2)) else (g)) (by omega) (by omega) (by rw [mSnM, if_pos c68_7, ← em9]) (by rw [mSnL, if_pos c68_7, if_neg (show ¬ mSnM u x i = 0 from em9 ▸ c89_8), ← el9]; try rfl) (by rw [mSnG, if_pos c68_7, ← eg9]; try rfl)
                · skip
                  have c89_8 : m = 0 := (nI_eq (a := m) (b := 0) (by omega) (by omega)).mp c89_8
                  refine gI_iload hB 0 dX7_sounds_92 rfl ?_
                  refine gI_goto hB 104 dX7_sounds_94 (by decide) ?_
                  refine gI_istore hB ([(4, .int (u.2 3 ((15 * i) + 2))), (7, .int (u.2 3 ((15 * i) + 2))), (6, .int (nI i)), (5, .int (g)), (3, .int (nI (m))), (0, .ref (a 0)), (1, .int x), (2, .int q)]) hnL dX7_sounds_104 (by decide) rfl ?_
                  refine gI_iload hB 3 dX7_sounds_106 rfl ?_
                  refine gI_iload hB 1 dX7_sounds_108 rfl ?_
                  refine gI_mmax hB (by decide +kernel) (by decide +kernel) (by decide +kernel) (by decide +kernel) (Nat.le_of_ble_eq_true rfl) (Nat.le_of_ble_eq_true rfl) (by first | exact Nat.le_of_ble_eq_true rfl | (dsimp only [gRm]; omega)) (by first | exact Nat.le_of_ble_eq_true rfl | (dsimp only [gRm]; omega)) dX7_sounds_110 ?_
                  refine gI_istore hB ([(5, .int (if (g) < (u.2 3 ((15 * i) + 2)) then (u.2 3 ((15 * i) + 2)) else (g))), (4, .int (u.2 3 ((15 * i) + 2))), (7, .int (u.2 3 ((15 * i) + 2))), (6, .int (nI i)), (3, .int (nI (m))), (0, .ref (a 0)), (1, .int x), (2, .int q)]) hnL dX7_sounds_113 (by decide) rfl ?_
                  refine gI_iinc hB 4 ([(3, .int (nI (m + 1))), (5, .int (if (g) < (u.2 3 ((15 * i) + 2)) then (u.2 3 ((15 * i) + 2)) else (g))), (4, .int (u.2 3 ((15 * i) + 2))), (7, .int (u.2 3 ((15 * i) + 2))), (6, .int (nI i)), (0, .ref (a 0)), (1, .int x), (2, .int q)]) hnL dX7_sounds_115 rfl (nI_1 (m)) (by decide) rfl ?_
                  refine gI_iinc hB 4 ([(6, .int (nI (i + 1))), (3, .int (nI (m + 1))), (5, .int (if (g) < (u.2 3 ((15 * i) + 2)) then (u.2 3 ((15 * i) + 2)) else (g))), (4, .int (u.2 3 ((15 * i) + 2))), (7, .int (u.2 3 ((15 * i) + 2))), (0, .ref (a 0)), (1, .int x), (2, .int q)]) hnL dX7_sounds_118 rfl (nI_1 (i)) (by decide) rfl ?_
                  refine gI_goto hB 52 dX7_sounds_121 (by decide) ?_
                  refine gI_loc [0, 2, 3, 1, 5, 6, 7] rfl ?_
                  exact ih_ls (i + 1) (m + 1) (u.2 3 ((15 * i) + 2)) (if (g) < (u.2 3 ((15 * i) + 2)) then (u.2 3 ((15 * i) + 2)) else (g)) (by omega) (by omega) (by rw [mSnM, if_pos c68_7, ← em9]) (by rw [mSnL, if_pos c68_7, if_pos (show mSnM u x i = 0 from em9 ▸ c89_8)]; try rfl) (by rw [mSnG, if_pos c68_7, ← eg9]; try rfl)
              · skip
                have c68_7 := gbi_0.mp c68_7
                refine gI_goto hB 118 dX7_sounds_71 (by decide) ?_
                refine gI_iinc hB 0 ([(6, .int (nI (i + 1))), (5, .int (g)), (4, .int (l)), (3, .int (nI (m))), (0, .ref (a 0)), (1, .int x), (2, .int q)]) hnL dX7_sounds_118 rfl (nI_1 (i)) (by decide) rfl ?_
                refine gI_goto hB 52 dX7_sounds_121 (by decide) ?_
                refine gI_loc [0, 1, 2, 3, 4, 5, 6] rfl ?_
                exact ih_ls (i + 1) m l g (by omega) (by omega) (by rw [mSnM, if_neg c68_7]; exact em9) (by rw [mSnL, if_neg c68_7]; exact el9) (by rw [mSnG, if_neg c68_7]; exact eg9)
        refine gI_loc [0, 1, 2, 3, 4, 5, 6] rfl ?_
        exact ls (z + 1) 0 0 (-1) (-1) (by omega) (by omega) rfl rfl rfl
      · skip
        refine gI_aload_n hB 0 dX7_sounds_35 rfl ?_
        refine gI_iload_n hB 1 dX7_sounds_36 rfl ?_
        refine gM_pure (n9 := 1) (As := [.int x]) (rest := []) hB hM (c_harmony X.2.1 h a (sg u 0 (nI 0)) hM z ez hz200 x) (gCW.of ggX7_sounds_X7_harmony rfl ⟨by decide, by decide, by decide +kernel⟩ ⟨Nat.le_of_ble_eq_true rfl, Nat.le_of_ble_eq_true rfl⟩) (by decide +kernel) (by decide +kernel) (by decide +kernel) (by decide +kernel) rfl rfl (Nat.le_of_ble_eq_true rfl) (by first | exact Nat.le_of_ble_eq_true rfl | (dsimp only [gRm]; omega)) (by first | exact Nat.le_of_ble_eq_true rfl | (dsimp only [gRm]; omega)) dX7_sounds_37 ?_
        refine gI_topi hB (y := mHarA u x z) (mHarA_sg u 0 (nI 0) x z) ?_
        refine gI_iret hB hE dX7_sounds_40 ?_
        refine ⟨_, hM, hF, ?_⟩
        have e9 : mSounds u x q = ((sg u 0 (nI 0)), (mHarA u x z)) := by
          unfold mSounds; rw [if_neg (Int32.not_lt.mpr c6_1), if_pos hq, if_pos c32_3, eK]; try rfl
        rw [e9]
        exact ⟨rfl, rfl, by omega, by omega⟩
    · skip
      have c21_2 := gbi_0.mp c21_2
      refine gI_aload_n hB 0 dX7_sounds_24 rfl ?_
      refine gI_iconst (v := nI 2) hB dX7_sounds_25 (by decide) ?_
      refine gM_call (n9 := 1) (As := [.int (nI 2)]) (rest := []) hB hM hF (c_fail X.2.1 h a (sg u 0 (nI 0)) hM (nI 2)) (gCW.of ggX7_sounds_X7_fail rfl ⟨by decide, by decide, by decide +kernel⟩ ⟨Nat.le_of_ble_eq_true rfl, Nat.le_of_ble_eq_true rfl⟩) (by decide +kernel) (by decide +kernel) (by decide +kernel) (by decide +kernel) rfl rfl (Nat.le_of_ble_eq_true rfl) (by first | exact Nat.le_of_ble_eq_true rfl | (dsimp only [gRm]; omega)) (by first | exact Nat.le_of_ble_eq_true rfl | (dsimp only [gRm]; omega)) mSt.no dX7_sounds_26 (fun v9 h u9 k9 n9 hM hF hp => ?_)
      obtain ⟨e9, rfl, rfl, rfl⟩ := hp
      cases e9
      change gW X h (0) (0) _ _ (.int (nI 0) :: _)
      refine gI_iret hB hE dX7_sounds_29 ?_
      refine ⟨_, hM, hF, ?_⟩
      have e9 : mSounds u x q = ((sg (sg u 0 (nI 0)) 0 (nI 2)), (nI 0)) := by
        unfold mSounds; rw [if_neg (Int32.not_lt.mpr c6_1), if_neg c21_2]; try rfl
      rw [e9]
      exact ⟨rfl, rfl, by omega, by omega⟩
  · skip
    refine gI_aload_n hB 0 dX7_sounds_9 rfl ?_
    refine gI_iconst (v := nI 1) hB dX7_sounds_10 (by decide) ?_
    refine gM_call (n9 := 1) (As := [.int (nI 1)]) (rest := []) hB hM hF (c_fail X.2.1 h a (sg u 0 (nI 0)) hM (nI 1)) (gCW.of ggX7_sounds_X7_fail rfl ⟨by decide, by decide, by decide +kernel⟩ ⟨Nat.le_of_ble_eq_true rfl, Nat.le_of_ble_eq_true rfl⟩) (by decide +kernel) (by decide +kernel) (by decide +kernel) (by decide +kernel) rfl rfl (Nat.le_of_ble_eq_true rfl) (by first | exact Nat.le_of_ble_eq_true rfl | (dsimp only [gRm]; omega)) (by first | exact Nat.le_of_ble_eq_true rfl | (dsimp only [gRm]; omega)) mSt.no dX7_sounds_11 (fun v9 h u9 k9 n9 hM hF hp => ?_)
    obtain ⟨e9, rfl, rfl, rfl⟩ := hp
    cases e9
    change gW X h (0) (0) _ _ (.int (nI 0) :: _)
    refine gI_iret hB hE dX7_sounds_14 ?_
    refine ⟨_, hM, hF, ?_⟩
    have e9 : mSounds u x q = ((sg (sg u 0 (nI 0)) 0 (nI 1)), (nI 0)) := by
      unfold mSounds; rw [if_pos (Int32.not_le.mp c6_1)]; try rfl
    rw [e9]
    exact ⟨rfl, rfl, by omega, by omega⟩

set_option maxRecDepth 100000 in
set_option maxHeartbeats 4000000 in
theorem c_best (G : gG) (h : gH) (a : Nat → Nat) (u : MS) (T W z : Nat) (hM : mRep G h a u) (o : mOk u T W z) : gMet yX7_best wsX7_best (gRm 3 0 0) G h [.ref (a 0)] (mPo G h a (mSp (mBest u) 0 0)) := by
  refine gMet_of (maxL := 6) (ret := (some .int)) (by decide) rfl (Nat.le_of_ble_eq_true rfl) ?_
  intro X hG hnL hB hE
  subst hG
  change gW X h 0 0 0 [(0, .ref (a 0))] []
  have hF : mFr h h := mFr.rf
  have hw := o.W
  have hT := o.2.1
  have hW60 := o.2.2.2.1
  have hz200 := o.2.2.2.2.2.1
  have ez := o.2.2.2.2.1
  have eW := o.2.2.1
  have eK : mKept u = z := by unfold mKept; rw [ez, mCl (by omega)]
  refine gI_aload_n hB 0 dX7_best_0 rfl ?_
  refine gI_iconst (v := nI 0) hB dX7_best_1 (by decide) ?_
  refine gM_put hB hM hF 0 (sg u 0 (nI 0)) (by decide +kernel) (by decide) (by decide +kernel) rfl rfl rfl rfl rfl rfl dX7_best_2 (fun h hM hF => ?_)
  refine gI_iconst (v := (-1)) hB dX7_best_5 (by decide) ?_
  refine gI_istore_n hB ([(1, .int (-1)), (0, .ref (a 0))]) hnL dX7_best_6 (by decide) rfl ?_
  refine gI_iconst (v := nI 0) hB dX7_best_7 (by decide) ?_
  refine gI_istore_n hB ([(2, .int (nI 0)), (1, .int (-1)), (0, .ref (a 0))]) hnL dX7_best_8 (by decide) rfl ?_
  refine gI_iconst (v := nI 0) hB dX7_best_9 (by decide) ?_
  refine gI_istore_n hB ([(3, .int (nI 0)), (2, .int (nI 0)), (1, .int (-1)), (0, .ref (a 0))]) hnL dX7_best_10 (by decide) rfl ?_
  have lo : ∀ (r_lo : Nat) (i : Nat) (f m : Int32), z + 1 ≤ i + r_lo → i ≤ z → (f, m) = mBestL u i → gW X h 0 0 11 [(3, .int (nI i)), (2, .int (m)), (1, .int (f)), (0, .ref (a 0))] [] := by
    intro r_lo
    induction r_lo with
    | zero => intro i f m hfu hi eb; exact absurd hfu (by omega)
    | succ r_lo ih_lo =>
      intro i f m hfu hi eb
      refine gI_iload_n hB 0 dX7_best_11 rfl ?_
      refine gI_aload_n hB 3 dX7_best_12 rfl ?_
      refine gM_get hB hM 12 (v := .int (u.1 12)) (by decide +kernel) (by decide) (by decide +kernel) rfl rfl dX7_best_13 ?_
      refine gI_topi hB (y := nI z) ez ?_
      refine gI_icmp_ge hB 87 dX7_best_16 (by decide) (fun c16_1 => ?_) (fun c16_1 => ?_)
      · skip
        have c16_1 := (nI_leI (by omega) (by omega)).mp c16_1
        refine gI_iload_n hB 2 dX7_best_87 rfl ?_
        refine gI_iret hB hE dX7_best_88 ?_
        refine ⟨_, hM, hF, ?_⟩
        have e9 : mBest u = ((sg u 0 (nI 0)), (f)) := by
          unfold mBest; rw [eK, show z = i by omega, ← eb]; try rfl
        rw [e9]
        exact ⟨rfl, rfl, by omega, by omega⟩
      · skip
        have c16_1 := mt (nI_leI (by omega) (by omega)).mpr c16_1
        refine gI_aload_n hB 3 dX7_best_19 rfl ?_
        refine gM_get hB hM 13 (v := .ref (a 4)) (by decide +kernel) (by decide) (by decide +kernel) rfl rfl dX7_best_20 ?_
        refine gI_bipush (v := nI 15) hB dX7_best_23 (by decide) ?_
        refine gI_iload_n hB 0 dX7_best_25 rfl ?_
        refine gI_imulN hB dX7_best_26 ?_
        refine gM_ald hB hM 3 (by decide) (15 * i) rfl (show 15 * i < 3000 by omega) dX7_best_27 ?_
        refine gI_istore hB ([(4, .int (u.2 3 (15 * i))), (3, .int (nI i)), (2, .int (m)), (1, .int (f)), (0, .ref (a 0))]) hnL dX7_best_28 (by decide) rfl ?_
        refine gI_iload_n hB 1 dX7_best_30 rfl ?_
        refine gI_if_le hB 53 dX7_best_31 (by decide) (fun c31_2 => ?_) (fun c31_2 => ?_)
        · skip
          have i0 : i = 0 := by rcases Nat.eq_zero_or_pos i with z9 | z9; exact z9; exact absurd c31_2 (nI_nle z9 (by omega))
          refine gI_aload_n hB 4 dX7_best_53 rfl ?_
          refine gI_iload hB 0 dX7_best_54 rfl ?_
          refine gM_pure (n9 := 1) (As := [.int (u.2 3 (15 * i))]) (rest := []) hB hM (c_harmony X.2.1 h a (sg u 0 (nI 0)) hM z ez hz200 (u.2 3 (15 * i))) (gCW.of ggX7_best_X7_harmony rfl ⟨by decide, by decide, by decide +kernel⟩ ⟨Nat.le_of_ble_eq_true rfl, Nat.le_of_ble_eq_true rfl⟩) (by decide +kernel) (by decide +kernel) (by decide +kernel) (by decide +kernel) rfl rfl (Nat.le_of_ble_eq_true rfl) (by first | exact Nat.le_of_ble_eq_true rfl | (dsimp only [gRm]; omega)) (by first | exact Nat.le_of_ble_eq_true rfl | (dsimp only [gRm]; omega)) dX7_best_56 ?_
          refine gI_topi hB (y := mHarA u (u.2 3 (15 * i)) z) (mHarA_sg u 0 (nI 0) (u.2 3 (15 * i)) z) ?_
          refine gI_istore hB ([(5, .int (mHarA u (u.2 3 (15 * i)) z)), (4, .int (u.2 3 (15 * i))), (3, .int (nI i)), (2, .int (m)), (1, .int (f)), (0, .ref (a 0))]) hnL dX7_best_59 (by decide) rfl ?_
          refine gI_iload_n hB 4 dX7_best_61 rfl ?_
          refine gI_iconst (v := (-1)) hB dX7_best_62 (by decide) ?_
          refine gI_icmp_eq hB 75 dX7_best_63 (by decide) (fun c63_3 => ?_) (fun c63_3 => ?_)
          · skip
            refine gI_iload hB 1 dX7_best_75 rfl ?_
            refine gI_istore_n hB ([(1, .int (u.2 3 (15 * i))), (5, .int (mHarA u (u.2 3 (15 * i)) z)), (4, .int (u.2 3 (15 * i))), (3, .int (nI i)), (2, .int (m)), (0, .ref (a 0))]) hnL dX7_best_77 (by decide) rfl ?_
            refine gI_iload hB 1 dX7_best_78 rfl ?_
            refine gI_istore_n hB ([(2, .int (mHarA u (u.2 3 (15 * i)) z)), (1, .int (u.2 3 (15 * i))), (5, .int (mHarA u (u.2 3 (15 * i)) z)), (4, .int (u.2 3 (15 * i))), (3, .int (nI i)), (0, .ref (a 0))]) hnL dX7_best_80 (by decide) rfl ?_
            refine gI_iinc hB 4 ([(3, .int (nI (i + 1))), (2, .int (mHarA u (u.2 3 (15 * i)) z)), (1, .int (u.2 3 (15 * i))), (5, .int (mHarA u (u.2 3 (15 * i)) z)), (4, .int (u.2 3 (15 * i))), (0, .ref (a 0))]) hnL dX7_best_81 rfl (nI_1 (i)) (by decide) rfl ?_
            refine gI_goto hB 11 dX7_best_84 (by decide) ?_
            refine gI_loc [0, 1, 2, 5] rfl ?_
            exact ih_lo (i + 1) (u.2 3 (15 * i)) (mHarA u (u.2 3 (15 * i)) z) (by omega) (by omega) (by rw [mBestL, if_neg (fun z9 => z9.elim (fun y => absurd y.1 (by omega)) (fun y => y.1 (by rw [← eb]; exact c63_3))), eK])
          · skip
            refine gI_iload hB 0 dX7_best_66 rfl ?_
            refine gI_iload_n hB 3 dX7_best_68 rfl ?_
            refine gI_icmp_gt hB 75 dX7_best_69 (by decide) (fun c69_4 => ?_) (fun c69_4 => ?_)
            · skip
              refine gI_iload hB 1 dX7_best_75 rfl ?_
              refine gI_istore_n hB ([(1, .int (u.2 3 (15 * i))), (5, .int (mHarA u (u.2 3 (15 * i)) z)), (4, .int (u.2 3 (15 * i))), (3, .int (nI i)), (2, .int (m)), (0, .ref (a 0))]) hnL dX7_best_77 (by decide) rfl ?_
              refine gI_iload hB 1 dX7_best_78 rfl ?_
              refine gI_istore_n hB ([(2, .int (mHarA u (u.2 3 (15 * i)) z)), (1, .int (u.2 3 (15 * i))), (5, .int (mHarA u (u.2 3 (15 * i)) z)), (4, .int (u.2 3 (15 * i))), (3, .int (nI i)), (0, .ref (a 0))]) hnL dX7_best_80 (by decide) rfl ?_
              refine gI_iinc hB 4 ([(3, .int (nI (i + 1))), (2, .int (mHarA u (u.2 3 (15 * i)) z)), (1, .int (u.2 3 (15 * i))), (5, .int (mHarA u (u.2 3 (15 * i)) z)), (4, .int (u.2 3 (15 * i))), (0, .ref (a 0))]) hnL dX7_best_81 rfl (nI_1 (i)) (by decide) rfl ?_
              refine gI_goto hB 11 dX7_best_84 (by decide) ?_
              refine gI_loc [0, 1, 2, 5] rfl ?_
              exact ih_lo (i + 1) (u.2 3 (15 * i)) (mHarA u (u.2 3 (15 * i)) z) (by omega) (by omega) (by rw [mBestL, if_neg (fun z9 => z9.elim (fun y => absurd y.1 (by omega)) (fun y => absurd y.2 (by rw [← eb, eK]; exact Int32.not_le.mpr c69_4))), eK])
            · skip
              refine gI_goto hB 81 dX7_best_72 (by decide) ?_
              refine gI_iinc hB 2 ([(3, .int (nI (i + 1))), (5, .int (mHarA u (u.2 3 (15 * i)) z)), (4, .int (u.2 3 (15 * i))), (2, .int (m)), (1, .int (f)), (0, .ref (a 0))]) hnL dX7_best_81 rfl (nI_1 (i)) (by decide) rfl ?_
              refine gI_goto hB 11 dX7_best_84 (by decide) ?_
              refine gI_loc [0, 3, 4, 5] rfl ?_
              exact ih_lo (i + 1) f m (by omega) (by omega) (by rw [mBestL, if_pos (Or.inr ⟨by rw [← eb]; exact c63_3, by rw [← eb, eK]; exact Int32.not_lt.mp c69_4⟩)]; exact eb)
        · skip
          have i0 : 0 < i := by rcases Nat.eq_zero_or_pos i with z9 | z9; exact absurd (by rw [z9]; decide) c31_2; exact z9
          refine gI_iload hB 0 dX7_best_34 rfl ?_
          refine gI_aload_n hB 4 dX7_best_36 rfl ?_
          refine gM_get hB hM 13 (v := .ref (a 4)) (by decide +kernel) (by decide) (by decide +kernel) rfl rfl dX7_best_37 ?_
          refine gI_bipush (v := nI 15) hB dX7_best_40 (by decide) ?_
          refine gI_iload_n hB 1 dX7_best_42 rfl ?_
          refine gI_iconst (v := nI 1) hB dX7_best_43 (by decide) ?_
          refine gI_isubN hB (by omega) dX7_best_44 ?_
          refine gI_imulN hB dX7_best_45 ?_
          refine gM_ald hB hM 3 (by decide) (15 * (i - 1)) rfl (show 15 * (i - 1) < 3000 by omega) dX7_best_46 ?_
          refine gI_icmp_ne hB 53 dX7_best_47 (by decide) (fun c47_5 => ?_) (fun c47_5 => ?_)
          · skip
            refine gI_aload_n hB 4 dX7_best_53 rfl ?_
            refine gI_iload hB 0 dX7_best_54 rfl ?_
            refine gM_pure (n9 := 1) (As := [.int (u.2 3 (15 * i))]) (rest := []) hB hM (c_harmony X.2.1 h a (sg u 0 (nI 0)) hM z ez hz200 (u.2 3 (15 * i))) (gCW.of ggX7_best_X7_harmony rfl ⟨by decide, by decide, by decide +kernel⟩ ⟨Nat.le_of_ble_eq_true rfl, Nat.le_of_ble_eq_true rfl⟩) (by decide +kernel) (by decide +kernel) (by decide +kernel) (by decide +kernel) rfl rfl (Nat.le_of_ble_eq_true rfl) (by first | exact Nat.le_of_ble_eq_true rfl | (dsimp only [gRm]; omega)) (by first | exact Nat.le_of_ble_eq_true rfl | (dsimp only [gRm]; omega)) dX7_best_56 ?_
            refine gI_topi hB (y := mHarA u (u.2 3 (15 * i)) z) (mHarA_sg u 0 (nI 0) (u.2 3 (15 * i)) z) ?_
            refine gI_istore hB ([(5, .int (mHarA u (u.2 3 (15 * i)) z)), (4, .int (u.2 3 (15 * i))), (3, .int (nI i)), (2, .int (m)), (1, .int (f)), (0, .ref (a 0))]) hnL dX7_best_59 (by decide) rfl ?_
            refine gI_iload_n hB 4 dX7_best_61 rfl ?_
            refine gI_iconst (v := (-1)) hB dX7_best_62 (by decide) ?_
            refine gI_icmp_eq hB 75 dX7_best_63 (by decide) (fun c63_6 => ?_) (fun c63_6 => ?_)
            · skip
              refine gI_iload hB 1 dX7_best_75 rfl ?_
              refine gI_istore_n hB ([(1, .int (u.2 3 (15 * i))), (5, .int (mHarA u (u.2 3 (15 * i)) z)), (4, .int (u.2 3 (15 * i))), (3, .int (nI i)), (2, .int (m)), (0, .ref (a 0))]) hnL dX7_best_77 (by decide) rfl ?_
              refine gI_iload hB 1 dX7_best_78 rfl ?_
              refine gI_istore_n hB ([(2, .int (mHarA u (u.2 3 (15 * i)) z)), (1, .int (u.2 3 (15 * i))), (5, .int (mHarA u (u.2 3 (15 * i)) z)), (4, .int (u.2 3 (15 * i))), (3, .int (nI i)), (0, .ref (a 0))]) hnL dX7_best_80 (by decide) rfl ?_
              refine gI_iinc hB 4 ([(3, .int (nI (i + 1))), (2, .int (mHarA u (u.2 3 (15 * i)) z)), (1, .int (u.2 3 (15 * i))), (5, .int (mHarA u (u.2 3 (15 * i)) z)), (4, .int (u.2 3 (15 * i))), (0, .ref (a 0))]) hnL dX7_best_81 rfl (nI_1 (i)) (by decide) rfl ?_
              refine gI_goto hB 11 dX7_best_84 (by decide) ?_
              refine gI_loc [0, 1, 2, 5] rfl ?_
              exact ih_lo (i + 1) (u.2 3 (15 * i)) (mHarA u (u.2 3 (15 * i)) z) (by omega) (by omega) (by rw [mBestL, if_neg (fun z9 => z9.elim (fun y => c47_5 y.2) (fun y => y.1 (by rw [← eb]; exact c63_6))), eK])
            · skip
              refine gI_iload hB 0 dX7_best_66 rfl ?_
              refine gI_iload_n hB 3 dX7_best_68 rfl ?_
              refine gI_icmp_gt hB 75 dX7_best_69 (by decide) (fun c69_7 => ?_) (fun c69_7 => ?_)
              · skip
                refine gI_iload hB 1 dX7_best_75 rfl ?_
                refine gI_istore_n hB ([(1, .int (u.2 3 (15 * i))), (5, .int (mHarA u (u.2 3 (15 * i)) z)), (4, .int (u.2 3 (15 * i))), (3, .int (nI i)), (2, .int (m)), (0, .ref (a 0))]) hnL dX7_best_77 (by decide) rfl ?_
                refine gI_iload hB 1 dX7_best_78 rfl ?_
                refine gI_istore_n hB ([(2, .int (mHarA u (u.2 3 (15 * i)) z)), (1, .int (u.2 3 (15 * i))), (5, .int (mHarA u (u.2 3 (15 * i)) z)), (4, .int (u.2 3 (15 * i))), (3, .int (nI i)), (0, .ref (a 0))]) hnL dX7_best_80 (by decide) rfl ?_
                refine gI_iinc hB 4 ([(3, .int (nI (i + 1))), (2, .int (mHarA u (u.2 3 (15 * i)) z)), (1, .int (u.2 3 (15 * i))), (5, .int (mHarA u (u.2 3 (15 * i)) z)), (4, .int (u.2 3 (15 * i))), (0, .ref (a 0))]) hnL dX7_best_81 rfl (nI_1 (i)) (by decide) rfl ?_
                refine gI_goto hB 11 dX7_best_84 (by decide) ?_
                refine gI_loc [0, 1, 2, 5] rfl ?_
                exact ih_lo (i + 1) (u.2 3 (15 * i)) (mHarA u (u.2 3 (15 * i)) z) (by omega) (by omega) (by rw [mBestL, if_neg (fun z9 => z9.elim (fun y => c47_5 y.2) (fun y => absurd y.2 (by rw [← eb, eK]; exact Int32.not_le.mpr c69_7))), eK])
              · skip
                refine gI_goto hB 81 dX7_best_72 (by decide) ?_
                refine gI_iinc hB 2 ([(3, .int (nI (i + 1))), (5, .int (mHarA u (u.2 3 (15 * i)) z)), (4, .int (u.2 3 (15 * i))), (2, .int (m)), (1, .int (f)), (0, .ref (a 0))]) hnL dX7_best_81 rfl (nI_1 (i)) (by decide) rfl ?_
                refine gI_goto hB 11 dX7_best_84 (by decide) ?_
                refine gI_loc [0, 3, 4, 5] rfl ?_
                exact ih_lo (i + 1) f m (by omega) (by omega) (by rw [mBestL, if_pos (Or.inr ⟨by rw [← eb]; exact c63_6, by rw [← eb, eK]; exact Int32.not_lt.mp c69_7⟩)]; exact eb)
          · skip
            have same := c47_5
            refine gI_goto hB 81 dX7_best_50 (by decide) ?_
            refine gI_iinc hB 1 ([(3, .int (nI (i + 1))), (4, .int (u.2 3 (15 * i))), (2, .int (m)), (1, .int (f)), (0, .ref (a 0))]) hnL dX7_best_81 rfl (nI_1 (i)) (by decide) rfl ?_
            refine gI_goto hB 11 dX7_best_84 (by decide) ?_
            refine gI_loc [0, 2, 3, 4] rfl ?_
            exact ih_lo (i + 1) f m (by omega) (by omega) (by rw [mBestL, if_pos (Or.inl ⟨by omega, same⟩)]; exact eb)
  refine gI_loc [0, 1, 2, 3] rfl ?_
  exact lo (z + 1) 0 (-1) 0 (by omega) (by omega) rfl

set_option maxRecDepth 100000 in
set_option maxHeartbeats 4000000 in
theorem c_emptySongs (G : gG) (h : gH) (a : Nat → Nat) (u : MS) (T W z : Nat) (hM : mRep G h a u) (o : mOk u T W z) : gMet yX7_emptySongs wsX7_emptySongs (gRm 1 0 0) G h [.ref (a 0)] (mPo G h a (mSp (mEmpty u) 0 0)) := by
  refine gMet_of (maxL := 2) (ret := (some .int)) (by decide) rfl (Nat.le_of_ble_eq_true rfl) ?_
  intro X hG hnL hB hE
  subst hG
  change gW X h 0 0 0 [(0, .ref (a 0))] []
  have hF : mFr h h := mFr.rf
  have hw := o.W
  have hT := o.2.1
  have hW60 := o.2.2.2.1
  have hz200 := o.2.2.2.2.2.1
  have ez := o.2.2.2.2.1
  have eW := o.2.2.1
  refine gI_aload_n hB 0 dX7_emptySongs_0 rfl ?_
  refine gI_iconst (v := nI 0) hB dX7_emptySongs_1 (by decide) ?_
  refine gM_put hB hM hF 0 (sg u 0 (nI 0)) (by decide +kernel) (by decide) (by decide +kernel) rfl rfl rfl rfl rfl rfl dX7_emptySongs_2 (fun h hM hF => ?_)
  refine gI_aload_n hB 0 dX7_emptySongs_5 rfl ?_
  refine gM_get hB hM 12 (v := .int (u.1 12)) (by decide +kernel) (by decide) (by decide +kernel) rfl rfl dX7_emptySongs_6 ?_
  refine gI_istore_n hB ([(1, .int (u.1 12)), (0, .ref (a 0))]) hnL dX7_emptySongs_9 (by decide) rfl ?_
  refine gI_aload_n hB 1 dX7_emptySongs_10 rfl ?_
  refine gI_iconst (v := nI 0) hB dX7_emptySongs_11 (by decide) ?_
  refine gM_put hB hM hF 12 (sg (sg u 0 (nI 0)) 12 (nI 0)) (by decide +kernel) (by decide) (by decide +kernel) rfl rfl rfl rfl rfl rfl dX7_emptySongs_12 (fun h hM hF => ?_)
  refine gI_aload_n hB 1 dX7_emptySongs_15 rfl ?_
  refine gI_iconst (v := nI 0) hB dX7_emptySongs_16 (by decide) ?_
  refine gM_put hB hM hF 10 (sg (sg (sg u 0 (nI 0)) 12 (nI 0)) 10 (nI 0)) (by decide +kernel) (by decide) (by decide +kernel) rfl rfl rfl rfl rfl rfl dX7_emptySongs_17 (fun h hM hF => ?_)
  refine gI_iload_n hB 0 dX7_emptySongs_20 rfl ?_
  refine gI_iret hB hE dX7_emptySongs_21 ?_
  refine ⟨_, hM, hF, ?_⟩
  have e9 : mEmpty u = ((sg (sg (sg u 0 (nI 0)) 12 (nI 0)) 10 (nI 0)), (u.1 12)) := by
    rfl
  rw [e9]
  exact ⟨rfl, rfl, by omega, by omega⟩

set_option maxRecDepth 100000 in
set_option maxHeartbeats 4000000 in
theorem c_next (G : gG) (h : gH) (a : Nat → Nat) (u : MS) (T : Nat) (hM : mRep G h a u) (hw : mW u T) (t : Nat) (ht : t < T) : gMet yX7_next wsX7_next (gRm 2 0 0) G h [.ref (a 0), .int (nI t)] (gRet h (some (.int (mNext u T t)))) := by
  refine gMet_of (maxL := 6) (ret := (some .int)) (by decide) rfl (Nat.le_of_ble_eq_true rfl) ?_
  intro X hG hnL hB hE
  subst hG
  change gW X h 0 0 0 [(0, .ref (a 0)), (1, .int (nI t))] []
  have hT := hw.2.1
  obtain ⟨m, hm8, em⟩ := hw.2.2 t ht
  refine gI_iconst (v := nI 0) hB dX7_next_0 (by decide) ?_
  refine gI_istore_n hB ([(2, .int (nI 0)), (0, .ref (a 0)), (1, .int (nI t))]) hnL dX7_next_1 (by decide) rfl ?_
  refine gI_iconst (v := nI 1) hB dX7_next_2 (by decide) ?_
  refine gI_aload_n hB 1 dX7_next_3 rfl ?_
  refine gM_get hB hM 3 (v := .int (u.1 3)) (by decide +kernel) (by decide) (by decide +kernel) rfl rfl dX7_next_4 ?_
  refine gI_topi hB (y := nI T) hw.1 ?_
  refine gI_ishl hB dX7_next_7 ?_
  refine gI_iconst (v := nI 1) hB dX7_next_8 (by decide) ?_
  refine gI_isub hB dX7_next_9 ?_
  refine gI_istore_n hB ([(3, .int (((nI 1) <<< ((nI T) &&& 31)) - (nI 1))), (2, .int (nI 0)), (0, .ref (a 0)), (1, .int (nI t))]) hnL dX7_next_10 (by decide) rfl ?_
  change gW X h 0 0 11 [(3, .int (mAll T)), (2, .int (nI 0)), (0, .ref (a 0)), (1, .int (nI t))] []
  refine gI_iconst (v := nI 0) hB dX7_next_11 (by decide) ?_
  refine gI_istore hB ([(4, .int (nI 0)), (3, .int (mAll T)), (2, .int (nI 0)), (0, .ref (a 0)), (1, .int (nI t))]) hnL dX7_next_12 (by decide) rfl ?_
  have ln : ∀ (r_ln : Nat) (i : Nat) (s : Int32), m + 1 ≤ i + r_ln → i ≤ m → s = mNx (u.2 1) T t i → gW X h 0 0 14 [(4, .int (nI i)), (2, .int (s)), (3, .int (mAll T)), (0, .ref (a 0)), (1, .int (nI t))] [] := by
    intro r_ln
    induction r_ln with
    | zero => intro i s hfu hi es; exact absurd hfu (by omega)
    | succ r_ln ih_ln =>
      intro i s hfu hi es
      refine gI_iload hB 0 dX7_next_14 rfl ?_
      refine gI_aload_n hB 3 dX7_next_16 rfl ?_
      refine gI_iload_n hB 4 dX7_next_17 rfl ?_
      refine gI_iconst (v := nI 3) hB dX7_next_18 (by decide) ?_
      refine gM_pure (n9 := 2) (As := [.int (nI t), .int (nI 3)]) (rest := [.int (nI i)]) hB hM (c_get X.2.1 h a u hM t 3 (by omega) (by omega)) (gCW.of ggX7_next_X7_get rfl ⟨by decide, by decide, by decide +kernel⟩ ⟨Nat.le_of_ble_eq_true rfl, Nat.le_of_ble_eq_true rfl⟩) (by decide +kernel) (by decide +kernel) (by decide +kernel) (by decide +kernel) rfl rfl (Nat.le_of_ble_eq_true rfl) (by first | exact Nat.le_of_ble_eq_true rfl | (dsimp only [gRm]; omega)) (by first | exact Nat.le_of_ble_eq_true rfl | (dsimp only [gRm]; omega)) dX7_next_19 ?_
      refine gI_topi hB (y := nI m) em ?_
      refine gI_icmp_ge hB 114 dX7_next_22 (by decide) (fun c22_1 => ?_) (fun c22_1 => ?_)
      · skip
        have c22_1 := (nI_leI (by omega) (by omega)).mp c22_1
        refine gI_iload_n hB 1 dX7_next_114 rfl ?_
        refine gI_iret hB hE dX7_next_115 ?_
        exact ⟨by unfold mNext; rw [mMany_of hm8 em, show m = i by omega, ← es], rfl, rfl, rfl⟩
      · skip
        have c22_1 := mt (nI_leI (by omega) (by omega)).mpr c22_1
        refine gI_aload_n hB 3 dX7_next_25 rfl ?_
        refine gM_get hB hM 5 (v := .ref (a 2)) (by decide +kernel) (by decide) (by decide +kernel) rfl rfl dX7_next_26 ?_
        refine gI_iload_n hB 4 dX7_next_29 rfl ?_
        refine gI_iload hB 0 dX7_next_30 rfl ?_
        refine gI_pureS (n9 := 2) (As := [.int (nI t), .int (nI i)]) (rest := [.ref (a 2)]) hB (c_at X.2.1 h t i) (gCW.of ggX7_next_X7_at rfl ⟨by decide, by decide, by decide +kernel⟩ ⟨Nat.le_of_ble_eq_true rfl, Nat.le_of_ble_eq_true rfl⟩) (Or.inl (by decide +kernel)) (by decide +kernel) (by decide +kernel) rfl rfl (Nat.le_of_ble_eq_true rfl) (by first | exact Nat.le_of_ble_eq_true rfl | (dsimp only [gRm]; omega)) (by first | exact Nat.le_of_ble_eq_true rfl | (dsimp only [gRm]; omega)) dX7_next_32 ?_
        refine gI_iconst (v := nI 4) hB dX7_next_35 (by decide) ?_
        refine gI_iaddN hB dX7_next_36 ?_
        refine gM_ald hB hM 1 (by decide) ((9 * (8 * t + i)) + 4) rfl (show (9 * (8 * t + i)) + 4 < 1152 by omega) dX7_next_37 ?_
        refine gI_istore hB ([(5, .int (u.2 1 ((9 * (8 * t + i)) + 4))), (4, .int (nI i)), (2, .int (s)), (3, .int (mAll T)), (0, .ref (a 0)), (1, .int (nI t))]) hnL dX7_next_38 (by decide) rfl ?_
        refine gI_iload hB 0 dX7_next_40 rfl ?_
        refine gI_iconst (v := nI 2) hB dX7_next_42 (by decide) ?_
        refine gI_icmp_eq hB 52 dX7_next_43 (by decide) (fun c43_2 => ?_) (fun c43_2 => ?_)
        · skip
          have a9 : u.2 1 (9 * (8 * t + i) + 4) = nI 2 := c43_2
          refine gI_iload_n hB 2 dX7_next_52 rfl ?_
          refine gI_iconst (v := nI 1) hB dX7_next_53 (by decide) ?_
          refine gI_aload_n hB 4 dX7_next_54 rfl ?_
          refine gM_get hB hM 5 (v := .ref (a 2)) (by decide +kernel) (by decide) (by decide +kernel) rfl rfl dX7_next_55 ?_
          refine gI_iload_n hB 5 dX7_next_58 rfl ?_
          refine gI_iload hB 1 dX7_next_59 rfl ?_
          refine gI_pureS (n9 := 2) (As := [.int (nI t), .int (nI i)]) (rest := [.ref (a 2), .int (nI 1), .int (s)]) hB (c_at X.2.1 h t i) (gCW.of ggX7_next_X7_at rfl ⟨by decide, by decide, by decide +kernel⟩ ⟨Nat.le_of_ble_eq_true rfl, Nat.le_of_ble_eq_true rfl⟩) (Or.inl (by decide +kernel)) (by decide +kernel) (by decide +kernel) rfl rfl (Nat.le_of_ble_eq_true rfl) (by first | exact Nat.le_of_ble_eq_true rfl | (dsimp only [gRm]; omega)) (by first | exact Nat.le_of_ble_eq_true rfl | (dsimp only [gRm]; omega)) dX7_next_61 ?_
          refine gI_iconst (v := nI 5) hB dX7_next_64 (by decide) ?_
          refine gI_iaddN hB dX7_next_65 ?_
          refine gM_ald hB hM 1 (by decide) ((9 * (8 * t + i)) + 5) rfl (show (9 * (8 * t + i)) + 5 < 1152 by omega) dX7_next_66 ?_
          refine gI_ishl hB dX7_next_67 ?_
          refine gI_ior hB dX7_next_68 ?_
          refine gI_istore_n hB ([(2, .int ((s) ||| ((nI 1) <<< ((u.2 1 ((9 * (8 * t + i)) + 5)) &&& 31)))), (5, .int (u.2 1 ((9 * (8 * t + i)) + 4))), (4, .int (nI i)), (3, .int (mAll T)), (0, .ref (a 0)), (1, .int (nI t))]) hnL dX7_next_69 (by decide) rfl ?_
          refine gI_iload hB 1 dX7_next_70 rfl ?_
          refine gI_iconst (v := nI 3) hB dX7_next_72 (by decide) ?_
          refine gI_icmp_ne hB 92 dX7_next_73 (by decide) (fun c73_3 => ?_) (fun c73_3 => ?_)
          · skip
            refine gI_iload hB 1 dX7_next_92 rfl ?_
            refine gI_iconst (v := nI 5) hB dX7_next_94 (by decide) ?_
            refine gI_icmp_ne hB 108 dX7_next_95 (by decide) (fun c95_4 => ?_) (fun c95_4 => ?_)
            · skip
              refine gI_iinc hB 2 ([(4, .int (nI (i + 1))), (2, .int ((s) ||| ((nI 1) <<< ((u.2 1 ((9 * (8 * t + i)) + 5)) &&& 31)))), (5, .int (u.2 1 ((9 * (8 * t + i)) + 4))), (3, .int (mAll T)), (0, .ref (a 0)), (1, .int (nI t))]) hnL dX7_next_108 rfl (nI_1 (i)) (by decide) rfl ?_
              refine gI_goto hB 14 dX7_next_111 (by decide) ?_
              refine gI_loc [0, 1, 3, 4, 5] rfl ?_
              exact ih_ln (i + 1) ((s) ||| ((nI 1) <<< ((u.2 1 ((9 * (8 * t + i)) + 5)) &&& 31))) (by omega) (by omega) (by rw [mNx, mRung, if_pos (Or.inl a9), ← es]; rfl)
            · skip
              exact absurd (a9.symm.trans c95_4) (by decide)
          · skip
            exact absurd (a9.symm.trans c73_3) (by decide)
        · skip
          refine gI_iload hB 0 dX7_next_46 rfl ?_
          refine gI_iconst (v := nI 4) hB dX7_next_48 (by decide) ?_
          refine gI_icmp_ne hB 70 dX7_next_49 (by decide) (fun c49_5 => ?_) (fun c49_5 => ?_)
          · skip
            refine gI_iload hB 0 dX7_next_70 rfl ?_
            refine gI_iconst (v := nI 3) hB dX7_next_72 (by decide) ?_
            refine gI_icmp_ne hB 92 dX7_next_73 (by decide) (fun c73_6 => ?_) (fun c73_6 => ?_)
            · skip
              refine gI_iload hB 0 dX7_next_92 rfl ?_
              refine gI_iconst (v := nI 5) hB dX7_next_94 (by decide) ?_
              refine gI_icmp_ne hB 108 dX7_next_95 (by decide) (fun c95_7 => ?_) (fun c95_7 => ?_)
              · skip
                refine gI_iinc hB 1 ([(4, .int (nI (i + 1))), (5, .int (u.2 1 ((9 * (8 * t + i)) + 4))), (2, .int (s)), (3, .int (mAll T)), (0, .ref (a 0)), (1, .int (nI t))]) hnL dX7_next_108 rfl (nI_1 (i)) (by decide) rfl ?_
                refine gI_goto hB 14 dX7_next_111 (by decide) ?_
                refine gI_loc [0, 2, 3, 4, 5] rfl ?_
                exact ih_ln (i + 1) (s) (by omega) (by omega) (by rw [mNx, mRung, if_neg (fun z9 => z9.elim (fun y => c43_2 y) (fun y => c49_5 y)), if_neg c73_6, if_neg c95_7, or_0]; exact es)
              · skip
                have a9 : u.2 1 (9 * (8 * t + i) + 4) = nI 5 := c95_7
                refine gI_iload_n hB 2 dX7_next_98 rfl ?_
                refine gI_iload_n hB 3 dX7_next_99 rfl ?_
                refine gI_iconst (v := nI 1) hB dX7_next_100 (by decide) ?_
                refine gI_iload_n hB 5 dX7_next_101 rfl ?_
                refine gI_ishl hB dX7_next_102 ?_
                refine gI_iconst (v := (-1)) hB dX7_next_103 (by decide) ?_
                refine gI_ixor hB dX7_next_104 ?_
                refine gI_iand hB dX7_next_105 ?_
                refine gI_ior hB dX7_next_106 ?_
                refine gI_istore_n hB ([(2, .int ((s) ||| ((mAll T) &&& (((nI 1) <<< ((nI t) &&& 31)) ^^^ (-1))))), (5, .int (u.2 1 ((9 * (8 * t + i)) + 4))), (4, .int (nI i)), (3, .int (mAll T)), (0, .ref (a 0)), (1, .int (nI t))]) hnL dX7_next_107 (by decide) rfl ?_
                refine gI_iinc hB 2 ([(4, .int (nI (i + 1))), (2, .int ((s) ||| ((mAll T) &&& (((nI 1) <<< ((nI t) &&& 31)) ^^^ (-1))))), (5, .int (u.2 1 ((9 * (8 * t + i)) + 4))), (3, .int (mAll T)), (0, .ref (a 0)), (1, .int (nI t))]) hnL dX7_next_108 rfl (nI_1 (i)) (by decide) rfl ?_
                refine gI_goto hB 14 dX7_next_111 (by decide) ?_
                refine gI_loc [0, 1, 3, 4, 5] rfl ?_
                exact ih_ln (i + 1) ((s) ||| ((mAll T) &&& (((nI 1) <<< ((nI t) &&& 31)) ^^^ (-1)))) (by omega) (by omega) (by rw [mNx, mRung, if_neg (fun z9 => z9.elim (fun y => c43_2 y) (fun y => c49_5 y)), if_neg c73_6, if_pos a9, ← es]; rfl)
            · skip
              have a9 : u.2 1 (9 * (8 * t + i) + 4) = nI 3 := c73_6
              refine gI_iload_n hB 2 dX7_next_76 rfl ?_
              refine gI_iconst (v := nI 1) hB dX7_next_77 (by decide) ?_
              refine gI_iload_n hB 5 dX7_next_78 rfl ?_
              refine gI_iconst (v := nI 1) hB dX7_next_79 (by decide) ?_
              refine gI_iaddN hB dX7_next_80 ?_
              refine gI_ishl hB dX7_next_81 ?_
              refine gI_iconst (v := nI 1) hB dX7_next_82 (by decide) ?_
              refine gI_iload_n hB 5 dX7_next_83 rfl ?_
              refine gI_ishl hB dX7_next_84 ?_
              refine gI_iconst (v := nI 1) hB dX7_next_85 (by decide) ?_
              refine gI_ishr hB dX7_next_86 ?_
              refine gI_ior hB dX7_next_87 ?_
              refine gI_iload_n hB 3 dX7_next_88 rfl ?_
              refine gI_iand hB dX7_next_89 ?_
              refine gI_ior hB dX7_next_90 ?_
              refine gI_istore_n hB ([(2, .int ((s) ||| ((((nI 1) <<< ((nI (t + 1)) &&& 31)) ||| (((nI 1) <<< ((nI t) &&& 31)) >>> ((nI 1) &&& 31))) &&& (mAll T)))), (5, .int (u.2 1 ((9 * (8 * t + i)) + 4))), (4, .int (nI i)), (3, .int (mAll T)), (0, .ref (a 0)), (1, .int (nI t))]) hnL dX7_next_91 (by decide) rfl ?_
              refine gI_iload hB 1 dX7_next_92 rfl ?_
              refine gI_iconst (v := nI 5) hB dX7_next_94 (by decide) ?_
              refine gI_icmp_ne hB 108 dX7_next_95 (by decide) (fun c95_8 => ?_) (fun c95_8 => ?_)
              · skip
                refine gI_iinc hB 2 ([(4, .int (nI (i + 1))), (2, .int ((s) ||| ((((nI 1) <<< ((nI (t + 1)) &&& 31)) ||| (((nI 1) <<< ((nI t) &&& 31)) >>> ((nI 1) &&& 31))) &&& (mAll T)))), (5, .int (u.2 1 ((9 * (8 * t + i)) + 4))), (3, .int (mAll T)), (0, .ref (a 0)), (1, .int (nI t))]) hnL dX7_next_108 rfl (nI_1 (i)) (by decide) rfl ?_
                refine gI_goto hB 14 dX7_next_111 (by decide) ?_
                refine gI_loc [0, 1, 3, 4, 5] rfl ?_
                exact ih_ln (i + 1) ((s) ||| ((((nI 1) <<< ((nI (t + 1)) &&& 31)) ||| (((nI 1) <<< ((nI t) &&& 31)) >>> ((nI 1) &&& 31))) &&& (mAll T))) (by omega) (by omega) (by rw [mNx, mRung, if_neg (fun z9 => z9.elim (fun y => c43_2 y) (fun y => c49_5 y)), if_pos a9, ← es]; rfl)
              · skip
                exact absurd (a9.symm.trans c95_8) (by decide)
          · skip
            have a9 : u.2 1 (9 * (8 * t + i) + 4) = nI 4 := c49_5
            refine gI_iload_n hB 2 dX7_next_52 rfl ?_
            refine gI_iconst (v := nI 1) hB dX7_next_53 (by decide) ?_
            refine gI_aload_n hB 4 dX7_next_54 rfl ?_
            refine gM_get hB hM 5 (v := .ref (a 2)) (by decide +kernel) (by decide) (by decide +kernel) rfl rfl dX7_next_55 ?_
            refine gI_iload_n hB 5 dX7_next_58 rfl ?_
            refine gI_iload hB 1 dX7_next_59 rfl ?_
            refine gI_pureS (n9 := 2) (As := [.int (nI t), .int (nI i)]) (rest := [.ref (a 2), .int (nI 1), .int (s)]) hB (c_at X.2.1 h t i) (gCW.of ggX7_next_X7_at rfl ⟨by decide, by decide, by decide +kernel⟩ ⟨Nat.le_of_ble_eq_true rfl, Nat.le_of_ble_eq_true rfl⟩) (Or.inl (by decide +kernel)) (by decide +kernel) (by decide +kernel) rfl rfl (Nat.le_of_ble_eq_true rfl) (by first | exact Nat.le_of_ble_eq_true rfl | (dsimp only [gRm]; omega)) (by first | exact Nat.le_of_ble_eq_true rfl | (dsimp only [gRm]; omega)) dX7_next_61 ?_
            refine gI_iconst (v := nI 5) hB dX7_next_64 (by decide) ?_
            refine gI_iaddN hB dX7_next_65 ?_
            refine gM_ald hB hM 1 (by decide) ((9 * (8 * t + i)) + 5) rfl (show (9 * (8 * t + i)) + 5 < 1152 by omega) dX7_next_66 ?_
            refine gI_ishl hB dX7_next_67 ?_
            refine gI_ior hB dX7_next_68 ?_
            refine gI_istore_n hB ([(2, .int ((s) ||| ((nI 1) <<< ((u.2 1 ((9 * (8 * t + i)) + 5)) &&& 31)))), (5, .int (u.2 1 ((9 * (8 * t + i)) + 4))), (4, .int (nI i)), (3, .int (mAll T)), (0, .ref (a 0)), (1, .int (nI t))]) hnL dX7_next_69 (by decide) rfl ?_
            refine gI_iload hB 1 dX7_next_70 rfl ?_
            refine gI_iconst (v := nI 3) hB dX7_next_72 (by decide) ?_
            refine gI_icmp_ne hB 92 dX7_next_73 (by decide) (fun c73_9 => ?_) (fun c73_9 => ?_)
            · skip
              refine gI_iload hB 1 dX7_next_92 rfl ?_
              refine gI_iconst (v := nI 5) hB dX7_next_94 (by decide) ?_
              refine gI_icmp_ne hB 108 dX7_next_95 (by decide) (fun c95_10 => ?_) (fun c95_10 => ?_)
              · skip
                refine gI_iinc hB 2 ([(4, .int (nI (i + 1))), (2, .int ((s) ||| ((nI 1) <<< ((u.2 1 ((9 * (8 * t + i)) + 5)) &&& 31)))), (5, .int (u.2 1 ((9 * (8 * t + i)) + 4))), (3, .int (mAll T)), (0, .ref (a 0)), (1, .int (nI t))]) hnL dX7_next_108 rfl (nI_1 (i)) (by decide) rfl ?_
                refine gI_goto hB 14 dX7_next_111 (by decide) ?_
                refine gI_loc [0, 1, 3, 4, 5] rfl ?_
                exact ih_ln (i + 1) ((s) ||| ((nI 1) <<< ((u.2 1 ((9 * (8 * t + i)) + 5)) &&& 31))) (by omega) (by omega) (by rw [mNx, mRung, if_pos (Or.inr a9), ← es]; rfl)
              · skip
                exact absurd (a9.symm.trans c95_10) (by decide)
            · skip
              exact absurd (a9.symm.trans c73_9) (by decide)
  refine gI_loc [0, 2, 1, 3, 4] rfl ?_
  exact ln (m + 1) 0 (nI 0) (by omega) (by omega) rfl

set_option maxRecDepth 100000 in
set_option maxHeartbeats 4000000 in
theorem c_nextOf (G : gG) (h : gH) (a : Nat → Nat) (u : MS) (T : Nat) (hM : mRep G h a u) (hw : mW u T) (s : Int32) : gMet yX7_nextOf wsX7_nextOf (gRm 3 0 0) G h [.ref (a 0), .int s] (gRet h (some (.int (mNo u T s T)))) := by
  refine gMet_of (maxL := 4) (ret := (some .int)) (by decide) rfl (Nat.le_of_ble_eq_true rfl) ?_
  intro X hG hnL hB hE
  subst hG
  change gW X h 0 0 0 [(0, .ref (a 0)), (1, .int s)] []
  have hT := hw.2.1
  refine gI_iconst (v := nI 0) hB dX7_nextOf_0 (by decide) ?_
  refine gI_istore_n hB ([(2, .int (nI 0)), (0, .ref (a 0)), (1, .int s)]) hnL dX7_nextOf_1 (by decide) rfl ?_
  refine gI_iconst (v := nI 0) hB dX7_nextOf_2 (by decide) ?_
  refine gI_istore_n hB ([(3, .int (nI 0)), (2, .int (nI 0)), (0, .ref (a 0)), (1, .int s)]) hnL dX7_nextOf_3 (by decide) rfl ?_
  have lo : ∀ (r_lo : Nat) (i : Nat) (y : Int32), T + 1 ≤ i + r_lo → i ≤ T → y = mNo u T s i → gW X h 0 0 4 [(3, .int (nI i)), (2, .int y), (0, .ref (a 0)), (1, .int s)] [] := by
    intro r_lo
    induction r_lo with
    | zero => intro i y hfu hi es; exact absurd hfu (by omega)
    | succ r_lo ih_lo =>
      intro i y hfu hi es
      refine gI_iload_n hB 0 dX7_nextOf_4 rfl ?_
      refine gI_aload_n hB 2 dX7_nextOf_5 rfl ?_
      refine gM_get hB hM 3 (v := .int (u.1 3)) (by decide +kernel) (by decide) (by decide +kernel) rfl rfl dX7_nextOf_6 ?_
      refine gI_topi hB (y := nI T) hw.1 ?_
      refine gI_icmp_ge hB 35 dX7_nextOf_9 (by decide) (fun c9_1 => ?_) (fun c9_1 => ?_)
      · skip
        have c9_1 := (nI_leI (by omega) (by omega)).mp c9_1
        refine gI_iload_n hB 1 dX7_nextOf_35 rfl ?_
        refine gI_iret hB hE dX7_nextOf_36 ?_
        exact ⟨by rw [es, show i = T by omega], rfl, rfl, rfl⟩
      · skip
        have c9_1 := mt (nI_leI (by omega) (by omega)).mpr c9_1
        refine gI_iload_n hB 3 dX7_nextOf_12 rfl ?_
        refine gI_iload_n hB 0 dX7_nextOf_13 rfl ?_
        refine gI_ishr hB dX7_nextOf_14 ?_
        refine gI_iconst (v := nI 1) hB dX7_nextOf_15 (by decide) ?_
        refine gI_iand hB dX7_nextOf_16 ?_
        refine gI_iconst (v := nI 1) hB dX7_nextOf_17 (by decide) ?_
        refine gI_icmp_ne hB 29 dX7_nextOf_18 (by decide) (fun c18_2 => ?_) (fun c18_2 => ?_)
        · skip
          refine gI_iinc hB 0 ([(3, .int (nI (i + 1))), (2, .int y), (0, .ref (a 0)), (1, .int s)]) hnL dX7_nextOf_29 rfl (nI_1 (i)) (by decide) rfl ?_
          refine gI_goto hB 4 dX7_nextOf_32 (by decide) ?_
          refine gI_loc [0, 1, 2, 3] rfl ?_
          exact ih_lo (i + 1) y (by omega) (by omega) (by rw [mNo, if_neg c18_2]; exact es)
        · skip
          refine gI_iload_n hB 1 dX7_nextOf_21 rfl ?_
          refine gI_aload_n hB 2 dX7_nextOf_22 rfl ?_
          refine gI_iload_n hB 0 dX7_nextOf_23 rfl ?_
          refine gM_pure (n9 := 1) (As := [.int (nI i)]) (rest := [.int y]) hB hM (c_next X.2.1 h a u T hM hw i (by omega)) (gCW.of ggX7_nextOf_X7_next rfl ⟨by decide, by decide, by decide +kernel⟩ ⟨Nat.le_of_ble_eq_true rfl, Nat.le_of_ble_eq_true rfl⟩) (by decide +kernel) (by decide +kernel) (by decide +kernel) (by decide +kernel) rfl rfl (Nat.le_of_ble_eq_true rfl) (by first | exact Nat.le_of_ble_eq_true rfl | (dsimp only [gRm]; omega)) (by first | exact Nat.le_of_ble_eq_true rfl | (dsimp only [gRm]; omega)) dX7_nextOf_24 ?_
          refine gI_ior hB dX7_nextOf_27 ?_
          refine gI_istore_n hB ([(2, .int (y ||| (mNext u T i))), (3, .int (nI i)), (0, .ref (a 0)), (1, .int s)]) hnL dX7_nextOf_28 (by decide) rfl ?_
          refine gI_iinc hB 1 ([(3, .int (nI (i + 1))), (2, .int (y ||| (mNext u T i))), (0, .ref (a 0)), (1, .int s)]) hnL dX7_nextOf_29 rfl (nI_1 (i)) (by decide) rfl ?_
          refine gI_goto hB 4 dX7_nextOf_32 (by decide) ?_
          refine gI_loc [0, 1, 2, 3] rfl ?_
          exact ih_lo (i + 1) (y ||| (mNext u T i)) (by omega) (by omega) (by rw [mNo, if_pos c18_2, ← es])
  refine gI_loc [0, 1, 2, 3] rfl ?_
  exact lo (T + 1) 0 (nI 0) (by omega) (by omega) rfl
