theorem mSnL_0 {u : MS} {T W z : Nat} (o : mOk u T W z) (x : Int32) : ∀ n, n ≤ z → (mSnL u x n = -1 ↔ mSnM u x n = 0)
  | 0, _ => ⟨fun _ => rfl, fun _ => rfl⟩
  | n + 1, hn => by
    have ih := mSnL_0 o x n (by omega)
    obtain ⟨⟨y, hy, ey⟩, -⟩ := o.2.2.2.2.2.2.2.2.2 n (by omega)
    have hne : ¬ u.2 3 (15 * n + 2) = -1 := by rw [ey]; exact nI_nm1 (by omega)
    rw [mSnL, mSnM]
    by_cases c : mSnd u n x
    · rw [if_pos c, if_pos c]
      refine ⟨fun e => ?_, fun e => absurd e (by omega)⟩
      by_cases c0 : mSnM u x n = 0
      · rw [if_pos c0] at e
        exact absurd e hne
      · rw [if_neg c0] at e
        by_cases c1 : u.2 3 (15 * n + 2) < mSnL u x n
        · rw [if_pos c1] at e
          exact absurd e hne
        · rw [if_neg c1] at e
          exact absurd (ih.mp e) c0
    · rw [if_neg c, if_neg c]
      exact ih

set_option maxRecDepth 100000 in
set_option maxHeartbeats 4000000 in
theorem k_sounding (G : gG) (h : gH) (c : Nat → Nat) (Λ : CL) (u : MS) (T W z : Nat) (hC : cRep G h c Λ u T W z) (o : mOk u T W z) (x : Int32) : gMet yX3_soundingAt wsX3_soundingAt (gRm 5 0 0) G h [.ref (c 2), .int x] (gRet h (some (.int (nI (mSnM u x z))))) := by
  refine gMet_of (maxL := 4) (ret := (some .int)) (by decide) rfl (Nat.le_of_ble_eq_true rfl) ?_
  intro X hG hnL hB hE
  subst hG
  change gW X h 0 0 0 [(0, .ref (c 2)), (1, .int x)] []
  have hT := o.2.1
  have hW60 := o.2.2.2.1
  have hz200 := o.2.2.2.2.2.1
  have ez := o.2.2.2.2.1
  have eW := o.2.2.1
  have eT := o.1
  have hz3 : z ≤ cLen Λ 3 := hC.2.2.2.2.1.2.2.1
  have hl200 : cLen Λ 3 ≤ 200 := hC.2.2.2.2.1.2.2.2.1
  refine gI_iconst (v := nI 0) hB dX3_soundingAt_0 (by decide) ?_
  refine gI_istore_n hB ([(2, .int (nI 0)), (0, .ref (c 2)), (1, .int x)]) hnL dX3_soundingAt_1 (by decide) rfl ?_
  refine gI_iconst (v := nI 0) hB dX3_soundingAt_2 (by decide) ?_
  refine gI_istore_n hB ([(3, .int (nI 0)), (2, .int (nI 0)), (0, .ref (c 2)), (1, .int x)]) hnL dX3_soundingAt_3 (by decide) rfl ?_
  have lp : ∀ (r_lp : Nat) (i m : Nat), z + 1 ≤ i + r_lp → i ≤ z → m = mSnM u x i → gW X h 0 0 4 [(3, .int (nI i)), (2, .int (nI m)), (0, .ref (c 2)), (1, .int x)] [] := by
    intro r_lp
    induction r_lp with
    | zero => intro i m hfu hi em; exact absurd hfu (by omega)
    | succ r_lp ih_lp =>
      intro i m hfu hi em
      refine gI_iload_n hB 0 dX3_soundingAt_4 rfl ?_
      refine gI_aload_n hB 2 dX3_soundingAt_5 rfl ?_
      refine gI_get (v := .int (u.1 12)) hB 2 hC.2.2.1 (C := RX3) (T := TX3) (N := 4) rfl (by decide +kernel) (by decide) (by decide +kernel) (fun _ h9 => h9) rfl dX3_soundingAt_6 ?_
      refine gI_topi hB (y := nI z) ez ?_
      refine gI_icmp_ge hB 33 dX3_soundingAt_9 (by decide) (fun c9_1 => ?_) (fun c9_1 => ?_)
      · skip
        have c9_1 := (nI_leI (by omega) (by omega)).mp c9_1
        refine gI_iload_n hB 1 dX3_soundingAt_33 rfl ?_
        refine gI_iret hB hE dX3_soundingAt_34 ?_
        exact ⟨by rw [em, show i = z by omega], rfl, rfl, rfl⟩
      · skip
        have c9_1 := mt (nI_leI (by omega) (by omega)).mpr c9_1
        obtain ⟨fn, wn, hno, hno0⟩ := hC.2.2.2.2.2.2.2.2.2.1 i (by omega)
        obtain ⟨hno1, hno2⟩ := hno0 (by omega)
        refine gI_aload_n hB 2 dX3_soundingAt_12 rfl ?_
        refine gI_iload_n hB 0 dX3_soundingAt_13 rfl ?_
        refine gI_pureV (n9 := 1) (As := [.int (nI i)]) (rest := []) hB (k_noteAt X.2.1 h c Λ u T W z hC o i (by omega)) (gCW.of ggX3_soundingAt_X3_at rfl ⟨by decide, by decide, by decide +kernel⟩ ⟨Nat.le_of_ble_eq_true rfl, Nat.le_of_ble_eq_true rfl⟩) (by decide +kernel) (by decide +kernel) (by decide +kernel) (by decide +kernel) hC.2.2.1 (C := RX3) (T := TX3) (N := 4) rfl rfl rfl (Nat.le_of_ble_eq_true rfl) (by first | exact Nat.le_of_ble_eq_true rfl | (dsimp only [gRm]; omega)) (by first | exact Nat.le_of_ble_eq_true rfl | (dsimp only [gRm]; omega)) dX3_soundingAt_14 ?_
        refine gI_iload_n hB 3 dX3_soundingAt_17 rfl ?_
        refine gI_pureV (n9 := 1) (As := [.int x]) (rest := []) hB (k_soundsAt X.2.1 h (cEl Λ 3 i) fn wn hno x) (gCW.of ggX3_soundingAt_X1_soundsAt rfl ⟨by decide, by decide, by decide +kernel⟩ ⟨Nat.le_of_ble_eq_true rfl, Nat.le_of_ble_eq_true rfl⟩) (by decide +kernel) (by decide +kernel) (by decide +kernel) (by decide +kernel) hno (C := RX1) (T := TX1) (N := 7) rfl rfl rfl (Nat.le_of_ble_eq_true rfl) (by first | exact Nat.le_of_ble_eq_true rfl | (dsimp only [gRm]; omega)) (by first | exact Nat.le_of_ble_eq_true rfl | (dsimp only [gRm]; omega)) dX3_soundingAt_18 ?_
        refine gI_topi hB (y := gbi (mSnd u i x)) (by rw [hno1 0 (by omega), hno1 1 (by omega)]; rfl) ?_
        refine gI_if_eq hB 27 dX3_soundingAt_21 (by decide) (fun c21_2 => ?_) (fun c21_2 => ?_)
        · skip
          have c21_2 := gbi_0.mp c21_2
          refine gI_iinc hB 0 ([(3, .int (nI (i + 1))), (2, .int (nI m)), (0, .ref (c 2)), (1, .int x)]) hnL dX3_soundingAt_27 rfl (nI_1 (i)) (by decide) rfl ?_
          refine gI_goto hB 4 dX3_soundingAt_30 (by decide) ?_
          refine gI_loc [0, 1, 2, 3] rfl ?_
          exact ih_lp (i + 1) m (by omega) (by omega) (by rw [mSnM, if_neg c21_2, ← em])
        · skip
          have c21_2 := gbi_n0 c21_2
          refine gI_iinc hB 1 ([(2, .int (nI (m + 1))), (3, .int (nI i)), (0, .ref (c 2)), (1, .int x)]) hnL dX3_soundingAt_24 rfl (nI_1 (m)) (by decide) rfl ?_
          refine gI_iinc hB 1 ([(3, .int (nI (i + 1))), (2, .int (nI (m + 1))), (0, .ref (c 2)), (1, .int x)]) hnL dX3_soundingAt_27 rfl (nI_1 (i)) (by decide) rfl ?_
          refine gI_goto hB 4 dX3_soundingAt_30 (by decide) ?_
          refine gI_loc [0, 1, 2, 3] rfl ?_
          exact ih_lp (i + 1) (m + 1) (by omega) (by omega) (by rw [mSnM, if_pos c21_2, ← em])
  refine gI_loc [0, 1, 2, 3] rfl ?_
  exact lp (z + 1) 0 0 (by omega) (by omega) rfl

set_option maxRecDepth 100000 in
set_option maxHeartbeats 4000000 in
theorem k_greatest (G : gG) (h : gH) (c : Nat → Nat) (Λ : CL) (u : MS) (T W z : Nat) (hC : cRep G h c Λ u T W z) (o : mOk u T W z) (x : Int32) : gMet yX3_greatestNoteAt wsX3_greatestNoteAt (gRm 5 0 0) G h [.ref (c 2), .int x] (gRet h (some (.int (mSnG u x z)))) := by
  refine gMet_of (maxL := 5) (ret := (some .int)) (by decide) rfl (Nat.le_of_ble_eq_true rfl) ?_
  intro X hG hnL hB hE
  subst hG
  change gW X h 0 0 0 [(0, .ref (c 2)), (1, .int x)] []
  have hT := o.2.1
  have hW60 := o.2.2.2.1
  have hz200 := o.2.2.2.2.2.1
  have ez := o.2.2.2.2.1
  have eW := o.2.2.1
  have eT := o.1
  have hz3 : z ≤ cLen Λ 3 := hC.2.2.2.2.1.2.2.1
  have hl200 : cLen Λ 3 ≤ 200 := hC.2.2.2.2.1.2.2.2.1
  refine gI_iconst (v := (-1)) hB dX3_greatestNoteAt_0 (by decide) ?_
  refine gI_istore_n hB ([(2, .int (-1)), (0, .ref (c 2)), (1, .int x)]) hnL dX3_greatestNoteAt_1 (by decide) rfl ?_
  refine gI_iconst (v := nI 0) hB dX3_greatestNoteAt_2 (by decide) ?_
  refine gI_istore_n hB ([(3, .int (nI 0)), (2, .int (-1)), (0, .ref (c 2)), (1, .int x)]) hnL dX3_greatestNoteAt_3 (by decide) rfl ?_
  have lp : ∀ (r_lp : Nat) (i : Nat) (g : Int32), z + 1 ≤ i + r_lp → i ≤ z → g = mSnG u x i → gW X h 0 0 4 [(3, .int (nI i)), (2, .int g), (0, .ref (c 2)), (1, .int x)] [] := by
    intro r_lp
    induction r_lp with
    | zero => intro i g hfu hi eg; exact absurd hfu (by omega)
    | succ r_lp ih_lp =>
      intro i g hfu hi eg
      refine gI_iload_n hB 0 dX3_greatestNoteAt_4 rfl ?_
      refine gI_aload_n hB 2 dX3_greatestNoteAt_5 rfl ?_
      refine gI_get (v := .int (u.1 12)) hB 2 hC.2.2.1 (C := RX3) (T := TX3) (N := 4) rfl (by decide +kernel) (by decide) (by decide +kernel) (fun _ h9 => h9) rfl dX3_greatestNoteAt_6 ?_
      refine gI_topi hB (y := nI z) ez ?_
      refine gI_icmp_ge hB 49 dX3_greatestNoteAt_9 (by decide) (fun c9_1 => ?_) (fun c9_1 => ?_)
      · skip
        have c9_1 := (nI_leI (by omega) (by omega)).mp c9_1
        refine gI_iload_n hB 1 dX3_greatestNoteAt_49 rfl ?_
        refine gI_iret hB hE dX3_greatestNoteAt_50 ?_
        exact ⟨by rw [eg, show i = z by omega], rfl, rfl, rfl⟩
      · skip
        have c9_1 := mt (nI_leI (by omega) (by omega)).mpr c9_1
        obtain ⟨fn, wn, hno, hno0⟩ := hC.2.2.2.2.2.2.2.2.2.1 i (by omega)
        obtain ⟨hno1, hno2⟩ := hno0 (by omega)
        refine gI_aload_n hB 2 dX3_greatestNoteAt_12 rfl ?_
        refine gI_iload_n hB 0 dX3_greatestNoteAt_13 rfl ?_
        refine gI_pureV (n9 := 1) (As := [.int (nI i)]) (rest := []) hB (k_noteAt X.2.1 h c Λ u T W z hC o i (by omega)) (gCW.of ggX3_greatestNoteAt_X3_at rfl ⟨by decide, by decide, by decide +kernel⟩ ⟨Nat.le_of_ble_eq_true rfl, Nat.le_of_ble_eq_true rfl⟩) (by decide +kernel) (by decide +kernel) (by decide +kernel) (by decide +kernel) hC.2.2.1 (C := RX3) (T := TX3) (N := 4) rfl rfl rfl (Nat.le_of_ble_eq_true rfl) (by first | exact Nat.le_of_ble_eq_true rfl | (dsimp only [gRm]; omega)) (by first | exact Nat.le_of_ble_eq_true rfl | (dsimp only [gRm]; omega)) dX3_greatestNoteAt_14 ?_
        refine gI_astore hB ([(4, .ref (cEl Λ 3 i)), (3, .int (nI i)), (2, .int g), (0, .ref (c 2)), (1, .int x)]) hnL dX3_greatestNoteAt_17 (by decide) rfl ?_
        refine gI_aload hB 0 dX3_greatestNoteAt_19 rfl ?_
        refine gI_iload_n hB 4 dX3_greatestNoteAt_21 rfl ?_
        refine gI_pureV (n9 := 1) (As := [.int x]) (rest := []) hB (k_soundsAt X.2.1 h (cEl Λ 3 i) fn wn hno x) (gCW.of ggX3_greatestNoteAt_X1_soundsAt rfl ⟨by decide, by decide, by decide +kernel⟩ ⟨Nat.le_of_ble_eq_true rfl, Nat.le_of_ble_eq_true rfl⟩) (by decide +kernel) (by decide +kernel) (by decide +kernel) (by decide +kernel) hno (C := RX1) (T := TX1) (N := 7) rfl rfl rfl (Nat.le_of_ble_eq_true rfl) (by first | exact Nat.le_of_ble_eq_true rfl | (dsimp only [gRm]; omega)) (by first | exact Nat.le_of_ble_eq_true rfl | (dsimp only [gRm]; omega)) dX3_greatestNoteAt_22 ?_
        refine gI_topi hB (y := gbi (mSnd u i x)) (by rw [hno1 0 (by omega), hno1 1 (by omega)]; rfl) ?_
        refine gI_if_eq hB 43 dX3_greatestNoteAt_25 (by decide) (fun c25_2 => ?_) (fun c25_2 => ?_)
        · skip
          have c25_2 := gbi_0.mp c25_2
          refine gI_iinc hB 1 ([(3, .int (nI (i + 1))), (4, .ref (cEl Λ 3 i)), (2, .int g), (0, .ref (c 2)), (1, .int x)]) hnL dX3_greatestNoteAt_43 rfl (nI_1 (i)) (by decide) rfl ?_
          refine gI_goto hB 4 dX3_greatestNoteAt_46 (by decide) ?_
          refine gI_loc [0, 2, 3, 4] rfl ?_
          exact ih_lp (i + 1) g (by omega) (by omega) (by rw [mSnG, if_neg c25_2]; exact eg)
        · skip
          have c25_2 := gbi_n0 c25_2
          refine gI_aload hB 0 dX3_greatestNoteAt_28 rfl ?_
          refine gI_get (v := .int (fn 2)) hB 2 hno (C := RX1) (T := TX1) (N := 7) rfl (by decide +kernel) (by decide) (by decide +kernel) (fun _ h9 => h9) rfl dX3_greatestNoteAt_30 ?_
          refine gI_topi hB (y := u.2 3 (15 * i + 2)) (hno1 2 (by omega)) ?_
          refine gI_iload_n hB 2 dX3_greatestNoteAt_33 rfl ?_
          refine gI_icmp_le hB 43 dX3_greatestNoteAt_34 (by decide) (fun c34_3 => ?_) (fun c34_3 => ?_)
          · skip
            refine gI_iinc hB 1 ([(3, .int (nI (i + 1))), (4, .ref (cEl Λ 3 i)), (2, .int g), (0, .ref (c 2)), (1, .int x)]) hnL dX3_greatestNoteAt_43 rfl (nI_1 (i)) (by decide) rfl ?_
            refine gI_goto hB 4 dX3_greatestNoteAt_46 (by decide) ?_
            refine gI_loc [0, 2, 3, 4] rfl ?_
            exact ih_lp (i + 1) g (by omega) (by omega) (by rw [mSnG, if_pos c25_2, if_neg (by rw [← eg]; exact Int32.not_lt.mpr c34_3)]; exact eg)
          · skip
            refine gI_aload hB 0 dX3_greatestNoteAt_37 rfl ?_
            refine gI_get (v := .int (fn 2)) hB 2 hno (C := RX1) (T := TX1) (N := 7) rfl (by decide +kernel) (by decide) (by decide +kernel) (fun _ h9 => h9) rfl dX3_greatestNoteAt_39 ?_
            refine gI_topi hB (y := u.2 3 (15 * i + 2)) (hno1 2 (by omega)) ?_
            refine gI_istore_n hB ([(2, .int (u.2 3 (15 * i + 2))), (4, .ref (cEl Λ 3 i)), (3, .int (nI i)), (0, .ref (c 2)), (1, .int x)]) hnL dX3_greatestNoteAt_42 (by decide) rfl ?_
            refine gI_iinc hB 2 ([(3, .int (nI (i + 1))), (2, .int (u.2 3 (15 * i + 2))), (4, .ref (cEl Λ 3 i)), (0, .ref (c 2)), (1, .int x)]) hnL dX3_greatestNoteAt_43 rfl (nI_1 (i)) (by decide) rfl ?_
            refine gI_goto hB 4 dX3_greatestNoteAt_46 (by decide) ?_
            refine gI_loc [0, 1, 3, 4] rfl ?_
            exact ih_lp (i + 1) (u.2 3 (15 * i + 2)) (by omega) (by omega) (by rw [mSnG, if_pos c25_2, if_pos (by rw [← eg]; exact Int32.not_le.mp c34_3)])
  refine gI_loc [0, 1, 2, 3] rfl ?_
  exact lp (z + 1) 0 (-1) (by omega) (by omega) rfl

set_option maxRecDepth 100000 in
set_option maxHeartbeats 4000000 in
theorem k_least (G : gG) (h : gH) (c : Nat → Nat) (Λ : CL) (u : MS) (T W z : Nat) (hC : cRep G h c Λ u T W z) (o : mOk u T W z) (x : Int32) : gMet yX3_leastNoteAt wsX3_leastNoteAt (gRm 5 0 0) G h [.ref (c 2), .int x] (gRet h (some (.int (mSnL u x z)))) := by
  refine gMet_of (maxL := 5) (ret := (some .int)) (by decide) rfl (Nat.le_of_ble_eq_true rfl) ?_
  intro X hG hnL hB hE
  subst hG
  change gW X h 0 0 0 [(0, .ref (c 2)), (1, .int x)] []
  have hT := o.2.1
  have hW60 := o.2.2.2.1
  have hz200 := o.2.2.2.2.2.1
  have ez := o.2.2.2.2.1
  have eW := o.2.2.1
  have eT := o.1
  have hz3 : z ≤ cLen Λ 3 := hC.2.2.2.2.1.2.2.1
  have hl200 : cLen Λ 3 ≤ 200 := hC.2.2.2.2.1.2.2.2.1
  refine gI_iconst (v := (-1)) hB dX3_leastNoteAt_0 (by decide) ?_
  refine gI_istore_n hB ([(2, .int (-1)), (0, .ref (c 2)), (1, .int x)]) hnL dX3_leastNoteAt_1 (by decide) rfl ?_
  refine gI_iconst (v := nI 0) hB dX3_leastNoteAt_2 (by decide) ?_
  refine gI_istore_n hB ([(3, .int (nI 0)), (2, .int (-1)), (0, .ref (c 2)), (1, .int x)]) hnL dX3_leastNoteAt_3 (by decide) rfl ?_
  have lp : ∀ (r_lp : Nat) (i : Nat) (l : Int32), z + 1 ≤ i + r_lp → i ≤ z → l = mSnL u x i → gW X h 0 0 4 [(3, .int (nI i)), (2, .int l), (0, .ref (c 2)), (1, .int x)] [] := by
    intro r_lp
    induction r_lp with
    | zero => intro i l hfu hi el; exact absurd hfu (by omega)
    | succ r_lp ih_lp =>
      intro i l hfu hi el
      refine gI_iload_n hB 0 dX3_leastNoteAt_4 rfl ?_
      refine gI_aload_n hB 2 dX3_leastNoteAt_5 rfl ?_
      refine gI_get (v := .int (u.1 12)) hB 2 hC.2.2.1 (C := RX3) (T := TX3) (N := 4) rfl (by decide +kernel) (by decide) (by decide +kernel) (fun _ h9 => h9) rfl dX3_leastNoteAt_6 ?_
      refine gI_topi hB (y := nI z) ez ?_
      refine gI_icmp_ge hB 54 dX3_leastNoteAt_9 (by decide) (fun c9_1 => ?_) (fun c9_1 => ?_)
      · skip
        have c9_1 := (nI_leI (by omega) (by omega)).mp c9_1
        refine gI_iload_n hB 1 dX3_leastNoteAt_54 rfl ?_
        refine gI_iret hB hE dX3_leastNoteAt_55 ?_
        exact ⟨by rw [el, show i = z by omega], rfl, rfl, rfl⟩
      · skip
        have c9_1 := mt (nI_leI (by omega) (by omega)).mpr c9_1
        obtain ⟨fn, wn, hno, hno0⟩ := hC.2.2.2.2.2.2.2.2.2.1 i (by omega)
        obtain ⟨hno1, hno2⟩ := hno0 (by omega)
        refine gI_aload_n hB 2 dX3_leastNoteAt_12 rfl ?_
        refine gI_iload_n hB 0 dX3_leastNoteAt_13 rfl ?_
        refine gI_pureV (n9 := 1) (As := [.int (nI i)]) (rest := []) hB (k_noteAt X.2.1 h c Λ u T W z hC o i (by omega)) (gCW.of ggX3_leastNoteAt_X3_at rfl ⟨by decide, by decide, by decide +kernel⟩ ⟨Nat.le_of_ble_eq_true rfl, Nat.le_of_ble_eq_true rfl⟩) (by decide +kernel) (by decide +kernel) (by decide +kernel) (by decide +kernel) hC.2.2.1 (C := RX3) (T := TX3) (N := 4) rfl rfl rfl (Nat.le_of_ble_eq_true rfl) (by first | exact Nat.le_of_ble_eq_true rfl | (dsimp only [gRm]; omega)) (by first | exact Nat.le_of_ble_eq_true rfl | (dsimp only [gRm]; omega)) dX3_leastNoteAt_14 ?_
        refine gI_astore hB ([(4, .ref (cEl Λ 3 i)), (3, .int (nI i)), (2, .int l), (0, .ref (c 2)), (1, .int x)]) hnL dX3_leastNoteAt_17 (by decide) rfl ?_
        refine gI_aload hB 0 dX3_leastNoteAt_19 rfl ?_
        refine gI_iload_n hB 4 dX3_leastNoteAt_21 rfl ?_
        refine gI_pureV (n9 := 1) (As := [.int x]) (rest := []) hB (k_soundsAt X.2.1 h (cEl Λ 3 i) fn wn hno x) (gCW.of ggX3_leastNoteAt_X1_soundsAt rfl ⟨by decide, by decide, by decide +kernel⟩ ⟨Nat.le_of_ble_eq_true rfl, Nat.le_of_ble_eq_true rfl⟩) (by decide +kernel) (by decide +kernel) (by decide +kernel) (by decide +kernel) hno (C := RX1) (T := TX1) (N := 7) rfl rfl rfl (Nat.le_of_ble_eq_true rfl) (by first | exact Nat.le_of_ble_eq_true rfl | (dsimp only [gRm]; omega)) (by first | exact Nat.le_of_ble_eq_true rfl | (dsimp only [gRm]; omega)) dX3_leastNoteAt_22 ?_
        refine gI_topi hB (y := gbi (mSnd u i x)) (by rw [hno1 0 (by omega), hno1 1 (by omega)]; rfl) ?_
        refine gI_if_eq hB 48 dX3_leastNoteAt_25 (by decide) (fun c25_2 => ?_) (fun c25_2 => ?_)
        · skip
          have c25_2 := gbi_0.mp c25_2
          refine gI_iinc hB 1 ([(3, .int (nI (i + 1))), (4, .ref (cEl Λ 3 i)), (2, .int l), (0, .ref (c 2)), (1, .int x)]) hnL dX3_leastNoteAt_48 rfl (nI_1 (i)) (by decide) rfl ?_
          refine gI_goto hB 4 dX3_leastNoteAt_51 (by decide) ?_
          refine gI_loc [0, 2, 3, 4] rfl ?_
          exact ih_lp (i + 1) l (by omega) (by omega) (by rw [mSnL, if_neg c25_2]; exact el)
        · skip
          have c25_2 := gbi_n0 c25_2
          refine gI_iload_n hB 2 dX3_leastNoteAt_28 rfl ?_
          refine gI_iconst (v := (-1)) hB dX3_leastNoteAt_29 (by decide) ?_
          refine gI_icmp_eq hB 42 dX3_leastNoteAt_30 (by decide) (fun c30_3 => ?_) (fun c30_3 => ?_)
          · skip
            refine gI_aload hB 0 dX3_leastNoteAt_42 rfl ?_
            refine gI_get (v := .int (fn 2)) hB 2 hno (C := RX1) (T := TX1) (N := 7) rfl (by decide +kernel) (by decide) (by decide +kernel) (fun _ h9 => h9) rfl dX3_leastNoteAt_44 ?_
            refine gI_topi hB (y := u.2 3 (15 * i + 2)) (hno1 2 (by omega)) ?_
            refine gI_istore_n hB ([(2, .int (u.2 3 (15 * i + 2))), (4, .ref (cEl Λ 3 i)), (3, .int (nI i)), (0, .ref (c 2)), (1, .int x)]) hnL dX3_leastNoteAt_47 (by decide) rfl ?_
            refine gI_iinc hB 2 ([(3, .int (nI (i + 1))), (2, .int (u.2 3 (15 * i + 2))), (4, .ref (cEl Λ 3 i)), (0, .ref (c 2)), (1, .int x)]) hnL dX3_leastNoteAt_48 rfl (nI_1 (i)) (by decide) rfl ?_
            refine gI_goto hB 4 dX3_leastNoteAt_51 (by decide) ?_
            refine gI_loc [0, 1, 3, 4] rfl ?_
            exact ih_lp (i + 1) (u.2 3 (15 * i + 2)) (by omega) (by omega) (by rw [mSnL, if_pos c25_2, if_pos ((mSnL_0 o x i hi).mp (el ▸ c30_3))])
          · skip
            refine gI_aload hB 0 dX3_leastNoteAt_33 rfl ?_
            refine gI_get (v := .int (fn 2)) hB 2 hno (C := RX1) (T := TX1) (N := 7) rfl (by decide +kernel) (by decide) (by decide +kernel) (fun _ h9 => h9) rfl dX3_leastNoteAt_35 ?_
            refine gI_topi hB (y := u.2 3 (15 * i + 2)) (hno1 2 (by omega)) ?_
            refine gI_iload_n hB 2 dX3_leastNoteAt_38 rfl ?_
            refine gI_icmp_ge hB 48 dX3_leastNoteAt_39 (by decide) (fun c39_4 => ?_) (fun c39_4 => ?_)
            · skip
              refine gI_iinc hB 1 ([(3, .int (nI (i + 1))), (4, .ref (cEl Λ 3 i)), (2, .int l), (0, .ref (c 2)), (1, .int x)]) hnL dX3_leastNoteAt_48 rfl (nI_1 (i)) (by decide) rfl ?_
              refine gI_goto hB 4 dX3_leastNoteAt_51 (by decide) ?_
              refine gI_loc [0, 2, 3, 4] rfl ?_
              exact ih_lp (i + 1) l (by omega) (by omega) (by rw [mSnL, if_pos c25_2, if_neg (fun z9 => c30_3 (el.trans ((mSnL_0 o x i hi).mpr z9))), if_neg (by rw [← el]; exact Int32.not_lt.mpr c39_4)]; exact el)
            · skip
              refine gI_aload hB 0 dX3_leastNoteAt_42 rfl ?_
              refine gI_get (v := .int (fn 2)) hB 2 hno (C := RX1) (T := TX1) (N := 7) rfl (by decide +kernel) (by decide) (by decide +kernel) (fun _ h9 => h9) rfl dX3_leastNoteAt_44 ?_
              refine gI_topi hB (y := u.2 3 (15 * i + 2)) (hno1 2 (by omega)) ?_
              refine gI_istore_n hB ([(2, .int (u.2 3 (15 * i + 2))), (4, .ref (cEl Λ 3 i)), (3, .int (nI i)), (0, .ref (c 2)), (1, .int x)]) hnL dX3_leastNoteAt_47 (by decide) rfl ?_
              refine gI_iinc hB 2 ([(3, .int (nI (i + 1))), (2, .int (u.2 3 (15 * i + 2))), (4, .ref (cEl Λ 3 i)), (0, .ref (c 2)), (1, .int x)]) hnL dX3_leastNoteAt_48 rfl (nI_1 (i)) (by decide) rfl ?_
              refine gI_goto hB 4 dX3_leastNoteAt_51 (by decide) ?_
              refine gI_loc [0, 1, 3, 4] rfl ?_
              exact ih_lp (i + 1) (u.2 3 (15 * i + 2)) (by omega) (by omega) (by rw [mSnL, if_pos c25_2, if_neg (fun z9 => c30_3 (el.trans ((mSnL_0 o x i hi).mpr z9))), if_pos (by rw [← el]; exact Int32.not_le.mp c39_4)])
  refine gI_loc [0, 1, 2, 3] rfl ?_
  exact lp (z + 1) 0 (-1) (by omega) (by omega) rfl

