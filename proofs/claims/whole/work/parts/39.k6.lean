/-- as kPo, for an answer that is no int -/
def kPoV (G : gG) (h : gH) (c : Nat → Nat) (F : Nat) (u1 : MS) (v : Value) : gPo := fun r h' k n => r = .inl (some v) ∧ cW G h' c u1 F ∧ cFr h h' ∧ k = 0 ∧ n = 0

set_option maxRecDepth 100000 in
set_option maxHeartbeats 4000000 in
theorem k_taddTo (G : gG) (h : gH) (c : Nat → Nat) (Λ : CL) (u : MS) (T W z : Nat) (hC : cRep G h c Λ u T W z) (o : mOk u T W z) (t : Nat) (ht : t < T) (d0 : Int64) : gMet yX4_addTo wsX4_addTo (gRm 4 0 0) G h [.ref (cEl Λ 0 t), .long d0] (gRet h (some (.long (mDgH u t (dF d0 (fun i => u.2 0 (7 * t + i)) 6) (mMany u t))))) := by
  refine gMet_of (maxL := 4) (ret := (some .long)) (by decide) rfl (Nat.le_of_ble_eq_true rfl) ?_
  intro X hG hnL hB hE
  subst hG
  change gW X h 0 0 0 [(0, .ref (cEl Λ 0 t)), (1, .long d0)] []
  have hT := o.2.1
  have hW60 := o.2.2.2.1
  have hz200 := o.2.2.2.2.2.1
  have ez := o.2.2.2.2.1
  have eW := o.2.2.1
  have eT := o.1
  obtain ⟨hm8, emm⟩ := hC.many o ht
  obtain ⟨mdt, gt, hlt, -⟩ := hC.2.2.2.1 (4 + t) (by omega)
  obtain ⟨m, em⟩ : ∃ m, m = cLen Λ (4 + t) := ⟨_, rfl⟩
  rw [← em] at hm8 emm
  refine gI_iconst (v := nI 0) hB dX4_addTo_0 (by decide) ?_
  refine gI_istore_n hB ([(3, .int (nI 0)), (0, .ref (cEl Λ 0 t)), (1, .long d0)]) hnL dX4_addTo_1 (by decide) rfl ?_
  have la : ∀ (r_la : Nat) (i : Nat) (d : Int64), 7 ≤ i + r_la → i ≤ 6 → d = dF d0 (fun i => u.2 0 (7 * t + i)) i → gW X h 0 0 2 [(3, .int (nI i)), (1, .long d), (0, .ref (cEl Λ 0 t))] [] := by
    intro r_la
    induction r_la with
    | zero => intro i d hfu hi ed; exact absurd hfu (by omega)
    | succ r_la ih_la =>
      intro i d hfu hi ed
      refine gI_iload_n hB 0 dX4_addTo_2 rfl ?_
      refine gI_bipush (v := nI 6) hB dX4_addTo_3 (by decide) ?_
      refine gI_icmp_ge hB 24 dX4_addTo_5 (by decide) (fun c5_1 => ?_) (fun c5_1 => ?_)
      · skip
        have c5_1 := (nI_leI (by omega) (by omega)).mp c5_1
        refine gI_iconst (v := nI 0) hB dX4_addTo_24 (by decide) ?_
        refine gI_istore_n hB ([(3, .int (nI 0)), (1, .long d), (0, .ref (cEl Λ 0 t))]) hnL dX4_addTo_25 (by decide) rfl ?_
        have lb : ∀ (r_lb : Nat) (j : Nat) (d2 : Int64), m + 1 ≤ j + r_lb → j ≤ m → d2 = mDgH u t d j → gW X h 0 0 26 [(3, .int (nI j)), (1, .long d2), (0, .ref (cEl Λ 0 t))] [] := by
          intro r_lb
          induction r_lb with
          | zero => intro j d2 hfu hj ed2; exact absurd hfu (by omega)
          | succ r_lb ih_lb =>
            intro j d2 hfu hj ed2
            refine gI_iload_n hB 0 dX4_addTo_26 rfl ?_
            refine gI_aload_n hB 2 dX4_addTo_27 rfl ?_
            refine gI_get (v := .ref (cLa Λ (4 + t))) hB 3 (hC.2.2.2.2.2.1 t ht) (C := RX4) (T := TX4) (N := 8) rfl (by decide +kernel) (by decide) (by decide +kernel) (fun _ h9 => h9) rfl dX4_addTo_28 ?_
            refine gI_pureV (n9 := 0) (As := []) (rest := [.int (nI j)]) hB (l_size X.2.1 h Λ (4 + t) (hC.2.2.2.1 (4 + t) (by omega))) (gCW.of ggX4_addTo_Jx4a65c_size_8abf5 rfl ⟨by decide, by decide, by decide +kernel⟩ ⟨Nat.le_of_ble_eq_true rfl, Nat.le_of_ble_eq_true rfl⟩) (by decide +kernel) (by decide +kernel) (by decide +kernel) (by decide +kernel) hlt (C := RJx4a65c) (T := TJx4a65c) (N := 3) rfl rfl rfl (Nat.le_of_ble_eq_true rfl) (by first | exact Nat.le_of_ble_eq_true rfl | (dsimp only [gRm]; omega)) (by first | exact Nat.le_of_ble_eq_true rfl | (dsimp only [gRm]; omega)) dX4_addTo_31 ?_
            refine gI_icmp_ge hB 59 dX4_addTo_34 (by decide) (fun c34_2 => ?_) (fun c34_2 => ?_)
            · skip
              have c34_2 := (nI_leI (by omega) (by omega)).mp c34_2
              refine gI_lload_n hB 1 dX4_addTo_59 rfl ?_
              refine gI_lret hB hE dX4_addTo_60 ?_
              exact ⟨by rw [emm, ed2, ed, show i = 6 by omega, show j = m by omega], rfl, rfl, rfl⟩
            · skip
              have c34_2 := mt (nI_leI (by omega) (by omega)).mpr c34_2
              refine gI_aload_n hB 2 dX4_addTo_37 rfl ?_
              refine gI_get (v := .ref (cLa Λ (4 + t))) hB 3 (hC.2.2.2.2.2.1 t ht) (C := RX4) (T := TX4) (N := 8) rfl (by decide +kernel) (by decide) (by decide +kernel) (fun _ h9 => h9) rfl dX4_addTo_38 ?_
              refine gI_iload_n hB 0 dX4_addTo_41 rfl ?_
              refine gI_pureV (n9 := 1) (As := [.int (nI j)]) (rest := []) hB (l_get X.2.1 h Λ (4 + t) (hC.2.2.2.1 (4 + t) (by omega)) j (by omega)) (gCW.of ggX4_addTo_Jx4a65c_get_915e3 rfl ⟨by decide, by decide, by decide +kernel⟩ ⟨Nat.le_of_ble_eq_true rfl, Nat.le_of_ble_eq_true rfl⟩) (by decide +kernel) (by decide +kernel) (by decide +kernel) (by decide +kernel) hlt (C := RJx4a65c) (T := TJx4a65c) (N := 3) rfl rfl rfl (Nat.le_of_ble_eq_true rfl) (by first | exact Nat.le_of_ble_eq_true rfl | (dsimp only [gRm]; omega)) (by first | exact Nat.le_of_ble_eq_true rfl | (dsimp only [gRm]; omega)) dX4_addTo_42 ?_
              refine gI_cast hB (hC.2.2.2.2.2.2.1 t j ht (by omega)) (C := RX0) (T := TX0) (N := 9) rfl (by decide +kernel) dX4_addTo_45 ?_
              refine gI_lload_n hB 1 dX4_addTo_48 rfl ?_
              refine gI_pureV (n9 := 1) (As := [.long d2]) (rest := []) hB (k_haddTo X.2.1 h (cEl Λ (4 + t) j) (mRow (u.2 1) (9 * (8 * t + j))) (hC.2.2.2.2.2.2.1 t j ht (by omega)) d2) (gCW.of ggX4_addTo_X0_addTo rfl ⟨by decide, by decide, by decide +kernel⟩ ⟨Nat.le_of_ble_eq_true rfl, Nat.le_of_ble_eq_true rfl⟩) (by decide +kernel) (by decide +kernel) (by decide +kernel) (by decide +kernel) (hC.2.2.2.2.2.2.1 t j ht (by omega)) (C := RX0) (T := TX0) (N := 9) rfl rfl rfl (Nat.le_of_ble_eq_true rfl) (by first | exact Nat.le_of_ble_eq_true rfl | (dsimp only [gRm]; omega)) (by first | exact Nat.le_of_ble_eq_true rfl | (dsimp only [gRm]; omega)) dX4_addTo_49 ?_
              refine gI_lstore_n hB ([(1, .long (dF d2 (mRow (u.2 1) (9 * (8 * t + j))) 9)), (3, .int (nI j)), (0, .ref (cEl Λ 0 t))]) hnL dX4_addTo_52 (by decide) rfl ?_
              refine gI_iinc hB 1 ([(3, .int (nI (j + 1))), (1, .long (dF d2 (mRow (u.2 1) (9 * (8 * t + j))) 9)), (0, .ref (cEl Λ 0 t))]) hnL dX4_addTo_53 rfl (nI_1 (j)) (by decide) rfl ?_
              refine gI_goto hB 26 dX4_addTo_56 (by decide) ?_
              refine gI_loc [0, 1, 2] rfl ?_
              exact ih_lb (j + 1) (dF d2 (mRow (u.2 1) (9 * (8 * t + j))) 9) (by omega) (by omega) (by rw [mDgH, ← ed2]; try rfl)
        refine gI_loc [0, 1, 2] rfl ?_
        exact lb (m + 1) 0 d (by omega) (by omega) rfl
      · skip
        have c5_1 := mt (nI_leI (by omega) (by omega)).mpr c5_1
        refine gI_lload_n hB 1 dX4_addTo_8 rfl ?_
        refine gI_aload_n hB 2 dX4_addTo_9 rfl ?_
        refine gI_iload_n hB 0 dX4_addTo_10 rfl ?_
        refine gI_pureV (n9 := 1) (As := [.int (nI i)]) (rest := [.long d]) hB (k_tpart X.2.1 h c Λ u T W z hC o t ht i (by omega)) (gCW.of ggX4_addTo_X4_part rfl ⟨by decide, by decide, by decide +kernel⟩ ⟨Nat.le_of_ble_eq_true rfl, Nat.le_of_ble_eq_true rfl⟩) (by decide +kernel) (by decide +kernel) (by decide +kernel) (by decide +kernel) (hC.2.2.2.2.2.1 t ht) (C := RX4) (T := TX4) (N := 8) rfl rfl rfl (Nat.le_of_ble_eq_true rfl) (by first | exact Nat.le_of_ble_eq_true rfl | (dsimp only [gRm]; omega)) (by first | exact Nat.le_of_ble_eq_true rfl | (dsimp only [gRm]; omega)) dX4_addTo_11 ?_
        refine gI_pureS (n9 := 2) (As := [.long d, .int (u.2 0 (7 * t + i))]) (rest := []) hB (k_digestWith X.2.1 h d (u.2 0 (7 * t + i))) (gCW.of ggX4_addTo_X6_digestWith rfl ⟨by decide, by decide, by decide +kernel⟩ ⟨Nat.le_of_ble_eq_true rfl, Nat.le_of_ble_eq_true rfl⟩) (Or.inr ⟨"DoorbellChoir", by decide +kernel⟩) (by decide +kernel) (by decide +kernel) rfl rfl (Nat.le_of_ble_eq_true rfl) (by first | exact Nat.le_of_ble_eq_true rfl | (dsimp only [gRm]; omega)) (by first | exact Nat.le_of_ble_eq_true rfl | (dsimp only [gRm]; omega)) dX4_addTo_14 ?_
        refine gI_lstore_n hB ([(1, .long (d * 31 + (u.2 0 (7 * t + i)).toInt64)), (3, .int (nI i)), (0, .ref (cEl Λ 0 t))]) hnL dX4_addTo_17 (by decide) rfl ?_
        refine gI_iinc hB 1 ([(3, .int (nI (i + 1))), (1, .long (d * 31 + (u.2 0 (7 * t + i)).toInt64)), (0, .ref (cEl Λ 0 t))]) hnL dX4_addTo_18 rfl (nI_1 (i)) (by decide) rfl ?_
        refine gI_goto hB 2 dX4_addTo_21 (by decide) ?_
        refine gI_loc [0, 1, 2] rfl ?_
        exact ih_la (i + 1) (d * 31 + (u.2 0 (7 * t + i)).toInt64) (by omega) (by omega) (by rw [dF, ← ed]; try rfl)
  refine gI_loc [0, 2, 1] rfl ?_
  exact la 7 0 d0 (by omega) (by omega) rfl

set_option maxRecDepth 100000 in
set_option maxHeartbeats 4000000 in
theorem k_waddTo (G : gG) (h : gH) (c : Nat → Nat) (Λ : CL) (u : MS) (T W z : Nat) (hC : cRep G h c Λ u T W z) (o : mOk u T W z) (d0 : Int64) : gMet yX5_addTo wsX5_addTo (gRm 4 0 0) G h [.ref (c 1), .long d0] (gRet h (some (.long (mDgR u d0 W)))) := by
  refine gMet_of (maxL := 5) (ret := (some .long)) (by decide) rfl (Nat.le_of_ble_eq_true rfl) ?_
  intro X hG hnL hB hE
  subst hG
  change gW X h 0 0 0 [(0, .ref (c 1)), (1, .long d0)] []
  have hT := o.2.1
  have hW60 := o.2.2.2.1
  have hz200 := o.2.2.2.2.2.1
  have ez := o.2.2.2.2.1
  have eW := o.2.2.1
  have eT := o.1
  obtain ⟨md1, g1, hl1, -⟩ := hC.2.2.2.1 1 (by omega)
  refine gI_iconst (v := nI 0) hB dX5_addTo_0 (by decide) ?_
  refine gI_istore_n hB ([(3, .int (nI 0)), (0, .ref (c 1)), (1, .long d0)]) hnL dX5_addTo_1 (by decide) rfl ?_
  have la : ∀ (r_la : Nat) (k6 : Nat) (d6 : Int64), W + 1 ≤ k6 + r_la → k6 ≤ W → d6 = mDgR u d0 k6 → gW X h 0 0 2 [(3, .int (nI k6)), (1, .long d6), (0, .ref (c 1))] [] := by
    intro r_la
    induction r_la with
    | zero => intro k6 d6 hfu hk6 ed6; exact absurd hfu (by omega)
    | succ r_la ih_la =>
      intro k6 d6 hfu hk6 ed6
      refine gI_iload_n hB 0 dX5_addTo_2 rfl ?_
      refine gI_aload_n hB 2 dX5_addTo_3 rfl ?_
      refine gI_get (v := .ref (cLa Λ 1)) hB 0 hC.2.1.1 (C := RX5) (T := TX5) (N := 2) rfl (by decide +kernel) (by decide) (by decide +kernel) (fun _ h9 => h9) rfl dX5_addTo_4 ?_
      refine gI_pureV (n9 := 0) (As := []) (rest := [.int (nI k6)]) hB (l_size X.2.1 h Λ 1 (hC.2.2.2.1 1 (by omega))) (gCW.of ggX5_addTo_Jx4a65c_size_8abf5 rfl ⟨by decide, by decide, by decide +kernel⟩ ⟨Nat.le_of_ble_eq_true rfl, Nat.le_of_ble_eq_true rfl⟩) (by decide +kernel) (by decide +kernel) (by decide +kernel) (by decide +kernel) hl1 (C := RJx4a65c) (T := TJx4a65c) (N := 3) rfl rfl rfl (Nat.le_of_ble_eq_true rfl) (by first | exact Nat.le_of_ble_eq_true rfl | (dsimp only [gRm]; omega)) (by first | exact Nat.le_of_ble_eq_true rfl | (dsimp only [gRm]; omega)) dX5_addTo_7 ?_
      refine gI_topi hB (y := nI W) (congrArg nI hC.2.2.2.2.1.2.1) ?_
      refine gI_icmp_ge hB 55 dX5_addTo_10 (by decide) (fun c10_1 => ?_) (fun c10_1 => ?_)
      · skip
        have c10_1 := (nI_leI (by omega) (by omega)).mp c10_1
        refine gI_lload_n hB 1 dX5_addTo_55 rfl ?_
        refine gI_lret hB hE dX5_addTo_56 ?_
        exact ⟨by rw [ed6, show k6 = W by omega], rfl, rfl, rfl⟩
      · skip
        have c10_1 := mt (nI_leI (by omega) (by omega)).mpr c10_1
        refine gI_iconst (v := nI 0) hB dX5_addTo_13 (by decide) ?_
        refine gI_istore hB ([(4, .int (nI 0)), (3, .int (nI k6)), (1, .long d6), (0, .ref (c 1))]) hnL dX5_addTo_14 (by decide) rfl ?_
        have lb : ∀ (r_lb : Nat) (i7 : Nat) (d7 : Int64), 6 ≤ i7 + r_lb → i7 ≤ 5 → d7 = dF d6 (fun i => u.2 2 (14 * k6 + i)) i7 → gW X h 0 0 16 [(4, .int (nI i7)), (3, .int (nI k6)), (1, .long d7), (0, .ref (c 1))] [] := by
          intro r_lb
          induction r_lb with
          | zero => intro i7 d7 hfu hi7 ed7; exact absurd hfu (by omega)
          | succ r_lb ih_lb =>
            intro i7 d7 hfu hi7 ed7
            refine gI_iload hB 0 dX5_addTo_16 rfl ?_
            refine gI_iconst (v := nI 5) hB dX5_addTo_18 (by decide) ?_
            refine gI_icmp_ge hB 49 dX5_addTo_19 (by decide) (fun c19_2 => ?_) (fun c19_2 => ?_)
            · skip
              have c19_2 := (nI_leI (by omega) (by omega)).mp c19_2
              refine gI_iinc hB 1 ([(3, .int (nI (k6 + 1))), (4, .int (nI i7)), (1, .long d7), (0, .ref (c 1))]) hnL dX5_addTo_49 rfl (nI_1 (k6)) (by decide) rfl ?_
              refine gI_goto hB 2 dX5_addTo_52 (by decide) ?_
              refine gI_loc [0, 2, 3] rfl ?_
              exact ih_la (k6 + 1) d7 (by omega) (by omega) (by rw [mDgR, ← ed6, ed7, show i7 = 5 by omega])
            · skip
              have c19_2 := mt (nI_leI (by omega) (by omega)).mpr c19_2
              refine gI_lload_n hB 2 dX5_addTo_22 rfl ?_
              refine gI_aload_n hB 3 dX5_addTo_23 rfl ?_
              refine gI_get (v := .ref (cLa Λ 1)) hB 0 hC.2.1.1 (C := RX5) (T := TX5) (N := 2) rfl (by decide +kernel) (by decide) (by decide +kernel) (fun _ h9 => h9) rfl dX5_addTo_24 ?_
              refine gI_iload_n hB 1 dX5_addTo_27 rfl ?_
              refine gI_pureV (n9 := 1) (As := [.int (nI k6)]) (rest := [.long d7]) hB (l_get X.2.1 h Λ 1 (hC.2.2.2.1 1 (by omega)) k6 (by rw [hC.2.2.2.2.1.2.1]; omega)) (gCW.of ggX5_addTo_Jx4a65c_get_915e3 rfl ⟨by decide, by decide, by decide +kernel⟩ ⟨Nat.le_of_ble_eq_true rfl, Nat.le_of_ble_eq_true rfl⟩) (by decide +kernel) (by decide +kernel) (by decide +kernel) (by decide +kernel) hl1 (C := RJx4a65c) (T := TJx4a65c) (N := 3) rfl rfl rfl (Nat.le_of_ble_eq_true rfl) (by first | exact Nat.le_of_ble_eq_true rfl | (dsimp only [gRm]; omega)) (by first | exact Nat.le_of_ble_eq_true rfl | (dsimp only [gRm]; omega)) dX5_addTo_28 ?_
              refine gI_cast hB (hC.2.2.2.2.2.2.2.1 k6 (by omega)) (C := RX2) (T := TX2) (N := 6) rfl (by decide +kernel) dX5_addTo_31 ?_
              refine gI_iload hB 0 dX5_addTo_34 rfl ?_
              refine gI_pureV (n9 := 1) (As := [.int (nI i7)]) (rest := [.long d7]) hB (k_rpart X.2.1 h (cEl Λ 1 k6) (mRow (u.2 2) (14 * k6)) (wOf (u.2 2) (14 * k6 + 5) (u.2 2 (14 * k6 + 4))) (hC.2.2.2.2.2.2.2.1 k6 (by omega)) i7 (by omega)) (gCW.of ggX5_addTo_X2_part rfl ⟨by decide, by decide, by decide +kernel⟩ ⟨Nat.le_of_ble_eq_true rfl, Nat.le_of_ble_eq_true rfl⟩) (by decide +kernel) (by decide +kernel) (by decide +kernel) (by decide +kernel) (hC.2.2.2.2.2.2.2.1 k6 (by omega)) (C := RX2) (T := TX2) (N := 6) rfl rfl rfl (Nat.le_of_ble_eq_true rfl) (by first | exact Nat.le_of_ble_eq_true rfl | (dsimp only [gRm]; omega)) (by first | exact Nat.le_of_ble_eq_true rfl | (dsimp only [gRm]; omega)) dX5_addTo_36 ?_
              refine gI_pureS (n9 := 2) (As := [.long d7, .int (u.2 2 (14 * k6 + i7))]) (rest := []) hB (k_digestWith X.2.1 h d7 (u.2 2 (14 * k6 + i7))) (gCW.of ggX5_addTo_X6_digestWith rfl ⟨by decide, by decide, by decide +kernel⟩ ⟨Nat.le_of_ble_eq_true rfl, Nat.le_of_ble_eq_true rfl⟩) (Or.inr ⟨"DoorbellChoir", by decide +kernel⟩) (by decide +kernel) (by decide +kernel) rfl rfl (Nat.le_of_ble_eq_true rfl) (by first | exact Nat.le_of_ble_eq_true rfl | (dsimp only [gRm]; omega)) (by first | exact Nat.le_of_ble_eq_true rfl | (dsimp only [gRm]; omega)) dX5_addTo_39 ?_
              refine gI_lstore_n hB ([(1, .long (d7 * 31 + (u.2 2 (14 * k6 + i7)).toInt64)), (4, .int (nI i7)), (3, .int (nI k6)), (0, .ref (c 1))]) hnL dX5_addTo_42 (by decide) rfl ?_
              refine gI_iinc hB 1 ([(4, .int (nI (i7 + 1))), (1, .long (d7 * 31 + (u.2 2 (14 * k6 + i7)).toInt64)), (3, .int (nI k6)), (0, .ref (c 1))]) hnL dX5_addTo_43 rfl (nI_1 (i7)) (by decide) rfl ?_
              refine gI_goto hB 16 dX5_addTo_46 (by decide) ?_
              refine gI_loc [0, 2, 1, 3] rfl ?_
              exact ih_lb (i7 + 1) (d7 * 31 + (u.2 2 (14 * k6 + i7)).toInt64) (by omega) (by omega) (by rw [dF, ← ed7]; try rfl)
        refine gI_loc [0, 1, 2, 3] rfl ?_
        exact lb 6 0 d6 (by omega) (by omega) rfl
  refine gI_loc [0, 2, 1] rfl ?_
  exact la (W + 1) 0 d0 (by omega) (by omega) rfl

set_option maxRecDepth 100000 in
set_option maxHeartbeats 4000000 in
theorem k_saddTo (G : gG) (h : gH) (c : Nat → Nat) (Λ : CL) (u : MS) (T W z : Nat) (hC : cRep G h c Λ u T W z) (o : mOk u T W z) (d0 : Int64) : gMet yX3_addTo wsX3_addTo (gRm 5 0 0) G h [.ref (c 2), .long d0] (gRet h (some (.long (mDgN u d0 z)))) := by
  refine gMet_of (maxL := 5) (ret := (some .long)) (by decide) rfl (Nat.le_of_ble_eq_true rfl) ?_
  intro X hG hnL hB hE
  subst hG
  change gW X h 0 0 0 [(0, .ref (c 2)), (1, .long d0)] []
  have hT := o.2.1
  have hW60 := o.2.2.2.1
  have hz200 := o.2.2.2.2.2.1
  have ez := o.2.2.2.2.1
  have eW := o.2.2.1
  have eT := o.1
  have hz3 : z ≤ cLen Λ 3 := hC.2.2.2.2.1.2.2.1
  have hl200 : cLen Λ 3 ≤ 200 := hC.2.2.2.2.1.2.2.2.1
  refine gI_iconst (v := nI 0) hB dX3_addTo_0 (by decide) ?_
  refine gI_istore_n hB ([(3, .int (nI 0)), (0, .ref (c 2)), (1, .long d0)]) hnL dX3_addTo_1 (by decide) rfl ?_
  have la : ∀ (r_la : Nat) (k8 : Nat) (d8 : Int64), z + 1 ≤ k8 + r_la → k8 ≤ z → d8 = mDgN u d0 k8 → gW X h 0 0 2 [(3, .int (nI k8)), (1, .long d8), (0, .ref (c 2))] [] := by
    intro r_la
    induction r_la with
    | zero => intro k8 d8 hfu hk8 ed8; exact absurd hfu (by omega)
    | succ r_la ih_la =>
      intro k8 d8 hfu hk8 ed8
      refine gI_iload_n hB 0 dX3_addTo_2 rfl ?_
      refine gI_aload_n hB 2 dX3_addTo_3 rfl ?_
      refine gI_get (v := .int (u.1 12)) hB 2 hC.2.2.1 (C := RX3) (T := TX3) (N := 4) rfl (by decide +kernel) (by decide) (by decide +kernel) (fun _ h9 => h9) rfl dX3_addTo_4 ?_
      refine gI_topi hB (y := nI z) ez ?_
      refine gI_icmp_ge hB 47 dX3_addTo_7 (by decide) (fun c7_1 => ?_) (fun c7_1 => ?_)
      · skip
        have c7_1 := (nI_leI (by omega) (by omega)).mp c7_1
        refine gI_lload_n hB 1 dX3_addTo_47 rfl ?_
        refine gI_lret hB hE dX3_addTo_48 ?_
        exact ⟨by rw [ed8, show k8 = z by omega], rfl, rfl, rfl⟩
      · skip
        have c7_1 := mt (nI_leI (by omega) (by omega)).mpr c7_1
        obtain ⟨fn, wn, hno, hno0⟩ := hC.2.2.2.2.2.2.2.2.2.1 k8 (by omega)
        obtain ⟨hno1, hno2⟩ := hno0 (by omega)
        refine gI_iconst (v := nI 0) hB dX3_addTo_10 (by decide) ?_
        refine gI_istore hB ([(4, .int (nI 0)), (3, .int (nI k8)), (1, .long d8), (0, .ref (c 2))]) hnL dX3_addTo_11 (by decide) rfl ?_
        have lb : ∀ (r_lb : Nat) (i9 : Nat) (d9 : Int64), 7 ≤ i9 + r_lb → i9 ≤ 6 → d9 = dF d8 (fun i => u.2 3 (15 * k8 + i)) i9 → gW X h 0 0 13 [(4, .int (nI i9)), (3, .int (nI k8)), (1, .long d9), (0, .ref (c 2))] [] := by
          intro r_lb
          induction r_lb with
          | zero => intro i9 d9 hfu hi9 ed9; exact absurd hfu (by omega)
          | succ r_lb ih_lb =>
            intro i9 d9 hfu hi9 ed9
            refine gI_iload hB 0 dX3_addTo_13 rfl ?_
            refine gI_bipush (v := nI 6) hB dX3_addTo_15 (by decide) ?_
            refine gI_icmp_ge hB 41 dX3_addTo_17 (by decide) (fun c17_2 => ?_) (fun c17_2 => ?_)
            · skip
              have c17_2 := (nI_leI (by omega) (by omega)).mp c17_2
              refine gI_iinc hB 1 ([(3, .int (nI (k8 + 1))), (4, .int (nI i9)), (1, .long d9), (0, .ref (c 2))]) hnL dX3_addTo_41 rfl (nI_1 (k8)) (by decide) rfl ?_
              refine gI_goto hB 2 dX3_addTo_44 (by decide) ?_
              refine gI_loc [0, 2, 3] rfl ?_
              exact ih_la (k8 + 1) d9 (by omega) (by omega) (by rw [mDgN, ← ed8, ed9, show i9 = 6 by omega])
            · skip
              have c17_2 := mt (nI_leI (by omega) (by omega)).mpr c17_2
              refine gI_lload_n hB 2 dX3_addTo_20 rfl ?_
              refine gI_aload_n hB 3 dX3_addTo_21 rfl ?_
              refine gI_iload_n hB 1 dX3_addTo_22 rfl ?_
              refine gI_pureV (n9 := 1) (As := [.int (nI k8)]) (rest := [.long d9]) hB (k_noteAt X.2.1 h c Λ u T W z hC o k8 (by omega)) (gCW.of ggX3_addTo_X3_at rfl ⟨by decide, by decide, by decide +kernel⟩ ⟨Nat.le_of_ble_eq_true rfl, Nat.le_of_ble_eq_true rfl⟩) (by decide +kernel) (by decide +kernel) (by decide +kernel) (by decide +kernel) hC.2.2.1 (C := RX3) (T := TX3) (N := 4) rfl rfl rfl (Nat.le_of_ble_eq_true rfl) (by first | exact Nat.le_of_ble_eq_true rfl | (dsimp only [gRm]; omega)) (by first | exact Nat.le_of_ble_eq_true rfl | (dsimp only [gRm]; omega)) dX3_addTo_23 ?_
              refine gI_iload hB 0 dX3_addTo_26 rfl ?_
              refine gI_pureV (n9 := 1) (As := [.int (nI i9)]) (rest := [.long d9]) hB (k_npart X.2.1 h (cEl Λ 3 k8) fn wn hno i9 (by omega)) (gCW.of ggX3_addTo_X1_part rfl ⟨by decide, by decide, by decide +kernel⟩ ⟨Nat.le_of_ble_eq_true rfl, Nat.le_of_ble_eq_true rfl⟩) (by decide +kernel) (by decide +kernel) (by decide +kernel) (by decide +kernel) hno (C := RX1) (T := TX1) (N := 7) rfl rfl rfl (Nat.le_of_ble_eq_true rfl) (by first | exact Nat.le_of_ble_eq_true rfl | (dsimp only [gRm]; omega)) (by first | exact Nat.le_of_ble_eq_true rfl | (dsimp only [gRm]; omega)) dX3_addTo_28 ?_
              refine gI_topi hB (y := u.2 3 (15 * k8 + i9)) (hno1 i9 (by omega)) ?_
              refine gI_pureS (n9 := 2) (As := [.long d9, .int (u.2 3 (15 * k8 + i9))]) (rest := []) hB (k_digestWith X.2.1 h d9 (u.2 3 (15 * k8 + i9))) (gCW.of ggX3_addTo_X6_digestWith rfl ⟨by decide, by decide, by decide +kernel⟩ ⟨Nat.le_of_ble_eq_true rfl, Nat.le_of_ble_eq_true rfl⟩) (Or.inr ⟨"DoorbellChoir", by decide +kernel⟩) (by decide +kernel) (by decide +kernel) rfl rfl (Nat.le_of_ble_eq_true rfl) (by first | exact Nat.le_of_ble_eq_true rfl | (dsimp only [gRm]; omega)) (by first | exact Nat.le_of_ble_eq_true rfl | (dsimp only [gRm]; omega)) dX3_addTo_31 ?_
              refine gI_lstore_n hB ([(1, .long (d9 * 31 + (u.2 3 (15 * k8 + i9)).toInt64)), (4, .int (nI i9)), (3, .int (nI k8)), (0, .ref (c 2))]) hnL dX3_addTo_34 (by decide) rfl ?_
              refine gI_iinc hB 1 ([(4, .int (nI (i9 + 1))), (1, .long (d9 * 31 + (u.2 3 (15 * k8 + i9)).toInt64)), (3, .int (nI k8)), (0, .ref (c 2))]) hnL dX3_addTo_35 rfl (nI_1 (i9)) (by decide) rfl ?_
              refine gI_goto hB 13 dX3_addTo_38 (by decide) ?_
              refine gI_loc [0, 2, 1, 3] rfl ?_
              exact ih_lb (i9 + 1) (d9 * 31 + (u.2 3 (15 * k8 + i9)).toInt64) (by omega) (by omega) (by rw [dF, ← ed9]; try rfl)
        refine gI_loc [0, 1, 2, 3] rfl ?_
        exact lb 7 0 d8 (by omega) (by omega) rfl
  refine gI_loc [0, 2, 1] rfl ?_
  exact la (z + 1) 0 d0 (by omega) (by omega) rfl

set_option maxRecDepth 100000 in
set_option maxHeartbeats 4000000 in
theorem p_digest (G : gG) (h : gH) (c : Nat → Nat) (Λ : CL) (u : MS) (T W z : Nat) (hC : cRep G h c Λ u T W z) (o : mOk u T W z) : gMet yX6_digest wsX6_digest (gRm 6 0 0) G h [.ref (c 0)] (kPoV G h c (cPhi Λ) (sg u 0 (nI 0)) (.long (mDig u))) := by
  refine gMet_of (maxL := 4) (ret := (some .long)) (by decide) rfl (Nat.le_of_ble_eq_true rfl) ?_
  intro X hG hnL hB hE
  subst hG
  change gW X h 0 0 0 [(0, .ref (c 0))] []
  have hT := o.2.1
  have hW60 := o.2.2.2.1
  have hz200 := o.2.2.2.2.2.1
  have ez := o.2.2.2.2.1
  have eW := o.2.2.1
  have eT := o.1
  obtain ⟨md0, g0, hl0, -⟩ := hC.2.2.2.1 0 (by omega)
  refine gI_ldc2 (v := 439) hB (by decide +kernel) dX6_digest_0 ?_
  refine gI_lstore_n hB ([(1, .long 439), (0, .ref (c 0))]) hnL dX6_digest_3 (by decide) rfl ?_
  refine gI_iconst (v := nI 0) hB dX6_digest_4 (by decide) ?_
  refine gI_istore_n hB ([(3, .int (nI 0)), (1, .long 439), (0, .ref (c 0))]) hnL dX6_digest_5 (by decide) rfl ?_
  have la : ∀ (r_la : Nat) (i1 : Nat) (d1 : Int64), 10 ≤ i1 + r_la → i1 ≤ 9 → d1 = dF 439 (mCnt u) i1 → gW X h 0 0 6 [(3, .int (nI i1)), (1, .long d1), (0, .ref (c 0))] [] := by
    intro r_la
    induction r_la with
    | zero => intro i1 d1 hfu hi1 ed1; exact absurd hfu (by omega)
    | succ r_la ih_la =>
      intro i1 d1 hfu hi1 ed1
      refine gI_iload_n hB 0 dX6_digest_6 rfl ?_
      refine gI_bipush (v := nI 9) hB dX6_digest_7 (by decide) ?_
      refine gI_icmp_ge hB 28 dX6_digest_9 (by decide) (fun c9_1 => ?_) (fun c9_1 => ?_)
      · skip
        have c9_1 := (nI_leI (by omega) (by omega)).mp c9_1
        refine gI_iconst (v := nI 0) hB dX6_digest_28 (by decide) ?_
        refine gI_istore_n hB ([(3, .int (nI 0)), (1, .long d1), (0, .ref (c 0))]) hnL dX6_digest_29 (by decide) rfl ?_
        have lb : ∀ (r_lb : Nat) (t : Nat) (d2 : Int64), T + 1 ≤ t + r_lb → t ≤ T → d2 = mDgT u d1 t → gW X h 0 0 30 [(3, .int (nI t)), (1, .long d2), (0, .ref (c 0))] [] := by
          intro r_lb
          induction r_lb with
          | zero => intro t d2 hfu ht9 ed2; exact absurd hfu (by omega)
          | succ r_lb ih_lb =>
            intro t d2 hfu ht9 ed2
            refine gI_iload_n hB 0 dX6_digest_30 rfl ?_
            refine gI_aload_n hB 2 dX6_digest_31 rfl ?_
            refine gI_get (v := .ref (cLa Λ 0)) hB 0 hC.1 (C := RX6) (T := TX6) (N := 9) rfl (by decide +kernel) (by decide) (by decide +kernel) (fun _ h9 => h9) rfl dX6_digest_32 ?_
            refine gI_pureV (n9 := 0) (As := []) (rest := [.int (nI t)]) hB (l_size X.2.1 h Λ 0 (hC.2.2.2.1 0 (by omega))) (gCW.of ggX6_digest_Jx4a65c_size_8abf5 rfl ⟨by decide, by decide, by decide +kernel⟩ ⟨Nat.le_of_ble_eq_true rfl, Nat.le_of_ble_eq_true rfl⟩) (by decide +kernel) (by decide +kernel) (by decide +kernel) (by decide +kernel) hl0 (C := RJx4a65c) (T := TJx4a65c) (N := 3) rfl rfl rfl (Nat.le_of_ble_eq_true rfl) (by first | exact Nat.le_of_ble_eq_true rfl | (dsimp only [gRm]; omega)) (by first | exact Nat.le_of_ble_eq_true rfl | (dsimp only [gRm]; omega)) dX6_digest_35 ?_
            refine gI_topi hB (y := nI T) (congrArg nI hC.2.2.2.2.1.1) ?_
            refine gI_icmp_ge hB 63 dX6_digest_38 (by decide) (fun c38_2 => ?_) (fun c38_2 => ?_)
            · skip
              have c38_2 := (nI_leI (by omega) (by omega)).mp c38_2
              refine gI_aload_n hB 2 dX6_digest_63 rfl ?_
              refine gI_get (v := .ref (c 1)) hB 1 hC.1 (C := RX6) (T := TX6) (N := 9) rfl (by decide +kernel) (by decide) (by decide +kernel) (fun _ h9 => h9) rfl dX6_digest_64 ?_
              refine gI_lload_n hB 1 dX6_digest_67 rfl ?_
              refine gI_pureV (n9 := 1) (As := [.long d2]) (rest := []) hB (k_waddTo X.2.1 h c Λ u T W z hC o d2) (gCW.of ggX6_digest_X5_addTo rfl ⟨by decide, by decide, by decide +kernel⟩ ⟨Nat.le_of_ble_eq_true rfl, Nat.le_of_ble_eq_true rfl⟩) (by decide +kernel) (by decide +kernel) (by decide +kernel) (by decide +kernel) hC.2.1.1 (C := RX5) (T := TX5) (N := 2) rfl rfl rfl (Nat.le_of_ble_eq_true rfl) (by first | exact Nat.le_of_ble_eq_true rfl | (dsimp only [gRm]; omega)) (by first | exact Nat.le_of_ble_eq_true rfl | (dsimp only [gRm]; omega)) dX6_digest_68 ?_
              refine gI_lstore_n hB ([(1, .long (mDgR u d2 W)), (3, .int (nI t)), (0, .ref (c 0))]) hnL dX6_digest_71 (by decide) rfl ?_
              refine gI_aload_n hB 2 dX6_digest_72 rfl ?_
              refine gI_get (v := .ref (c 2)) hB 2 hC.1 (C := RX6) (T := TX6) (N := 9) rfl (by decide +kernel) (by decide) (by decide +kernel) (fun _ h9 => h9) rfl dX6_digest_73 ?_
              refine gI_lload_n hB 0 dX6_digest_76 rfl ?_
              refine gI_pureV (n9 := 1) (As := [.long (mDgR u d2 W)]) (rest := []) hB (k_saddTo X.2.1 h c Λ u T W z hC o (mDgR u d2 W)) (gCW.of ggX6_digest_X3_addTo rfl ⟨by decide, by decide, by decide +kernel⟩ ⟨Nat.le_of_ble_eq_true rfl, Nat.le_of_ble_eq_true rfl⟩) (by decide +kernel) (by decide +kernel) (by decide +kernel) (by decide +kernel) hC.2.2.1 (C := RX3) (T := TX3) (N := 4) rfl rfl rfl (Nat.le_of_ble_eq_true rfl) (by first | exact Nat.le_of_ble_eq_true rfl | (dsimp only [gRm]; omega)) (by first | exact Nat.le_of_ble_eq_true rfl | (dsimp only [gRm]; omega)) dX6_digest_77 ?_
              refine gI_lret hB hE dX6_digest_80 ?_
              have ef : mDig u = mDgN u (mDgR u d2 W) z := by
                unfold mDig mKept
                rw [o.1, mCl (by omega), eW, mCl (by omega), ez, mCl (by omega), ed2, ed1, show i1 = 9 by omega, show t = T by omega]
              rw [ef]
              exact ⟨rfl, cW.sg0 hC o _, cFr.rf, rfl, rfl⟩
            · skip
              have c38_2 := mt (nI_leI (by omega) (by omega)).mpr c38_2
              refine gI_aload_n hB 2 dX6_digest_41 rfl ?_
              refine gI_get (v := .ref (cLa Λ 0)) hB 0 hC.1 (C := RX6) (T := TX6) (N := 9) rfl (by decide +kernel) (by decide) (by decide +kernel) (fun _ h9 => h9) rfl dX6_digest_42 ?_
              refine gI_iload_n hB 0 dX6_digest_45 rfl ?_
              refine gI_pureV (n9 := 1) (As := [.int (nI t)]) (rest := []) hB (l_get X.2.1 h Λ 0 (hC.2.2.2.1 0 (by omega)) t (by rw [hC.2.2.2.2.1.1]; omega)) (gCW.of ggX6_digest_Jx4a65c_get_915e3 rfl ⟨by decide, by decide, by decide +kernel⟩ ⟨Nat.le_of_ble_eq_true rfl, Nat.le_of_ble_eq_true rfl⟩) (by decide +kernel) (by decide +kernel) (by decide +kernel) (by decide +kernel) hl0 (C := RJx4a65c) (T := TJx4a65c) (N := 3) rfl rfl rfl (Nat.le_of_ble_eq_true rfl) (by first | exact Nat.le_of_ble_eq_true rfl | (dsimp only [gRm]; omega)) (by first | exact Nat.le_of_ble_eq_true rfl | (dsimp only [gRm]; omega)) dX6_digest_46 ?_
              refine gI_cast hB (hC.2.2.2.2.2.1 t (by omega)) (C := RX4) (T := TX4) (N := 8) rfl (by decide +kernel) dX6_digest_49 ?_
              refine gI_lload_n hB 1 dX6_digest_52 rfl ?_
              refine gI_pureV (n9 := 1) (As := [.long d2]) (rest := []) hB (k_taddTo X.2.1 h c Λ u T W z hC o t (by omega) d2) (gCW.of ggX6_digest_X4_addTo rfl ⟨by decide, by decide, by decide +kernel⟩ ⟨Nat.le_of_ble_eq_true rfl, Nat.le_of_ble_eq_true rfl⟩) (by decide +kernel) (by decide +kernel) (by decide +kernel) (by decide +kernel) (hC.2.2.2.2.2.1 t (by omega)) (C := RX4) (T := TX4) (N := 8) rfl rfl rfl (Nat.le_of_ble_eq_true rfl) (by first | exact Nat.le_of_ble_eq_true rfl | (dsimp only [gRm]; omega)) (by first | exact Nat.le_of_ble_eq_true rfl | (dsimp only [gRm]; omega)) dX6_digest_53 ?_
              refine gI_lstore_n hB ([(1, .long (mDgH u t (dF d2 (fun i => u.2 0 (7 * t + i)) 6) (mMany u t))), (3, .int (nI t)), (0, .ref (c 0))]) hnL dX6_digest_56 (by decide) rfl ?_
              refine gI_iinc hB 1 ([(3, .int (nI (t + 1))), (1, .long (mDgH u t (dF d2 (fun i => u.2 0 (7 * t + i)) 6) (mMany u t))), (0, .ref (c 0))]) hnL dX6_digest_57 rfl (nI_1 (t)) (by decide) rfl ?_
              refine gI_goto hB 30 dX6_digest_60 (by decide) ?_
              refine gI_loc [0, 1, 2] rfl ?_
              exact ih_lb (t + 1) (mDgH u t (dF d2 (fun i => u.2 0 (7 * t + i)) 6) (mMany u t)) (by omega) (by omega) (by rw [mDgT, ← ed2])
        refine gI_loc [0, 1, 2] rfl ?_
        exact lb (T + 1) 0 d1 (by omega) (by omega) rfl
      · skip
        have c9_1 := mt (nI_leI (by omega) (by omega)).mpr c9_1
        refine gI_lload_n hB 1 dX6_digest_12 rfl ?_
        refine gI_aload_n hB 2 dX6_digest_13 rfl ?_
        refine gI_iload_n hB 0 dX6_digest_14 rfl ?_
        refine gI_pureV (n9 := 1) (As := [.int (nI i1)]) (rest := [.long d1]) hB (k_cpart X.2.1 h c Λ u T W z hC o i1 (by omega)) (gCW.of ggX6_digest_X6_part rfl ⟨by decide, by decide, by decide +kernel⟩ ⟨Nat.le_of_ble_eq_true rfl, Nat.le_of_ble_eq_true rfl⟩) (by decide +kernel) (by decide +kernel) (by decide +kernel) (by decide +kernel) hC.1 (C := RX6) (T := TX6) (N := 9) rfl rfl rfl (Nat.le_of_ble_eq_true rfl) (by first | exact Nat.le_of_ble_eq_true rfl | (dsimp only [gRm]; omega)) (by first | exact Nat.le_of_ble_eq_true rfl | (dsimp only [gRm]; omega)) dX6_digest_15 ?_
        refine gI_pureS (n9 := 2) (As := [.long d1, .int (mCnt u i1)]) (rest := []) hB (k_digestWith X.2.1 h d1 (mCnt u i1)) (gCW.of ggX6_digest_X6_digestWith rfl ⟨by decide, by decide, by decide +kernel⟩ ⟨Nat.le_of_ble_eq_true rfl, Nat.le_of_ble_eq_true rfl⟩) (Or.inl (by decide +kernel)) (by decide +kernel) (by decide +kernel) rfl rfl (Nat.le_of_ble_eq_true rfl) (by first | exact Nat.le_of_ble_eq_true rfl | (dsimp only [gRm]; omega)) (by first | exact Nat.le_of_ble_eq_true rfl | (dsimp only [gRm]; omega)) dX6_digest_18 ?_
        refine gI_lstore_n hB ([(1, .long (d1 * 31 + (mCnt u i1).toInt64)), (3, .int (nI i1)), (0, .ref (c 0))]) hnL dX6_digest_21 (by decide) rfl ?_
        refine gI_iinc hB 1 ([(3, .int (nI (i1 + 1))), (1, .long (d1 * 31 + (mCnt u i1).toInt64)), (0, .ref (c 0))]) hnL dX6_digest_22 rfl (nI_1 (i1)) (by decide) rfl ?_
        refine gI_goto hB 6 dX6_digest_25 (by decide) ?_
        refine gI_loc [0, 1, 2] rfl ?_
        exact ih_la (i1 + 1) (d1 * 31 + (mCnt u i1).toInt64) (by omega) (by omega) (by rw [dF, ← ed1]; try rfl)
  refine gI_loc [0, 1, 2] rfl ?_
  exact la 10 0 439 (by omega) (by omega) rfl

set_option maxRecDepth 100000 in
set_option maxHeartbeats 4000000 in
theorem p_patience (G : gG) (h : gH) (c : Nat → Nat) (Λ : CL) (u : MS) (T W z : Nat) (hC : cRep G h c Λ u T W z) (o : mOk u T W z) : gMet yX6_patience wsX6_patience (gRm 4 0 0) G h [.ref (c 0)] (kPoV G h c (cPhi Λ) (sg u 0 (nI 0)) (.double (mPatV u))) := by
  refine gMet_of (maxL := 4) (ret := (some .double)) (by decide) rfl (Nat.le_of_ble_eq_true rfl) ?_
  intro X hG hnL hB hE
  subst hG
  change gW X h 0 0 0 [(0, .ref (c 0))] []
  have hT := o.2.1
  have hW60 := o.2.2.2.1
  have hz200 := o.2.2.2.2.2.1
  have ez := o.2.2.2.2.1
  have eW := o.2.2.1
  have eT := o.1
  obtain ⟨md0, g0, hl0, -⟩ := hC.2.2.2.1 0 (by omega)
  refine gI_aload_n hB 0 dX6_patience_0 rfl ?_
  refine gI_get (v := .ref (cLa Λ 0)) hB 0 hC.1 (C := RX6) (T := TX6) (N := 9) rfl (by decide +kernel) (by decide) (by decide +kernel) (fun _ h9 => h9) rfl dX6_patience_1 ?_
  refine gI_pureV (n9 := 0) (As := []) (rest := []) hB (l_size X.2.1 h Λ 0 (hC.2.2.2.1 0 (by omega))) (gCW.of ggX6_patience_Jx4a65c_size_8abf5 rfl ⟨by decide, by decide, by decide +kernel⟩ ⟨Nat.le_of_ble_eq_true rfl, Nat.le_of_ble_eq_true rfl⟩) (by decide +kernel) (by decide +kernel) (by decide +kernel) (by decide +kernel) hl0 (C := RJx4a65c) (T := TJx4a65c) (N := 3) rfl rfl rfl (Nat.le_of_ble_eq_true rfl) (by first | exact Nat.le_of_ble_eq_true rfl | (dsimp only [gRm]; omega)) (by first | exact Nat.le_of_ble_eq_true rfl | (dsimp only [gRm]; omega)) dX6_patience_4 ?_
  refine gI_topi hB (y := nI T) (congrArg nI hC.2.2.2.2.1.1) ?_
  refine gI_istore_n hB ([(1, .int (nI T)), (0, .ref (c 0))]) hnL dX6_patience_7 (by decide) rfl ?_
  refine gI_iload_n hB 0 dX6_patience_8 rfl ?_
  refine gI_if_ne hB 14 dX6_patience_9 (by decide) (fun c9_1 => ?_) (fun c9_1 => ?_)
  · skip
    refine gI_iconst (v := nI 0) hB dX6_patience_14 (by decide) ?_
    refine gI_istore_n hB ([(2, .int (nI 0)), (1, .int (nI T)), (0, .ref (c 0))]) hnL dX6_patience_15 (by decide) rfl ?_
    refine gI_iconst (v := nI 0) hB dX6_patience_16 (by decide) ?_
    refine gI_istore_n hB ([(3, .int (nI 0)), (2, .int (nI 0)), (1, .int (nI T)), (0, .ref (c 0))]) hnL dX6_patience_17 (by decide) rfl ?_
    have lp : ∀ (r_lp : Nat) (i : Nat) (s : Int32), T + 1 ≤ i + r_lp → i ≤ T → s = mSum u i → gW X h 0 0 18 [(3, .int (nI i)), (2, .int s), (1, .int (nI T)), (0, .ref (c 0))] [] := by
      intro r_lp
      induction r_lp with
      | zero => intro i s hfu hi es; exact absurd hfu (by omega)
      | succ r_lp ih_lp =>
        intro i s hfu hi es
        refine gI_iload_n hB 0 dX6_patience_18 rfl ?_
        refine gI_iload_n hB 2 dX6_patience_19 rfl ?_
        refine gI_icmp_ge hB 46 dX6_patience_20 (by decide) (fun c20_2 => ?_) (fun c20_2 => ?_)
        · skip
          have c20_2 := (nI_leI (by omega) (by omega)).mp c20_2
          have hnan : vf_n64 (FP.ddiv (FP.i2d s) (FP.i2d (nI T))) := by
            have ei : i = T := by omega
            obtain ⟨y9, hy9, ey9⟩ := mSum_le o T (Nat.le_refl _)
            rw [es, ei, ey9]
            exact pat_nan (by omega) (Nat.pos_of_ne_zero (fun z9 => c9_1 (by rw [z9]; rfl))) hT
          refine gI_iload_n hB 1 dX6_patience_46 rfl ?_
          refine gI_i2d hB dX6_patience_47 ?_
          refine gI_iload_n hB 2 dX6_patience_48 rfl ?_
          refine gI_i2d hB dX6_patience_49 ?_
          refine gI_ddiv hB dX6_patience_50 hnan ?_
          refine gI_dret hB hE dX6_patience_51 ?_
          have e9 : i = T := by omega
          have e8 : mPatV u = (FP.ddiv (FP.i2d s) (FP.i2d (nI T))) := by unfold mPatV; rw [if_neg (fun z9 => c9_1 (o.1.symm.trans z9)), o.1, mCl (by omega), es, e9]
          rw [e8]
          exact ⟨rfl, cW.sg0 hC o _, cFr.rf, rfl, rfl⟩
        · skip
          have c20_2 := mt (nI_leI (by omega) (by omega)).mpr c20_2
          refine gI_iload_n hB 1 dX6_patience_23 rfl ?_
          refine gI_aload_n hB 3 dX6_patience_24 rfl ?_
          refine gI_get (v := .ref (cLa Λ 0)) hB 0 hC.1 (C := RX6) (T := TX6) (N := 9) rfl (by decide +kernel) (by decide) (by decide +kernel) (fun _ h9 => h9) rfl dX6_patience_25 ?_
          refine gI_iload_n hB 0 dX6_patience_28 rfl ?_
          refine gI_pureV (n9 := 1) (As := [.int (nI i)]) (rest := [.int s]) hB (l_get X.2.1 h Λ 0 (hC.2.2.2.1 0 (by omega)) i (by rw [hC.2.2.2.2.1.1]; omega)) (gCW.of ggX6_patience_Jx4a65c_get_915e3 rfl ⟨by decide, by decide, by decide +kernel⟩ ⟨Nat.le_of_ble_eq_true rfl, Nat.le_of_ble_eq_true rfl⟩) (by decide +kernel) (by decide +kernel) (by decide +kernel) (by decide +kernel) hl0 (C := RJx4a65c) (T := TJx4a65c) (N := 3) rfl rfl rfl (Nat.le_of_ble_eq_true rfl) (by first | exact Nat.le_of_ble_eq_true rfl | (dsimp only [gRm]; omega)) (by first | exact Nat.le_of_ble_eq_true rfl | (dsimp only [gRm]; omega)) dX6_patience_29 ?_
          refine gI_cast hB (hC.2.2.2.2.2.1 i (by omega)) (C := RX4) (T := TX4) (N := 8) rfl (by decide +kernel) dX6_patience_32 ?_
          refine gI_get (v := .int (u.2 0 (7 * i + 2))) hB 4 (hC.2.2.2.2.2.1 i (by omega)) (C := RX4) (T := TX4) (N := 8) rfl (by decide +kernel) (by decide) (by decide +kernel) (fun _ h9 => h9) rfl dX6_patience_35 ?_
          refine gI_iadd hB dX6_patience_38 ?_
          refine gI_istore_n hB ([(2, .int (s + (u.2 0 (7 * i + 2)))), (3, .int (nI i)), (1, .int (nI T)), (0, .ref (c 0))]) hnL dX6_patience_39 (by decide) rfl ?_
          refine gI_iinc hB 1 ([(3, .int (nI (i + 1))), (2, .int (s + (u.2 0 (7 * i + 2)))), (1, .int (nI T)), (0, .ref (c 0))]) hnL dX6_patience_40 rfl (nI_1 (i)) (by decide) rfl ?_
          refine gI_goto hB 18 dX6_patience_43 (by decide) ?_
          refine gI_loc [0, 1, 2, 3] rfl ?_
          exact ih_lp (i + 1) (s + (u.2 0 (7 * i + 2))) (by omega) (by omega) (by rw [mSum, ← es])
    refine gI_loc [0, 1, 2, 3] rfl ?_
    exact lp (T + 1) 0 (nI 0) (by omega) (by omega) rfl
  · skip
    refine gI_dconst0 hB dX6_patience_12 ?_
    refine gI_dret hB hE dX6_patience_13 ?_
    have e8 : mPatV u = FP.dconst0 := by unfold mPatV; rw [if_pos (o.1.trans c9_1)]
    rw [e8]
    exact ⟨rfl, cW.sg0 hC o _, cFr.rf, rfl, rfl⟩
