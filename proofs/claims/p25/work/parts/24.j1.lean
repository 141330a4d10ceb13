def gCap (c : Nat) : Nat := if c = 0 then 10 else c + max 1 (c / 2)
theorem nI_half {c : Nat} (h : c < 1000) : nI c >>> (nI 1 &&& 31) = nI (c / 2) := by
  have key : ∀ c : Fin 1000, nI c.val >>> (nI 1 &&& 31) = nI (c.val / 2) := by decide +kernel
  exact key ⟨c, h⟩
theorem nI_max {x y : Nat} (hx : x < 2 ^ 30) (hy : y < 2 ^ 30) : (if nI x < nI y then nI y else nI x) = nI (max x y) := by
  by_cases c : nI x < nI y
  · rw [if_pos c, Nat.max_eq_right (Nat.le_of_lt ((nI_ltI (by omega) (by omega)).mp c))]
  · rw [if_neg c, Nat.max_eq_left (by
      have := mt (nI_ltI (a := x) (b := y) (by omega) (by omega)).mpr c
      omega)]
theorem nI_min {x y : Nat} (hx : x < 2 ^ 30) (hy : y < 2 ^ 30) : (if nI y < nI x then nI y else nI x) = nI (min x y) := by
  by_cases c : nI y < nI x
  · rw [if_pos c, Nat.min_eq_right (Nat.le_of_lt ((nI_ltI (by omega) (by omega)).mp c))]
  · rw [if_neg c, Nat.min_eq_left (by
      have := mt (nI_ltI (a := y) (b := x) (by omega) (by omega)).mpr c
      omega)]
theorem nI_n0 {i : Nat} (h : i < 2 ^ 30) : ¬ nI i < 0 := Int32.not_lt.mpr (show (0 : Int32) ≤ nI i from nI_le (a := 0) (b := i) (by omega) (by omega))
theorem nI_small {c : Nat} (h : c < 2 ^ 30) : ¬ (2147483639 : Int32) < nI c := by
  intro z
  have := Int32.lt_iff_toInt_lt.mp z
  rw [nI_toInt (by omega)] at this
  have e : (2147483639 : Int32).toInt = 2147483639 := by decide
  omega

set_option maxRecDepth 100000 in
set_option maxHeartbeats 4000000 in
theorem j_size (G : gG) (h : gH) (l A n cap : Nat) (md : Int32) (g : Nat → Option Nat) (hl : gat h l (.inr (2, [.int md, .ref A, .int (nI n)]))) : gMet yJx4a65c_size_8abf5 wsJx4a65c_size_8abf5 (gRm 1 0 0) G h [.ref l] (gRet h (some (.int (nI n)))) := by
  refine gMet_of (maxL := 1) (ret := (some .int)) (by decide) rfl (Nat.le_of_ble_eq_true rfl) ?_
  intro X hG hnL hB hE
  subst hG
  change gW X h 0 0 0 [(0, .ref l)] []
  refine gI_aload_n hB 0 dJx4a65c_size_8abf5_0 rfl ?_
  refine gI_get (v := .int (nI n)) hB 2 hl (C := RJx4a65c) (T := TJx4a65c) (N := 3) rfl (by decide +kernel) (by decide) (by decide +kernel) (fun _ h9 => h9) rfl dJx4a65c_size_8abf5_1 ?_
  refine gI_iret hB hE dJx4a65c_size_8abf5_4 ?_
  exact gRet.rfl'

set_option maxRecDepth 100000 in
set_option maxHeartbeats 4000000 in
theorem j_isEmpty (G : gG) (h : gH) (l A n cap : Nat) (md : Int32) (g : Nat → Option Nat) (hl : gat h l (.inr (2, [.int md, .ref A, .int (nI n)]))) (hn : n < 1000) : gMet yJx4a65c_isEmpty_aae02 wsJx4a65c_isEmpty_aae02 (gRm 1 0 0) G h [.ref l] (gRet h (some (.int (gbi (n = 0))))) := by
  refine gMet_of (maxL := 1) (ret := (some .boolean)) (by decide) rfl (Nat.le_of_ble_eq_true rfl) ?_
  intro X hG hnL hB hE
  subst hG
  change gW X h 0 0 0 [(0, .ref l)] []
  refine gI_aload_n hB 0 dJx4a65c_isEmpty_aae02_0 rfl ?_
  refine gI_get (v := .int (nI n)) hB 2 hl (C := RJx4a65c) (T := TJx4a65c) (N := 3) rfl (by decide +kernel) (by decide) (by decide +kernel) (fun _ h9 => h9) rfl dJx4a65c_isEmpty_aae02_1 ?_
  refine gI_if_ne hB 11 dJx4a65c_isEmpty_aae02_4 (by decide) (fun c4_1 => ?_) (fun c4_1 => ?_)
  · skip
    refine gI_iconst (v := nI 0) hB dJx4a65c_isEmpty_aae02_11 (by decide) ?_
    refine gI_zret hB hE (by decide) dJx4a65c_isEmpty_aae02_12 ?_
    exact ⟨by rw [gbi_f (fun z9 => c4_1 (by rw [z9]; rfl))]; rfl, rfl, rfl, rfl⟩
  · skip
    refine gI_iconst (v := nI 1) hB dJx4a65c_isEmpty_aae02_7 (by decide) ?_
    refine gI_goto hB 12 dJx4a65c_isEmpty_aae02_8 (by decide) ?_
    refine gI_zret hB hE (by decide) dJx4a65c_isEmpty_aae02_12 ?_
    exact ⟨by rw [gbi_t ((nI_eq (a := n) (b := 0) (by omega) (by omega)).mp c4_1)]; rfl, rfl, rfl, rfl⟩

set_option maxRecDepth 100000 in
set_option maxHeartbeats 4000000 in
theorem j_elementData (G : gG) (h : gH) (l A n cap : Nat) (md : Int32) (g : Nat → Option Nat) (hl : gat h l (.inr (2, [.int md, .ref A, .int (nI n)]))) (hA : gat h A (.inl (gO G, cap, .inr (.inr (.inr (.inr g)))))) (i y : Nat) (hi : i < cap) (hc : cap < 1000) (hy : g i = some y) : gMet yJx4a65c_elementData_915e3 wsJx4a65c_elementData_915e3 (gRm 1 0 0) G h [.ref l, .int (nI i)] (gRet h (some (.ref y))) := by
  refine gMet_of (maxL := 2) (ret := (some (.object "java/lang/Object"))) (by decide) rfl (Nat.le_of_ble_eq_true rfl) ?_
  intro X hG hnL hB hE
  subst hG
  change gW X h 0 0 0 [(0, .ref l), (1, .int (nI i))] []
  refine gI_aload_n hB 0 dJx4a65c_elementData_915e3_0 rfl ?_
  refine gI_get (v := .ref A) hB 1 hl (C := RJx4a65c) (T := TJx4a65c) (N := 3) rfl (by decide +kernel) (by decide) (by decide +kernel) (fun _ h9 => h9) rfl dJx4a65c_elementData_915e3_1 ?_
  refine gI_iload_n hB 1 dJx4a65c_elementData_915e3_4 rfl ?_
  refine gC_aald hB i hA rfl hi (by omega) hy dJx4a65c_elementData_915e3_5 ?_
  refine gI_aret hB hE (Or.inl ⟨_, rfl⟩) (Or.inr ⟨_, rfl⟩) dJx4a65c_elementData_915e3_6 ?_
  exact gRet.rfl'

set_option maxRecDepth 100000 in
set_option maxHeartbeats 4000000 in
theorem j_check3 (G : gG) (h : gH) (i n : Nat) (hi : i < n) (hn : n < 1000) : gMet yJ3_checkIndex_8e157 wsJ3_checkIndex_8e157 (gRm 1 0 0) G h [.int (nI i), .int (nI n), .null] (gRet h (some (.int (nI i)))) := by
  refine gMet_of (maxL := 3) (ret := (some .int)) (by decide) rfl (Nat.le_of_ble_eq_true rfl) ?_
  intro X hG hnL hB hE
  subst hG
  change gW X h 0 0 0 [(0, .int (nI i)), (1, .int (nI n)), (2, .null)] []
  refine gI_iload_n hB 0 dJ3_checkIndex_8e157_0 rfl ?_
  refine gI_if_lt hB 9 dJ3_checkIndex_8e157_1 (by decide) (fun z => absurd z (nI_n0 (by omega))) (fun _ => ?_)
  refine gI_iload_n hB 0 dJ3_checkIndex_8e157_4 rfl ?_
  refine gI_iload_n hB 1 dJ3_checkIndex_8e157_5 rfl ?_
  refine gI_icmp_lt hB 16 dJ3_checkIndex_8e157_6 (by decide) (fun _ => ?_) (fun z => absurd ((nI_ltI (by omega) (by omega)).mpr hi) z)
  refine gI_iload_n hB 0 dJ3_checkIndex_8e157_16 rfl ?_
  refine gI_iret hB hE dJ3_checkIndex_8e157_17 ?_
  exact gRet.rfl'

set_option maxRecDepth 100000 in
set_option maxHeartbeats 4000000 in
theorem j_check15 (G : gG) (h : gH) (i n : Nat) (hi : i < n) (hn : n < 1000) : gMet yJ15_checkIndex_7cf53 wsJ15_checkIndex_7cf53 (gRm 2 0 0) G h [.int (nI i), .int (nI n)] (gRet h (some (.int (nI i)))) := by
  refine gMet_of (maxL := 2) (ret := (some .int)) (by decide) rfl (Nat.le_of_ble_eq_true rfl) ?_
  intro X hG hnL hB hE
  subst hG
  change gW X h 0 0 0 [(0, .int (nI i)), (1, .int (nI n))] []
  refine gI_iload_n hB 0 dJ15_checkIndex_7cf53_0 rfl ?_
  refine gI_iload_n hB 1 dJ15_checkIndex_7cf53_1 rfl ?_
  refine gI_null hB dJ15_checkIndex_7cf53_2 ?_
  refine gI_pureS (n9 := 3) (As := [.int (nI i), .int (nI n), .null]) (rest := []) hB (j_check3 X.2.1 h i n hi (by omega)) (gCW.of ggJ15_checkIndex_7cf53_J3_checkIndex_8e157 rfl ⟨by decide, by decide, by decide +kernel⟩ ⟨Nat.le_of_ble_eq_true rfl, Nat.le_of_ble_eq_true rfl⟩) (Or.inl (by decide +kernel)) (by decide +kernel) (by decide +kernel) rfl rfl (Nat.le_of_ble_eq_true rfl) (by first | exact Nat.le_of_ble_eq_true rfl | (dsimp only [gRm]; omega)) (by first | exact Nat.le_of_ble_eq_true rfl | (dsimp only [gRm]; omega)) dJ15_checkIndex_7cf53_3 ?_
  refine gI_iret hB hE dJ15_checkIndex_7cf53_6 ?_
  exact gRet.rfl'

set_option maxRecDepth 100000 in
set_option maxHeartbeats 4000000 in
theorem j_get (G : gG) (h : gH) (l A n cap : Nat) (md : Int32) (g : Nat → Option Nat) (hl : gat h l (.inr (2, [.int md, .ref A, .int (nI n)]))) (hA : gat h A (.inl (gO G, cap, .inr (.inr (.inr (.inr g)))))) (i y : Nat) (hi : i < n) (hn : n ≤ cap) (hc : cap < 1000) (hy : g i = some y) : gMet yJx4a65c_get_915e3 wsJx4a65c_get_915e3 (gRm 3 0 0) G h [.ref l, .int (nI i)] (gRet h (some (.ref y))) := by
  refine gMet_of (maxL := 2) (ret := (some (.object "java/lang/Object"))) (by decide) rfl (Nat.le_of_ble_eq_true rfl) ?_
  intro X hG hnL hB hE
  subst hG
  change gW X h 0 0 0 [(0, .ref l), (1, .int (nI i))] []
  refine gI_iload_n hB 1 dJx4a65c_get_915e3_0 rfl ?_
  refine gI_aload_n hB 0 dJx4a65c_get_915e3_1 rfl ?_
  refine gI_get (v := .int (nI n)) hB 2 hl (C := RJx4a65c) (T := TJx4a65c) (N := 3) rfl (by decide +kernel) (by decide) (by decide +kernel) (fun _ h9 => h9) rfl dJx4a65c_get_915e3_2 ?_
  refine gI_pureS (n9 := 2) (As := [.int (nI i), .int (nI n)]) (rest := []) hB (j_check15 X.2.1 h i n hi (by omega)) (gCW.of ggJx4a65c_get_915e3_J15_checkIndex_7cf53 rfl ⟨by decide, by decide, by decide +kernel⟩ ⟨Nat.le_of_ble_eq_true rfl, Nat.le_of_ble_eq_true rfl⟩) (Or.inl (by decide +kernel)) (by decide +kernel) (by decide +kernel) rfl rfl (Nat.le_of_ble_eq_true rfl) (by first | exact Nat.le_of_ble_eq_true rfl | (dsimp only [gRm]; omega)) (by first | exact Nat.le_of_ble_eq_true rfl | (dsimp only [gRm]; omega)) dJx4a65c_get_915e3_5 ?_
  refine gI_pop hB dJx4a65c_get_915e3_8 rfl ?_
  refine gI_aload_n hB 0 dJx4a65c_get_915e3_9 rfl ?_
  refine gI_iload_n hB 1 dJx4a65c_get_915e3_10 rfl ?_
  refine gI_pureV (n9 := 1) (As := [.int (nI i)]) (rest := []) hB (j_elementData X.2.1 h l A n cap md g hl hA i y (by omega) (by omega) hy) (gCW.of ggJx4a65c_get_915e3_Jx4a65c_elementData_915e3 rfl ⟨by decide, by decide, by decide +kernel⟩ ⟨Nat.le_of_ble_eq_true rfl, Nat.le_of_ble_eq_true rfl⟩) (by decide +kernel) (by decide +kernel) (by decide +kernel) (by decide +kernel) hl (C := RJx4a65c) (T := TJx4a65c) (N := 3) rfl rfl rfl (Nat.le_of_ble_eq_true rfl) (by first | exact Nat.le_of_ble_eq_true rfl | (dsimp only [gRm]; omega)) (by first | exact Nat.le_of_ble_eq_true rfl | (dsimp only [gRm]; omega)) dJx4a65c_get_915e3_11 ?_
  refine gI_aret hB hE (Or.inl ⟨_, rfl⟩) (Or.inr ⟨_, rfl⟩) dJx4a65c_get_915e3_14 ?_
  exact gRet.rfl'

set_option maxRecDepth 100000 in
set_option maxHeartbeats 4000000 in
theorem j_newLength (G : gG) (h : gH) (c x : Nat) (hc : c < 1000) (hx : x < 1000) : gMet yJ8_newLength_cabcc wsJ8_newLength_cabcc (gRm 2 0 0) G h [.int (nI c), .int (nI 1), .int (nI x)] (gRet h (some (.int (nI (c + max 1 x))))) := by
  refine gMet_of (maxL := 4) (ret := (some .int)) (by decide) rfl (Nat.le_of_ble_eq_true rfl) ?_
  intro X hG hnL hB hE
  subst hG
  change gW X h 0 0 0 [(0, .int (nI c)), (1, .int (nI 1)), (2, .int (nI x))] []
  refine gI_iload_n hB 0 dJ8_newLength_cabcc_0 rfl ?_
  refine gI_iload_n hB 1 dJ8_newLength_cabcc_1 rfl ?_
  refine gI_iload_n hB 2 dJ8_newLength_cabcc_2 rfl ?_
  refine gI_mmax hB (by decide +kernel) (by decide +kernel) (by decide +kernel) (by decide +kernel) (Nat.le_of_ble_eq_true rfl) (Nat.le_of_ble_eq_true rfl) (by first | exact Nat.le_of_ble_eq_true rfl | (dsimp only [gRm]; omega)) (by first | exact Nat.le_of_ble_eq_true rfl | (dsimp only [gRm]; omega)) dJ8_newLength_cabcc_3 ?_
  refine gI_topi hB (y := nI (max 1 x)) (nI_max (by omega) (by omega)) ?_
  refine gI_iaddN hB dJ8_newLength_cabcc_6 ?_
  refine gI_istore_n hB ([(3, .int (nI (c + (max 1 x)))), (0, .int (nI c)), (1, .int (nI 1)), (2, .int (nI x))]) hnL dJ8_newLength_cabcc_7 (by decide) rfl ?_
  refine gI_iconst (v := nI 0) hB dJ8_newLength_cabcc_8 (by decide) ?_
  refine gI_iload_n hB 0 dJ8_newLength_cabcc_9 rfl ?_
  have hm9 : max 1 x < 1000 := by omega
  refine gI_icmp_ge hB 21 dJ8_newLength_cabcc_10 (by decide) (fun z => absurd z (Int32.not_le.mpr ((nI_ltI (by omega) (by omega)).mpr (show 0 < c + max 1 x by omega)))) (fun _ => ?_)
  refine gI_iload_n hB 0 dJ8_newLength_cabcc_13 rfl ?_
  refine gI_ldc (v := 2147483639) hB (by decide +kernel) dJ8_newLength_cabcc_14 ?_
  refine gI_icmp_gt hB 21 dJ8_newLength_cabcc_16 (by decide) (fun z => absurd z (nI_small (by omega))) (fun _ => ?_)
  refine gI_iload_n hB 0 dJ8_newLength_cabcc_19 rfl ?_
  refine gI_iret hB hE dJ8_newLength_cabcc_20 ?_
  exact gRet.rfl'

