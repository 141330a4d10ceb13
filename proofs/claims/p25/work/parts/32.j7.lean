set_option maxRecDepth 100000 in
set_option maxHeartbeats 4000000 in
theorem k_isOutside (G : gG) (h : gH) (x lo hi : Int32) : gMet yX6_isOutside wsX6_isOutside (gRm 1 0 0) G h [.int x, .int lo, .int hi] (gRet h (some (.int (gbi (¬ mIn x lo hi))))) := by
  refine gMet_of (maxL := 3) (ret := (some .boolean)) (by decide) rfl (Nat.le_of_ble_eq_true rfl) ?_
  intro X hG hnL hB hE
  subst hG
  change gW X h 0 0 0 [(0, .int x), (1, .int lo), (2, .int hi)] []
  refine gI_iload_n hB 0 dX6_isOutside_0 rfl ?_
  refine gI_iload_n hB 1 dX6_isOutside_1 rfl ?_
  refine gI_icmp_lt hB 10 dX6_isOutside_2 (by decide) (fun c2_1 => ?_) (fun c2_1 => ?_)
  · skip
    refine gI_iconst (v := nI 1) hB dX6_isOutside_10 (by decide) ?_
    refine gI_goto hB 15 dX6_isOutside_11 (by decide) ?_
    refine gI_zret hB hE (by decide) dX6_isOutside_15 ?_
    exact ⟨by rw [gbi_t (p := ¬ mIn x lo hi) (fun z9 => absurd c2_1 (Int32.not_lt.mpr z9.1))]; rfl, rfl, rfl, rfl⟩
  · skip
    refine gI_iload_n hB 0 dX6_isOutside_5 rfl ?_
    refine gI_iload_n hB 2 dX6_isOutside_6 rfl ?_
    refine gI_icmp_le hB 14 dX6_isOutside_7 (by decide) (fun c7_2 => ?_) (fun c7_2 => ?_)
    · skip
      refine gI_iconst (v := nI 0) hB dX6_isOutside_14 (by decide) ?_
      refine gI_zret hB hE (by decide) dX6_isOutside_15 ?_
      exact ⟨by rw [gbi_f (p := ¬ mIn x lo hi) (fun z9 => z9 ⟨Int32.not_lt.mp c2_1, c7_2⟩)]; rfl, rfl, rfl, rfl⟩
    · skip
      refine gI_iconst (v := nI 1) hB dX6_isOutside_10 (by decide) ?_
      refine gI_goto hB 15 dX6_isOutside_11 (by decide) ?_
      refine gI_zret hB hE (by decide) dX6_isOutside_15 ?_
      exact ⟨by rw [gbi_t (p := ¬ mIn x lo hi) (fun z9 => c7_2 z9.2)]; rfl, rfl, rfl, rfl⟩

set_option maxRecDepth 100000 in
set_option maxHeartbeats 4000000 in
theorem k_contains (G : gG) (h : gH) (x b : Int32) : gMet yX6_contains wsX6_contains (gRm 1 0 0) G h [.int x, .int b] (gRet h (some (.int (gbi (x >>> (b &&& 31) &&& nI 1 = nI 1))))) := by
  refine gMet_of (maxL := 2) (ret := (some .boolean)) (by decide) rfl (Nat.le_of_ble_eq_true rfl) ?_
  intro X hG hnL hB hE
  subst hG
  change gW X h 0 0 0 [(0, .int x), (1, .int b)] []
  refine gI_iload_n hB 0 dX6_contains_0 rfl ?_
  refine gI_iload_n hB 1 dX6_contains_1 rfl ?_
  refine gI_ishr hB dX6_contains_2 ?_
  refine gI_iconst (v := nI 1) hB dX6_contains_3 (by decide) ?_
  refine gI_iand hB dX6_contains_4 ?_
  refine gI_iconst (v := nI 1) hB dX6_contains_5 (by decide) ?_
  refine gI_icmp_ne hB 13 dX6_contains_6 (by decide) (fun c6_1 => ?_) (fun c6_1 => ?_)
  · skip
    refine gI_iconst (v := nI 0) hB dX6_contains_13 (by decide) ?_
    refine gI_zret hB hE (by decide) dX6_contains_14 ?_
    exact ⟨by rw [gbi_f (c6_1)]; rfl, rfl, rfl, rfl⟩
  · skip
    refine gI_iconst (v := nI 1) hB dX6_contains_9 (by decide) ?_
    refine gI_goto hB 14 dX6_contains_10 (by decide) ?_
    refine gI_zret hB hE (by decide) dX6_contains_14 ?_
    exact ⟨by rw [gbi_t (c6_1)]; rfl, rfl, rfl, rfl⟩

set_option maxRecDepth 100000 in
set_option maxHeartbeats 4000000 in
theorem k_tenantOnWay (G : gG) (h : gH) (wy : Int64) (i : Nat) : gMet yX6_tenantOnWay wsX6_tenantOnWay (gRm 1 0 0) G h [.long wy, .int (nI i)] (gRet h (some (.int ((wy >>> ((nI (i * 4)).toInt64 &&& 63)).toInt32 &&& nI 15)))) := by
  refine gMet_of (maxL := 3) (ret := (some .int)) (by decide) rfl (Nat.le_of_ble_eq_true rfl) ?_
  intro X hG hnL hB hE
  subst hG
  change gW X h 0 0 0 [(0, .long wy), (2, .int (nI i))] []
  refine gI_lload_n hB 0 dX6_tenantOnWay_0 rfl ?_
  refine gI_iload_n hB 1 dX6_tenantOnWay_1 rfl ?_
  refine gI_iconst (v := nI 4) hB dX6_tenantOnWay_2 (by decide) ?_
  refine gI_imulN hB dX6_tenantOnWay_3 ?_
  refine gI_lshr hB dX6_tenantOnWay_4 ?_
  refine gI_l2i hB dX6_tenantOnWay_5 ?_
  refine gI_bipush (v := nI 15) hB dX6_tenantOnWay_6 (by decide) ?_
  refine gI_iand hB dX6_tenantOnWay_8 ?_
  refine gI_iret hB hE dX6_tenantOnWay_9 ?_
  exact gRet.rfl'

set_option maxRecDepth 100000 in
set_option maxHeartbeats 4000000 in
theorem k_holdsAt (G : gG) (h : gH) (y : Nat) (f : Nat → Int32) (hy : gat h y (.inr (3, [.int (f 0), .int (f 1), .int (f 2), .int (f 3), .int (f 4), .int (f 5), .int (f 6), .int (f 7), .int (f 8)]))) (x : Int32) : gMet yX0_holdsAt wsX0_holdsAt (gRm 1 0 0) G h [.ref y, .int x] (gRet h (some (.int (gbi (mHr (f 0) (f 1) x))))) := by
  refine gMet_of (maxL := 2) (ret := (some .boolean)) (by decide) rfl (Nat.le_of_ble_eq_true rfl) ?_
  intro X hG hnL hB hE
  subst hG
  change gW X h 0 0 0 [(0, .ref y), (1, .int x)] []
  refine gI_aload_n hB 0 dX0_holdsAt_0 rfl ?_
  refine gI_get (v := .int (f 0)) hB 0 hy (C := RX0) (T := TX0) (N := 9) rfl (by decide +kernel) (by decide) (by decide +kernel) (fun _ h9 => h9) rfl dX0_holdsAt_1 ?_
  refine gI_aload_n hB 0 dX0_holdsAt_4 rfl ?_
  refine gI_get (v := .int (f 1)) hB 1 hy (C := RX0) (T := TX0) (N := 9) rfl (by decide +kernel) (by decide) (by decide +kernel) (fun _ h9 => h9) rfl dX0_holdsAt_5 ?_
  refine gI_icmp_gt hB 33 dX0_holdsAt_8 (by decide) (fun c8_1 => ?_) (fun c8_1 => ?_)
  · skip
    refine gI_aload_n hB 0 dX0_holdsAt_33 rfl ?_
    refine gI_get (v := .int (f 0)) hB 0 hy (C := RX0) (T := TX0) (N := 9) rfl (by decide +kernel) (by decide) (by decide +kernel) (fun _ h9 => h9) rfl dX0_holdsAt_34 ?_
    refine gI_iload_n hB 1 dX0_holdsAt_37 rfl ?_
    refine gI_icmp_le hB 49 dX0_holdsAt_38 (by decide) (fun c38_2 => ?_) (fun c38_2 => ?_)
    · skip
      refine gI_iconst (v := nI 1) hB dX0_holdsAt_49 (by decide) ?_
      refine gI_goto hB 54 dX0_holdsAt_50 (by decide) ?_
      refine gI_zret hB hE (by decide) dX0_holdsAt_54 ?_
      exact ⟨by rw [gbi_t (Or.inr ⟨Int32.not_le.mpr c8_1, Or.inl c38_2⟩)]; rfl, rfl, rfl, rfl⟩
    · skip
      refine gI_iload_n hB 1 dX0_holdsAt_41 rfl ?_
      refine gI_aload_n hB 0 dX0_holdsAt_42 rfl ?_
      refine gI_get (v := .int (f 1)) hB 1 hy (C := RX0) (T := TX0) (N := 9) rfl (by decide +kernel) (by decide) (by decide +kernel) (fun _ h9 => h9) rfl dX0_holdsAt_43 ?_
      refine gI_icmp_gt hB 53 dX0_holdsAt_46 (by decide) (fun c46_3 => ?_) (fun c46_3 => ?_)
      · skip
        refine gI_iconst (v := nI 0) hB dX0_holdsAt_53 (by decide) ?_
        refine gI_zret hB hE (by decide) dX0_holdsAt_54 ?_
        exact ⟨by rw [gbi_f (fun z9 => z9.elim (fun y9 => absurd c8_1 (Int32.not_lt.mpr y9.1)) (fun y9 => y9.2.elim (fun x9 => c38_2 x9) (fun x9 => absurd c46_3 (Int32.not_lt.mpr x9))))]; rfl, rfl, rfl, rfl⟩
      · skip
        refine gI_iconst (v := nI 1) hB dX0_holdsAt_49 (by decide) ?_
        refine gI_goto hB 54 dX0_holdsAt_50 (by decide) ?_
        refine gI_zret hB hE (by decide) dX0_holdsAt_54 ?_
        exact ⟨by rw [gbi_t (Or.inr ⟨Int32.not_le.mpr c8_1, Or.inr (Int32.not_lt.mp c46_3)⟩)]; rfl, rfl, rfl, rfl⟩
  · skip
    refine gI_aload_n hB 0 dX0_holdsAt_11 rfl ?_
    refine gI_get (v := .int (f 0)) hB 0 hy (C := RX0) (T := TX0) (N := 9) rfl (by decide +kernel) (by decide) (by decide +kernel) (fun _ h9 => h9) rfl dX0_holdsAt_12 ?_
    refine gI_iload_n hB 1 dX0_holdsAt_15 rfl ?_
    refine gI_icmp_gt hB 31 dX0_holdsAt_16 (by decide) (fun c16_4 => ?_) (fun c16_4 => ?_)
    · skip
      refine gI_iconst (v := nI 0) hB dX0_holdsAt_31 (by decide) ?_
      refine gI_zret hB hE (by decide) dX0_holdsAt_32 ?_
      exact ⟨by rw [gbi_f (fun z9 => z9.elim (fun y9 => absurd c16_4 (Int32.not_lt.mpr y9.2.1)) (fun y9 => y9.1 (Int32.not_lt.mp c8_1)))]; rfl, rfl, rfl, rfl⟩
    · skip
      refine gI_iload_n hB 1 dX0_holdsAt_19 rfl ?_
      refine gI_aload_n hB 0 dX0_holdsAt_20 rfl ?_
      refine gI_get (v := .int (f 1)) hB 1 hy (C := RX0) (T := TX0) (N := 9) rfl (by decide +kernel) (by decide) (by decide +kernel) (fun _ h9 => h9) rfl dX0_holdsAt_21 ?_
      refine gI_icmp_gt hB 31 dX0_holdsAt_24 (by decide) (fun c24_5 => ?_) (fun c24_5 => ?_)
      · skip
        refine gI_iconst (v := nI 0) hB dX0_holdsAt_31 (by decide) ?_
        refine gI_zret hB hE (by decide) dX0_holdsAt_32 ?_
        exact ⟨by rw [gbi_f (fun z9 => z9.elim (fun y9 => absurd c24_5 (Int32.not_lt.mpr y9.2.2)) (fun y9 => y9.1 (Int32.not_lt.mp c8_1)))]; rfl, rfl, rfl, rfl⟩
      · skip
        refine gI_iconst (v := nI 1) hB dX0_holdsAt_27 (by decide) ?_
        refine gI_goto hB 32 dX0_holdsAt_28 (by decide) ?_
        refine gI_zret hB hE (by decide) dX0_holdsAt_32 ?_
        exact ⟨by rw [gbi_t (Or.inl ⟨Int32.not_lt.mp c8_1, Int32.not_lt.mp c16_4, Int32.not_lt.mp c24_5⟩)]; rfl, rfl, rfl, rfl⟩

set_option maxRecDepth 100000 in
set_option maxHeartbeats 4000000 in
theorem k_isFor (G : gG) (h : gH) (y : Nat) (f : Nat → Int32) (hy : gat h y (.inr (3, [.int (f 0), .int (f 1), .int (f 2), .int (f 3), .int (f 4), .int (f 5), .int (f 6), .int (f 7), .int (f 8)]))) (x : Int32) : gMet yX0_isFor wsX0_isFor (gRm 1 0 0) G h [.ref y, .int x] (gRet h (some (.int (gbi (f 2 = nI 2 ∨ f 2 = x))))) := by
  refine gMet_of (maxL := 2) (ret := (some .boolean)) (by decide) rfl (Nat.le_of_ble_eq_true rfl) ?_
  intro X hG hnL hB hE
  subst hG
  change gW X h 0 0 0 [(0, .ref y), (1, .int x)] []
  refine gI_aload_n hB 0 dX0_isFor_0 rfl ?_
  refine gI_get (v := .int (f 2)) hB 2 hy (C := RX0) (T := TX0) (N := 9) rfl (by decide +kernel) (by decide) (by decide +kernel) (fun _ h9 => h9) rfl dX0_isFor_1 ?_
  refine gI_iconst (v := nI 2) hB dX0_isFor_4 (by decide) ?_
  refine gI_icmp_eq hB 16 dX0_isFor_5 (by decide) (fun c5_1 => ?_) (fun c5_1 => ?_)
  · skip
    refine gI_iconst (v := nI 1) hB dX0_isFor_16 (by decide) ?_
    refine gI_goto hB 21 dX0_isFor_17 (by decide) ?_
    refine gI_zret hB hE (by decide) dX0_isFor_21 ?_
    exact ⟨by rw [gbi_t (Or.inl c5_1)]; rfl, rfl, rfl, rfl⟩
  · skip
    refine gI_aload_n hB 0 dX0_isFor_8 rfl ?_
    refine gI_get (v := .int (f 2)) hB 2 hy (C := RX0) (T := TX0) (N := 9) rfl (by decide +kernel) (by decide) (by decide +kernel) (fun _ h9 => h9) rfl dX0_isFor_9 ?_
    refine gI_iload_n hB 1 dX0_isFor_12 rfl ?_
    refine gI_icmp_ne hB 20 dX0_isFor_13 (by decide) (fun c13_2 => ?_) (fun c13_2 => ?_)
    · skip
      refine gI_iconst (v := nI 0) hB dX0_isFor_20 (by decide) ?_
      refine gI_zret hB hE (by decide) dX0_isFor_21 ?_
      exact ⟨by rw [gbi_f (fun z9 => z9.elim (fun y9 => c5_1 y9) (fun y9 => c13_2 y9))]; rfl, rfl, rfl, rfl⟩
    · skip
      refine gI_iconst (v := nI 1) hB dX0_isFor_16 (by decide) ?_
      refine gI_goto hB 21 dX0_isFor_17 (by decide) ?_
      refine gI_zret hB hE (by decide) dX0_isFor_21 ?_
      exact ⟨by rw [gbi_t (Or.inr c13_2)]; rfl, rfl, rfl, rfl⟩

set_option maxRecDepth 100000 in
set_option maxHeartbeats 4000000 in
theorem k_hpart (G : gG) (h : gH) (y : Nat) (f : Nat → Int32) (hy : gat h y (.inr (3, [.int (f 0), .int (f 1), .int (f 2), .int (f 3), .int (f 4), .int (f 5), .int (f 6), .int (f 7), .int (f 8)]))) (i : Nat) (hi : i ≤ 8) : gMet yX0_part wsX0_part (gRm 1 0 0) G h [.ref y, .int (nI i)] (gRet h (some (.int (f i)))) := by
  refine gMet_of (maxL := 2) (ret := (some .int)) (by decide) rfl (Nat.le_of_ble_eq_true rfl) ?_
  intro X hG hnL hB hE
  subst hG
  change gW X h 0 0 0 [(0, .ref y), (1, .int (nI i))] []
  refine gI_iload_n hB 1 dX0_part_0 rfl ?_
  rcases (show i = 0 ∨ i = 1 ∨ i = 2 ∨ i = 3 ∨ i = 4 ∨ i = 5 ∨ i = 6 ∨ i = 7 ∨ i = 8 by omega) with rfl | rfl | rfl | rfl | rfl | rfl | rfl | rfl | rfl
  · skip
    refine gI_tableIn hB 48 dX0_part_1 (by decide) (by decide) rfl (by decide) ?_
    refine gI_aload_n hB 0 dX0_part_48 rfl ?_
    refine gI_get (v := .int (f 0)) hB 0 hy (C := RX0) (T := TX0) (N := 9) rfl (by decide +kernel) (by decide) (by decide +kernel) (fun _ h9 => h9) rfl dX0_part_49 ?_
    refine gI_iret hB hE dX0_part_52 ?_
    exact gRet.rfl'
  · skip
    refine gI_tableIn hB 53 dX0_part_1 (by decide) (by decide) rfl (by decide) ?_
    refine gI_aload_n hB 0 dX0_part_53 rfl ?_
    refine gI_get (v := .int (f 1)) hB 1 hy (C := RX0) (T := TX0) (N := 9) rfl (by decide +kernel) (by decide) (by decide +kernel) (fun _ h9 => h9) rfl dX0_part_54 ?_
    refine gI_iret hB hE dX0_part_57 ?_
    exact gRet.rfl'
  · skip
    refine gI_tableIn hB 58 dX0_part_1 (by decide) (by decide) rfl (by decide) ?_
    refine gI_aload_n hB 0 dX0_part_58 rfl ?_
    refine gI_get (v := .int (f 2)) hB 2 hy (C := RX0) (T := TX0) (N := 9) rfl (by decide +kernel) (by decide) (by decide +kernel) (fun _ h9 => h9) rfl dX0_part_59 ?_
    refine gI_iret hB hE dX0_part_62 ?_
    exact gRet.rfl'
  · skip
    refine gI_tableIn hB 63 dX0_part_1 (by decide) (by decide) rfl (by decide) ?_
    refine gI_aload_n hB 0 dX0_part_63 rfl ?_
    refine gI_get (v := .int (f 3)) hB 3 hy (C := RX0) (T := TX0) (N := 9) rfl (by decide +kernel) (by decide) (by decide +kernel) (fun _ h9 => h9) rfl dX0_part_64 ?_
    refine gI_iret hB hE dX0_part_67 ?_
    exact gRet.rfl'
  · skip
    refine gI_tableIn hB 68 dX0_part_1 (by decide) (by decide) rfl (by decide) ?_
    refine gI_aload_n hB 0 dX0_part_68 rfl ?_
    refine gI_get (v := .int (f 4)) hB 4 hy (C := RX0) (T := TX0) (N := 9) rfl (by decide +kernel) (by decide) (by decide +kernel) (fun _ h9 => h9) rfl dX0_part_69 ?_
    refine gI_iret hB hE dX0_part_72 ?_
    exact gRet.rfl'
  · skip
    refine gI_tableIn hB 73 dX0_part_1 (by decide) (by decide) rfl (by decide) ?_
    refine gI_aload_n hB 0 dX0_part_73 rfl ?_
    refine gI_get (v := .int (f 5)) hB 5 hy (C := RX0) (T := TX0) (N := 9) rfl (by decide +kernel) (by decide) (by decide +kernel) (fun _ h9 => h9) rfl dX0_part_74 ?_
    refine gI_iret hB hE dX0_part_77 ?_
    exact gRet.rfl'
  · skip
    refine gI_tableIn hB 78 dX0_part_1 (by decide) (by decide) rfl (by decide) ?_
    refine gI_aload_n hB 0 dX0_part_78 rfl ?_
    refine gI_get (v := .int (f 6)) hB 6 hy (C := RX0) (T := TX0) (N := 9) rfl (by decide +kernel) (by decide) (by decide +kernel) (fun _ h9 => h9) rfl dX0_part_79 ?_
    refine gI_iret hB hE dX0_part_82 ?_
    exact gRet.rfl'
  · skip
    refine gI_tableIn hB 83 dX0_part_1 (by decide) (by decide) rfl (by decide) ?_
    refine gI_aload_n hB 0 dX0_part_83 rfl ?_
    refine gI_get (v := .int (f 7)) hB 7 hy (C := RX0) (T := TX0) (N := 9) rfl (by decide +kernel) (by decide) (by decide +kernel) (fun _ h9 => h9) rfl dX0_part_84 ?_
    refine gI_iret hB hE dX0_part_87 ?_
    exact gRet.rfl'
  · skip
    refine gI_tableOut hB 88 dX0_part_1 (by decide) (by decide) ?_
    refine gI_aload_n hB 0 dX0_part_88 rfl ?_
    refine gI_get (v := .int (f 8)) hB 8 hy (C := RX0) (T := TX0) (N := 9) rfl (by decide +kernel) (by decide) (by decide +kernel) (fun _ h9 => h9) rfl dX0_part_89 ?_
    refine gI_iret hB hE dX0_part_92 ?_
    exact gRet.rfl'

set_option maxRecDepth 100000 in
set_option maxHeartbeats 4000000 in
theorem k_npart (G : gG) (h : gH) (y : Nat) (f : Nat → Int32) (wy : Int64) (hy : gat h y (.inr (4, [.int (f 0), .int (f 1), .int (f 2), .int (f 3), .int (f 4), .int (f 5), .long wy]))) (i : Nat) (hi : i ≤ 5) : gMet yX1_part wsX1_part (gRm 1 0 0) G h [.ref y, .int (nI i)] (gRet h (some (.int (f i)))) := by
  refine gMet_of (maxL := 2) (ret := (some .int)) (by decide) rfl (Nat.le_of_ble_eq_true rfl) ?_
  intro X hG hnL hB hE
  subst hG
  change gW X h 0 0 0 [(0, .ref y), (1, .int (nI i))] []
  refine gI_iload_n hB 1 dX1_part_0 rfl ?_
  rcases (show i = 0 ∨ i = 1 ∨ i = 2 ∨ i = 3 ∨ i = 4 ∨ i = 5 by omega) with rfl | rfl | rfl | rfl | rfl | rfl
  · skip
    refine gI_tableIn hB 36 dX1_part_1 (by decide) (by decide) rfl (by decide) ?_
    refine gI_aload_n hB 0 dX1_part_36 rfl ?_
    refine gI_get (v := .int (f 0)) hB 0 hy (C := RX1) (T := TX1) (N := 7) rfl (by decide +kernel) (by decide) (by decide +kernel) (fun _ h9 => h9) rfl dX1_part_37 ?_
    refine gI_iret hB hE dX1_part_40 ?_
    exact gRet.rfl'
  · skip
    refine gI_tableIn hB 41 dX1_part_1 (by decide) (by decide) rfl (by decide) ?_
    refine gI_aload_n hB 0 dX1_part_41 rfl ?_
    refine gI_get (v := .int (f 1)) hB 1 hy (C := RX1) (T := TX1) (N := 7) rfl (by decide +kernel) (by decide) (by decide +kernel) (fun _ h9 => h9) rfl dX1_part_42 ?_
    refine gI_iret hB hE dX1_part_45 ?_
    exact gRet.rfl'
  · skip
    refine gI_tableIn hB 46 dX1_part_1 (by decide) (by decide) rfl (by decide) ?_
    refine gI_aload_n hB 0 dX1_part_46 rfl ?_
    refine gI_get (v := .int (f 2)) hB 2 hy (C := RX1) (T := TX1) (N := 7) rfl (by decide +kernel) (by decide) (by decide +kernel) (fun _ h9 => h9) rfl dX1_part_47 ?_
    refine gI_iret hB hE dX1_part_50 ?_
    exact gRet.rfl'
  · skip
    refine gI_tableIn hB 51 dX1_part_1 (by decide) (by decide) rfl (by decide) ?_
    refine gI_aload_n hB 0 dX1_part_51 rfl ?_
    refine gI_get (v := .int (f 3)) hB 3 hy (C := RX1) (T := TX1) (N := 7) rfl (by decide +kernel) (by decide) (by decide +kernel) (fun _ h9 => h9) rfl dX1_part_52 ?_
    refine gI_iret hB hE dX1_part_55 ?_
    exact gRet.rfl'
  · skip
    refine gI_tableIn hB 56 dX1_part_1 (by decide) (by decide) rfl (by decide) ?_
    refine gI_aload_n hB 0 dX1_part_56 rfl ?_
    refine gI_get (v := .int (f 4)) hB 4 hy (C := RX1) (T := TX1) (N := 7) rfl (by decide +kernel) (by decide) (by decide +kernel) (fun _ h9 => h9) rfl dX1_part_57 ?_
    refine gI_iret hB hE dX1_part_60 ?_
    exact gRet.rfl'
  · skip
    refine gI_tableOut hB 61 dX1_part_1 (by decide) (by decide) ?_
    refine gI_aload_n hB 0 dX1_part_61 rfl ?_
    refine gI_get (v := .int (f 5)) hB 5 hy (C := RX1) (T := TX1) (N := 7) rfl (by decide +kernel) (by decide) (by decide +kernel) (fun _ h9 => h9) rfl dX1_part_62 ?_
    refine gI_iret hB hE dX1_part_65 ?_
    exact gRet.rfl'

set_option maxRecDepth 100000 in
set_option maxHeartbeats 4000000 in
theorem k_rpart (G : gG) (h : gH) (y : Nat) (f : Nat → Int32) (wy : Int64) (hy : gat h y (.inr (5, [.int (f 0), .int (f 1), .int (f 2), .int (f 3), .int (f 4), .long wy]))) (i : Nat) (hi : i ≤ 4) : gMet yX2_part wsX2_part (gRm 1 0 0) G h [.ref y, .int (nI i)] (gRet h (some (.int (f i)))) := by
  refine gMet_of (maxL := 2) (ret := (some .int)) (by decide) rfl (Nat.le_of_ble_eq_true rfl) ?_
  intro X hG hnL hB hE
  subst hG
  change gW X h 0 0 0 [(0, .ref y), (1, .int (nI i))] []
  refine gI_iload_n hB 1 dX2_part_0 rfl ?_
  rcases (show i = 0 ∨ i = 1 ∨ i = 2 ∨ i = 3 ∨ i = 4 by omega) with rfl | rfl | rfl | rfl | rfl
  · skip
    refine gI_tableIn hB 32 dX2_part_1 (by decide) (by decide) rfl (by decide) ?_
    refine gI_aload_n hB 0 dX2_part_32 rfl ?_
    refine gI_get (v := .int (f 0)) hB 0 hy (C := RX2) (T := TX2) (N := 6) rfl (by decide +kernel) (by decide) (by decide +kernel) (fun _ h9 => h9) rfl dX2_part_33 ?_
    refine gI_iret hB hE dX2_part_36 ?_
    exact gRet.rfl'
  · skip
    refine gI_tableIn hB 37 dX2_part_1 (by decide) (by decide) rfl (by decide) ?_
    refine gI_aload_n hB 0 dX2_part_37 rfl ?_
    refine gI_get (v := .int (f 1)) hB 1 hy (C := RX2) (T := TX2) (N := 6) rfl (by decide +kernel) (by decide) (by decide +kernel) (fun _ h9 => h9) rfl dX2_part_38 ?_
    refine gI_iret hB hE dX2_part_41 ?_
    exact gRet.rfl'
  · skip
    refine gI_tableIn hB 42 dX2_part_1 (by decide) (by decide) rfl (by decide) ?_
    refine gI_aload_n hB 0 dX2_part_42 rfl ?_
    refine gI_get (v := .int (f 2)) hB 2 hy (C := RX2) (T := TX2) (N := 6) rfl (by decide +kernel) (by decide) (by decide +kernel) (fun _ h9 => h9) rfl dX2_part_43 ?_
    refine gI_iret hB hE dX2_part_46 ?_
    exact gRet.rfl'
  · skip
    refine gI_tableIn hB 47 dX2_part_1 (by decide) (by decide) rfl (by decide) ?_
    refine gI_aload_n hB 0 dX2_part_47 rfl ?_
    refine gI_get (v := .int (f 3)) hB 3 hy (C := RX2) (T := TX2) (N := 6) rfl (by decide +kernel) (by decide) (by decide +kernel) (fun _ h9 => h9) rfl dX2_part_48 ?_
    refine gI_iret hB hE dX2_part_51 ?_
    exact gRet.rfl'
  · skip
    refine gI_tableOut hB 52 dX2_part_1 (by decide) (by decide) ?_
    refine gI_aload_n hB 0 dX2_part_52 rfl ?_
    refine gI_get (v := .int (f 4)) hB 4 hy (C := RX2) (T := TX2) (N := 6) rfl (by decide +kernel) (by decide) (by decide +kernel) (fun _ h9 => h9) rfl dX2_part_53 ?_
    refine gI_iret hB hE dX2_part_56 ?_
    exact gRet.rfl'

set_option maxRecDepth 100000 in
set_option maxHeartbeats 4000000 in
theorem k_soundsAt (G : gG) (h : gH) (y : Nat) (f : Nat → Int32) (wy : Int64) (hy : gat h y (.inr (4, [.int (f 0), .int (f 1), .int (f 2), .int (f 3), .int (f 4), .int (f 5), .long wy]))) (x : Int32) : gMet yX1_soundsAt wsX1_soundsAt (gRm 1 0 0) G h [.ref y, .int x] (gRet h (some (.int (gbi (f 0 ≤ x ∧ x - f 0 < f 1))))) := by
  refine gMet_of (maxL := 2) (ret := (some .boolean)) (by decide) rfl (Nat.le_of_ble_eq_true rfl) ?_
  intro X hG hnL hB hE
  subst hG
  change gW X h 0 0 0 [(0, .ref y), (1, .int x)] []
  refine gI_iload_n hB 1 dX1_soundsAt_0 rfl ?_
  refine gI_aload_n hB 0 dX1_soundsAt_1 rfl ?_
  refine gI_get (v := .int (f 0)) hB 0 hy (C := RX1) (T := TX1) (N := 7) rfl (by decide +kernel) (by decide) (by decide +kernel) (fun _ h9 => h9) rfl dX1_soundsAt_2 ?_
  refine gI_icmp_lt hB 25 dX1_soundsAt_5 (by decide) (fun c5_1 => ?_) (fun c5_1 => ?_)
  · skip
    refine gI_iconst (v := nI 0) hB dX1_soundsAt_25 (by decide) ?_
    refine gI_zret hB hE (by decide) dX1_soundsAt_26 ?_
    exact ⟨by rw [gbi_f (fun z9 => absurd c5_1 (Int32.not_lt.mpr z9.1))]; rfl, rfl, rfl, rfl⟩
  · skip
    refine gI_iload_n hB 1 dX1_soundsAt_8 rfl ?_
    refine gI_aload_n hB 0 dX1_soundsAt_9 rfl ?_
    refine gI_get (v := .int (f 0)) hB 0 hy (C := RX1) (T := TX1) (N := 7) rfl (by decide +kernel) (by decide) (by decide +kernel) (fun _ h9 => h9) rfl dX1_soundsAt_10 ?_
    refine gI_isub hB dX1_soundsAt_13 ?_
    refine gI_aload_n hB 0 dX1_soundsAt_14 rfl ?_
    refine gI_get (v := .int (f 1)) hB 1 hy (C := RX1) (T := TX1) (N := 7) rfl (by decide +kernel) (by decide) (by decide +kernel) (fun _ h9 => h9) rfl dX1_soundsAt_15 ?_
    refine gI_icmp_ge hB 25 dX1_soundsAt_18 (by decide) (fun c18_2 => ?_) (fun c18_2 => ?_)
    · skip
      refine gI_iconst (v := nI 0) hB dX1_soundsAt_25 (by decide) ?_
      refine gI_zret hB hE (by decide) dX1_soundsAt_26 ?_
      exact ⟨by rw [gbi_f (fun z9 => absurd z9.2 (Int32.not_lt.mpr c18_2))]; rfl, rfl, rfl, rfl⟩
    · skip
      refine gI_iconst (v := nI 1) hB dX1_soundsAt_21 (by decide) ?_
      refine gI_goto hB 26 dX1_soundsAt_22 (by decide) ?_
      refine gI_zret hB hE (by decide) dX1_soundsAt_26 ?_
      exact ⟨by rw [gbi_t (⟨Int32.not_lt.mp c5_1, Int32.not_le.mp c18_2⟩)]; rfl, rfl, rfl, rfl⟩

set_option maxRecDepth 100000 in
set_option maxHeartbeats 4000000 in
theorem k_sort (G : gG) (h : gH) (y : Nat) (f : Nat → Int32) (wy : Int64) (hy : gat h y (.inr (5, [.int (f 0), .int (f 1), .int (f 2), .int (f 3), .int (f 4), .long wy]))) : gMet yX2_sort wsX2_sort (gRm 1 0 0) G h [.ref y] (gRet h (some (.int (if f 2 = -1 then nI 0 else nI 1)))) := by
  refine gMet_of (maxL := 1) (ret := (some .int)) (by decide) rfl (Nat.le_of_ble_eq_true rfl) ?_
  intro X hG hnL hB hE
  subst hG
  change gW X h 0 0 0 [(0, .ref y)] []
  refine gI_aload_n hB 0 dX2_sort_0 rfl ?_
  refine gI_get (v := .int (f 2)) hB 2 hy (C := RX2) (T := TX2) (N := 6) rfl (by decide +kernel) (by decide) (by decide +kernel) (fun _ h9 => h9) rfl dX2_sort_1 ?_
  refine gI_iconst (v := (-1)) hB dX2_sort_4 (by decide) ?_
  refine gI_icmp_ne hB 12 dX2_sort_5 (by decide) (fun c5_1 => ?_) (fun c5_1 => ?_)
  · skip
    refine gI_iconst (v := nI 1) hB dX2_sort_12 (by decide) ?_
    refine gI_iret hB hE dX2_sort_13 ?_
    exact ⟨by rw [if_neg c5_1], rfl, rfl, rfl⟩
  · skip
    refine gI_iconst (v := nI 0) hB dX2_sort_8 (by decide) ?_
    refine gI_goto hB 13 dX2_sort_9 (by decide) ?_
    refine gI_iret hB hE dX2_sort_13 ?_
    exact ⟨by rw [if_pos c5_1], rfl, rfl, rfl⟩

set_option maxRecDepth 100000 in
set_option maxHeartbeats 4000000 in
theorem k_isLater (G : gG) (h : gH) (y : Nat) (f : Nat → Int32) (wy : Int64) (hy : gat h y (.inr (5, [.int (f 0), .int (f 1), .int (f 2), .int (f 3), .int (f 4), .long wy]))) (x b : Int32) : gMet yX2_isLaterThan wsX2_isLaterThan (gRm 1 0 0) G h [.ref y, .int x, .int b] (gRet h (some (.int (gbi (x < f 0 ∨ (f 0 = x ∧ b < f 1)))))) := by
  refine gMet_of (maxL := 3) (ret := (some .boolean)) (by decide) rfl (Nat.le_of_ble_eq_true rfl) ?_
  intro X hG hnL hB hE
  subst hG
  change gW X h 0 0 0 [(0, .ref y), (1, .int x), (2, .int b)] []
  refine gI_aload_n hB 0 dX2_isLaterThan_0 rfl ?_
  refine gI_get (v := .int (f 0)) hB 0 hy (C := RX2) (T := TX2) (N := 6) rfl (by decide +kernel) (by decide) (by decide +kernel) (fun _ h9 => h9) rfl dX2_isLaterThan_1 ?_
  refine gI_iload_n hB 1 dX2_isLaterThan_4 rfl ?_
  refine gI_icmp_gt hB 24 dX2_isLaterThan_5 (by decide) (fun c5_1 => ?_) (fun c5_1 => ?_)
  · skip
    refine gI_iconst (v := nI 1) hB dX2_isLaterThan_24 (by decide) ?_
    refine gI_goto hB 29 dX2_isLaterThan_25 (by decide) ?_
    refine gI_zret hB hE (by decide) dX2_isLaterThan_29 ?_
    exact ⟨by rw [gbi_t (Or.inl c5_1)]; rfl, rfl, rfl, rfl⟩
  · skip
    refine gI_aload_n hB 0 dX2_isLaterThan_8 rfl ?_
    refine gI_get (v := .int (f 0)) hB 0 hy (C := RX2) (T := TX2) (N := 6) rfl (by decide +kernel) (by decide) (by decide +kernel) (fun _ h9 => h9) rfl dX2_isLaterThan_9 ?_
    refine gI_iload_n hB 1 dX2_isLaterThan_12 rfl ?_
    refine gI_icmp_ne hB 28 dX2_isLaterThan_13 (by decide) (fun c13_2 => ?_) (fun c13_2 => ?_)
    · skip
      refine gI_iconst (v := nI 0) hB dX2_isLaterThan_28 (by decide) ?_
      refine gI_zret hB hE (by decide) dX2_isLaterThan_29 ?_
      exact ⟨by rw [gbi_f (fun z9 => z9.elim (fun y9 => c5_1 y9) (fun y9 => c13_2 y9.1))]; rfl, rfl, rfl, rfl⟩
    · skip
      refine gI_aload_n hB 0 dX2_isLaterThan_16 rfl ?_
      refine gI_get (v := .int (f 1)) hB 1 hy (C := RX2) (T := TX2) (N := 6) rfl (by decide +kernel) (by decide) (by decide +kernel) (fun _ h9 => h9) rfl dX2_isLaterThan_17 ?_
      refine gI_iload_n hB 2 dX2_isLaterThan_20 rfl ?_
      refine gI_icmp_le hB 28 dX2_isLaterThan_21 (by decide) (fun c21_3 => ?_) (fun c21_3 => ?_)
      · skip
        refine gI_iconst (v := nI 0) hB dX2_isLaterThan_28 (by decide) ?_
        refine gI_zret hB hE (by decide) dX2_isLaterThan_29 ?_
        exact ⟨by rw [gbi_f (fun z9 => z9.elim (fun y9 => c5_1 y9) (fun y9 => absurd y9.2 (Int32.not_lt.mpr c21_3)))]; rfl, rfl, rfl, rfl⟩
      · skip
        refine gI_iconst (v := nI 1) hB dX2_isLaterThan_24 (by decide) ?_
        refine gI_goto hB 29 dX2_isLaterThan_25 (by decide) ?_
        refine gI_zret hB hE (by decide) dX2_isLaterThan_29 ?_
        exact ⟨by rw [gbi_t (Or.inr ⟨c13_2, Int32.not_le.mp c21_3⟩)]; rfl, rfl, rfl, rfl⟩

/-- an object has been written anew -/
def pObj (h : gH) (y ci : Nat) (fs : List Value) : gPo := fun r h' k s => r = .inl none ∧ gat h' y (.inr (ci, fs)) ∧ gSt h h' y ∧ k = 0 ∧ s = 0

set_option maxRecDepth 100000 in
set_option maxHeartbeats 4000000 in
theorem k_startAt (G : gG) (h_0 : gH) (y : Nat) (f : Nat → Int32) (wy : Int64) (hy : gat h_0 y (.inr (5, [.int (f 0), .int (f 1), .int (f 2), .int (f 3), .int (f 4), .long wy]))) (x b : Int32) : gMet yX2_startAt wsX2_startAt (gRm 1 0 0) G h_0 [.ref y, .int x, .int b] (pObj h_0 y 5 [.int x, .int b, .int (-1), .int (nI 0), .int (nI 0), .long b.toInt64]) := by
  refine gMet_of (maxL := 3) (ret := none) (by decide) rfl (Nat.le_of_ble_eq_true rfl) ?_
  intro X hG hnL hB hE
  subst hG
  suffices go : ∀ h : gH, h = h_0 → gW X h 0 0 0 [(0, .ref y), (1, .int x), (2, .int b)] [] from go h_0 rfl
  intro h eh
  rw [← eh] at hy
  obtain ⟨FR, eFR⟩ : ∃ FR : Nat → va_E → Prop, FR = fun (q : Nat) (_ : va_E) => q ≠ y := ⟨_, rfl⟩
  have hO : ∀ q e, gat h_0 q e → FR q e → gat h q e := fun q e z9 _ => by rw [eh]; exact z9
  have hI : ∀ q, q ∈ h_0.1 → q ∈ h.1 := fun q z9 => by rw [eh]; exact z9
  have on_y : ∀ q e, gat h_0 q e → FR q e → q ≠ y := by intros; rename_i w9; rw [eFR] at w9; exact w9
  refine gI_aload_n hB 0 dX2_startAt_0 rfl ?_
  refine gI_iload_n hB 1 dX2_startAt_1 rfl ?_
  refine gC_put hB 0 tyX2 tyX2_ok nmX2 hy (C := RX2) (T := TX2) (N := 6) rfl (by decide +kernel) (by decide) (by decide +kernel) (fun _ h9 => h9) rfl rfl rfl (Nat.le_of_ble_eq_true rfl) dX2_startAt_2 (fun h Ny hK => ?_)
  have hO : ∀ q e, gat h_0 q e → FR q e → gat h q e := fun q e z9 w9 => hK q e (hO q e z9 w9) (on_y q e z9 w9)
  have hI : ∀ q, q ∈ h_0.1 → q ∈ h.1 := fun q z9 => gSt.dom hK Ny (hI q z9)
  replace hy : gat h y (.inr (5, [.int x, .int (f 1), .int (f 2), .int (f 3), .int (f 4), .long wy])) := Ny
  refine gI_aload_n hB 0 dX2_startAt_5 rfl ?_
  refine gI_iload_n hB 2 dX2_startAt_6 rfl ?_
  refine gC_put hB 1 tyX2 tyX2_ok nmX2 hy (C := RX2) (T := TX2) (N := 6) rfl (by decide +kernel) (by decide) (by decide +kernel) (fun _ h9 => h9) rfl rfl rfl (Nat.le_of_ble_eq_true rfl) dX2_startAt_7 (fun h Ny hK => ?_)
  have hO : ∀ q e, gat h_0 q e → FR q e → gat h q e := fun q e z9 w9 => hK q e (hO q e z9 w9) (on_y q e z9 w9)
  have hI : ∀ q, q ∈ h_0.1 → q ∈ h.1 := fun q z9 => gSt.dom hK Ny (hI q z9)
  replace hy : gat h y (.inr (5, [.int x, .int b, .int (f 2), .int (f 3), .int (f 4), .long wy])) := Ny
  refine gI_aload_n hB 0 dX2_startAt_10 rfl ?_
  refine gI_iconst (v := (-1)) hB dX2_startAt_11 (by decide) ?_
  refine gC_put hB 2 tyX2 tyX2_ok nmX2 hy (C := RX2) (T := TX2) (N := 6) rfl (by decide +kernel) (by decide) (by decide +kernel) (fun _ h9 => h9) rfl rfl rfl (Nat.le_of_ble_eq_true rfl) dX2_startAt_12 (fun h Ny hK => ?_)
  have hO : ∀ q e, gat h_0 q e → FR q e → gat h q e := fun q e z9 w9 => hK q e (hO q e z9 w9) (on_y q e z9 w9)
  have hI : ∀ q, q ∈ h_0.1 → q ∈ h.1 := fun q z9 => gSt.dom hK Ny (hI q z9)
  replace hy : gat h y (.inr (5, [.int x, .int b, .int (-1), .int (f 3), .int (f 4), .long wy])) := Ny
  refine gI_aload_n hB 0 dX2_startAt_15 rfl ?_
  refine gI_iconst (v := nI 0) hB dX2_startAt_16 (by decide) ?_
  refine gC_put hB 3 tyX2 tyX2_ok nmX2 hy (C := RX2) (T := TX2) (N := 6) rfl (by decide +kernel) (by decide) (by decide +kernel) (fun _ h9 => h9) rfl rfl rfl (Nat.le_of_ble_eq_true rfl) dX2_startAt_17 (fun h Ny hK => ?_)
  have hO : ∀ q e, gat h_0 q e → FR q e → gat h q e := fun q e z9 w9 => hK q e (hO q e z9 w9) (on_y q e z9 w9)
  have hI : ∀ q, q ∈ h_0.1 → q ∈ h.1 := fun q z9 => gSt.dom hK Ny (hI q z9)
  replace hy : gat h y (.inr (5, [.int x, .int b, .int (-1), .int (nI 0), .int (f 4), .long wy])) := Ny
  refine gI_aload_n hB 0 dX2_startAt_20 rfl ?_
  refine gI_iconst (v := nI 0) hB dX2_startAt_21 (by decide) ?_
  refine gC_put hB 4 tyX2 tyX2_ok nmX2 hy (C := RX2) (T := TX2) (N := 6) rfl (by decide +kernel) (by decide) (by decide +kernel) (fun _ h9 => h9) rfl rfl rfl (Nat.le_of_ble_eq_true rfl) dX2_startAt_22 (fun h Ny hK => ?_)
  have hO : ∀ q e, gat h_0 q e → FR q e → gat h q e := fun q e z9 w9 => hK q e (hO q e z9 w9) (on_y q e z9 w9)
  have hI : ∀ q, q ∈ h_0.1 → q ∈ h.1 := fun q z9 => gSt.dom hK Ny (hI q z9)
  replace hy : gat h y (.inr (5, [.int x, .int b, .int (-1), .int (nI 0), .int (nI 0), .long wy])) := Ny
  refine gI_aload_n hB 0 dX2_startAt_25 rfl ?_
  refine gI_iload_n hB 2 dX2_startAt_26 rfl ?_
  refine gI_i2l hB dX2_startAt_27 ?_
  refine gC_put hB 5 tyX2 tyX2_ok nmX2 hy (C := RX2) (T := TX2) (N := 6) rfl (by decide +kernel) (by decide) (by decide +kernel) (fun _ h9 => h9) rfl rfl rfl (Nat.le_of_ble_eq_true rfl) dX2_startAt_28 (fun h Ny hK => ?_)
  have hO : ∀ q e, gat h_0 q e → FR q e → gat h q e := fun q e z9 w9 => hK q e (hO q e z9 w9) (on_y q e z9 w9)
  have hI : ∀ q, q ∈ h_0.1 → q ∈ h.1 := fun q z9 => gSt.dom hK Ny (hI q z9)
  replace hy : gat h y (.inr (5, [.int x, .int b, .int (-1), .int (nI 0), .int (nI 0), .long (b.toInt64)])) := Ny
  refine gI_vret hB hE dX2_startAt_31 ?_
  exact ⟨rfl, hy, fun q9 e9 z9 w9 => hO q9 e9 z9 (by rw [eFR]; exact w9), rfl, rfl⟩

set_option maxRecDepth 100000 in
set_option maxHeartbeats 4000000 in
theorem k_goOn (G : gG) (h_0 : gH) (y : Nat) (f : Nat → Int32) (wy : Int64) (hy : gat h_0 y (.inr (5, [.int (f 0), .int (f 1), .int (f 2), .int (f 3), .int (f 4), .long wy]))) (b : Nat) (f2 : Nat → Int32) (w2 : Int64) (hb : gat h_0 b (.inr (5, [.int (f2 0), .int (f2 1), .int (f2 2), .int (f2 3), .int (f2 4), .long w2]))) (hyb : b ≠ y) (x to sh : Int32) : gMet yX2_goOn wsX2_goOn (gRm 1 0 0) G h_0 [.ref y, .ref b, .int x, .int to, .int sh] (pObj h_0 y 5 [.int x, .int to, .int (f2 1), .int sh, .int (f2 4 + nI 1), .long (w2 ||| to.toInt64 <<< (((f2 4 + nI 1) * nI 4).toInt64 &&& 63))]) := by
  refine gMet_of (maxL := 5) (ret := none) (by decide) rfl (Nat.le_of_ble_eq_true rfl) ?_
  intro X hG hnL hB hE
  subst hG
  suffices go : ∀ h : gH, h = h_0 → gW X h 0 0 0 [(0, .ref y), (1, .ref b), (2, .int x), (3, .int to), (4, .int sh)] [] from go h_0 rfl
  intro h eh
  rw [← eh] at hy hb
  obtain ⟨FR, eFR⟩ : ∃ FR : Nat → va_E → Prop, FR = fun (q : Nat) (_ : va_E) => q ≠ y := ⟨_, rfl⟩
  have hO : ∀ q e, gat h_0 q e → FR q e → gat h q e := fun q e z9 _ => by rw [eh]; exact z9
  have hI : ∀ q, q ∈ h_0.1 → q ∈ h.1 := fun q z9 => by rw [eh]; exact z9
  have on_y : ∀ q e, gat h_0 q e → FR q e → q ≠ y := by intros; rename_i w9; rw [eFR] at w9; exact w9
  refine gI_aload_n hB 0 dX2_goOn_0 rfl ?_
  refine gI_iload_n hB 2 dX2_goOn_1 rfl ?_
  refine gC_put hB 0 tyX2 tyX2_ok nmX2 hy (C := RX2) (T := TX2) (N := 6) rfl (by decide +kernel) (by decide) (by decide +kernel) (fun _ h9 => h9) rfl rfl rfl (Nat.le_of_ble_eq_true rfl) dX2_goOn_2 (fun h Ny hK => ?_)
  have hb := hK _ _ hb hyb
  have hO : ∀ q e, gat h_0 q e → FR q e → gat h q e := fun q e z9 w9 => hK q e (hO q e z9 w9) (on_y q e z9 w9)
  have hI : ∀ q, q ∈ h_0.1 → q ∈ h.1 := fun q z9 => gSt.dom hK Ny (hI q z9)
  replace hy : gat h y (.inr (5, [.int x, .int (f 1), .int (f 2), .int (f 3), .int (f 4), .long wy])) := Ny
  refine gI_aload_n hB 0 dX2_goOn_5 rfl ?_
  refine gI_iload_n hB 3 dX2_goOn_6 rfl ?_
  refine gC_put hB 1 tyX2 tyX2_ok nmX2 hy (C := RX2) (T := TX2) (N := 6) rfl (by decide +kernel) (by decide) (by decide +kernel) (fun _ h9 => h9) rfl rfl rfl (Nat.le_of_ble_eq_true rfl) dX2_goOn_7 (fun h Ny hK => ?_)
  have hb := hK _ _ hb hyb
  have hO : ∀ q e, gat h_0 q e → FR q e → gat h q e := fun q e z9 w9 => hK q e (hO q e z9 w9) (on_y q e z9 w9)
  have hI : ∀ q, q ∈ h_0.1 → q ∈ h.1 := fun q z9 => gSt.dom hK Ny (hI q z9)
  replace hy : gat h y (.inr (5, [.int x, .int to, .int (f 2), .int (f 3), .int (f 4), .long wy])) := Ny
  refine gI_aload_n hB 0 dX2_goOn_10 rfl ?_
  refine gI_iload hB 4 dX2_goOn_11 rfl ?_
  refine gC_put hB 3 tyX2 tyX2_ok nmX2 hy (C := RX2) (T := TX2) (N := 6) rfl (by decide +kernel) (by decide) (by decide +kernel) (fun _ h9 => h9) rfl rfl rfl (Nat.le_of_ble_eq_true rfl) dX2_goOn_13 (fun h Ny hK => ?_)
  have hb := hK _ _ hb hyb
  have hO : ∀ q e, gat h_0 q e → FR q e → gat h q e := fun q e z9 w9 => hK q e (hO q e z9 w9) (on_y q e z9 w9)
  have hI : ∀ q, q ∈ h_0.1 → q ∈ h.1 := fun q z9 => gSt.dom hK Ny (hI q z9)
  replace hy : gat h y (.inr (5, [.int x, .int to, .int (f 2), .int sh, .int (f 4), .long wy])) := Ny
  refine gI_aload_n hB 0 dX2_goOn_16 rfl ?_
  refine gI_aload_n hB 1 dX2_goOn_17 rfl ?_
  refine gI_get (v := .int (f2 1)) hB 1 hb (C := RX2) (T := TX2) (N := 6) rfl (by decide +kernel) (by decide) (by decide +kernel) (fun _ h9 => h9) rfl dX2_goOn_18 ?_
  refine gC_put hB 2 tyX2 tyX2_ok nmX2 hy (C := RX2) (T := TX2) (N := 6) rfl (by decide +kernel) (by decide) (by decide +kernel) (fun _ h9 => h9) rfl rfl rfl (Nat.le_of_ble_eq_true rfl) dX2_goOn_21 (fun h Ny hK => ?_)
  have hb := hK _ _ hb hyb
  have hO : ∀ q e, gat h_0 q e → FR q e → gat h q e := fun q e z9 w9 => hK q e (hO q e z9 w9) (on_y q e z9 w9)
  have hI : ∀ q, q ∈ h_0.1 → q ∈ h.1 := fun q z9 => gSt.dom hK Ny (hI q z9)
  replace hy : gat h y (.inr (5, [.int x, .int to, .int (f2 1), .int sh, .int (f 4), .long wy])) := Ny
  refine gI_aload_n hB 0 dX2_goOn_24 rfl ?_
  refine gI_aload_n hB 1 dX2_goOn_25 rfl ?_
  refine gI_get (v := .int (f2 4)) hB 4 hb (C := RX2) (T := TX2) (N := 6) rfl (by decide +kernel) (by decide) (by decide +kernel) (fun _ h9 => h9) rfl dX2_goOn_26 ?_
  refine gI_iconst (v := nI 1) hB dX2_goOn_29 (by decide) ?_
  refine gI_iadd hB dX2_goOn_30 ?_
  refine gC_put hB 4 tyX2 tyX2_ok nmX2 hy (C := RX2) (T := TX2) (N := 6) rfl (by decide +kernel) (by decide) (by decide +kernel) (fun _ h9 => h9) rfl rfl rfl (Nat.le_of_ble_eq_true rfl) dX2_goOn_31 (fun h Ny hK => ?_)
  have hb := hK _ _ hb hyb
  have hO : ∀ q e, gat h_0 q e → FR q e → gat h q e := fun q e z9 w9 => hK q e (hO q e z9 w9) (on_y q e z9 w9)
  have hI : ∀ q, q ∈ h_0.1 → q ∈ h.1 := fun q z9 => gSt.dom hK Ny (hI q z9)
  replace hy : gat h y (.inr (5, [.int x, .int to, .int (f2 1), .int sh, .int ((f2 4) + (nI 1)), .long wy])) := Ny
  refine gI_aload_n hB 0 dX2_goOn_34 rfl ?_
  refine gI_aload_n hB 1 dX2_goOn_35 rfl ?_
  refine gI_get (v := .long w2) hB 5 hb (C := RX2) (T := TX2) (N := 6) rfl (by decide +kernel) (by decide) (by decide +kernel) (fun _ h9 => h9) rfl dX2_goOn_36 ?_
  refine gI_iload_n hB 3 dX2_goOn_39 rfl ?_
  refine gI_i2l hB dX2_goOn_40 ?_
  refine gI_aload_n hB 0 dX2_goOn_41 rfl ?_
  refine gI_get (v := .int ((f2 4) + (nI 1))) hB 4 hy (C := RX2) (T := TX2) (N := 6) rfl (by decide +kernel) (by decide) (by decide +kernel) (fun _ h9 => h9) rfl dX2_goOn_42 ?_
  refine gI_iconst (v := nI 4) hB dX2_goOn_45 (by decide) ?_
  refine gI_imul hB dX2_goOn_46 ?_
  refine gI_lshl hB dX2_goOn_47 ?_
  refine gI_lor hB dX2_goOn_48 ?_
  refine gC_put hB 5 tyX2 tyX2_ok nmX2 hy (C := RX2) (T := TX2) (N := 6) rfl (by decide +kernel) (by decide) (by decide +kernel) (fun _ h9 => h9) rfl rfl rfl (Nat.le_of_ble_eq_true rfl) dX2_goOn_49 (fun h Ny hK => ?_)
  have hb := hK _ _ hb hyb
  have hO : ∀ q e, gat h_0 q e → FR q e → gat h q e := fun q e z9 w9 => hK q e (hO q e z9 w9) (on_y q e z9 w9)
  have hI : ∀ q, q ∈ h_0.1 → q ∈ h.1 := fun q z9 => gSt.dom hK Ny (hI q z9)
  replace hy : gat h y (.inr (5, [.int x, .int to, .int (f2 1), .int sh, .int ((f2 4) + (nI 1)), .long (w2 ||| ((to.toInt64) <<< ((((f2 4) + (nI 1)) * (nI 4)).toInt64 &&& 63)))])) := Ny
  refine gI_vret hB hE dX2_goOn_52 ?_
  exact ⟨rfl, hy, fun q9 e9 z9 w9 => hO q9 e9 z9 (by rw [eFR]; exact w9), rfl, rfl⟩

set_option maxRecDepth 100000 in
set_option maxHeartbeats 4000000 in
theorem k_hinit (G : gG) (h_0 : gH) (y : Nat) (x : Int32) (hy : gat h_0 y (.inr (3, [.int 0, .int 0, .int 0, .int 0, .int 0, .int 0, .int 0, .int 0, .int 0]))) : gMet yX0_init wsX0_init (gRm 1 0 0) G h_0 [.ref y, .int x] (pObj h_0 y 3 [.int 0, .int (nI 23), .int (nI 2), .int 0, .int (nI 1), .int x, .int (nI 1), .int 0, .int 0]) := by
  refine gMet_of (maxL := 2) (ret := none) (by decide) rfl (Nat.le_of_ble_eq_true rfl) ?_
  intro X hG hnL hB hE
  subst hG
  suffices go : ∀ h : gH, h = h_0 → gW X h 0 0 0 [(0, .ref y), (1, .int x)] [] from go h_0 rfl
  intro h eh
  rw [← eh] at hy
  obtain ⟨FR, eFR⟩ : ∃ FR : Nat → va_E → Prop, FR = fun (q : Nat) (_ : va_E) => q ≠ y := ⟨_, rfl⟩
  have hO : ∀ q e, gat h_0 q e → FR q e → gat h q e := fun q e z9 _ => by rw [eh]; exact z9
  have hI : ∀ q, q ∈ h_0.1 → q ∈ h.1 := fun q z9 => by rw [eh]; exact z9
  have on_y : ∀ q e, gat h_0 q e → FR q e → q ≠ y := by intros; rename_i w9; rw [eFR] at w9; exact w9
  refine gI_aload_n hB 0 dX0_init_0 rfl ?_
  refine gI_objInit hB (by decide +kernel) (by decide +kernel) (by decide +kernel) (Nat.le_of_ble_eq_true rfl) (Nat.le_of_ble_eq_true rfl) dX0_init_1 ?_
  refine gI_aload_n hB 0 dX0_init_4 rfl ?_
  refine gI_bipush (v := nI 23) hB dX0_init_5 (by decide) ?_
  refine gC_put hB 1 tyX0 tyX0_ok nmX0 hy (C := RX0) (T := TX0) (N := 9) rfl (by decide +kernel) (by decide) (by decide +kernel) (fun _ h9 => h9) rfl rfl rfl (Nat.le_of_ble_eq_true rfl) dX0_init_7 (fun h Ny hK => ?_)
  have hO : ∀ q e, gat h_0 q e → FR q e → gat h q e := fun q e z9 w9 => hK q e (hO q e z9 w9) (on_y q e z9 w9)
  have hI : ∀ q, q ∈ h_0.1 → q ∈ h.1 := fun q z9 => gSt.dom hK Ny (hI q z9)
  replace hy : gat h y (.inr (3, [.int 0, .int (nI 23), .int 0, .int 0, .int 0, .int 0, .int 0, .int 0, .int 0])) := Ny
  refine gI_aload_n hB 0 dX0_init_10 rfl ?_
  refine gI_iconst (v := nI 2) hB dX0_init_11 (by decide) ?_
  refine gC_put hB 2 tyX0 tyX0_ok nmX0 hy (C := RX0) (T := TX0) (N := 9) rfl (by decide +kernel) (by decide) (by decide +kernel) (fun _ h9 => h9) rfl rfl rfl (Nat.le_of_ble_eq_true rfl) dX0_init_12 (fun h Ny hK => ?_)
  have hO : ∀ q e, gat h_0 q e → FR q e → gat h q e := fun q e z9 w9 => hK q e (hO q e z9 w9) (on_y q e z9 w9)
  have hI : ∀ q, q ∈ h_0.1 → q ∈ h.1 := fun q z9 => gSt.dom hK Ny (hI q z9)
  replace hy : gat h y (.inr (3, [.int 0, .int (nI 23), .int (nI 2), .int 0, .int 0, .int 0, .int 0, .int 0, .int 0])) := Ny
  refine gI_aload_n hB 0 dX0_init_15 rfl ?_
  refine gI_iconst (v := nI 1) hB dX0_init_16 (by decide) ?_
  refine gC_put hB 4 tyX0 tyX0_ok nmX0 hy (C := RX0) (T := TX0) (N := 9) rfl (by decide +kernel) (by decide) (by decide +kernel) (fun _ h9 => h9) rfl rfl rfl (Nat.le_of_ble_eq_true rfl) dX0_init_17 (fun h Ny hK => ?_)
  have hO : ∀ q e, gat h_0 q e → FR q e → gat h q e := fun q e z9 w9 => hK q e (hO q e z9 w9) (on_y q e z9 w9)
  have hI : ∀ q, q ∈ h_0.1 → q ∈ h.1 := fun q z9 => gSt.dom hK Ny (hI q z9)
  replace hy : gat h y (.inr (3, [.int 0, .int (nI 23), .int (nI 2), .int 0, .int (nI 1), .int 0, .int 0, .int 0, .int 0])) := Ny
  refine gI_aload_n hB 0 dX0_init_20 rfl ?_
  refine gI_iconst (v := nI 1) hB dX0_init_21 (by decide) ?_
  refine gC_put hB 6 tyX0 tyX0_ok nmX0 hy (C := RX0) (T := TX0) (N := 9) rfl (by decide +kernel) (by decide) (by decide +kernel) (fun _ h9 => h9) rfl rfl rfl (Nat.le_of_ble_eq_true rfl) dX0_init_22 (fun h Ny hK => ?_)
  have hO : ∀ q e, gat h_0 q e → FR q e → gat h q e := fun q e z9 w9 => hK q e (hO q e z9 w9) (on_y q e z9 w9)
  have hI : ∀ q, q ∈ h_0.1 → q ∈ h.1 := fun q z9 => gSt.dom hK Ny (hI q z9)
  replace hy : gat h y (.inr (3, [.int 0, .int (nI 23), .int (nI 2), .int 0, .int (nI 1), .int 0, .int (nI 1), .int 0, .int 0])) := Ny
  refine gI_aload_n hB 0 dX0_init_25 rfl ?_
  refine gI_iload_n hB 1 dX0_init_26 rfl ?_
  refine gC_put hB 5 tyX0 tyX0_ok nmX0 hy (C := RX0) (T := TX0) (N := 9) rfl (by decide +kernel) (by decide) (by decide +kernel) (fun _ h9 => h9) rfl rfl rfl (Nat.le_of_ble_eq_true rfl) dX0_init_27 (fun h Ny hK => ?_)
  have hO : ∀ q e, gat h_0 q e → FR q e → gat h q e := fun q e z9 w9 => hK q e (hO q e z9 w9) (on_y q e z9 w9)
  have hI : ∀ q, q ∈ h_0.1 → q ∈ h.1 := fun q z9 => gSt.dom hK Ny (hI q z9)
  replace hy : gat h y (.inr (3, [.int 0, .int (nI 23), .int (nI 2), .int 0, .int (nI 1), .int x, .int (nI 1), .int 0, .int 0])) := Ny
  refine gI_vret hB hE dX0_init_30 ?_
  exact ⟨rfl, hy, fun q9 e9 z9 w9 => hO q9 e9 z9 (by rw [eFR]; exact w9), rfl, rfl⟩

set_option maxRecDepth 100000 in
set_option maxHeartbeats 4000000 in
theorem k_ninit (G : gG) (h : gH) (y : Nat) (hy : gat h y (.inr (4, [.int 0, .int 0, .int 0, .int 0, .int 0, .int 0, .long 0]))) : gMet yX1_init wsX1_init (gRm 1 0 0) G h [.ref y] (gRet h none) := by
  refine gMet_of (maxL := 1) (ret := none) (by decide) rfl (Nat.le_of_ble_eq_true rfl) ?_
  intro X hG hnL hB hE
  subst hG
  change gW X h 0 0 0 [(0, .ref y)] []
  refine gI_aload_n hB 0 dX1_init_0 rfl ?_
  refine gI_objInit hB (by decide +kernel) (by decide +kernel) (by decide +kernel) (Nat.le_of_ble_eq_true rfl) (Nat.le_of_ble_eq_true rfl) dX1_init_1 ?_
  refine gI_vret hB hE dX1_init_4 ?_
  exact gRet.rfl'

set_option maxRecDepth 100000 in
set_option maxHeartbeats 4000000 in
theorem k_rinit (G : gG) (h : gH) (y : Nat) (hy : gat h y (.inr (5, [.int 0, .int 0, .int 0, .int 0, .int 0, .long 0]))) : gMet yX2_init wsX2_init (gRm 1 0 0) G h [.ref y] (gRet h none) := by
  refine gMet_of (maxL := 1) (ret := none) (by decide) rfl (Nat.le_of_ble_eq_true rfl) ?_
  intro X hG hnL hB hE
  subst hG
  change gW X h 0 0 0 [(0, .ref y)] []
  refine gI_aload_n hB 0 dX2_init_0 rfl ?_
  refine gI_objInit hB (by decide +kernel) (by decide +kernel) (by decide +kernel) (Nat.le_of_ble_eq_true rfl) (Nat.le_of_ble_eq_true rfl) dX2_init_1 ?_
  refine gI_vret hB hE dX2_init_4 ?_
  exact gRet.rfl'

