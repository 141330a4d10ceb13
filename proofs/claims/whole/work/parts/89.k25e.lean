set_option maxRecDepth 100000 in
set_option maxHeartbeats 4000000 in
theorem l_best {X : gX} {h : gH} {k n b L j : Nat} {xs : Nat → Int32} {c a : Nat → Nat} {ob F : Nat} {u : MS} (hB : gB X room_1 cL_law wsL_law RL) (hNx : gNx X.1.2.2.2.2.1) (hnL : gnL X = 9) (hS9 : gScr X b L xs) (hL : L ≤ 3584) (hj : 7 * j + 7 ≤ L) (hs : lSt X h c a ob u F) (hk : k + 9000 ≤ 601024) (hn : n + 60000 ≤ 7293033) (kk : lK X b c a ob j F k n) : gW X h k n 1296 (lLC b c a ob j) [] := by
  obtain ⟨⟨Λ, T, W, z, hC, o, rfl⟩, hM, fo, hob⟩ := hs
  have t0 : (mBest u).1.1 0 = nI 0 := rfl
  refine gI_aload_n hB 3 dL_law_1296 rfl ?_
  refine gI_callV (n9 := 0) (As := []) (rest := []) hB (p_best X.2.1 h c Λ u T W z hC o) (gCW.of ggL_law_X6_best rfl ⟨by decide, by decide, by decide +kernel⟩ ⟨Nat.le_of_ble_eq_true rfl, Nat.le_of_ble_eq_true rfl⟩) (by decide +kernel) (by decide +kernel) (by decide +kernel) (by decide +kernel) hC.1 (C := RX6) (T := TX6) (N := 9) rfl rfl rfl (Nat.le_of_ble_eq_true rfl) (by show k + 1 ≤ 601024; omega) (by show n + 6 ≤ 7293033; omega) dL_law_1297 (fun v9 h1 k1 n1 hp => ?_) (fun E9 h1 k1 n1 hp => ?_)
  · obtain ⟨F', hW1, hcf, hle, hk1, hn1, hr⟩ := hp
    rcases hr with ⟨e9, -⟩ | ⟨e9, -⟩ | ⟨e9, -⟩
    · cases e9
      have hF1 := hW1.le
      have hob1 := hcf _ _ hob rfl
      have hM1 := hM.keepO hob (h' := h1) (fun q e hq hk9 _ => hcf q e hq hk9)
      refine gI_aload_n hB 2 dL_law_1300 rfl ?_
      refine gM_call (n9 := 0) (As := []) (rest := [.int (mBest u).2]) hB hM1 (mFr.rf (h := h1)) (c_best X.2.1 h1 a u T W z hM1 o) (gCW.of ggL_law_X7_best rfl ⟨by decide, by decide, by decide +kernel⟩ ⟨Nat.le_of_ble_eq_true rfl, Nat.le_of_ble_eq_true rfl⟩) (by decide +kernel) (by decide +kernel) (by decide +kernel) (by decide +kernel) rfl rfl (Nat.le_of_ble_eq_true rfl) (by show k + k1 + 0 ≤ 601024; omega) (by show n + n1 + 0 ≤ 7293033; omega) (fun _ _ _ _ h9 => by cases h9.1) dL_law_1301 (fun v9 h2 u2 k2 n2 hM2 hFr hp => ?_)
      obtain ⟨e9, rfl, hk2, hn2⟩ := hp
      cases e9
      have hW2 := hW1.mfr hFr
      have hob2 := hFr _ _ hob1 rfl
      exact gI_icmp_eq hB 1501 dL_law_1304 (by decide) (fun _ => kk _ _ F' _ _ ⟨hW2, hM2, fo, hob2⟩ hle (by omega) (by omega)) (fun c9 => absurd rfl c9)
    · cases e9
    · cases e9
  · obtain ⟨F', hW1, hcf, hle, hk1, hn1, hr⟩ := hp
    rcases hr with ⟨e9, -⟩ | ⟨-, e0⟩ | ⟨-, e0⟩
    · cases e9
    · exact absurd (t0.symm.trans e0) (by decide)
    · exact absurd (t0.symm.trans e0) (by decide)

set_option maxRecDepth 100000 in
set_option maxHeartbeats 4000000 in
theorem l_emptySongs {X : gX} {h : gH} {k n b L j : Nat} {xs : Nat → Int32} {c a : Nat → Nat} {ob F : Nat} {u : MS} (hB : gB X room_1 cL_law wsL_law RL) (hNx : gNx X.1.2.2.2.2.1) (hnL : gnL X = 9) (hS9 : gScr X b L xs) (hL : L ≤ 3584) (hj : 7 * j + 7 ≤ L) (hs : lSt X h c a ob u F) (hk : k + 9000 ≤ 601024) (hn : n + 60000 ≤ 7293033) (kk : lK X b c a ob j F k n) : gW X h k n 1309 (lLC b c a ob j) [] := by
  obtain ⟨⟨Λ, T, W, z, hC, o, rfl⟩, hM, fo, hob⟩ := hs
  have t0 : (mEmpty u).1.1 0 = nI 0 := rfl
  refine gI_aload_n hB 3 dL_law_1309 rfl ?_
  refine gI_callV (n9 := 0) (As := []) (rest := []) hB (p_emptySongs X.2.1 h c Λ u T W z hC o) (gCW.of ggL_law_X6_emptySongs rfl ⟨by decide, by decide, by decide +kernel⟩ ⟨Nat.le_of_ble_eq_true rfl, Nat.le_of_ble_eq_true rfl⟩) (by decide +kernel) (by decide +kernel) (by decide +kernel) (by decide +kernel) hC.1 (C := RX6) (T := TX6) (N := 9) rfl rfl rfl (Nat.le_of_ble_eq_true rfl) (by show k + 1 ≤ 601024; omega) (by show n + 6 ≤ 7293033; omega) dL_law_1310 (fun v9 h1 k1 n1 hp => ?_) (fun E9 h1 k1 n1 hp => ?_)
  · obtain ⟨F', hW1, hcf, hle, hk1, hn1, hr⟩ := hp
    rcases hr with ⟨e9, -⟩ | ⟨e9, -⟩ | ⟨e9, -⟩
    · cases e9
      have hF1 := hW1.le
      have hob1 := hcf _ _ hob rfl
      have hM1 := hM.keepO hob (h' := h1) (fun q e hq hk9 _ => hcf q e hq hk9)
      refine gI_aload_n hB 2 dL_law_1313 rfl ?_
      refine gM_call (n9 := 0) (As := []) (rest := [.int (mEmpty u).2]) hB hM1 (mFr.rf (h := h1)) (c_emptySongs X.2.1 h1 a u T W z hM1 o) (gCW.of ggL_law_X7_emptySongs rfl ⟨by decide, by decide, by decide +kernel⟩ ⟨Nat.le_of_ble_eq_true rfl, Nat.le_of_ble_eq_true rfl⟩) (by decide +kernel) (by decide +kernel) (by decide +kernel) (by decide +kernel) rfl rfl (Nat.le_of_ble_eq_true rfl) (by show k + k1 + 0 ≤ 601024; omega) (by show n + n1 + 0 ≤ 7293033; omega) (fun _ _ _ _ h9 => by cases h9.1) dL_law_1314 (fun v9 h2 u2 k2 n2 hM2 hFr hp => ?_)
      obtain ⟨e9, rfl, hk2, hn2⟩ := hp
      cases e9
      have hW2 := hW1.mfr hFr
      have hob2 := hFr _ _ hob1 rfl
      exact gI_icmp_eq hB 1501 dL_law_1317 (by decide) (fun _ => kk _ _ F' _ _ ⟨hW2, hM2, fo, hob2⟩ hle (by omega) (by omega)) (fun c9 => absurd rfl c9)
    · cases e9
    · cases e9
  · obtain ⟨F', hW1, hcf, hle, hk1, hn1, hr⟩ := hp
    rcases hr with ⟨e9, -⟩ | ⟨-, e0⟩ | ⟨-, e0⟩
    · cases e9
    · exact absurd (t0.symm.trans e0) (by decide)
    · exact absurd (t0.symm.trans e0) (by decide)

set_option maxRecDepth 100000 in
set_option maxHeartbeats 4000000 in
theorem l_patience {X : gX} {h : gH} {k n b L j : Nat} {xs : Nat → Int32} {c a : Nat → Nat} {ob F : Nat} {u : MS} (hB : gB X room_1 cL_law wsL_law RL) (hNx : gNx X.1.2.2.2.2.1) (hnL : gnL X = 9) (hS9 : gScr X b L xs) (hL : L ≤ 3584) (hj : 7 * j + 7 ≤ L) (hs : lSt X h c a ob u F) (hk : k + 9000 ≤ 601024) (hn : n + 60000 ≤ 7293033) (kk : lK X b c a ob j F k n) : gW X h k n 1446 (lLC b c a ob j) [] := by
  obtain ⟨⟨Λ, T, W, z, hC, o, rfl⟩, hM, fo, hob⟩ := hs
  refine gI_aload_n hB 3 dL_law_1446 rfl ?_
  refine gI_callV (n9 := 0) (As := []) (rest := []) hB (p_patience X.2.1 h c Λ u T W z hC o) (gCW.of ggL_law_X6_patience rfl ⟨by decide, by decide, by decide +kernel⟩ ⟨Nat.le_of_ble_eq_true rfl, Nat.le_of_ble_eq_true rfl⟩) (by decide +kernel) (by decide +kernel) (by decide +kernel) (by decide +kernel) hC.1 (C := RX6) (T := TX6) (N := 9) rfl rfl rfl (Nat.le_of_ble_eq_true rfl) (by show k + 0 ≤ 601024; omega) (by show n + 0 ≤ 7293033; omega) dL_law_1447 (fun v9 h1 k1 n1 hp => ?_) (fun E9 h1 k1 n1 hp => by cases hp.1)
  obtain ⟨e9, hW1, hcf, rfl, rfl⟩ := hp
  cases e9
  have hob1 := hcf _ _ hob rfl
  have hM1 := hM.keepO hob (h' := h1) (fun q e hq hk9 _ => hcf q e hq hk9)
  refine gI_dstore hB ([(5, .double (mPatV u)), (4, .int (nI (7 * j))), (3, .ref ob), (2, .ref (a 0)), (1, .ref (c 0)), (0, .ref b)]) hnL dL_law_1450 (by decide) rfl ?_
  refine gI_aload_n hB 3 dL_law_1452 rfl ?_
  refine gM_call (n9 := 0) (As := []) (rest := []) hB hM1 (mFr.rf (h := h1)) (c_patience X.2.1 h1 a u T W z hM1 o) (gCW.of ggL_law_X7_patience rfl ⟨by decide, by decide, by decide +kernel⟩ ⟨Nat.le_of_ble_eq_true rfl, Nat.le_of_ble_eq_true rfl⟩) (by decide +kernel) (by decide +kernel) (by decide +kernel) (by decide +kernel) rfl rfl (Nat.le_of_ble_eq_true rfl) (by show k + 0 + 0 ≤ 601024; omega) (by show n + 0 + 0 ≤ 7293033; omega) (fun _ _ _ _ h9 => by cases h9.1) dL_law_1453 (fun v9 h2 u2 k2 n2 hM2 hFr hp => ?_)
  obtain ⟨e9, rfl, hk2, hn2⟩ := hp
  cases e9
  have hW2 := hW1.mfr hFr
  have hob2 := hFr _ _ hob1 rfl
  refine gI_dstore hB ([(7, .double (mPatV u)), (5, .double (mPatV u)), (4, .int (nI (7 * j))), (3, .ref ob), (2, .ref (a 0)), (1, .ref (c 0)), (0, .ref b)]) hnL dL_law_1456 (by decide) rfl ?_
  have fin : gW X h2 (k + 0 + k2) (n + 0 + n2) 1484 [(7, .double (mPatV u)), (5, .double (mPatV u)), (4, .int (nI (7 * j))), (3, .ref ob), (2, .ref (a 0)), (1, .ref (c 0)), (0, .ref b)] [] := by
    refine gI_goto hB 1501 dL_law_1484 (by decide) ?_
    refine gI_loc [2, 3, 4, 5, 6] rfl ?_
    exact kk _ _ _ _ _ ⟨hW2, hM2, fo, hob2⟩ (Nat.le_refl _) (by omega) (by omega)
  refine gI_dload hB 1 dL_law_1458 rfl ?_
  refine gI_dload hB 0 dL_law_1460 rfl ?_
  refine gI_dcmp hB dL_law_1462 ?_
  refine gI_if_eq hB 1484 dL_law_1463 (by decide) (fun _ => fin) (fun c1 => ?_)
  refine gI_dload hB 1 dL_law_1466 rfl ?_
  refine gI_dload hB 1 dL_law_1468 rfl ?_
  refine gI_dcmp hB dL_law_1470 ?_
  refine gI_if_eq hB 1482 dL_law_1471 (by decide) (fun c2 => absurd c2 c1) (fun c2 => ?_)
  refine gI_dload hB 0 dL_law_1474 rfl ?_
  refine gI_dload hB 0 dL_law_1476 rfl ?_
  refine gI_dcmp hB dL_law_1478 ?_
  exact gI_if_ne hB 1484 dL_law_1479 (by decide) (fun _ => fin) (fun c3 => absurd c3 c1)

set_option maxRecDepth 100000 in
set_option maxHeartbeats 4000000 in
theorem l_digest {X : gX} {h : gH} {k n b L j : Nat} {xs : Nat → Int32} {c a : Nat → Nat} {ob F : Nat} {u : MS} (hB : gB X room_1 cL_law wsL_law RL) (hNx : gNx X.1.2.2.2.2.1) (hnL : gnL X = 9) (hS9 : gScr X b L xs) (hL : L ≤ 3584) (hj : 7 * j + 7 ≤ L) (hs : lSt X h c a ob u F) (hk : k + 9000 ≤ 601024) (hn : n + 60000 ≤ 7293033) (kk : lK X b c a ob j F k n) : gW X h k n 1487 (lLC b c a ob j) [] := by
  obtain ⟨⟨Λ, T, W, z, hC, o, rfl⟩, hM, fo, hob⟩ := hs
  refine gI_aload_n hB 3 dL_law_1487 rfl ?_
  refine gI_callV (n9 := 0) (As := []) (rest := []) hB (p_digest X.2.1 h c Λ u T W z hC o) (gCW.of ggL_law_X6_digest rfl ⟨by decide, by decide, by decide +kernel⟩ ⟨Nat.le_of_ble_eq_true rfl, Nat.le_of_ble_eq_true rfl⟩) (by decide +kernel) (by decide +kernel) (by decide +kernel) (by decide +kernel) hC.1 (C := RX6) (T := TX6) (N := 9) rfl rfl rfl (Nat.le_of_ble_eq_true rfl) (by show k + 0 ≤ 601024; omega) (by show n + 0 ≤ 7293033; omega) dL_law_1488 (fun v9 h1 k1 n1 hp => ?_) (fun E9 h1 k1 n1 hp => by cases hp.1)
  obtain ⟨e9, hW1, hcf, rfl, rfl⟩ := hp
  cases e9
  have hob1 := hcf _ _ hob rfl
  have hM1 := hM.keepO hob (h' := h1) (fun q e hq hk9 _ => hcf q e hq hk9)
  refine gI_aload_n hB 2 dL_law_1491 rfl ?_
  refine gM_call (n9 := 0) (As := []) (rest := [.long (mDig u)]) hB hM1 (mFr.rf (h := h1)) (c_digest X.2.1 h1 a u T W z hM1 o) (gCW.of ggL_law_X7_digest rfl ⟨by decide, by decide, by decide +kernel⟩ ⟨Nat.le_of_ble_eq_true rfl, Nat.le_of_ble_eq_true rfl⟩) (by decide +kernel) (by decide +kernel) (by decide +kernel) (by decide +kernel) rfl rfl (Nat.le_of_ble_eq_true rfl) (by show k + 0 + 0 ≤ 601024; omega) (by show n + 0 + 0 ≤ 7293033; omega) (fun _ _ _ _ h9 => by cases h9.1) dL_law_1492 (fun v9 h2 u2 k2 n2 hM2 hFr hp => ?_)
  obtain ⟨e9, rfl, hk2, hn2⟩ := hp
  cases e9
  have hW2 := hW1.mfr hFr
  have hob2 := hFr _ _ hob1 rfl
  refine gI_lcmp hB dL_law_1495 ?_
  rw [lg_cmp_self]
  exact gI_if_eq hB 1501 dL_law_1496 (by decide) (fun _ => kk _ _ _ _ _ ⟨hW2, hM2, fo, hob2⟩ (Nat.le_refl _) (by omega) (by omega)) (fun c7 => absurd rfl c7)
