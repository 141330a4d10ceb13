set_option maxRecDepth 100000 in
set_option maxHeartbeats 4000000 in
theorem l_fits {X : gX} {h : gH} {k n b L j : Nat} {xs : Nat → Int32} {c a : Nat → Nat} {ob F : Nat} {u : MS} (hB : gB X room_1 cL_law wsL_law RL) (hNx : gNx X.1.2.2.2.2.1) (hnL : gnL X = 9) (hS9 : gScr X b L xs) (hL : L ≤ 3584) (hj : 7 * j + 7 ≤ L) (hs : lSt X h c a ob u F) (hk : k + 9000 ≤ 601024) (hn : n + 60000 ≤ 7293033) (kk : lK X b c a ob j F k n) : gW X h k n 1012 (lLC b c a ob j) [] := by
  obtain ⟨⟨Λ, T, W, z, hC, o, rfl⟩, hM, fo, hob⟩ := hs
  refine gI_aload_n hB 3 dL_law_1012 rfl ?_
  refine gI_aload_n hB 4 dL_law_1013 rfl ?_
  refine gI_iload hB 0 dL_law_1014 rfl ?_
  refine gI_iconst (v := nI 1) hB dL_law_1016 (by decide) ?_
  refine gI_iaddN hB dL_law_1017 ?_
  refine gI_sld hB hS9 (7 * j + 1) (by omega) hL dL_law_1018 ?_
  refine gI_aload_n hB 4 dL_law_1019 rfl ?_
  refine gI_iload hB 0 dL_law_1020 rfl ?_
  refine gI_iconst (v := nI 2) hB dL_law_1022 (by decide) ?_
  refine gI_iaddN hB dL_law_1023 ?_
  refine gI_sld hB hS9 (7 * j + 2) (by omega) hL dL_law_1024 ?_
  refine gI_aload_n hB 4 dL_law_1025 rfl ?_
  refine gI_iload hB 0 dL_law_1026 rfl ?_
  refine gI_iconst (v := nI 3) hB dL_law_1028 (by decide) ?_
  refine gI_iaddN hB dL_law_1029 ?_
  refine gI_sld hB hS9 (7 * j + 3) (by omega) hL dL_law_1030 ?_
  refine gI_aload_n hB 1 dL_law_1031 rfl ?_
  refine gI_callSN (n9 := 5) (As := [.ref (c 0), .int (xs (7 * j + 1)), .int (xs (7 * j + 2)), .int (xs (7 * j + 3)), .ref ob]) (rest := []) hB hNx (w_fits X.2.1 h c Λ u T W z hC o (xs (7 * j + 1)) (xs (7 * j + 2)) (xs (7 * j + 3)) ob fo hob) (gCW.ofW ggL_law_L_fits rfl ⟨by decide, by decide, by decide +kernel⟩ ⟨Nat.le_of_ble_eq_true rfl, Nat.le_of_ble_eq_true rfl⟩) (by decide +kernel) (by decide +kernel) (by decide +kernel) rfl rfl (Nat.le_of_ble_eq_true rfl) (by show k + 1 ≤ 601024; omega) (by show n + 6 ≤ 7293033; omega) dL_law_1032 (fun v9 h1 k1 n1 hp => ?_) (fun E9 h1 k1 n1 hp => by obtain ⟨F9, f9, e9, -⟩ := hp; cases e9)
  obtain ⟨F', fo', e9, hW1, hob1, ho, hf, hle, hk1, hn1⟩ := hp
  cases e9
  have hF1 := hW1.le
  have hM1 := hM.keepO hob hf
  refine gI_istore hB ([(5, .int ((mFitsC u (xs (7 * j + 1)) (xs (7 * j + 2)) (xs (7 * j + 3))).1.1 0)), (4, .int (nI (7 * j))), (3, .ref ob), (2, .ref (a 0)), (1, .ref (c 0)), (0, .ref b)]) hnL dL_law_1035 (by decide) rfl ?_
  refine gI_aload_n hB 3 dL_law_1037 rfl ?_
  refine gI_aload_n hB 5 dL_law_1038 rfl ?_
  refine gI_iload hB 1 dL_law_1039 rfl ?_
  refine gI_iconst (v := nI 1) hB dL_law_1041 (by decide) ?_
  refine gI_iaddN hB dL_law_1042 ?_
  refine gI_sld hB hS9 (7 * j + 1) (by omega) hL dL_law_1043 ?_
  refine gI_aload_n hB 5 dL_law_1044 rfl ?_
  refine gI_iload hB 1 dL_law_1045 rfl ?_
  refine gI_iconst (v := nI 2) hB dL_law_1047 (by decide) ?_
  refine gI_iaddN hB dL_law_1048 ?_
  refine gI_sld hB hS9 (7 * j + 2) (by omega) hL dL_law_1049 ?_
  refine gI_aload_n hB 5 dL_law_1050 rfl ?_
  refine gI_iload hB 1 dL_law_1051 rfl ?_
  refine gI_iconst (v := nI 3) hB dL_law_1053 (by decide) ?_
  refine gI_iaddN hB dL_law_1054 ?_
  refine gI_sld hB hS9 (7 * j + 3) (by omega) hL dL_law_1055 ?_
  refine gM_call (n9 := 3) (As := [.int (xs (7 * j + 1)), .int (xs (7 * j + 2)), .int (xs (7 * j + 3))]) (rest := []) hB hM1 (mFr.rf (h := h1)) (c_fits X.2.1 h1 a u T W z hM1 o (xs (7 * j + 1)) (xs (7 * j + 2)) (xs (7 * j + 3))) (gCW.of ggL_law_X7_fits rfl ⟨by decide, by decide, by decide +kernel⟩ ⟨Nat.le_of_ble_eq_true rfl, Nat.le_of_ble_eq_true rfl⟩) (by decide +kernel) (by decide +kernel) (by decide +kernel) (by decide +kernel) rfl rfl (Nat.le_of_ble_eq_true rfl) (by show k + k1 + 0 ≤ 601024; omega) (by show n + n1 + 0 ≤ 7293033; omega) (fun _ _ _ _ h9 => by cases h9.1) dL_law_1056 (fun v9 h2 u2 k2 n2 hM2 hFr hp => ?_)
  obtain ⟨e9, rfl, hk2, hn2⟩ := hp
  cases e9
  have hW2 := hW1.mfr hFr
  have hob2 := hFr _ _ hob1 rfl
  refine gI_istore hB ([(6, .int (mFitsC u (xs (7 * j + 1)) (xs (7 * j + 2)) (xs (7 * j + 3))).2), (5, .int ((mFitsC u (xs (7 * j + 1)) (xs (7 * j + 2)) (xs (7 * j + 3))).1.1 0)), (4, .int (nI (7 * j))), (3, .ref ob), (2, .ref (a 0)), (1, .ref (c 0)), (0, .ref b)]) hnL dL_law_1059 (by decide) rfl ?_
  refine gI_aload_n hB 4 dL_law_1061 rfl ?_
  refine gI_pureV (n9 := 0) (As := []) (rest := []) hB (c_thrown X.2.1 h2 a (mFitsC u (xs (7 * j + 1)) (xs (7 * j + 2)) (xs (7 * j + 3))).1 hM2) (gCW.of ggL_law_X7_thrown rfl ⟨by decide, by decide, by decide +kernel⟩ ⟨Nat.le_of_ble_eq_true rfl, Nat.le_of_ble_eq_true rfl⟩) (by decide +kernel) (by decide +kernel) (by decide +kernel) (by decide +kernel) hM2.1 (C := RX7) (T := TX7) (N := 15) rfl rfl rfl (Nat.le_of_ble_eq_true rfl) (by show k + k1 + k2 + 0 ≤ 601024; omega) (by show n + n1 + n2 + 0 ≤ 7293033; omega) dL_law_1062 ?_
  refine gI_iload hB 1 dL_law_1065 rfl ?_
  refine gI_icmp_eq hB 1072 dL_law_1067 (by decide) (fun c9 => ?_) (fun c9 => absurd rfl c9)
  refine gI_iload hB 1 dL_law_1072 rfl ?_
  have fin : gW X h2 (k + k1 + k2) (n + n1 + n2) 1089 [(6, .int (mFitsC u (xs (7 * j + 1)) (xs (7 * j + 2)) (xs (7 * j + 3))).2), (5, .int ((mFitsC u (xs (7 * j + 1)) (xs (7 * j + 2)) (xs (7 * j + 3))).1.1 0)), (4, .int (nI (7 * j))), (3, .ref ob), (2, .ref (a 0)), (1, .ref (c 0)), (0, .ref b)] [] := by
    refine gI_goto hB 1501 dL_law_1089 (by decide) ?_
    refine gI_loc [2, 3, 4, 5, 6] rfl ?_
    exact kk _ _ F' _ _ ⟨hW2, hM2, fo', hob2⟩ hle (by omega) (by omega)
  refine gI_if_ne hB 1089 dL_law_1074 (by decide) (fun c8 => fin) (fun c8 => ?_)
  refine gI_aload_n hB 3 dL_law_1077 rfl ?_
  refine gI_iconst (v := nI 0) hB dL_law_1078 (by decide) ?_
  refine gC_lald hB hob2 dL_law_1079 ?_
  refine gI_iload hB 0 dL_law_1080 rfl ?_
  refine gI_i2l hB dL_law_1082 ?_
  refine gI_lcmp hB dL_law_1083 ?_
  have e8 := ho (c8.trans (by decide))
  rw [e8, lg_cmp_self]
  exact gI_if_eq hB 1089 dL_law_1084 (by decide) (fun _ => fin) (fun c7 => absurd rfl c7)

set_option maxRecDepth 100000 in
set_option maxHeartbeats 4000000 in
theorem l_sung {X : gX} {h : gH} {k n b L j : Nat} {xs : Nat → Int32} {c a : Nat → Nat} {ob F : Nat} {u : MS} (hB : gB X room_1 cL_law wsL_law RL) (hNx : gNx X.1.2.2.2.2.1) (hnL : gnL X = 9) (hS9 : gScr X b L xs) (hL : L ≤ 3584) (hj : 7 * j + 7 ≤ L) (hs : lSt X h c a ob u F) (hk : k + 9000 ≤ 601024) (hn : n + 60000 ≤ 7293033) (kk : lK X b c a ob j F k n) : gW X h k n 1092 (lLC b c a ob j) [] := by
  obtain ⟨⟨Λ, T, W, z, hC, o, rfl⟩, hM, fo, hob⟩ := hs
  refine gI_aload_n hB 3 dL_law_1092 rfl ?_
  refine gI_aload_n hB 4 dL_law_1093 rfl ?_
  refine gI_iload hB 0 dL_law_1094 rfl ?_
  refine gI_iconst (v := nI 1) hB dL_law_1096 (by decide) ?_
  refine gI_iaddN hB dL_law_1097 ?_
  refine gI_sld hB hS9 (7 * j + 1) (by omega) hL dL_law_1098 ?_
  refine gI_aload_n hB 4 dL_law_1099 rfl ?_
  refine gI_iload hB 0 dL_law_1100 rfl ?_
  refine gI_iconst (v := nI 2) hB dL_law_1102 (by decide) ?_
  refine gI_iaddN hB dL_law_1103 ?_
  refine gI_sld hB hS9 (7 * j + 2) (by omega) hL dL_law_1104 ?_
  refine gI_aload_n hB 1 dL_law_1105 rfl ?_
  refine gI_callSN (n9 := 4) (As := [.ref (c 0), .int (xs (7 * j + 1)), .int (xs (7 * j + 2)), .ref ob]) (rest := []) hB hNx (w_sung X.2.1 h c Λ u T W z hC o (xs (7 * j + 1)) (xs (7 * j + 2)) ob fo hob) (gCW.ofW ggL_law_L_sung rfl ⟨by decide, by decide, by decide +kernel⟩ ⟨Nat.le_of_ble_eq_true rfl, Nat.le_of_ble_eq_true rfl⟩) (by decide +kernel) (by decide +kernel) (by decide +kernel) rfl rfl (Nat.le_of_ble_eq_true rfl) (by show k + 1 ≤ 601024; omega) (by show n + 6 ≤ 7293033; omega) dL_law_1106 (fun v9 h1 k1 n1 hp => ?_) (fun E9 h1 k1 n1 hp => by obtain ⟨F9, f9, e9, -⟩ := hp; cases e9)
  obtain ⟨F', fo', e9, hW1, hob1, ho, hf, hle, hk1, hn1⟩ := hp
  cases e9
  have hF1 := hW1.le
  have hM1 := hM.keepO hob hf
  refine gI_istore hB ([(5, .int ((mSung u (xs (7 * j + 1)) (xs (7 * j + 2))).1.1 0)), (4, .int (nI (7 * j))), (3, .ref ob), (2, .ref (a 0)), (1, .ref (c 0)), (0, .ref b)]) hnL dL_law_1109 (by decide) rfl ?_
  refine gI_aload_n hB 3 dL_law_1111 rfl ?_
  refine gI_aload_n hB 5 dL_law_1112 rfl ?_
  refine gI_iload hB 1 dL_law_1113 rfl ?_
  refine gI_iconst (v := nI 1) hB dL_law_1115 (by decide) ?_
  refine gI_iaddN hB dL_law_1116 ?_
  refine gI_sld hB hS9 (7 * j + 1) (by omega) hL dL_law_1117 ?_
  refine gI_aload_n hB 5 dL_law_1118 rfl ?_
  refine gI_iload hB 1 dL_law_1119 rfl ?_
  refine gI_iconst (v := nI 2) hB dL_law_1121 (by decide) ?_
  refine gI_iaddN hB dL_law_1122 ?_
  refine gI_sld hB hS9 (7 * j + 2) (by omega) hL dL_law_1123 ?_
  refine gM_call (n9 := 2) (As := [.int (xs (7 * j + 1)), .int (xs (7 * j + 2))]) (rest := []) hB hM1 (mFr.rf (h := h1)) (c_sung X.2.1 h1 a u T W z hM1 o (xs (7 * j + 1)) (xs (7 * j + 2))) (gCW.of ggL_law_X7_sung rfl ⟨by decide, by decide, by decide +kernel⟩ ⟨Nat.le_of_ble_eq_true rfl, Nat.le_of_ble_eq_true rfl⟩) (by decide +kernel) (by decide +kernel) (by decide +kernel) (by decide +kernel) rfl rfl (Nat.le_of_ble_eq_true rfl) (by show k + k1 + 0 ≤ 601024; omega) (by show n + n1 + 0 ≤ 7293033; omega) (fun _ _ _ _ h9 => by cases h9.1) dL_law_1124 (fun v9 h2 u2 k2 n2 hM2 hFr hp => ?_)
  obtain ⟨e9, rfl, hk2, hn2⟩ := hp
  cases e9
  have hW2 := hW1.mfr hFr
  have hob2 := hFr _ _ hob1 rfl
  refine gI_istore hB ([(6, .int (mSung u (xs (7 * j + 1)) (xs (7 * j + 2))).2), (5, .int ((mSung u (xs (7 * j + 1)) (xs (7 * j + 2))).1.1 0)), (4, .int (nI (7 * j))), (3, .ref ob), (2, .ref (a 0)), (1, .ref (c 0)), (0, .ref b)]) hnL dL_law_1127 (by decide) rfl ?_
  refine gI_aload_n hB 4 dL_law_1129 rfl ?_
  refine gI_pureV (n9 := 0) (As := []) (rest := []) hB (c_thrown X.2.1 h2 a (mSung u (xs (7 * j + 1)) (xs (7 * j + 2))).1 hM2) (gCW.of ggL_law_X7_thrown rfl ⟨by decide, by decide, by decide +kernel⟩ ⟨Nat.le_of_ble_eq_true rfl, Nat.le_of_ble_eq_true rfl⟩) (by decide +kernel) (by decide +kernel) (by decide +kernel) (by decide +kernel) hM2.1 (C := RX7) (T := TX7) (N := 15) rfl rfl rfl (Nat.le_of_ble_eq_true rfl) (by show k + k1 + k2 + 0 ≤ 601024; omega) (by show n + n1 + n2 + 0 ≤ 7293033; omega) dL_law_1130 ?_
  refine gI_iload hB 1 dL_law_1133 rfl ?_
  refine gI_icmp_eq hB 1140 dL_law_1135 (by decide) (fun c9 => ?_) (fun c9 => absurd rfl c9)
  refine gI_iload hB 1 dL_law_1140 rfl ?_
  have fin : gW X h2 (k + k1 + k2) (n + n1 + n2) 1157 [(6, .int (mSung u (xs (7 * j + 1)) (xs (7 * j + 2))).2), (5, .int ((mSung u (xs (7 * j + 1)) (xs (7 * j + 2))).1.1 0)), (4, .int (nI (7 * j))), (3, .ref ob), (2, .ref (a 0)), (1, .ref (c 0)), (0, .ref b)] [] := by
    refine gI_goto hB 1501 dL_law_1157 (by decide) ?_
    refine gI_loc [2, 3, 4, 5, 6] rfl ?_
    exact kk _ _ F' _ _ ⟨hW2, hM2, fo', hob2⟩ hle (by omega) (by omega)
  refine gI_if_ne hB 1157 dL_law_1142 (by decide) (fun c8 => fin) (fun c8 => ?_)
  refine gI_aload_n hB 3 dL_law_1145 rfl ?_
  refine gI_iconst (v := nI 0) hB dL_law_1146 (by decide) ?_
  refine gC_lald hB hob2 dL_law_1147 ?_
  refine gI_iload hB 0 dL_law_1148 rfl ?_
  refine gI_i2l hB dL_law_1150 ?_
  refine gI_lcmp hB dL_law_1151 ?_
  have e8 := ho (c8.trans (by decide))
  rw [e8, lg_cmp_self]
  exact gI_if_eq hB 1157 dL_law_1152 (by decide) (fun _ => fin) (fun c7 => absurd rfl c7)

set_option maxRecDepth 100000 in
set_option maxHeartbeats 4000000 in
theorem l_through {X : gX} {h : gH} {k n b L j : Nat} {xs : Nat → Int32} {c a : Nat → Nat} {ob F : Nat} {u : MS} (hB : gB X room_1 cL_law wsL_law RL) (hNx : gNx X.1.2.2.2.2.1) (hnL : gnL X = 9) (hS9 : gScr X b L xs) (hL : L ≤ 3584) (hj : 7 * j + 7 ≤ L) (hs : lSt X h c a ob u F) (hk : k + 9000 ≤ 601024) (hn : n + 60000 ≤ 7293033) (kk : lK X b c a ob j F k n) : gW X h k n 1160 (lLC b c a ob j) [] := by
  obtain ⟨⟨Λ, T, W, z, hC, o, rfl⟩, hM, fo, hob⟩ := hs
  refine gI_aload_n hB 3 dL_law_1160 rfl ?_
  refine gI_aload_n hB 4 dL_law_1161 rfl ?_
  refine gI_iload hB 0 dL_law_1162 rfl ?_
  refine gI_iconst (v := nI 1) hB dL_law_1164 (by decide) ?_
  refine gI_iaddN hB dL_law_1165 ?_
  refine gI_sld hB hS9 (7 * j + 1) (by omega) hL dL_law_1166 ?_
  refine gI_aload_n hB 4 dL_law_1167 rfl ?_
  refine gI_iload hB 0 dL_law_1168 rfl ?_
  refine gI_iconst (v := nI 2) hB dL_law_1170 (by decide) ?_
  refine gI_iaddN hB dL_law_1171 ?_
  refine gI_sld hB hS9 (7 * j + 2) (by omega) hL dL_law_1172 ?_
  refine gI_aload_n hB 1 dL_law_1173 rfl ?_
  refine gI_callSN (n9 := 4) (As := [.ref (c 0), .int (xs (7 * j + 1)), .int (xs (7 * j + 2)), .ref ob]) (rest := []) hB hNx (w_through X.2.1 h c Λ u T W z hC o (xs (7 * j + 1)) (xs (7 * j + 2)) ob fo hob) (gCW.ofW ggL_law_L_through rfl ⟨by decide, by decide, by decide +kernel⟩ ⟨Nat.le_of_ble_eq_true rfl, Nat.le_of_ble_eq_true rfl⟩) (by decide +kernel) (by decide +kernel) (by decide +kernel) rfl rfl (Nat.le_of_ble_eq_true rfl) (by show k + 1 ≤ 601024; omega) (by show n + 6 ≤ 7293033; omega) dL_law_1174 (fun v9 h1 k1 n1 hp => ?_) (fun E9 h1 k1 n1 hp => by obtain ⟨F9, f9, e9, -⟩ := hp; cases e9)
  obtain ⟨F', fo', e9, hW1, hob1, ho, hf, hle, hk1, hn1⟩ := hp
  cases e9
  have hF1 := hW1.le
  have hM1 := hM.keepO hob hf
  refine gI_istore hB ([(5, .int ((mThrough u (xs (7 * j + 1)) (xs (7 * j + 2))).1.1 0)), (4, .int (nI (7 * j))), (3, .ref ob), (2, .ref (a 0)), (1, .ref (c 0)), (0, .ref b)]) hnL dL_law_1177 (by decide) rfl ?_
  refine gI_aload_n hB 3 dL_law_1179 rfl ?_
  refine gI_aload_n hB 5 dL_law_1180 rfl ?_
  refine gI_iload hB 1 dL_law_1181 rfl ?_
  refine gI_iconst (v := nI 1) hB dL_law_1183 (by decide) ?_
  refine gI_iaddN hB dL_law_1184 ?_
  refine gI_sld hB hS9 (7 * j + 1) (by omega) hL dL_law_1185 ?_
  refine gI_aload_n hB 5 dL_law_1186 rfl ?_
  refine gI_iload hB 1 dL_law_1187 rfl ?_
  refine gI_iconst (v := nI 2) hB dL_law_1189 (by decide) ?_
  refine gI_iaddN hB dL_law_1190 ?_
  refine gI_sld hB hS9 (7 * j + 2) (by omega) hL dL_law_1191 ?_
  refine gM_call (n9 := 2) (As := [.int (xs (7 * j + 1)), .int (xs (7 * j + 2))]) (rest := []) hB hM1 (mFr.rf (h := h1)) (c_through X.2.1 h1 a u T W z hM1 o (xs (7 * j + 1)) (xs (7 * j + 2))) (gCW.of ggL_law_X7_through rfl ⟨by decide, by decide, by decide +kernel⟩ ⟨Nat.le_of_ble_eq_true rfl, Nat.le_of_ble_eq_true rfl⟩) (by decide +kernel) (by decide +kernel) (by decide +kernel) (by decide +kernel) rfl rfl (Nat.le_of_ble_eq_true rfl) (by show k + k1 + 0 ≤ 601024; omega) (by show n + n1 + 0 ≤ 7293033; omega) (fun _ _ _ _ h9 => by cases h9.1) dL_law_1192 (fun v9 h2 u2 k2 n2 hM2 hFr hp => ?_)
  obtain ⟨e9, rfl, hk2, hn2⟩ := hp
  cases e9
  have hW2 := hW1.mfr hFr
  have hob2 := hFr _ _ hob1 rfl
  refine gI_istore hB ([(6, .int (mThrough u (xs (7 * j + 1)) (xs (7 * j + 2))).2), (5, .int ((mThrough u (xs (7 * j + 1)) (xs (7 * j + 2))).1.1 0)), (4, .int (nI (7 * j))), (3, .ref ob), (2, .ref (a 0)), (1, .ref (c 0)), (0, .ref b)]) hnL dL_law_1195 (by decide) rfl ?_
  refine gI_aload_n hB 4 dL_law_1197 rfl ?_
  refine gI_pureV (n9 := 0) (As := []) (rest := []) hB (c_thrown X.2.1 h2 a (mThrough u (xs (7 * j + 1)) (xs (7 * j + 2))).1 hM2) (gCW.of ggL_law_X7_thrown rfl ⟨by decide, by decide, by decide +kernel⟩ ⟨Nat.le_of_ble_eq_true rfl, Nat.le_of_ble_eq_true rfl⟩) (by decide +kernel) (by decide +kernel) (by decide +kernel) (by decide +kernel) hM2.1 (C := RX7) (T := TX7) (N := 15) rfl rfl rfl (Nat.le_of_ble_eq_true rfl) (by show k + k1 + k2 + 0 ≤ 601024; omega) (by show n + n1 + n2 + 0 ≤ 7293033; omega) dL_law_1198 ?_
  refine gI_iload hB 1 dL_law_1201 rfl ?_
  refine gI_icmp_eq hB 1208 dL_law_1203 (by decide) (fun c9 => ?_) (fun c9 => absurd rfl c9)
  refine gI_iload hB 1 dL_law_1208 rfl ?_
  have fin : gW X h2 (k + k1 + k2) (n + n1 + n2) 1225 [(6, .int (mThrough u (xs (7 * j + 1)) (xs (7 * j + 2))).2), (5, .int ((mThrough u (xs (7 * j + 1)) (xs (7 * j + 2))).1.1 0)), (4, .int (nI (7 * j))), (3, .ref ob), (2, .ref (a 0)), (1, .ref (c 0)), (0, .ref b)] [] := by
    refine gI_goto hB 1501 dL_law_1225 (by decide) ?_
    refine gI_loc [2, 3, 4, 5, 6] rfl ?_
    exact kk _ _ F' _ _ ⟨hW2, hM2, fo', hob2⟩ hle (by omega) (by omega)
  refine gI_if_ne hB 1225 dL_law_1210 (by decide) (fun c8 => fin) (fun c8 => ?_)
  refine gI_aload_n hB 3 dL_law_1213 rfl ?_
  refine gI_iconst (v := nI 0) hB dL_law_1214 (by decide) ?_
  refine gC_lald hB hob2 dL_law_1215 ?_
  refine gI_iload hB 0 dL_law_1216 rfl ?_
  refine gI_i2l hB dL_law_1218 ?_
  refine gI_lcmp hB dL_law_1219 ?_
  have e8 := ho (c8.trans (by decide))
  rw [e8, lg_cmp_self]
  exact gI_if_eq hB 1225 dL_law_1220 (by decide) (fun _ => fin) (fun c7 => absurd rfl c7)

set_option maxRecDepth 100000 in
set_option maxHeartbeats 4000000 in
theorem l_sounds {X : gX} {h : gH} {k n b L j : Nat} {xs : Nat → Int32} {c a : Nat → Nat} {ob F : Nat} {u : MS} (hB : gB X room_1 cL_law wsL_law RL) (hNx : gNx X.1.2.2.2.2.1) (hnL : gnL X = 9) (hS9 : gScr X b L xs) (hL : L ≤ 3584) (hj : 7 * j + 7 ≤ L) (hs : lSt X h c a ob u F) (hk : k + 9000 ≤ 601024) (hn : n + 60000 ≤ 7293033) (kk : lK X b c a ob j F k n) : gW X h k n 1228 (lLC b c a ob j) [] := by
  obtain ⟨⟨Λ, T, W, z, hC, o, rfl⟩, hM, fo, hob⟩ := hs
  refine gI_aload_n hB 3 dL_law_1228 rfl ?_
  refine gI_aload_n hB 4 dL_law_1229 rfl ?_
  refine gI_iload hB 0 dL_law_1230 rfl ?_
  refine gI_iconst (v := nI 1) hB dL_law_1232 (by decide) ?_
  refine gI_iaddN hB dL_law_1233 ?_
  refine gI_sld hB hS9 (7 * j + 1) (by omega) hL dL_law_1234 ?_
  refine gI_aload_n hB 4 dL_law_1235 rfl ?_
  refine gI_iload hB 0 dL_law_1236 rfl ?_
  refine gI_iconst (v := nI 2) hB dL_law_1238 (by decide) ?_
  refine gI_iaddN hB dL_law_1239 ?_
  refine gI_sld hB hS9 (7 * j + 2) (by omega) hL dL_law_1240 ?_
  refine gI_aload_n hB 1 dL_law_1241 rfl ?_
  refine gI_callSN (n9 := 4) (As := [.ref (c 0), .int (xs (7 * j + 1)), .int (xs (7 * j + 2)), .ref ob]) (rest := []) hB hNx (w_sounds X.2.1 h c Λ u T W z hC o (xs (7 * j + 1)) (xs (7 * j + 2)) ob fo hob) (gCW.ofW ggL_law_L_sounds rfl ⟨by decide, by decide, by decide +kernel⟩ ⟨Nat.le_of_ble_eq_true rfl, Nat.le_of_ble_eq_true rfl⟩) (by decide +kernel) (by decide +kernel) (by decide +kernel) rfl rfl (Nat.le_of_ble_eq_true rfl) (by show k + 1 ≤ 601024; omega) (by show n + 6 ≤ 7293033; omega) dL_law_1242 (fun v9 h1 k1 n1 hp => ?_) (fun E9 h1 k1 n1 hp => by obtain ⟨F9, f9, e9, -⟩ := hp; cases e9)
  obtain ⟨F', fo', e9, hW1, hob1, ho, hf, hle, hk1, hn1⟩ := hp
  cases e9
  have hF1 := hW1.le
  have hM1 := hM.keepO hob hf
  refine gI_istore hB ([(5, .int ((mSounds u (xs (7 * j + 1)) (xs (7 * j + 2))).1.1 0)), (4, .int (nI (7 * j))), (3, .ref ob), (2, .ref (a 0)), (1, .ref (c 0)), (0, .ref b)]) hnL dL_law_1245 (by decide) rfl ?_
  refine gI_aload_n hB 3 dL_law_1247 rfl ?_
  refine gI_aload_n hB 5 dL_law_1248 rfl ?_
  refine gI_iload hB 1 dL_law_1249 rfl ?_
  refine gI_iconst (v := nI 1) hB dL_law_1251 (by decide) ?_
  refine gI_iaddN hB dL_law_1252 ?_
  refine gI_sld hB hS9 (7 * j + 1) (by omega) hL dL_law_1253 ?_
  refine gI_aload_n hB 5 dL_law_1254 rfl ?_
  refine gI_iload hB 1 dL_law_1255 rfl ?_
  refine gI_iconst (v := nI 2) hB dL_law_1257 (by decide) ?_
  refine gI_iaddN hB dL_law_1258 ?_
  refine gI_sld hB hS9 (7 * j + 2) (by omega) hL dL_law_1259 ?_
  refine gM_call (n9 := 2) (As := [.int (xs (7 * j + 1)), .int (xs (7 * j + 2))]) (rest := []) hB hM1 (mFr.rf (h := h1)) (c_sounds X.2.1 h1 a u T W z hM1 o (xs (7 * j + 1)) (xs (7 * j + 2))) (gCW.of ggL_law_X7_sounds rfl ⟨by decide, by decide, by decide +kernel⟩ ⟨Nat.le_of_ble_eq_true rfl, Nat.le_of_ble_eq_true rfl⟩) (by decide +kernel) (by decide +kernel) (by decide +kernel) (by decide +kernel) rfl rfl (Nat.le_of_ble_eq_true rfl) (by show k + k1 + 0 ≤ 601024; omega) (by show n + n1 + 0 ≤ 7293033; omega) (fun _ _ _ _ h9 => by cases h9.1) dL_law_1260 (fun v9 h2 u2 k2 n2 hM2 hFr hp => ?_)
  obtain ⟨e9, rfl, hk2, hn2⟩ := hp
  cases e9
  have hW2 := hW1.mfr hFr
  have hob2 := hFr _ _ hob1 rfl
  refine gI_istore hB ([(6, .int (mSounds u (xs (7 * j + 1)) (xs (7 * j + 2))).2), (5, .int ((mSounds u (xs (7 * j + 1)) (xs (7 * j + 2))).1.1 0)), (4, .int (nI (7 * j))), (3, .ref ob), (2, .ref (a 0)), (1, .ref (c 0)), (0, .ref b)]) hnL dL_law_1263 (by decide) rfl ?_
  refine gI_aload_n hB 4 dL_law_1265 rfl ?_
  refine gI_pureV (n9 := 0) (As := []) (rest := []) hB (c_thrown X.2.1 h2 a (mSounds u (xs (7 * j + 1)) (xs (7 * j + 2))).1 hM2) (gCW.of ggL_law_X7_thrown rfl ⟨by decide, by decide, by decide +kernel⟩ ⟨Nat.le_of_ble_eq_true rfl, Nat.le_of_ble_eq_true rfl⟩) (by decide +kernel) (by decide +kernel) (by decide +kernel) (by decide +kernel) hM2.1 (C := RX7) (T := TX7) (N := 15) rfl rfl rfl (Nat.le_of_ble_eq_true rfl) (by show k + k1 + k2 + 0 ≤ 601024; omega) (by show n + n1 + n2 + 0 ≤ 7293033; omega) dL_law_1266 ?_
  refine gI_iload hB 1 dL_law_1269 rfl ?_
  refine gI_icmp_eq hB 1276 dL_law_1271 (by decide) (fun c9 => ?_) (fun c9 => absurd rfl c9)
  refine gI_iload hB 1 dL_law_1276 rfl ?_
  have fin : gW X h2 (k + k1 + k2) (n + n1 + n2) 1293 [(6, .int (mSounds u (xs (7 * j + 1)) (xs (7 * j + 2))).2), (5, .int ((mSounds u (xs (7 * j + 1)) (xs (7 * j + 2))).1.1 0)), (4, .int (nI (7 * j))), (3, .ref ob), (2, .ref (a 0)), (1, .ref (c 0)), (0, .ref b)] [] := by
    refine gI_goto hB 1501 dL_law_1293 (by decide) ?_
    refine gI_loc [2, 3, 4, 5, 6] rfl ?_
    exact kk _ _ F' _ _ ⟨hW2, hM2, fo', hob2⟩ hle (by omega) (by omega)
  refine gI_if_ne hB 1293 dL_law_1278 (by decide) (fun c8 => fin) (fun c8 => ?_)
  refine gI_aload_n hB 3 dL_law_1281 rfl ?_
  refine gI_iconst (v := nI 0) hB dL_law_1282 (by decide) ?_
  refine gC_lald hB hob2 dL_law_1283 ?_
  refine gI_iload hB 0 dL_law_1284 rfl ?_
  refine gI_i2l hB dL_law_1286 ?_
  refine gI_lcmp hB dL_law_1287 ?_
  have e8 := ho (c8.trans (by decide))
  rw [e8, lg_cmp_self]
  exact gI_if_eq hB 1293 dL_law_1288 (by decide) (fun _ => fin) (fun c7 => absurd rfl c7)

set_option maxRecDepth 100000 in
set_option maxHeartbeats 4000000 in
theorem l_reach {X : gX} {h : gH} {k n b L j : Nat} {xs : Nat → Int32} {c a : Nat → Nat} {ob F : Nat} {u : MS} (hB : gB X room_1 cL_law wsL_law RL) (hNx : gNx X.1.2.2.2.2.1) (hnL : gnL X = 9) (hS9 : gScr X b L xs) (hL : L ≤ 3584) (hj : 7 * j + 7 ≤ L) (hs : lSt X h c a ob u F) (hk : k + 9000 ≤ 601024) (hn : n + 60000 ≤ 7293033) (kk : lK X b c a ob j F k n) : gW X h k n 1322 (lLC b c a ob j) [] := by
  obtain ⟨⟨Λ, T, W, z, hC, o, rfl⟩, hM, fo, hob⟩ := hs
  refine gI_aload_n hB 3 dL_law_1322 rfl ?_
  refine gI_aload_n hB 4 dL_law_1323 rfl ?_
  refine gI_iload hB 0 dL_law_1324 rfl ?_
  refine gI_iconst (v := nI 1) hB dL_law_1326 (by decide) ?_
  refine gI_iaddN hB dL_law_1327 ?_
  refine gI_sld hB hS9 (7 * j + 1) (by omega) hL dL_law_1328 ?_
  refine gI_aload_n hB 1 dL_law_1329 rfl ?_
  refine gI_callSN (n9 := 3) (As := [.ref (c 0), .int (xs (7 * j + 1)), .ref ob]) (rest := []) hB hNx (w_reach X.2.1 h c Λ u T W z hC o (xs (7 * j + 1)) ob fo hob) (gCW.ofW ggL_law_L_reach rfl ⟨by decide, by decide, by decide +kernel⟩ ⟨Nat.le_of_ble_eq_true rfl, Nat.le_of_ble_eq_true rfl⟩) (by decide +kernel) (by decide +kernel) (by decide +kernel) rfl rfl (Nat.le_of_ble_eq_true rfl) (by show k + 1 ≤ 601024; omega) (by show n + 6 ≤ 7293033; omega) dL_law_1330 (fun v9 h1 k1 n1 hp => ?_) (fun E9 h1 k1 n1 hp => by obtain ⟨F9, f9, e9, -⟩ := hp; cases e9)
  obtain ⟨F', fo', e9, hW1, hob1, ho, hf, hle, hk1, hn1⟩ := hp
  cases e9
  have hF1 := hW1.le
  have hM1 := hM.keepO hob hf
  refine gI_istore hB ([(5, .int ((mReach u (xs (7 * j + 1))).1.1 0)), (4, .int (nI (7 * j))), (3, .ref ob), (2, .ref (a 0)), (1, .ref (c 0)), (0, .ref b)]) hnL dL_law_1333 (by decide) rfl ?_
  refine gI_aload_n hB 3 dL_law_1335 rfl ?_
  refine gI_aload_n hB 5 dL_law_1336 rfl ?_
  refine gI_iload hB 1 dL_law_1337 rfl ?_
  refine gI_iconst (v := nI 1) hB dL_law_1339 (by decide) ?_
  refine gI_iaddN hB dL_law_1340 ?_
  refine gI_sld hB hS9 (7 * j + 1) (by omega) hL dL_law_1341 ?_
  refine gM_call (n9 := 1) (As := [.int (xs (7 * j + 1))]) (rest := []) hB hM1 (mFr.rf (h := h1)) (c_reach X.2.1 h1 a u T W z hM1 o (xs (7 * j + 1))) (gCW.of ggL_law_X7_reach rfl ⟨by decide, by decide, by decide +kernel⟩ ⟨Nat.le_of_ble_eq_true rfl, Nat.le_of_ble_eq_true rfl⟩) (by decide +kernel) (by decide +kernel) (by decide +kernel) (by decide +kernel) rfl rfl (Nat.le_of_ble_eq_true rfl) (by show k + k1 + 0 ≤ 601024; omega) (by show n + n1 + 0 ≤ 7293033; omega) (fun _ _ _ _ h9 => by cases h9.1) dL_law_1342 (fun v9 h2 u2 k2 n2 hM2 hFr hp => ?_)
  obtain ⟨e9, rfl, hk2, hn2⟩ := hp
  cases e9
  have hW2 := hW1.mfr hFr
  have hob2 := hFr _ _ hob1 rfl
  refine gI_istore hB ([(6, .int (mReach u (xs (7 * j + 1))).2), (5, .int ((mReach u (xs (7 * j + 1))).1.1 0)), (4, .int (nI (7 * j))), (3, .ref ob), (2, .ref (a 0)), (1, .ref (c 0)), (0, .ref b)]) hnL dL_law_1345 (by decide) rfl ?_
  refine gI_aload_n hB 4 dL_law_1347 rfl ?_
  refine gI_pureV (n9 := 0) (As := []) (rest := []) hB (c_thrown X.2.1 h2 a (mReach u (xs (7 * j + 1))).1 hM2) (gCW.of ggL_law_X7_thrown rfl ⟨by decide, by decide, by decide +kernel⟩ ⟨Nat.le_of_ble_eq_true rfl, Nat.le_of_ble_eq_true rfl⟩) (by decide +kernel) (by decide +kernel) (by decide +kernel) (by decide +kernel) hM2.1 (C := RX7) (T := TX7) (N := 15) rfl rfl rfl (Nat.le_of_ble_eq_true rfl) (by show k + k1 + k2 + 0 ≤ 601024; omega) (by show n + n1 + n2 + 0 ≤ 7293033; omega) dL_law_1348 ?_
  refine gI_iload hB 1 dL_law_1351 rfl ?_
  refine gI_icmp_eq hB 1358 dL_law_1353 (by decide) (fun c9 => ?_) (fun c9 => absurd rfl c9)
  refine gI_iload hB 1 dL_law_1358 rfl ?_
  have fin : gW X h2 (k + k1 + k2) (n + n1 + n2) 1375 [(6, .int (mReach u (xs (7 * j + 1))).2), (5, .int ((mReach u (xs (7 * j + 1))).1.1 0)), (4, .int (nI (7 * j))), (3, .ref ob), (2, .ref (a 0)), (1, .ref (c 0)), (0, .ref b)] [] := by
    refine gI_goto hB 1501 dL_law_1375 (by decide) ?_
    refine gI_loc [2, 3, 4, 5, 6] rfl ?_
    exact kk _ _ F' _ _ ⟨hW2, hM2, fo', hob2⟩ hle (by omega) (by omega)
  refine gI_if_ne hB 1375 dL_law_1360 (by decide) (fun c8 => fin) (fun c8 => ?_)
  refine gI_aload_n hB 3 dL_law_1363 rfl ?_
  refine gI_iconst (v := nI 0) hB dL_law_1364 (by decide) ?_
  refine gC_lald hB hob2 dL_law_1365 ?_
  refine gI_iload hB 0 dL_law_1366 rfl ?_
  refine gI_i2l hB dL_law_1368 ?_
  refine gI_lcmp hB dL_law_1369 ?_
  have e8 := ho (c8.trans (by decide))
  rw [e8, lg_cmp_self]
  exact gI_if_eq hB 1375 dL_law_1370 (by decide) (fun _ => fin) (fun c7 => absurd rfl c7)

set_option maxRecDepth 100000 in
set_option maxHeartbeats 4000000 in
theorem l_hops {X : gX} {h : gH} {k n b L j : Nat} {xs : Nat → Int32} {c a : Nat → Nat} {ob F : Nat} {u : MS} (hB : gB X room_1 cL_law wsL_law RL) (hNx : gNx X.1.2.2.2.2.1) (hnL : gnL X = 9) (hS9 : gScr X b L xs) (hL : L ≤ 3584) (hj : 7 * j + 7 ≤ L) (hs : lSt X h c a ob u F) (hk : k + 9000 ≤ 601024) (hn : n + 60000 ≤ 7293033) (kk : lK X b c a ob j F k n) : gW X h k n 1378 (lLC b c a ob j) [] := by
  obtain ⟨⟨Λ, T, W, z, hC, o, rfl⟩, hM, fo, hob⟩ := hs
  refine gI_aload_n hB 3 dL_law_1378 rfl ?_
  refine gI_aload_n hB 4 dL_law_1379 rfl ?_
  refine gI_iload hB 0 dL_law_1380 rfl ?_
  refine gI_iconst (v := nI 1) hB dL_law_1382 (by decide) ?_
  refine gI_iaddN hB dL_law_1383 ?_
  refine gI_sld hB hS9 (7 * j + 1) (by omega) hL dL_law_1384 ?_
  refine gI_aload_n hB 4 dL_law_1385 rfl ?_
  refine gI_iload hB 0 dL_law_1386 rfl ?_
  refine gI_iconst (v := nI 2) hB dL_law_1388 (by decide) ?_
  refine gI_iaddN hB dL_law_1389 ?_
  refine gI_sld hB hS9 (7 * j + 2) (by omega) hL dL_law_1390 ?_
  refine gI_aload_n hB 1 dL_law_1391 rfl ?_
  refine gI_callSN (n9 := 4) (As := [.ref (c 0), .int (xs (7 * j + 1)), .int (xs (7 * j + 2)), .ref ob]) (rest := []) hB hNx (w_hops X.2.1 h c Λ u T W z hC o (xs (7 * j + 1)) (xs (7 * j + 2)) ob fo hob) (gCW.ofW ggL_law_L_hops rfl ⟨by decide, by decide, by decide +kernel⟩ ⟨Nat.le_of_ble_eq_true rfl, Nat.le_of_ble_eq_true rfl⟩) (by decide +kernel) (by decide +kernel) (by decide +kernel) rfl rfl (Nat.le_of_ble_eq_true rfl) (by show k + 1 ≤ 601024; omega) (by show n + 6 ≤ 7293033; omega) dL_law_1392 (fun v9 h1 k1 n1 hp => ?_) (fun E9 h1 k1 n1 hp => by obtain ⟨F9, f9, e9, -⟩ := hp; cases e9)
  obtain ⟨F', fo', e9, hW1, hob1, ho, hf, hle, hk1, hn1⟩ := hp
  cases e9
  have hF1 := hW1.le
  have hM1 := hM.keepO hob hf
  refine gI_istore hB ([(5, .int ((mHops u (xs (7 * j + 1)) (xs (7 * j + 2))).1.1 0)), (4, .int (nI (7 * j))), (3, .ref ob), (2, .ref (a 0)), (1, .ref (c 0)), (0, .ref b)]) hnL dL_law_1395 (by decide) rfl ?_
  refine gI_aload_n hB 3 dL_law_1397 rfl ?_
  refine gI_aload_n hB 5 dL_law_1398 rfl ?_
  refine gI_iload hB 1 dL_law_1399 rfl ?_
  refine gI_iconst (v := nI 1) hB dL_law_1401 (by decide) ?_
  refine gI_iaddN hB dL_law_1402 ?_
  refine gI_sld hB hS9 (7 * j + 1) (by omega) hL dL_law_1403 ?_
  refine gI_aload_n hB 5 dL_law_1404 rfl ?_
  refine gI_iload hB 1 dL_law_1405 rfl ?_
  refine gI_iconst (v := nI 2) hB dL_law_1407 (by decide) ?_
  refine gI_iaddN hB dL_law_1408 ?_
  refine gI_sld hB hS9 (7 * j + 2) (by omega) hL dL_law_1409 ?_
  refine gM_call (n9 := 2) (As := [.int (xs (7 * j + 1)), .int (xs (7 * j + 2))]) (rest := []) hB hM1 (mFr.rf (h := h1)) (c_hops X.2.1 h1 a u T W z hM1 o (xs (7 * j + 1)) (xs (7 * j + 2))) (gCW.of ggL_law_X7_hops rfl ⟨by decide, by decide, by decide +kernel⟩ ⟨Nat.le_of_ble_eq_true rfl, Nat.le_of_ble_eq_true rfl⟩) (by decide +kernel) (by decide +kernel) (by decide +kernel) (by decide +kernel) rfl rfl (Nat.le_of_ble_eq_true rfl) (by show k + k1 + 0 ≤ 601024; omega) (by show n + n1 + 0 ≤ 7293033; omega) (fun _ _ _ _ h9 => by cases h9.1) dL_law_1410 (fun v9 h2 u2 k2 n2 hM2 hFr hp => ?_)
  obtain ⟨e9, rfl, hk2, hn2⟩ := hp
  cases e9
  have hW2 := hW1.mfr hFr
  have hob2 := hFr _ _ hob1 rfl
  refine gI_istore hB ([(6, .int (mHops u (xs (7 * j + 1)) (xs (7 * j + 2))).2), (5, .int ((mHops u (xs (7 * j + 1)) (xs (7 * j + 2))).1.1 0)), (4, .int (nI (7 * j))), (3, .ref ob), (2, .ref (a 0)), (1, .ref (c 0)), (0, .ref b)]) hnL dL_law_1413 (by decide) rfl ?_
  refine gI_aload_n hB 4 dL_law_1415 rfl ?_
  refine gI_pureV (n9 := 0) (As := []) (rest := []) hB (c_thrown X.2.1 h2 a (mHops u (xs (7 * j + 1)) (xs (7 * j + 2))).1 hM2) (gCW.of ggL_law_X7_thrown rfl ⟨by decide, by decide, by decide +kernel⟩ ⟨Nat.le_of_ble_eq_true rfl, Nat.le_of_ble_eq_true rfl⟩) (by decide +kernel) (by decide +kernel) (by decide +kernel) (by decide +kernel) hM2.1 (C := RX7) (T := TX7) (N := 15) rfl rfl rfl (Nat.le_of_ble_eq_true rfl) (by show k + k1 + k2 + 0 ≤ 601024; omega) (by show n + n1 + n2 + 0 ≤ 7293033; omega) dL_law_1416 ?_
  refine gI_iload hB 1 dL_law_1419 rfl ?_
  refine gI_icmp_eq hB 1426 dL_law_1421 (by decide) (fun c9 => ?_) (fun c9 => absurd rfl c9)
  refine gI_iload hB 1 dL_law_1426 rfl ?_
  have fin : gW X h2 (k + k1 + k2) (n + n1 + n2) 1443 [(6, .int (mHops u (xs (7 * j + 1)) (xs (7 * j + 2))).2), (5, .int ((mHops u (xs (7 * j + 1)) (xs (7 * j + 2))).1.1 0)), (4, .int (nI (7 * j))), (3, .ref ob), (2, .ref (a 0)), (1, .ref (c 0)), (0, .ref b)] [] := by
    refine gI_goto hB 1501 dL_law_1443 (by decide) ?_
    refine gI_loc [2, 3, 4, 5, 6] rfl ?_
    exact kk _ _ F' _ _ ⟨hW2, hM2, fo', hob2⟩ hle (by omega) (by omega)
  refine gI_if_ne hB 1443 dL_law_1428 (by decide) (fun c8 => fin) (fun c8 => ?_)
  refine gI_aload_n hB 3 dL_law_1431 rfl ?_
  refine gI_iconst (v := nI 0) hB dL_law_1432 (by decide) ?_
  refine gC_lald hB hob2 dL_law_1433 ?_
  refine gI_iload hB 0 dL_law_1434 rfl ?_
  refine gI_i2l hB dL_law_1436 ?_
  refine gI_lcmp hB dL_law_1437 ?_
  have e8 := ho (c8.trans (by decide))
  rw [e8, lg_cmp_self]
  exact gI_if_eq hB 1443 dL_law_1438 (by decide) (fun _ => fin) (fun c7 => absurd rfl c7)
