set_option maxRecDepth 100000 in
set_option maxHeartbeats 4000000 in
theorem l_setHour {X : gX} {h : gH} {k n b L j : Nat} {xs : Nat → Int32} {c a : Nat → Nat} {ob F : Nat} {u : MS} (hB : gB X room_1 cL_law wsL_law RL) (hNx : gNx X.1.2.2.2.2.1) (hnL : gnL X = 9) (hS9 : gScr X b L xs) (hL : L ≤ 3584) (hj : 7 * j + 7 ≤ L) (hs : lSt X h c a ob u F) (hk : k + 9000 ≤ 601024) (hn : n + 60000 ≤ 7293033) (kk : lK X b c a ob j F k n) : gW X h k n 212 (lLC b c a ob j) [] := by
  obtain ⟨⟨Λ, T, W, z, hC, o, rfl⟩, hM, fo, hob⟩ := hs
  refine gI_aload_n hB 3 dL_law_212 rfl ?_
  refine gI_aload_n hB 4 dL_law_213 rfl ?_
  refine gI_iload hB 0 dL_law_214 rfl ?_
  refine gI_iconst (v := nI 1) hB dL_law_216 (by decide) ?_
  refine gI_iaddN hB dL_law_217 ?_
  refine gI_sld hB hS9 (7 * j + 1) (by omega) hL dL_law_218 ?_
  refine gI_aload_n hB 1 dL_law_219 rfl ?_
  refine gI_callSN (n9 := 3) (As := [.ref (c 0), .int (xs (7 * j + 1)), .ref ob]) (rest := []) hB hNx (w_setHour X.2.1 h c Λ u T W z hC o (xs (7 * j + 1)) ob fo hob) (gCW.ofW ggL_law_L_setHour rfl ⟨by decide, by decide, by decide +kernel⟩ ⟨Nat.le_of_ble_eq_true rfl, Nat.le_of_ble_eq_true rfl⟩) (by decide +kernel) (by decide +kernel) (by decide +kernel) rfl rfl (Nat.le_of_ble_eq_true rfl) (by show k + 1 ≤ 601024; omega) (by show n + 6 ≤ 7293033; omega) dL_law_220 (fun v9 h1 k1 n1 hp => ?_) (fun E9 h1 k1 n1 hp => by obtain ⟨F9, f9, e9, -⟩ := hp; cases e9)
  obtain ⟨F', fo', e9, hW1, hob1, ho, hf, hle, hk1, hn1⟩ := hp
  cases e9
  have hF1 := hW1.le
  have hM1 := hM.keepO hob hf
  refine gI_istore hB ([(5, .int ((mSetHour u (xs (7 * j + 1))).1.1 0)), (4, .int (nI (7 * j))), (3, .ref ob), (2, .ref (a 0)), (1, .ref (c 0)), (0, .ref b)]) hnL dL_law_223 (by decide) rfl ?_
  refine gI_aload_n hB 3 dL_law_225 rfl ?_
  refine gI_aload_n hB 5 dL_law_226 rfl ?_
  refine gI_iload hB 1 dL_law_227 rfl ?_
  refine gI_iconst (v := nI 1) hB dL_law_229 (by decide) ?_
  refine gI_iaddN hB dL_law_230 ?_
  refine gI_sld hB hS9 (7 * j + 1) (by omega) hL dL_law_231 ?_
  refine gM_call (n9 := 1) (As := [.int (xs (7 * j + 1))]) (rest := []) hB hM1 (mFr.rf (h := h1)) (c_setHour X.2.1 h1 a u hM1 (xs (7 * j + 1))) (gCW.of ggL_law_X7_setHour rfl ⟨by decide, by decide, by decide +kernel⟩ ⟨Nat.le_of_ble_eq_true rfl, Nat.le_of_ble_eq_true rfl⟩) (by decide +kernel) (by decide +kernel) (by decide +kernel) (by decide +kernel) rfl rfl (Nat.le_of_ble_eq_true rfl) (by show k + k1 + 0 ≤ 601024; omega) (by show n + n1 + 0 ≤ 7293033; omega) (fun _ _ _ _ h9 => by cases h9.1) dL_law_232 (fun v9 h2 u2 k2 n2 hM2 hFr hp => ?_)
  obtain ⟨e9, rfl, hk2, hn2⟩ := hp
  cases e9
  have hW2 := hW1.mfr hFr
  have hob2 := hFr _ _ hob1 rfl
  refine gI_istore hB ([(6, .int (mSetHour u (xs (7 * j + 1))).2), (5, .int ((mSetHour u (xs (7 * j + 1))).1.1 0)), (4, .int (nI (7 * j))), (3, .ref ob), (2, .ref (a 0)), (1, .ref (c 0)), (0, .ref b)]) hnL dL_law_235 (by decide) rfl ?_
  refine gI_aload_n hB 4 dL_law_237 rfl ?_
  refine gI_pureV (n9 := 0) (As := []) (rest := []) hB (c_thrown X.2.1 h2 a (mSetHour u (xs (7 * j + 1))).1 hM2) (gCW.of ggL_law_X7_thrown rfl ⟨by decide, by decide, by decide +kernel⟩ ⟨Nat.le_of_ble_eq_true rfl, Nat.le_of_ble_eq_true rfl⟩) (by decide +kernel) (by decide +kernel) (by decide +kernel) (by decide +kernel) hM2.1 (C := RX7) (T := TX7) (N := 15) rfl rfl rfl (Nat.le_of_ble_eq_true rfl) (by show k + k1 + k2 + 0 ≤ 601024; omega) (by show n + n1 + n2 + 0 ≤ 7293033; omega) dL_law_238 ?_
  refine gI_iload hB 1 dL_law_241 rfl ?_
  refine gI_icmp_eq hB 248 dL_law_243 (by decide) (fun c9 => ?_) (fun c9 => absurd rfl c9)
  refine gI_iload hB 1 dL_law_248 rfl ?_
  have fin : gW X h2 (k + k1 + k2) (n + n1 + n2) 265 [(6, .int (mSetHour u (xs (7 * j + 1))).2), (5, .int ((mSetHour u (xs (7 * j + 1))).1.1 0)), (4, .int (nI (7 * j))), (3, .ref ob), (2, .ref (a 0)), (1, .ref (c 0)), (0, .ref b)] [] := by
    refine gI_goto hB 1501 dL_law_265 (by decide) ?_
    refine gI_loc [2, 3, 4, 5, 6] rfl ?_
    exact kk _ _ F' _ _ ⟨hW2, hM2, fo', hob2⟩ hle (by omega) (by omega)
  refine gI_if_ne hB 265 dL_law_250 (by decide) (fun c8 => fin) (fun c8 => ?_)
  refine gI_aload_n hB 3 dL_law_253 rfl ?_
  refine gI_iconst (v := nI 0) hB dL_law_254 (by decide) ?_
  refine gC_lald hB hob2 dL_law_255 ?_
  refine gI_iload hB 0 dL_law_256 rfl ?_
  refine gI_i2l hB dL_law_258 ?_
  refine gI_lcmp hB dL_law_259 ?_
  have e8 := ho (c8.trans (by decide))
  rw [e8, lg_cmp_self]
  exact gI_if_eq hB 265 dL_law_260 (by decide) (fun _ => fin) (fun c7 => absurd rfl c7)

set_option maxRecDepth 100000 in
set_option maxHeartbeats 4000000 in
theorem l_addHabit {X : gX} {h : gH} {k n b L j : Nat} {xs : Nat → Int32} {c a : Nat → Nat} {ob F : Nat} {u : MS} (hB : gB X room_1 cL_law wsL_law RL) (hNx : gNx X.1.2.2.2.2.1) (hnL : gnL X = 9) (hS9 : gScr X b L xs) (hL : L ≤ 3584) (hj : 7 * j + 7 ≤ L) (hs : lSt X h c a ob u F) (hk : k + 9000 ≤ 601024) (hn : n + 60000 ≤ 7293033) (kk : lK X b c a ob j F k n) : gW X h k n 268 (lLC b c a ob j) [] := by
  obtain ⟨⟨Λ, T, W, z, hC, o, rfl⟩, hM, fo, hob⟩ := hs
  refine gI_aload_n hB 3 dL_law_268 rfl ?_
  refine gI_aload_n hB 4 dL_law_269 rfl ?_
  refine gI_iload hB 0 dL_law_270 rfl ?_
  refine gI_iconst (v := nI 1) hB dL_law_272 (by decide) ?_
  refine gI_iaddN hB dL_law_273 ?_
  refine gI_sld hB hS9 (7 * j + 1) (by omega) hL dL_law_274 ?_
  refine gI_aload_n hB 1 dL_law_275 rfl ?_
  refine gI_callSN (n9 := 3) (As := [.ref (c 0), .int (xs (7 * j + 1)), .ref ob]) (rest := []) hB hNx (w_addHabit X.2.1 h c Λ u T W z hC o (xs (7 * j + 1)) ob fo hob) (gCW.ofW ggL_law_L_addHabit rfl ⟨by decide, by decide, by decide +kernel⟩ ⟨Nat.le_of_ble_eq_true rfl, Nat.le_of_ble_eq_true rfl⟩) (by decide +kernel) (by decide +kernel) (by decide +kernel) rfl rfl (Nat.le_of_ble_eq_true rfl) (by show k + 2 ≤ 601024; omega) (by show n + 700 ≤ 7293033; omega) dL_law_276 (fun v9 h1 k1 n1 hp => ?_) (fun E9 h1 k1 n1 hp => by obtain ⟨F9, f9, e9, -⟩ := hp; cases e9)
  obtain ⟨F', fo', e9, hW1, hob1, ho, hf, hle, hk1, hn1⟩ := hp
  cases e9
  have hF1 := hW1.le
  have hM1 := hM.keepO hob hf
  refine gI_istore hB ([(5, .int ((mAddHabit u (xs (7 * j + 1))).1.1 0)), (4, .int (nI (7 * j))), (3, .ref ob), (2, .ref (a 0)), (1, .ref (c 0)), (0, .ref b)]) hnL dL_law_279 (by decide) rfl ?_
  refine gI_aload_n hB 3 dL_law_281 rfl ?_
  refine gI_aload_n hB 5 dL_law_282 rfl ?_
  refine gI_iload hB 1 dL_law_283 rfl ?_
  refine gI_iconst (v := nI 1) hB dL_law_285 (by decide) ?_
  refine gI_iaddN hB dL_law_286 ?_
  refine gI_sld hB hS9 (7 * j + 1) (by omega) hL dL_law_287 ?_
  refine gM_call (n9 := 1) (As := [.int (xs (7 * j + 1))]) (rest := []) hB hM1 (mFr.rf (h := h1)) (c_addHabit X.2.1 h1 a u T hM1 o.W (xs (7 * j + 1))) (gCW.of ggL_law_X7_addHabit rfl ⟨by decide, by decide, by decide +kernel⟩ ⟨Nat.le_of_ble_eq_true rfl, Nat.le_of_ble_eq_true rfl⟩) (by decide +kernel) (by decide +kernel) (by decide +kernel) (by decide +kernel) rfl rfl (Nat.le_of_ble_eq_true rfl) (by show k + k1 + 1 ≤ 601024; omega) (by show n + n1 + 9 ≤ 7293033; omega) (fun _ _ _ _ h9 => by cases h9.1) dL_law_288 (fun v9 h2 u2 k2 n2 hM2 hFr hp => ?_)
  obtain ⟨e9, rfl, hk2, hn2⟩ := hp
  cases e9
  have hW2 := hW1.mfr hFr
  have hob2 := hFr _ _ hob1 rfl
  refine gI_istore hB ([(6, .int (mAddHabit u (xs (7 * j + 1))).2), (5, .int ((mAddHabit u (xs (7 * j + 1))).1.1 0)), (4, .int (nI (7 * j))), (3, .ref ob), (2, .ref (a 0)), (1, .ref (c 0)), (0, .ref b)]) hnL dL_law_291 (by decide) rfl ?_
  refine gI_aload_n hB 4 dL_law_293 rfl ?_
  refine gI_pureV (n9 := 0) (As := []) (rest := []) hB (c_thrown X.2.1 h2 a (mAddHabit u (xs (7 * j + 1))).1 hM2) (gCW.of ggL_law_X7_thrown rfl ⟨by decide, by decide, by decide +kernel⟩ ⟨Nat.le_of_ble_eq_true rfl, Nat.le_of_ble_eq_true rfl⟩) (by decide +kernel) (by decide +kernel) (by decide +kernel) (by decide +kernel) hM2.1 (C := RX7) (T := TX7) (N := 15) rfl rfl rfl (Nat.le_of_ble_eq_true rfl) (by show k + k1 + k2 + 0 ≤ 601024; omega) (by show n + n1 + n2 + 0 ≤ 7293033; omega) dL_law_294 ?_
  refine gI_iload hB 1 dL_law_297 rfl ?_
  refine gI_icmp_eq hB 304 dL_law_299 (by decide) (fun c9 => ?_) (fun c9 => absurd rfl c9)
  refine gI_iload hB 1 dL_law_304 rfl ?_
  have fin : gW X h2 (k + k1 + k2) (n + n1 + n2) 321 [(6, .int (mAddHabit u (xs (7 * j + 1))).2), (5, .int ((mAddHabit u (xs (7 * j + 1))).1.1 0)), (4, .int (nI (7 * j))), (3, .ref ob), (2, .ref (a 0)), (1, .ref (c 0)), (0, .ref b)] [] := by
    refine gI_goto hB 1501 dL_law_321 (by decide) ?_
    refine gI_loc [2, 3, 4, 5, 6] rfl ?_
    exact kk _ _ F' _ _ ⟨hW2, hM2, fo', hob2⟩ hle (by omega) (by omega)
  refine gI_if_ne hB 321 dL_law_306 (by decide) (fun c8 => fin) (fun c8 => ?_)
  refine gI_aload_n hB 3 dL_law_309 rfl ?_
  refine gI_iconst (v := nI 0) hB dL_law_310 (by decide) ?_
  refine gC_lald hB hob2 dL_law_311 ?_
  refine gI_iload hB 0 dL_law_312 rfl ?_
  refine gI_i2l hB dL_law_314 ?_
  refine gI_lcmp hB dL_law_315 ?_
  have e8 := ho (c8.trans (by decide))
  rw [e8, lg_cmp_self]
  exact gI_if_eq hB 321 dL_law_316 (by decide) (fun _ => fin) (fun c7 => absurd rfl c7)

set_option maxRecDepth 100000 in
set_option maxHeartbeats 4000000 in
theorem l_setWhen {X : gX} {h : gH} {k n b L j : Nat} {xs : Nat → Int32} {c a : Nat → Nat} {ob F : Nat} {u : MS} (hB : gB X room_1 cL_law wsL_law RL) (hNx : gNx X.1.2.2.2.2.1) (hnL : gnL X = 9) (hS9 : gScr X b L xs) (hL : L ≤ 3584) (hj : 7 * j + 7 ≤ L) (hs : lSt X h c a ob u F) (hk : k + 9000 ≤ 601024) (hn : n + 60000 ≤ 7293033) (kk : lK X b c a ob j F k n) : gW X h k n 324 (lLC b c a ob j) [] := by
  obtain ⟨⟨Λ, T, W, z, hC, o, rfl⟩, hM, fo, hob⟩ := hs
  refine gI_aload_n hB 3 dL_law_324 rfl ?_
  refine gI_aload_n hB 4 dL_law_325 rfl ?_
  refine gI_iload hB 0 dL_law_326 rfl ?_
  refine gI_iconst (v := nI 1) hB dL_law_328 (by decide) ?_
  refine gI_iaddN hB dL_law_329 ?_
  refine gI_sld hB hS9 (7 * j + 1) (by omega) hL dL_law_330 ?_
  refine gI_aload_n hB 4 dL_law_331 rfl ?_
  refine gI_iload hB 0 dL_law_332 rfl ?_
  refine gI_iconst (v := nI 2) hB dL_law_334 (by decide) ?_
  refine gI_iaddN hB dL_law_335 ?_
  refine gI_sld hB hS9 (7 * j + 2) (by omega) hL dL_law_336 ?_
  refine gI_aload_n hB 4 dL_law_337 rfl ?_
  refine gI_iload hB 0 dL_law_338 rfl ?_
  refine gI_iconst (v := nI 3) hB dL_law_340 (by decide) ?_
  refine gI_iaddN hB dL_law_341 ?_
  refine gI_sld hB hS9 (7 * j + 3) (by omega) hL dL_law_342 ?_
  refine gI_aload_n hB 4 dL_law_343 rfl ?_
  refine gI_iload hB 0 dL_law_344 rfl ?_
  refine gI_iconst (v := nI 4) hB dL_law_346 (by decide) ?_
  refine gI_iaddN hB dL_law_347 ?_
  refine gI_sld hB hS9 (7 * j + 4) (by omega) hL dL_law_348 ?_
  refine gI_aload_n hB 4 dL_law_349 rfl ?_
  refine gI_iload hB 0 dL_law_350 rfl ?_
  refine gI_iconst (v := nI 5) hB dL_law_352 (by decide) ?_
  refine gI_iaddN hB dL_law_353 ?_
  refine gI_sld hB hS9 (7 * j + 5) (by omega) hL dL_law_354 ?_
  refine gI_aload_n hB 4 dL_law_355 rfl ?_
  refine gI_iload hB 0 dL_law_356 rfl ?_
  refine gI_bipush (v := nI 6) hB dL_law_358 (by decide) ?_
  refine gI_iaddN hB dL_law_360 ?_
  refine gI_sld hB hS9 (7 * j + 6) (by omega) hL dL_law_361 ?_
  refine gI_aload_n hB 1 dL_law_362 rfl ?_
  refine gI_callSN (n9 := 8) (As := [.ref (c 0), .int (xs (7 * j + 1)), .int (xs (7 * j + 2)), .int (xs (7 * j + 3)), .int (xs (7 * j + 4)), .int (xs (7 * j + 5)), .int (xs (7 * j + 6)), .ref ob]) (rest := []) hB hNx (w_setWhen X.2.1 h c Λ u T W z hC o (xs (7 * j + 1)) (xs (7 * j + 2)) (xs (7 * j + 3)) (xs (7 * j + 4)) (xs (7 * j + 5)) (xs (7 * j + 6)) ob fo hob) (gCW.ofW ggL_law_L_setWhen rfl ⟨by decide, by decide, by decide +kernel⟩ ⟨Nat.le_of_ble_eq_true rfl, Nat.le_of_ble_eq_true rfl⟩) (by decide +kernel) (by decide +kernel) (by decide +kernel) rfl rfl (Nat.le_of_ble_eq_true rfl) (by show k + 1 ≤ 601024; omega) (by show n + 6 ≤ 7293033; omega) dL_law_363 (fun v9 h1 k1 n1 hp => ?_) (fun E9 h1 k1 n1 hp => by obtain ⟨F9, f9, e9, -⟩ := hp; cases e9)
  obtain ⟨F', fo', e9, hW1, hob1, ho, hf, hle, hk1, hn1⟩ := hp
  cases e9
  have hF1 := hW1.le
  have hM1 := hM.keepO hob hf
  refine gI_istore hB ([(5, .int ((mSetWhen u (xs (7 * j + 1)) (xs (7 * j + 2)) (xs (7 * j + 3)) (xs (7 * j + 4)) (xs (7 * j + 5)) (xs (7 * j + 6))).1.1 0)), (4, .int (nI (7 * j))), (3, .ref ob), (2, .ref (a 0)), (1, .ref (c 0)), (0, .ref b)]) hnL dL_law_366 (by decide) rfl ?_
  refine gI_aload_n hB 3 dL_law_368 rfl ?_
  refine gI_aload_n hB 5 dL_law_369 rfl ?_
  refine gI_iload hB 1 dL_law_370 rfl ?_
  refine gI_iconst (v := nI 1) hB dL_law_372 (by decide) ?_
  refine gI_iaddN hB dL_law_373 ?_
  refine gI_sld hB hS9 (7 * j + 1) (by omega) hL dL_law_374 ?_
  refine gI_aload_n hB 5 dL_law_375 rfl ?_
  refine gI_iload hB 1 dL_law_376 rfl ?_
  refine gI_iconst (v := nI 2) hB dL_law_378 (by decide) ?_
  refine gI_iaddN hB dL_law_379 ?_
  refine gI_sld hB hS9 (7 * j + 2) (by omega) hL dL_law_380 ?_
  refine gI_aload_n hB 5 dL_law_381 rfl ?_
  refine gI_iload hB 1 dL_law_382 rfl ?_
  refine gI_iconst (v := nI 3) hB dL_law_384 (by decide) ?_
  refine gI_iaddN hB dL_law_385 ?_
  refine gI_sld hB hS9 (7 * j + 3) (by omega) hL dL_law_386 ?_
  refine gI_aload_n hB 5 dL_law_387 rfl ?_
  refine gI_iload hB 1 dL_law_388 rfl ?_
  refine gI_iconst (v := nI 4) hB dL_law_390 (by decide) ?_
  refine gI_iaddN hB dL_law_391 ?_
  refine gI_sld hB hS9 (7 * j + 4) (by omega) hL dL_law_392 ?_
  refine gI_aload_n hB 5 dL_law_393 rfl ?_
  refine gI_iload hB 1 dL_law_394 rfl ?_
  refine gI_iconst (v := nI 5) hB dL_law_396 (by decide) ?_
  refine gI_iaddN hB dL_law_397 ?_
  refine gI_sld hB hS9 (7 * j + 5) (by omega) hL dL_law_398 ?_
  refine gI_aload_n hB 5 dL_law_399 rfl ?_
  refine gI_iload hB 1 dL_law_400 rfl ?_
  refine gI_bipush (v := nI 6) hB dL_law_402 (by decide) ?_
  refine gI_iaddN hB dL_law_404 ?_
  refine gI_sld hB hS9 (7 * j + 6) (by omega) hL dL_law_405 ?_
  refine gM_call (n9 := 6) (As := [.int (xs (7 * j + 1)), .int (xs (7 * j + 2)), .int (xs (7 * j + 3)), .int (xs (7 * j + 4)), .int (xs (7 * j + 5)), .int (xs (7 * j + 6))]) (rest := []) hB hM1 (mFr.rf (h := h1)) (c_setWhen X.2.1 h1 a u T hM1 o.W (xs (7 * j + 1)) (xs (7 * j + 2)) (xs (7 * j + 3)) (xs (7 * j + 4)) (xs (7 * j + 5)) (xs (7 * j + 6))) (gCW.of ggL_law_X7_setWhen rfl ⟨by decide, by decide, by decide +kernel⟩ ⟨Nat.le_of_ble_eq_true rfl, Nat.le_of_ble_eq_true rfl⟩) (by decide +kernel) (by decide +kernel) (by decide +kernel) (by decide +kernel) rfl rfl (Nat.le_of_ble_eq_true rfl) (by show k + k1 + 1 ≤ 601024; omega) (by show n + n1 + 4 ≤ 7293033; omega) (fun _ _ _ _ h9 => by cases h9.1) dL_law_406 (fun v9 h2 u2 k2 n2 hM2 hFr hp => ?_)
  obtain ⟨e9, rfl, hk2, hn2⟩ := hp
  cases e9
  have hW2 := hW1.mfr hFr
  have hob2 := hFr _ _ hob1 rfl
  refine gI_istore hB ([(6, .int (mSetWhen u (xs (7 * j + 1)) (xs (7 * j + 2)) (xs (7 * j + 3)) (xs (7 * j + 4)) (xs (7 * j + 5)) (xs (7 * j + 6))).2), (5, .int ((mSetWhen u (xs (7 * j + 1)) (xs (7 * j + 2)) (xs (7 * j + 3)) (xs (7 * j + 4)) (xs (7 * j + 5)) (xs (7 * j + 6))).1.1 0)), (4, .int (nI (7 * j))), (3, .ref ob), (2, .ref (a 0)), (1, .ref (c 0)), (0, .ref b)]) hnL dL_law_409 (by decide) rfl ?_
  refine gI_aload_n hB 4 dL_law_411 rfl ?_
  refine gI_pureV (n9 := 0) (As := []) (rest := []) hB (c_thrown X.2.1 h2 a (mSetWhen u (xs (7 * j + 1)) (xs (7 * j + 2)) (xs (7 * j + 3)) (xs (7 * j + 4)) (xs (7 * j + 5)) (xs (7 * j + 6))).1 hM2) (gCW.of ggL_law_X7_thrown rfl ⟨by decide, by decide, by decide +kernel⟩ ⟨Nat.le_of_ble_eq_true rfl, Nat.le_of_ble_eq_true rfl⟩) (by decide +kernel) (by decide +kernel) (by decide +kernel) (by decide +kernel) hM2.1 (C := RX7) (T := TX7) (N := 15) rfl rfl rfl (Nat.le_of_ble_eq_true rfl) (by show k + k1 + k2 + 0 ≤ 601024; omega) (by show n + n1 + n2 + 0 ≤ 7293033; omega) dL_law_412 ?_
  refine gI_iload hB 1 dL_law_415 rfl ?_
  refine gI_icmp_eq hB 422 dL_law_417 (by decide) (fun c9 => ?_) (fun c9 => absurd rfl c9)
  refine gI_iload hB 1 dL_law_422 rfl ?_
  have fin : gW X h2 (k + k1 + k2) (n + n1 + n2) 439 [(6, .int (mSetWhen u (xs (7 * j + 1)) (xs (7 * j + 2)) (xs (7 * j + 3)) (xs (7 * j + 4)) (xs (7 * j + 5)) (xs (7 * j + 6))).2), (5, .int ((mSetWhen u (xs (7 * j + 1)) (xs (7 * j + 2)) (xs (7 * j + 3)) (xs (7 * j + 4)) (xs (7 * j + 5)) (xs (7 * j + 6))).1.1 0)), (4, .int (nI (7 * j))), (3, .ref ob), (2, .ref (a 0)), (1, .ref (c 0)), (0, .ref b)] [] := by
    refine gI_goto hB 1501 dL_law_439 (by decide) ?_
    refine gI_loc [2, 3, 4, 5, 6] rfl ?_
    exact kk _ _ F' _ _ ⟨hW2, hM2, fo', hob2⟩ hle (by omega) (by omega)
  refine gI_if_ne hB 439 dL_law_424 (by decide) (fun c8 => fin) (fun c8 => ?_)
  refine gI_aload_n hB 3 dL_law_427 rfl ?_
  refine gI_iconst (v := nI 0) hB dL_law_428 (by decide) ?_
  refine gC_lald hB hob2 dL_law_429 ?_
  refine gI_iload hB 0 dL_law_430 rfl ?_
  refine gI_i2l hB dL_law_432 ?_
  refine gI_lcmp hB dL_law_433 ?_
  have e8 := ho (c8.trans (by decide))
  rw [e8, lg_cmp_self]
  exact gI_if_eq hB 439 dL_law_434 (by decide) (fun _ => fin) (fun c7 => absurd rfl c7)

set_option maxRecDepth 100000 in
set_option maxHeartbeats 4000000 in
theorem l_setWhat {X : gX} {h : gH} {k n b L j : Nat} {xs : Nat → Int32} {c a : Nat → Nat} {ob F : Nat} {u : MS} (hB : gB X room_1 cL_law wsL_law RL) (hNx : gNx X.1.2.2.2.2.1) (hnL : gnL X = 9) (hS9 : gScr X b L xs) (hL : L ≤ 3584) (hj : 7 * j + 7 ≤ L) (hs : lSt X h c a ob u F) (hk : k + 9000 ≤ 601024) (hn : n + 60000 ≤ 7293033) (kk : lK X b c a ob j F k n) : gW X h k n 442 (lLC b c a ob j) [] := by
  obtain ⟨⟨Λ, T, W, z, hC, o, rfl⟩, hM, fo, hob⟩ := hs
  refine gI_aload_n hB 3 dL_law_442 rfl ?_
  refine gI_aload_n hB 4 dL_law_443 rfl ?_
  refine gI_iload hB 0 dL_law_444 rfl ?_
  refine gI_iconst (v := nI 1) hB dL_law_446 (by decide) ?_
  refine gI_iaddN hB dL_law_447 ?_
  refine gI_sld hB hS9 (7 * j + 1) (by omega) hL dL_law_448 ?_
  refine gI_aload_n hB 4 dL_law_449 rfl ?_
  refine gI_iload hB 0 dL_law_450 rfl ?_
  refine gI_iconst (v := nI 2) hB dL_law_452 (by decide) ?_
  refine gI_iaddN hB dL_law_453 ?_
  refine gI_sld hB hS9 (7 * j + 2) (by omega) hL dL_law_454 ?_
  refine gI_aload_n hB 4 dL_law_455 rfl ?_
  refine gI_iload hB 0 dL_law_456 rfl ?_
  refine gI_iconst (v := nI 3) hB dL_law_458 (by decide) ?_
  refine gI_iaddN hB dL_law_459 ?_
  refine gI_sld hB hS9 (7 * j + 3) (by omega) hL dL_law_460 ?_
  refine gI_aload_n hB 4 dL_law_461 rfl ?_
  refine gI_iload hB 0 dL_law_462 rfl ?_
  refine gI_iconst (v := nI 4) hB dL_law_464 (by decide) ?_
  refine gI_iaddN hB dL_law_465 ?_
  refine gI_sld hB hS9 (7 * j + 4) (by omega) hL dL_law_466 ?_
  refine gI_aload_n hB 4 dL_law_467 rfl ?_
  refine gI_iload hB 0 dL_law_468 rfl ?_
  refine gI_iconst (v := nI 5) hB dL_law_470 (by decide) ?_
  refine gI_iaddN hB dL_law_471 ?_
  refine gI_sld hB hS9 (7 * j + 5) (by omega) hL dL_law_472 ?_
  refine gI_aload_n hB 4 dL_law_473 rfl ?_
  refine gI_iload hB 0 dL_law_474 rfl ?_
  refine gI_bipush (v := nI 6) hB dL_law_476 (by decide) ?_
  refine gI_iaddN hB dL_law_478 ?_
  refine gI_sld hB hS9 (7 * j + 6) (by omega) hL dL_law_479 ?_
  refine gI_aload_n hB 1 dL_law_480 rfl ?_
  refine gI_callSN (n9 := 8) (As := [.ref (c 0), .int (xs (7 * j + 1)), .int (xs (7 * j + 2)), .int (xs (7 * j + 3)), .int (xs (7 * j + 4)), .int (xs (7 * j + 5)), .int (xs (7 * j + 6)), .ref ob]) (rest := []) hB hNx (w_setWhat X.2.1 h c Λ u T W z hC o (xs (7 * j + 1)) (xs (7 * j + 2)) (xs (7 * j + 3)) (xs (7 * j + 4)) (xs (7 * j + 5)) (xs (7 * j + 6)) ob fo hob) (gCW.ofW ggL_law_L_setWhat rfl ⟨by decide, by decide, by decide +kernel⟩ ⟨Nat.le_of_ble_eq_true rfl, Nat.le_of_ble_eq_true rfl⟩) (by decide +kernel) (by decide +kernel) (by decide +kernel) rfl rfl (Nat.le_of_ble_eq_true rfl) (by show k + 1 ≤ 601024; omega) (by show n + 6 ≤ 7293033; omega) dL_law_481 (fun v9 h1 k1 n1 hp => ?_) (fun E9 h1 k1 n1 hp => by obtain ⟨F9, f9, e9, -⟩ := hp; cases e9)
  obtain ⟨F', fo', e9, hW1, hob1, ho, hf, hle, hk1, hn1⟩ := hp
  cases e9
  have hF1 := hW1.le
  have hM1 := hM.keepO hob hf
  refine gI_istore hB ([(5, .int ((mSetWhat u (xs (7 * j + 1)) (xs (7 * j + 2)) (xs (7 * j + 3)) (xs (7 * j + 4)) (xs (7 * j + 5)) (xs (7 * j + 6))).1.1 0)), (4, .int (nI (7 * j))), (3, .ref ob), (2, .ref (a 0)), (1, .ref (c 0)), (0, .ref b)]) hnL dL_law_484 (by decide) rfl ?_
  refine gI_aload_n hB 3 dL_law_486 rfl ?_
  refine gI_aload_n hB 5 dL_law_487 rfl ?_
  refine gI_iload hB 1 dL_law_488 rfl ?_
  refine gI_iconst (v := nI 1) hB dL_law_490 (by decide) ?_
  refine gI_iaddN hB dL_law_491 ?_
  refine gI_sld hB hS9 (7 * j + 1) (by omega) hL dL_law_492 ?_
  refine gI_aload_n hB 5 dL_law_493 rfl ?_
  refine gI_iload hB 1 dL_law_494 rfl ?_
  refine gI_iconst (v := nI 2) hB dL_law_496 (by decide) ?_
  refine gI_iaddN hB dL_law_497 ?_
  refine gI_sld hB hS9 (7 * j + 2) (by omega) hL dL_law_498 ?_
  refine gI_aload_n hB 5 dL_law_499 rfl ?_
  refine gI_iload hB 1 dL_law_500 rfl ?_
  refine gI_iconst (v := nI 3) hB dL_law_502 (by decide) ?_
  refine gI_iaddN hB dL_law_503 ?_
  refine gI_sld hB hS9 (7 * j + 3) (by omega) hL dL_law_504 ?_
  refine gI_aload_n hB 5 dL_law_505 rfl ?_
  refine gI_iload hB 1 dL_law_506 rfl ?_
  refine gI_iconst (v := nI 4) hB dL_law_508 (by decide) ?_
  refine gI_iaddN hB dL_law_509 ?_
  refine gI_sld hB hS9 (7 * j + 4) (by omega) hL dL_law_510 ?_
  refine gI_aload_n hB 5 dL_law_511 rfl ?_
  refine gI_iload hB 1 dL_law_512 rfl ?_
  refine gI_iconst (v := nI 5) hB dL_law_514 (by decide) ?_
  refine gI_iaddN hB dL_law_515 ?_
  refine gI_sld hB hS9 (7 * j + 5) (by omega) hL dL_law_516 ?_
  refine gI_aload_n hB 5 dL_law_517 rfl ?_
  refine gI_iload hB 1 dL_law_518 rfl ?_
  refine gI_bipush (v := nI 6) hB dL_law_520 (by decide) ?_
  refine gI_iaddN hB dL_law_522 ?_
  refine gI_sld hB hS9 (7 * j + 6) (by omega) hL dL_law_523 ?_
  refine gM_call (n9 := 6) (As := [.int (xs (7 * j + 1)), .int (xs (7 * j + 2)), .int (xs (7 * j + 3)), .int (xs (7 * j + 4)), .int (xs (7 * j + 5)), .int (xs (7 * j + 6))]) (rest := []) hB hM1 (mFr.rf (h := h1)) (c_setWhat X.2.1 h1 a u T hM1 o.W (xs (7 * j + 1)) (xs (7 * j + 2)) (xs (7 * j + 3)) (xs (7 * j + 4)) (xs (7 * j + 5)) (xs (7 * j + 6))) (gCW.of ggL_law_X7_setWhat rfl ⟨by decide, by decide, by decide +kernel⟩ ⟨Nat.le_of_ble_eq_true rfl, Nat.le_of_ble_eq_true rfl⟩) (by decide +kernel) (by decide +kernel) (by decide +kernel) (by decide +kernel) rfl rfl (Nat.le_of_ble_eq_true rfl) (by show k + k1 + 1 ≤ 601024; omega) (by show n + n1 + 4 ≤ 7293033; omega) (fun _ _ _ _ h9 => by cases h9.1) dL_law_524 (fun v9 h2 u2 k2 n2 hM2 hFr hp => ?_)
  obtain ⟨e9, rfl, hk2, hn2⟩ := hp
  cases e9
  have hW2 := hW1.mfr hFr
  have hob2 := hFr _ _ hob1 rfl
  refine gI_istore hB ([(6, .int (mSetWhat u (xs (7 * j + 1)) (xs (7 * j + 2)) (xs (7 * j + 3)) (xs (7 * j + 4)) (xs (7 * j + 5)) (xs (7 * j + 6))).2), (5, .int ((mSetWhat u (xs (7 * j + 1)) (xs (7 * j + 2)) (xs (7 * j + 3)) (xs (7 * j + 4)) (xs (7 * j + 5)) (xs (7 * j + 6))).1.1 0)), (4, .int (nI (7 * j))), (3, .ref ob), (2, .ref (a 0)), (1, .ref (c 0)), (0, .ref b)]) hnL dL_law_527 (by decide) rfl ?_
  refine gI_aload_n hB 4 dL_law_529 rfl ?_
  refine gI_pureV (n9 := 0) (As := []) (rest := []) hB (c_thrown X.2.1 h2 a (mSetWhat u (xs (7 * j + 1)) (xs (7 * j + 2)) (xs (7 * j + 3)) (xs (7 * j + 4)) (xs (7 * j + 5)) (xs (7 * j + 6))).1 hM2) (gCW.of ggL_law_X7_thrown rfl ⟨by decide, by decide, by decide +kernel⟩ ⟨Nat.le_of_ble_eq_true rfl, Nat.le_of_ble_eq_true rfl⟩) (by decide +kernel) (by decide +kernel) (by decide +kernel) (by decide +kernel) hM2.1 (C := RX7) (T := TX7) (N := 15) rfl rfl rfl (Nat.le_of_ble_eq_true rfl) (by show k + k1 + k2 + 0 ≤ 601024; omega) (by show n + n1 + n2 + 0 ≤ 7293033; omega) dL_law_530 ?_
  refine gI_iload hB 1 dL_law_533 rfl ?_
  refine gI_icmp_eq hB 540 dL_law_535 (by decide) (fun c9 => ?_) (fun c9 => absurd rfl c9)
  refine gI_iload hB 1 dL_law_540 rfl ?_
  have fin : gW X h2 (k + k1 + k2) (n + n1 + n2) 557 [(6, .int (mSetWhat u (xs (7 * j + 1)) (xs (7 * j + 2)) (xs (7 * j + 3)) (xs (7 * j + 4)) (xs (7 * j + 5)) (xs (7 * j + 6))).2), (5, .int ((mSetWhat u (xs (7 * j + 1)) (xs (7 * j + 2)) (xs (7 * j + 3)) (xs (7 * j + 4)) (xs (7 * j + 5)) (xs (7 * j + 6))).1.1 0)), (4, .int (nI (7 * j))), (3, .ref ob), (2, .ref (a 0)), (1, .ref (c 0)), (0, .ref b)] [] := by
    refine gI_goto hB 1501 dL_law_557 (by decide) ?_
    refine gI_loc [2, 3, 4, 5, 6] rfl ?_
    exact kk _ _ F' _ _ ⟨hW2, hM2, fo', hob2⟩ hle (by omega) (by omega)
  refine gI_if_ne hB 557 dL_law_542 (by decide) (fun c8 => fin) (fun c8 => ?_)
  refine gI_aload_n hB 3 dL_law_545 rfl ?_
  refine gI_iconst (v := nI 0) hB dL_law_546 (by decide) ?_
  refine gC_lald hB hob2 dL_law_547 ?_
  refine gI_iload hB 0 dL_law_548 rfl ?_
  refine gI_i2l hB dL_law_550 ?_
  refine gI_lcmp hB dL_law_551 ?_
  have e8 := ho (c8.trans (by decide))
  rw [e8, lg_cmp_self]
  exact gI_if_eq hB 557 dL_law_552 (by decide) (fun _ => fin) (fun c7 => absurd rfl c7)

set_option maxRecDepth 100000 in
set_option maxHeartbeats 4000000 in
theorem l_dropHabit {X : gX} {h : gH} {k n b L j : Nat} {xs : Nat → Int32} {c a : Nat → Nat} {ob F : Nat} {u : MS} (hB : gB X room_1 cL_law wsL_law RL) (hNx : gNx X.1.2.2.2.2.1) (hnL : gnL X = 9) (hS9 : gScr X b L xs) (hL : L ≤ 3584) (hj : 7 * j + 7 ≤ L) (hs : lSt X h c a ob u F) (hk : k + 9000 ≤ 601024) (hn : n + 60000 ≤ 7293033) (kk : lK X b c a ob j F k n) : gW X h k n 560 (lLC b c a ob j) [] := by
  obtain ⟨⟨Λ, T, W, z, hC, o, rfl⟩, hM, fo, hob⟩ := hs
  refine gI_aload_n hB 3 dL_law_560 rfl ?_
  refine gI_aload_n hB 4 dL_law_561 rfl ?_
  refine gI_iload hB 0 dL_law_562 rfl ?_
  refine gI_iconst (v := nI 1) hB dL_law_564 (by decide) ?_
  refine gI_iaddN hB dL_law_565 ?_
  refine gI_sld hB hS9 (7 * j + 1) (by omega) hL dL_law_566 ?_
  refine gI_aload_n hB 4 dL_law_567 rfl ?_
  refine gI_iload hB 0 dL_law_568 rfl ?_
  refine gI_iconst (v := nI 2) hB dL_law_570 (by decide) ?_
  refine gI_iaddN hB dL_law_571 ?_
  refine gI_sld hB hS9 (7 * j + 2) (by omega) hL dL_law_572 ?_
  refine gI_aload_n hB 1 dL_law_573 rfl ?_
  refine gI_callSN (n9 := 4) (As := [.ref (c 0), .int (xs (7 * j + 1)), .int (xs (7 * j + 2)), .ref ob]) (rest := []) hB hNx (w_dropHabit X.2.1 h c Λ u T W z hC o (xs (7 * j + 1)) (xs (7 * j + 2)) ob fo hob) (gCW.ofW ggL_law_L_dropHabit rfl ⟨by decide, by decide, by decide +kernel⟩ ⟨Nat.le_of_ble_eq_true rfl, Nat.le_of_ble_eq_true rfl⟩) (by decide +kernel) (by decide +kernel) (by decide +kernel) rfl rfl (Nat.le_of_ble_eq_true rfl) (by show k + 1 ≤ 601024; omega) (by show n + 6 ≤ 7293033; omega) dL_law_574 (fun v9 h1 k1 n1 hp => ?_) (fun E9 h1 k1 n1 hp => by obtain ⟨F9, f9, e9, -⟩ := hp; cases e9)
  obtain ⟨F', fo', e9, hW1, hob1, ho, hf, hle, hk1, hn1⟩ := hp
  cases e9
  have hF1 := hW1.le
  have hM1 := hM.keepO hob hf
  refine gI_istore hB ([(5, .int ((mDrop u (xs (7 * j + 1)) (xs (7 * j + 2))).1.1 0)), (4, .int (nI (7 * j))), (3, .ref ob), (2, .ref (a 0)), (1, .ref (c 0)), (0, .ref b)]) hnL dL_law_577 (by decide) rfl ?_
  refine gI_aload_n hB 3 dL_law_579 rfl ?_
  refine gI_aload_n hB 5 dL_law_580 rfl ?_
  refine gI_iload hB 1 dL_law_581 rfl ?_
  refine gI_iconst (v := nI 1) hB dL_law_583 (by decide) ?_
  refine gI_iaddN hB dL_law_584 ?_
  refine gI_sld hB hS9 (7 * j + 1) (by omega) hL dL_law_585 ?_
  refine gI_aload_n hB 5 dL_law_586 rfl ?_
  refine gI_iload hB 1 dL_law_587 rfl ?_
  refine gI_iconst (v := nI 2) hB dL_law_589 (by decide) ?_
  refine gI_iaddN hB dL_law_590 ?_
  refine gI_sld hB hS9 (7 * j + 2) (by omega) hL dL_law_591 ?_
  refine gM_call (n9 := 2) (As := [.int (xs (7 * j + 1)), .int (xs (7 * j + 2))]) (rest := []) hB hM1 (mFr.rf (h := h1)) (c_dropHabit X.2.1 h1 a u T hM1 o.W (xs (7 * j + 1)) (xs (7 * j + 2))) (gCW.of ggL_law_X7_dropHabit rfl ⟨by decide, by decide, by decide +kernel⟩ ⟨Nat.le_of_ble_eq_true rfl, Nat.le_of_ble_eq_true rfl⟩) (by decide +kernel) (by decide +kernel) (by decide +kernel) (by decide +kernel) rfl rfl (Nat.le_of_ble_eq_true rfl) (by show k + k1 + 0 ≤ 601024; omega) (by show n + n1 + 0 ≤ 7293033; omega) (fun _ _ _ _ h9 => by cases h9.1) dL_law_592 (fun v9 h2 u2 k2 n2 hM2 hFr hp => ?_)
  obtain ⟨e9, rfl, hk2, hn2⟩ := hp
  cases e9
  have hW2 := hW1.mfr hFr
  have hob2 := hFr _ _ hob1 rfl
  refine gI_istore hB ([(6, .int (mDrop u (xs (7 * j + 1)) (xs (7 * j + 2))).2), (5, .int ((mDrop u (xs (7 * j + 1)) (xs (7 * j + 2))).1.1 0)), (4, .int (nI (7 * j))), (3, .ref ob), (2, .ref (a 0)), (1, .ref (c 0)), (0, .ref b)]) hnL dL_law_595 (by decide) rfl ?_
  refine gI_aload_n hB 4 dL_law_597 rfl ?_
  refine gI_pureV (n9 := 0) (As := []) (rest := []) hB (c_thrown X.2.1 h2 a (mDrop u (xs (7 * j + 1)) (xs (7 * j + 2))).1 hM2) (gCW.of ggL_law_X7_thrown rfl ⟨by decide, by decide, by decide +kernel⟩ ⟨Nat.le_of_ble_eq_true rfl, Nat.le_of_ble_eq_true rfl⟩) (by decide +kernel) (by decide +kernel) (by decide +kernel) (by decide +kernel) hM2.1 (C := RX7) (T := TX7) (N := 15) rfl rfl rfl (Nat.le_of_ble_eq_true rfl) (by show k + k1 + k2 + 0 ≤ 601024; omega) (by show n + n1 + n2 + 0 ≤ 7293033; omega) dL_law_598 ?_
  refine gI_iload hB 1 dL_law_601 rfl ?_
  refine gI_icmp_eq hB 608 dL_law_603 (by decide) (fun c9 => ?_) (fun c9 => absurd rfl c9)
  refine gI_iload hB 1 dL_law_608 rfl ?_
  have fin : gW X h2 (k + k1 + k2) (n + n1 + n2) 625 [(6, .int (mDrop u (xs (7 * j + 1)) (xs (7 * j + 2))).2), (5, .int ((mDrop u (xs (7 * j + 1)) (xs (7 * j + 2))).1.1 0)), (4, .int (nI (7 * j))), (3, .ref ob), (2, .ref (a 0)), (1, .ref (c 0)), (0, .ref b)] [] := by
    refine gI_goto hB 1501 dL_law_625 (by decide) ?_
    refine gI_loc [2, 3, 4, 5, 6] rfl ?_
    exact kk _ _ F' _ _ ⟨hW2, hM2, fo', hob2⟩ hle (by omega) (by omega)
  refine gI_if_ne hB 625 dL_law_610 (by decide) (fun c8 => fin) (fun c8 => ?_)
  refine gI_aload_n hB 3 dL_law_613 rfl ?_
  refine gI_iconst (v := nI 0) hB dL_law_614 (by decide) ?_
  refine gC_lald hB hob2 dL_law_615 ?_
  refine gI_iload hB 0 dL_law_616 rfl ?_
  refine gI_i2l hB dL_law_618 ?_
  refine gI_lcmp hB dL_law_619 ?_
  have e8 := ho (c8.trans (by decide))
  rw [e8, lg_cmp_self]
  exact gI_if_eq hB 625 dL_law_620 (by decide) (fun _ => fin) (fun c7 => absurd rfl c7)
