/-! the law's loops -/
set_option maxRecDepth 100000 in
set_option maxHeartbeats 4000000 in
theorem l_hab {X : gX} {b y : Nat} {c : Nat → Nat} {u : MS} {T W z t m time B : Nat} {gt : Nat → Nat} {sg sm nw v11 v10 v9 v8 v7 lo he : Int32} (hB : gB X room_1 cL_law wsL_law RL) (hnL : gnL X = 18) (o : mOk u T W z) (e0 : u.1 0 = nI 0) (ht : t < T) (em : u.2 0 (7 * t + 3) = nI m) (hm : m ≤ 8) (hg : ∀ j, j < m → u.2 1 (9 * (8 * t + j) + 8) = nI (gt j))
    (kk : ∀ (h : gH) (k n F : Nat), cW X.2.1 h c u F → pBud k n F B → gW X h k n 313 [(17, .int (nI m)), (16, .int (nI (pS gt m))), (15, .int (nI t)), (14, .int sg), (13, .int sm), (12, .int nw), (11, .int v11), (10, .int v10), (9, .int v9), (8, .int v8), (7, .int v7), (6, .int (nI time)), (5, .int lo), (4, .int he), (3, .int (nI T)), (2, .ref y), (1, .ref (c 0)), (0, .ref b)] []) : ∀ (r j : Nat) (h : gH) (k n F : Nat), j + r = m → cW X.2.1 h c u F → pBud k n F (B + (2 * r + 1)) → gW X h k n 280 [(17, .int (nI j)), (16, .int (nI (pS gt j))), (15, .int (nI t)), (14, .int sg), (13, .int sm), (12, .int nw), (11, .int v11), (10, .int v10), (9, .int v9), (8, .int v8), (7, .int v7), (6, .int (nI time)), (5, .int lo), (4, .int he), (3, .int (nI T)), (2, .ref y), (1, .ref (c 0)), (0, .ref b)] [] := by
  intro r
  induction r with
  | zero =>
    intro j h k n F e hW bd
    obtain rfl : j = m := by omega
    refine gI_iload hB 0 dL_law_280 rfl ?_
    refine gI_aload_n hB 16 dL_law_282 rfl ?_
    refine gI_iload hB 2 dL_law_283 rfl ?_
    refine gI_iconst (v := nI 3) hB dL_law_285 (by decide) ?_
    refine gI_cl (n9 := 2) (As := [.int (nI t), .int (nI 3)]) (rest := [.int (nI j)]) hB (B + 0) (r_tenant hW e0 ((v_tenant o e0 ht (by omega)).trans (congrArg (Prod.mk u) em))) (gCW.of ggL_law_X6_tenant rfl ⟨by decide, by decide, by decide +kernel⟩ ⟨Nat.le_of_ble_eq_true rfl, Nat.le_of_ble_eq_true rfl⟩) (by decide +kernel) (by decide +kernel) (by decide +kernel) (by decide +kernel) hW rfl rfl (Nat.le_of_ble_eq_true rfl) ⟨Nat.le_of_ble_eq_true rfl, Nat.le_of_ble_eq_true rfl⟩ ⟨Nat.le_of_ble_eq_true rfl, Nat.le_of_ble_eq_true rfl⟩ dL_law_286 (bd.to (by omega)) (fun h k n F hW bd => ?_)
    refine gI_icmp_ge hB 313 dL_law_289 (by decide) (fun _ => ?_) (fun z => absurd (Int32.le_refl _) z)
    exact kk h k n F hW (bd.to (by omega))
  | succ r ih =>
    intro j h k n F e hW bd
    refine gI_iload hB 0 dL_law_280 rfl ?_
    refine gI_aload_n hB 16 dL_law_282 rfl ?_
    refine gI_iload hB 2 dL_law_283 rfl ?_
    refine gI_iconst (v := nI 3) hB dL_law_285 (by decide) ?_
    refine gI_cl (n9 := 2) (As := [.int (nI t), .int (nI 3)]) (rest := [.int (nI j)]) hB (B + 2 * r + 2) (r_tenant hW e0 ((v_tenant o e0 ht (by omega)).trans (congrArg (Prod.mk u) em))) (gCW.of ggL_law_X6_tenant rfl ⟨by decide, by decide, by decide +kernel⟩ ⟨Nat.le_of_ble_eq_true rfl, Nat.le_of_ble_eq_true rfl⟩) (by decide +kernel) (by decide +kernel) (by decide +kernel) (by decide +kernel) hW rfl rfl (Nat.le_of_ble_eq_true rfl) ⟨Nat.le_of_ble_eq_true rfl, Nat.le_of_ble_eq_true rfl⟩ ⟨Nat.le_of_ble_eq_true rfl, Nat.le_of_ble_eq_true rfl⟩ dL_law_286 (bd.to (by omega)) (fun h k n F hW bd => ?_)
    refine gI_icmp_ge hB 313 dL_law_289 (by decide) (fun z => absurd z (Int32.not_le.mpr (nI_lt (a := j) (b := m) (by omega) (by omega)))) (fun _ => ?_)
    refine gI_iload hB 1 dL_law_292 rfl ?_
    refine gI_aload_n hB 16 dL_law_294 rfl ?_
    refine gI_iload hB 2 dL_law_295 rfl ?_
    refine gI_iload hB 0 dL_law_297 rfl ?_
    refine gI_bipush (v := nI 8) hB dL_law_299 (by decide) ?_
    refine gI_cl (n9 := 3) (As := [.int (nI t), .int (nI j), .int (nI 8)]) (rest := [.int (nI (pS gt j))]) hB (B + 2 * r + 1) (r_habit hW e0 ((v_habit o e0 ht em hm (show j < m by omega) (by omega)).trans (congrArg (Prod.mk u) (hg j (by omega))))) (gCW.of ggL_law_X6_habit rfl ⟨by decide, by decide, by decide +kernel⟩ ⟨Nat.le_of_ble_eq_true rfl, Nat.le_of_ble_eq_true rfl⟩) (by decide +kernel) (by decide +kernel) (by decide +kernel) (by decide +kernel) hW rfl rfl (Nat.le_of_ble_eq_true rfl) ⟨Nat.le_of_ble_eq_true rfl, Nat.le_of_ble_eq_true rfl⟩ ⟨Nat.le_of_ble_eq_true rfl, Nat.le_of_ble_eq_true rfl⟩ dL_law_301 (bd.to (by omega)) (fun h k n F hW bd => ?_)
    refine gI_iaddN hB dL_law_304 ?_
    refine gI_istore hB ([(16, .int (nI ((pS gt j) + (gt j)))), (17, .int (nI j)), (15, .int (nI t)), (14, .int sg), (13, .int sm), (12, .int nw), (11, .int v11), (10, .int v10), (9, .int v9), (8, .int v8), (7, .int v7), (6, .int (nI time)), (5, .int lo), (4, .int he), (3, .int (nI T)), (2, .ref y), (1, .ref (c 0)), (0, .ref b)]) hnL dL_law_305 (by decide) rfl ?_
    refine gI_iinc hB 1 ([(17, .int (nI (j + 1))), (16, .int (nI ((pS gt j) + (gt j)))), (15, .int (nI t)), (14, .int sg), (13, .int sm), (12, .int nw), (11, .int v11), (10, .int v10), (9, .int v9), (8, .int v8), (7, .int v7), (6, .int (nI time)), (5, .int lo), (4, .int he), (3, .int (nI T)), (2, .ref y), (1, .ref (c 0)), (0, .ref b)]) hnL dL_law_307 rfl (nI_1 (j)) (by decide) rfl ?_
    refine gI_goto hB 280 dL_law_310 (by decide) ?_
    exact ih (j + 1) h k n F (by omega) hW (bd.to (by omega))

set_option maxRecDepth 100000 in
set_option maxHeartbeats 4000000 in
theorem l_ten {X : gX} {b y : Nat} {c : Nat → Nat} {u : MS} {T W z τ time B : Nat} {a bb : Nat → Nat} {g : Nat → Nat → Nat} {nw v11 v10 v9 v8 v7 lo he : Int32} (hB : gB X room_1 cL_law wsL_law RL) (hnL : gnL X = 18) (o : mOk u T W z) (qc : pC u T τ 0 0 0 a bb g) (hτ : τ < 999999)
    (kk : ∀ (h : gH) (k n F : Nat), cW X.2.1 h c u F → pBud k n F B → gW X h k n 377 [(15, .int (nI T)), (14, .int (nI (pS bb T))), (13, .int (nI (pS a T))), (12, .int nw), (11, .int v11), (10, .int v10), (9, .int v9), (8, .int v8), (7, .int v7), (6, .int (nI time)), (5, .int lo), (4, .int he), (3, .int (nI T)), (2, .ref y), (1, .ref (c 0)), (0, .ref b)] []) : ∀ (r t : Nat) (h : gH) (k n F : Nat), t + r = T → cW X.2.1 h c u F → pBud k n F (B + 30 * r) → gW X h k n 244 [(15, .int (nI t)), (14, .int (nI (pS bb t))), (13, .int (nI (pS a t))), (12, .int nw), (11, .int v11), (10, .int v10), (9, .int v9), (8, .int v8), (7, .int v7), (6, .int (nI time)), (5, .int lo), (4, .int he), (3, .int (nI T)), (2, .ref y), (1, .ref (c 0)), (0, .ref b)] [] := by
  have e0 : u.1 0 = nI 0 := qc.2.2.2.2.2
  have hT := o.2.1
  intro r
  induction r with
  | zero =>
    intro t h k n F e hW bd
    obtain rfl : t = T := by omega
    refine gI_iload hB 0 dL_law_244 rfl ?_
    refine gI_iload_n hB 12 dL_law_246 rfl ?_
    refine gI_icmp_ge hB 377 dL_law_247 (by decide) (fun _ => ?_) (fun z => absurd (Int32.le_refl _) z)
    exact kk h k n F hW (bd.to (by omega))
  | succ r ih =>
    intro t h k n F e hW bd
    have ht : t < T := by omega
    have hc := qc.1 t ht
    rw [ite_self] at hc
    obtain ⟨c4, c5, c54, ca, cg, cf⟩ := hc
    obtain ⟨m, hm, em, ⟨p, hp, ep⟩, ⟨q, hq, eq⟩, hpq, -⟩ := o.2.2.2.2.2.2.2.1 t ht
    have emm := mMany_of hm em
    rw [emm] at cg cf
    have hat : a t ≤ τ + 1 := by rcases ca with z9 | z9 <;> omega
    refine gI_iload hB 0 dL_law_244 rfl ?_
    refine gI_iload_n hB 12 dL_law_246 rfl ?_
    refine gI_icmp_ge hB 377 dL_law_247 (by decide) (fun z => absurd z (Int32.not_le.mpr (nI_lt (a := t) (b := T) (by omega) (by omega)))) (fun _ => ?_)
    refine gI_iload hB 2 dL_law_250 rfl ?_
    refine gI_aload_n hB 14 dL_law_252 rfl ?_
    refine gI_iload hB 0 dL_law_253 rfl ?_
    refine gI_iconst (v := nI 4) hB dL_law_255 (by decide) ?_
    refine gI_cl (n9 := 2) (As := [.int (nI t), .int (nI 4)]) (rest := [.int (nI (pS a t))]) hB (B + 30 * r + 29) (r_tenant hW e0 ((v_tenant o e0 ht (by omega)).trans (congrArg (Prod.mk u) c4))) (gCW.of ggL_law_X6_tenant rfl ⟨by decide, by decide, by decide +kernel⟩ ⟨Nat.le_of_ble_eq_true rfl, Nat.le_of_ble_eq_true rfl⟩) (by decide +kernel) (by decide +kernel) (by decide +kernel) (by decide +kernel) hW rfl rfl (Nat.le_of_ble_eq_true rfl) ⟨Nat.le_of_ble_eq_true rfl, Nat.le_of_ble_eq_true rfl⟩ ⟨Nat.le_of_ble_eq_true rfl, Nat.le_of_ble_eq_true rfl⟩ dL_law_256 (bd.to (by omega)) (fun h k n F hW bd => ?_)
    refine gI_iaddN hB dL_law_259 ?_
    refine gI_istore hB ([(13, .int (nI ((pS a t) + (a t)))), (15, .int (nI t)), (14, .int (nI (pS bb t))), (12, .int nw), (11, .int v11), (10, .int v10), (9, .int v9), (8, .int v8), (7, .int v7), (6, .int (nI time)), (5, .int lo), (4, .int he), (3, .int (nI T)), (2, .ref y), (1, .ref (c 0)), (0, .ref b)]) hnL dL_law_260 (by decide) rfl ?_
    refine gI_iload hB 2 dL_law_262 rfl ?_
    refine gI_aload_n hB 14 dL_law_264 rfl ?_
    refine gI_iload hB 1 dL_law_265 rfl ?_
    refine gI_iconst (v := nI 5) hB dL_law_267 (by decide) ?_
    refine gI_cl (n9 := 2) (As := [.int (nI t), .int (nI 5)]) (rest := [.int (nI (pS bb t))]) hB (B + 30 * r + 28) (r_tenant hW e0 ((v_tenant o e0 ht (by omega)).trans (congrArg (Prod.mk u) c5))) (gCW.of ggL_law_X6_tenant rfl ⟨by decide, by decide, by decide +kernel⟩ ⟨Nat.le_of_ble_eq_true rfl, Nat.le_of_ble_eq_true rfl⟩) (by decide +kernel) (by decide +kernel) (by decide +kernel) (by decide +kernel) hW rfl rfl (Nat.le_of_ble_eq_true rfl) ⟨Nat.le_of_ble_eq_true rfl, Nat.le_of_ble_eq_true rfl⟩ ⟨Nat.le_of_ble_eq_true rfl, Nat.le_of_ble_eq_true rfl⟩ dL_law_268 (bd.to (by omega)) (fun h k n F hW bd => ?_)
    refine gI_iaddN hB dL_law_271 ?_
    refine gI_istore hB ([(14, .int (nI ((pS bb t) + (bb t)))), (13, .int (nI ((pS a t) + (a t)))), (15, .int (nI t)), (12, .int nw), (11, .int v11), (10, .int v10), (9, .int v9), (8, .int v8), (7, .int v7), (6, .int (nI time)), (5, .int lo), (4, .int he), (3, .int (nI T)), (2, .ref y), (1, .ref (c 0)), (0, .ref b)]) hnL dL_law_272 (by decide) rfl ?_
    refine gI_iconst (v := nI 0) hB dL_law_274 (by decide) ?_
    refine gI_istore hB ([(16, .int (nI 0)), (14, .int (nI ((pS bb t) + (bb t)))), (13, .int (nI ((pS a t) + (a t)))), (15, .int (nI t)), (12, .int nw), (11, .int v11), (10, .int v10), (9, .int v9), (8, .int v8), (7, .int v7), (6, .int (nI time)), (5, .int lo), (4, .int he), (3, .int (nI T)), (2, .ref y), (1, .ref (c 0)), (0, .ref b)]) hnL dL_law_275 (by decide) rfl ?_
    refine gI_iconst (v := nI 0) hB dL_law_277 (by decide) ?_
    refine gI_istore hB ([(17, .int (nI 0)), (16, .int (nI 0)), (14, .int (nI ((pS bb t) + (bb t)))), (13, .int (nI ((pS a t) + (a t)))), (15, .int (nI t)), (12, .int nw), (11, .int v11), (10, .int v10), (9, .int v9), (8, .int v8), (7, .int v7), (6, .int (nI time)), (5, .int lo), (4, .int he), (3, .int (nI T)), (2, .ref y), (1, .ref (c 0)), (0, .ref b)]) hnL dL_law_278 (by decide) rfl ?_
    refine gI_loc [0, 1, 4, 2, 3, 5, 6, 7, 8, 9, 10, 11, 12, 13, 14, 15, 16, 17] rfl ?_
    refine l_hab (B := B + 30 * r + 6) hB hnL o e0 ht em hm cg (fun h k n F hW bd => ?_) m 0 h k n F (by omega) hW (bd.to (by omega))
    refine gI_aload_n hB 16 dL_law_313 rfl ?_
    refine gI_iload hB 2 dL_law_314 rfl ?_
    refine gI_iconst (v := nI 2) hB dL_law_316 (by decide) ?_
    refine gI_cl (n9 := 2) (As := [.int (nI t), .int (nI 2)]) (rest := []) hB (B + 30 * r + 5) (r_tenant hW e0 ((v_tenant o e0 ht (by omega)).trans (congrArg (Prod.mk u) ep))) (gCW.of ggL_law_X6_tenant rfl ⟨by decide, by decide, by decide +kernel⟩ ⟨Nat.le_of_ble_eq_true rfl, Nat.le_of_ble_eq_true rfl⟩) (by decide +kernel) (by decide +kernel) (by decide +kernel) (by decide +kernel) hW rfl rfl (Nat.le_of_ble_eq_true rfl) ⟨Nat.le_of_ble_eq_true rfl, Nat.le_of_ble_eq_true rfl⟩ ⟨Nat.le_of_ble_eq_true rfl, Nat.le_of_ble_eq_true rfl⟩ dL_law_317 (bd.to (by omega)) (fun h k n F hW bd => ?_)
    refine gI_if_lt hB 369 dL_law_320 (by decide) (fun z => absurd z (nI_pos (by omega))) (fun _ => ?_)
    refine gI_aload_n hB 16 dL_law_323 rfl ?_
    refine gI_iload hB 2 dL_law_324 rfl ?_
    refine gI_iconst (v := nI 2) hB dL_law_326 (by decide) ?_
    refine gI_cl (n9 := 2) (As := [.int (nI t), .int (nI 2)]) (rest := []) hB (B + 30 * r + 4) (r_tenant hW e0 ((v_tenant o e0 ht (by omega)).trans (congrArg (Prod.mk u) ep))) (gCW.of ggL_law_X6_tenant rfl ⟨by decide, by decide, by decide +kernel⟩ ⟨Nat.le_of_ble_eq_true rfl, Nat.le_of_ble_eq_true rfl⟩) (by decide +kernel) (by decide +kernel) (by decide +kernel) (by decide +kernel) hW rfl rfl (Nat.le_of_ble_eq_true rfl) ⟨Nat.le_of_ble_eq_true rfl, Nat.le_of_ble_eq_true rfl⟩ ⟨Nat.le_of_ble_eq_true rfl, Nat.le_of_ble_eq_true rfl⟩ dL_law_327 (bd.to (by omega)) (fun h k n F hW bd => ?_)
    refine gI_aload_n hB 16 dL_law_330 rfl ?_
    refine gI_iload hB 2 dL_law_331 rfl ?_
    refine gI_iconst (v := nI 1) hB dL_law_333 (by decide) ?_
    refine gI_cl (n9 := 2) (As := [.int (nI t), .int (nI 1)]) (rest := [.int (nI p)]) hB (B + 30 * r + 3) (r_tenant hW e0 ((v_tenant o e0 ht (by omega)).trans (congrArg (Prod.mk u) eq))) (gCW.of ggL_law_X6_tenant rfl ⟨by decide, by decide, by decide +kernel⟩ ⟨Nat.le_of_ble_eq_true rfl, Nat.le_of_ble_eq_true rfl⟩) (by decide +kernel) (by decide +kernel) (by decide +kernel) (by decide +kernel) hW rfl rfl (Nat.le_of_ble_eq_true rfl) ⟨Nat.le_of_ble_eq_true rfl, Nat.le_of_ble_eq_true rfl⟩ ⟨Nat.le_of_ble_eq_true rfl, Nat.le_of_ble_eq_true rfl⟩ dL_law_334 (bd.to (by omega)) (fun h k n F hW bd => ?_)
    refine gI_icmp_gt hB 369 dL_law_337 (by decide) (fun z => absurd z (Int32.not_lt.mpr (by rw [ep, eq] at hpq; exact hpq))) (fun _ => ?_)
    refine gI_aload_n hB 16 dL_law_340 rfl ?_
    refine gI_iload hB 2 dL_law_341 rfl ?_
    refine gI_iconst (v := nI 5) hB dL_law_343 (by decide) ?_
    refine gI_cl (n9 := 2) (As := [.int (nI t), .int (nI 5)]) (rest := []) hB (B + 30 * r + 2) (r_tenant hW e0 ((v_tenant o e0 ht (by omega)).trans (congrArg (Prod.mk u) c5))) (gCW.of ggL_law_X6_tenant rfl ⟨by decide, by decide, by decide +kernel⟩ ⟨Nat.le_of_ble_eq_true rfl, Nat.le_of_ble_eq_true rfl⟩) (by decide +kernel) (by decide +kernel) (by decide +kernel) (by decide +kernel) hW rfl rfl (Nat.le_of_ble_eq_true rfl) ⟨Nat.le_of_ble_eq_true rfl, Nat.le_of_ble_eq_true rfl⟩ ⟨Nat.le_of_ble_eq_true rfl, Nat.le_of_ble_eq_true rfl⟩ dL_law_344 (bd.to (by omega)) (fun h k n F hW bd => ?_)
    refine gI_aload_n hB 16 dL_law_347 rfl ?_
    refine gI_iload hB 2 dL_law_348 rfl ?_
    refine gI_iconst (v := nI 4) hB dL_law_350 (by decide) ?_
    refine gI_cl (n9 := 2) (As := [.int (nI t), .int (nI 4)]) (rest := [.int (nI (bb t))]) hB (B + 30 * r + 1) (r_tenant hW e0 ((v_tenant o e0 ht (by omega)).trans (congrArg (Prod.mk u) c4))) (gCW.of ggL_law_X6_tenant rfl ⟨by decide, by decide, by decide +kernel⟩ ⟨Nat.le_of_ble_eq_true rfl, Nat.le_of_ble_eq_true rfl⟩) (by decide +kernel) (by decide +kernel) (by decide +kernel) (by decide +kernel) hW rfl rfl (Nat.le_of_ble_eq_true rfl) ⟨Nat.le_of_ble_eq_true rfl, Nat.le_of_ble_eq_true rfl⟩ ⟨Nat.le_of_ble_eq_true rfl, Nat.le_of_ble_eq_true rfl⟩ dL_law_351 (bd.to (by omega)) (fun h k n F hW bd => ?_)
    refine gI_icmp_gt hB 369 dL_law_354 (by decide) (fun z => absurd z (Int32.not_lt.mpr (nI_le (a := bb t) (b := a t) (by omega) (by omega)))) (fun _ => ?_)
    refine gI_iload hB 1 dL_law_357 rfl ?_
    refine gI_aload_n hB 16 dL_law_359 rfl ?_
    refine gI_iload hB 2 dL_law_360 rfl ?_
    refine gI_iconst (v := nI 4) hB dL_law_362 (by decide) ?_
    refine gI_cl (n9 := 2) (As := [.int (nI t), .int (nI 4)]) (rest := [.int (nI (pS (g t) m))]) hB (B + 30 * r + 0) (r_tenant hW e0 ((v_tenant o e0 ht (by omega)).trans (congrArg (Prod.mk u) c4))) (gCW.of ggL_law_X6_tenant rfl ⟨by decide, by decide, by decide +kernel⟩ ⟨Nat.le_of_ble_eq_true rfl, Nat.le_of_ble_eq_true rfl⟩) (by decide +kernel) (by decide +kernel) (by decide +kernel) (by decide +kernel) hW rfl rfl (Nat.le_of_ble_eq_true rfl) ⟨Nat.le_of_ble_eq_true rfl, Nat.le_of_ble_eq_true rfl⟩ ⟨Nat.le_of_ble_eq_true rfl, Nat.le_of_ble_eq_true rfl⟩ dL_law_363 (bd.to (by omega)) (fun h k n F hW bd => ?_)
    refine gI_icmp_le hB 371 dL_law_366 (by decide) (fun _ => ?_) (fun z => absurd (nI_le (a := pS (g t) m) (b := a t) (by omega) (by omega)) z)
    refine gI_iinc hB 2 ([(15, .int (nI (t + 1))), (17, .int (nI m)), (16, .int (nI (pS (g t) m))), (14, .int (nI ((pS bb t) + (bb t)))), (13, .int (nI ((pS a t) + (a t)))), (12, .int nw), (11, .int v11), (10, .int v10), (9, .int v9), (8, .int v8), (7, .int v7), (6, .int (nI time)), (5, .int lo), (4, .int he), (3, .int (nI T)), (2, .ref y), (1, .ref (c 0)), (0, .ref b)]) hnL dL_law_371 rfl (nI_1 (t)) (by decide) rfl ?_
    refine gI_goto hB 244 dL_law_374 (by decide) ?_
    refine gI_loc [0, 3, 4, 5, 6, 7, 8, 9, 10, 11, 12, 13, 14, 15, 16, 17] rfl ?_
    exact ih (t + 1) h k n F (by omega) hW (bd.to (by omega))

set_option maxRecDepth 100000 in
set_option maxHeartbeats 4000000 in
theorem l_rng {X : gX} {b y : Nat} {c : Nat → Nat} {u : MS} {T W z τ L time B : Nat} {M : Nat → Int32} {sg sm v11 v10 v9 v8 v7 lo he : Int32} (hB : gB X room_1 cL_law wsL_law RL) (hnL : gnL X = 18) (o : mOk u T W z) (e0 : u.1 0 = nI 0) (qq : pQ u T M (τ + 1) τ L) (hτ : τ < 999999)
    (kk : ∀ (h : gH) (k n F : Nat), cW X.2.1 h c u F → pBud k n F B → gW X h k n 584 [(15, .int (nI W)), (14, .int sg), (13, .int sm), (12, .int (nI τ)), (11, .int v11), (10, .int v10), (9, .int v9), (8, .int v8), (7, .int v7), (6, .int (nI time)), (5, .int lo), (4, .int he), (3, .int (nI T)), (2, .ref y), (1, .ref (c 0)), (0, .ref b)] []) : ∀ (r j : Nat) (h : gH) (k n F : Nat), j + r = W → cW X.2.1 h c u F → pBud k n F (B + (16 * r + 1)) → gW X h k n 441 [(15, .int (nI j)), (14, .int sg), (13, .int sm), (12, .int (nI τ)), (11, .int v11), (10, .int v10), (9, .int v9), (8, .int v8), (7, .int v7), (6, .int (nI time)), (5, .int lo), (4, .int he), (3, .int (nI T)), (2, .ref y), (1, .ref (c 0)), (0, .ref b)] [] := by
  have hT := o.2.1
  have hW60 := o.2.2.2.1
  intro r
  induction r with
  | zero =>
    intro j h k n F e hW bd
    obtain rfl : j = W := by omega
    refine gI_iload hB 0 dL_law_441 rfl ?_
    refine gI_aload_n hB 14 dL_law_443 rfl ?_
    refine gI_iconst (v := nI 3) hB dL_law_444 (by decide) ?_
    refine gI_cl (n9 := 1) (As := [.int (nI 3)]) (rest := [.int (nI j)]) hB (B + 0) (r_count hW e0 ((v_count e0 (w := 3) (by omega)).trans (congrArg (Prod.mk u) o.2.2.1))) (gCW.of ggL_law_X6_count rfl ⟨by decide, by decide, by decide +kernel⟩ ⟨Nat.le_of_ble_eq_true rfl, Nat.le_of_ble_eq_true rfl⟩) (by decide +kernel) (by decide +kernel) (by decide +kernel) (by decide +kernel) hW rfl rfl (Nat.le_of_ble_eq_true rfl) ⟨Nat.le_of_ble_eq_true rfl, Nat.le_of_ble_eq_true rfl⟩ ⟨Nat.le_of_ble_eq_true rfl, Nat.le_of_ble_eq_true rfl⟩ dL_law_445 (bd.to (by omega)) (fun h k n F hW bd => ?_)
    refine gI_icmp_ge hB 584 dL_law_448 (by decide) (fun _ => ?_) (fun z => absurd (Int32.le_refl _) z)
    exact kk h k n F hW (bd.to (by omega))
  | succ r ih =>
    intro j h k n F e hW bd
    have hj : j < W := by omega
    obtain ⟨rr, p, x, v, h1, h2, er, p1, p8, ep, hx, ex, hv, ev, hin⟩ := f_ring o qq hj
    refine gI_iload hB 0 dL_law_441 rfl ?_
    refine gI_aload_n hB 14 dL_law_443 rfl ?_
    refine gI_iconst (v := nI 3) hB dL_law_444 (by decide) ?_
    refine gI_cl (n9 := 1) (As := [.int (nI 3)]) (rest := [.int (nI j)]) hB (B + 16 * r + 16) (r_count hW e0 ((v_count e0 (w := 3) (by omega)).trans (congrArg (Prod.mk u) o.2.2.1))) (gCW.of ggL_law_X6_count rfl ⟨by decide, by decide, by decide +kernel⟩ ⟨Nat.le_of_ble_eq_true rfl, Nat.le_of_ble_eq_true rfl⟩) (by decide +kernel) (by decide +kernel) (by decide +kernel) (by decide +kernel) hW rfl rfl (Nat.le_of_ble_eq_true rfl) ⟨Nat.le_of_ble_eq_true rfl, Nat.le_of_ble_eq_true rfl⟩ ⟨Nat.le_of_ble_eq_true rfl, Nat.le_of_ble_eq_true rfl⟩ dL_law_445 (bd.to (by omega)) (fun h k n F hW bd => ?_)
    refine gI_icmp_ge hB 584 dL_law_448 (by decide) (fun z => absurd z (Int32.not_le.mpr (nI_lt (a := j) (b := W) (by omega) (by omega)))) (fun _ => ?_)
    refine gI_aload_n hB 14 dL_law_451 rfl ?_
    refine gI_iload hB 0 dL_law_452 rfl ?_
    refine gI_iconst (v := nI 0) hB dL_law_454 (by decide) ?_
    refine gI_cl (n9 := 2) (As := [.int (nI j), .int (nI 0)]) (rest := []) hB (B + 16 * r + 15) (r_waiting hW e0 ((v_waiting o e0 hj (by omega)).trans (congrArg (Prod.mk u) er))) (gCW.of ggL_law_X6_waiting rfl ⟨by decide, by decide, by decide +kernel⟩ ⟨Nat.le_of_ble_eq_true rfl, Nat.le_of_ble_eq_true rfl⟩) (by decide +kernel) (by decide +kernel) (by decide +kernel) (by decide +kernel) hW rfl rfl (Nat.le_of_ble_eq_true rfl) ⟨Nat.le_of_ble_eq_true rfl, Nat.le_of_ble_eq_true rfl⟩ ⟨Nat.le_of_ble_eq_true rfl, Nat.le_of_ble_eq_true rfl⟩ dL_law_455 (bd.to (by omega)) (fun h k n F hW bd => ?_)
    refine gI_istore hB ([(16, .int (nI rr)), (15, .int (nI j)), (14, .int sg), (13, .int sm), (12, .int (nI τ)), (11, .int v11), (10, .int v10), (9, .int v9), (8, .int v8), (7, .int v7), (6, .int (nI time)), (5, .int lo), (4, .int he), (3, .int (nI T)), (2, .ref y), (1, .ref (c 0)), (0, .ref b)]) hnL dL_law_458 (by decide) rfl ?_
    refine gI_iload hB 0 dL_law_460 rfl ?_
    refine gI_iload hB 4 dL_law_462 rfl ?_
    refine gI_icmp_le hB 576 dL_law_464 (by decide) (fun z => absurd z (Int32.not_le.mpr (nI_lt (a := τ) (b := rr) (by omega) (by omega)))) (fun _ => ?_)
    refine gI_aload_n hB 15 dL_law_467 rfl ?_
    refine gI_iload hB 1 dL_law_468 rfl ?_
    refine gI_iconst (v := nI 4) hB dL_law_470 (by decide) ?_
    refine gI_cl (n9 := 2) (As := [.int (nI j), .int (nI 4)]) (rest := []) hB (B + 16 * r + 14) (r_waiting hW e0 ((v_waiting o e0 hj (by omega)).trans (congrArg (Prod.mk u) ep))) (gCW.of ggL_law_X6_waiting rfl ⟨by decide, by decide, by decide +kernel⟩ ⟨Nat.le_of_ble_eq_true rfl, Nat.le_of_ble_eq_true rfl⟩) (by decide +kernel) (by decide +kernel) (by decide +kernel) (by decide +kernel) hW rfl rfl (Nat.le_of_ble_eq_true rfl) ⟨Nat.le_of_ble_eq_true rfl, Nat.le_of_ble_eq_true rfl⟩ ⟨Nat.le_of_ble_eq_true rfl, Nat.le_of_ble_eq_true rfl⟩ dL_law_471 (bd.to (by omega)) (fun h k n F hW bd => ?_)
    refine gI_iconst (v := nI 1) hB dL_law_474 (by decide) ?_
    refine gI_icmp_lt hB 576 dL_law_475 (by decide) (fun z => absurd z (Int32.not_lt.mpr (nI_le (a := 1) (b := p) (by omega) (by omega)))) (fun _ => ?_)
    refine gI_aload_n hB 15 dL_law_478 rfl ?_
    refine gI_iload hB 1 dL_law_479 rfl ?_
    refine gI_iconst (v := nI 4) hB dL_law_481 (by decide) ?_
    refine gI_cl (n9 := 2) (As := [.int (nI j), .int (nI 4)]) (rest := []) hB (B + 16 * r + 13) (r_waiting hW e0 ((v_waiting o e0 hj (by omega)).trans (congrArg (Prod.mk u) ep))) (gCW.of ggL_law_X6_waiting rfl ⟨by decide, by decide, by decide +kernel⟩ ⟨Nat.le_of_ble_eq_true rfl, Nat.le_of_ble_eq_true rfl⟩) (by decide +kernel) (by decide +kernel) (by decide +kernel) (by decide +kernel) hW rfl rfl (Nat.le_of_ble_eq_true rfl) ⟨Nat.le_of_ble_eq_true rfl, Nat.le_of_ble_eq_true rfl⟩ ⟨Nat.le_of_ble_eq_true rfl, Nat.le_of_ble_eq_true rfl⟩ dL_law_482 (bd.to (by omega)) (fun h k n F hW bd => ?_)
    refine gI_bipush (v := nI 8) hB dL_law_485 (by decide) ?_
    refine gI_icmp_gt hB 576 dL_law_487 (by decide) (fun z => absurd z (Int32.not_lt.mpr (nI_le (a := p) (b := 8) (by omega) (by omega)))) (fun _ => ?_)
    refine gI_aload_n hB 15 dL_law_490 rfl ?_
    refine gI_iload hB 1 dL_law_491 rfl ?_
    refine gI_iconst (v := nI 2) hB dL_law_493 (by decide) ?_
    refine gI_cl (n9 := 2) (As := [.int (nI j), .int (nI 2)]) (rest := []) hB (B + 16 * r + 12) (r_waiting hW e0 ((v_waiting o e0 hj (by omega)).trans (congrArg (Prod.mk u) ev))) (gCW.of ggL_law_X6_waiting rfl ⟨by decide, by decide, by decide +kernel⟩ ⟨Nat.le_of_ble_eq_true rfl, Nat.le_of_ble_eq_true rfl⟩) (by decide +kernel) (by decide +kernel) (by decide +kernel) (by decide +kernel) hW rfl rfl (Nat.le_of_ble_eq_true rfl) ⟨Nat.le_of_ble_eq_true rfl, Nat.le_of_ble_eq_true rfl⟩ ⟨Nat.le_of_ble_eq_true rfl, Nat.le_of_ble_eq_true rfl⟩ dL_law_494 (bd.to (by omega)) (fun h k n F hW bd => ?_)
    refine gI_if_lt hB 576 dL_law_497 (by decide) (fun z => absurd z (nI_pos (by omega))) (fun _ => ?_)
    rcases Nat.eq_zero_or_pos j with hj0 | hj0
    · skip
      obtain rfl : j = 0 := by omega
      refine gI_iload hB 1 dL_law_500 rfl ?_
      refine gI_if_le hB 552 dL_law_502 (by decide) (fun _ => ?_) (fun z => absurd (Int32.le_refl _) z)
      refine gI_aload_n hB 15 dL_law_552 rfl ?_
      refine gI_aload_n hB 15 dL_law_553 rfl ?_
      refine gI_iload hB 1 dL_law_554 rfl ?_
      refine gI_iconst (v := nI 2) hB dL_law_556 (by decide) ?_
      refine gI_cl (n9 := 2) (As := [.int (nI 0), .int (nI 2)]) (rest := [.ref (c 0)]) hB (B + 16 * r + 11) (r_waiting hW e0 ((v_waiting o e0 hj (by omega)).trans (congrArg (Prod.mk u) ev))) (gCW.of ggL_law_X6_waiting rfl ⟨by decide, by decide, by decide +kernel⟩ ⟨Nat.le_of_ble_eq_true rfl, Nat.le_of_ble_eq_true rfl⟩) (by decide +kernel) (by decide +kernel) (by decide +kernel) (by decide +kernel) hW rfl rfl (Nat.le_of_ble_eq_true rfl) ⟨Nat.le_of_ble_eq_true rfl, Nat.le_of_ble_eq_true rfl⟩ ⟨Nat.le_of_ble_eq_true rfl, Nat.le_of_ble_eq_true rfl⟩ dL_law_557 (bd.to (by omega)) (fun h k n F hW bd => ?_)
      refine gI_cl (n9 := 1) (As := [.int (nI v)]) (rest := []) hB (B + 16 * r + 10) (r_reach hW e0 (v_reach o e0 hv)) (gCW.of ggL_law_X6_reach rfl ⟨by decide, by decide, by decide +kernel⟩ ⟨Nat.le_of_ble_eq_true rfl, Nat.le_of_ble_eq_true rfl⟩) (by decide +kernel) (by decide +kernel) (by decide +kernel) (by decide +kernel) hW rfl rfl (Nat.le_of_ble_eq_true rfl) ⟨Nat.le_of_ble_eq_true rfl, Nat.le_of_ble_eq_true rfl⟩ ⟨Nat.le_of_ble_eq_true rfl, Nat.le_of_ble_eq_true rfl⟩ dL_law_560 (bd.to (by omega)) (fun h k n F hW bd => ?_)
      refine gI_aload_n hB 15 dL_law_563 rfl ?_
      refine gI_iload hB 1 dL_law_564 rfl ?_
      refine gI_iconst (v := nI 1) hB dL_law_566 (by decide) ?_
      refine gI_cl (n9 := 2) (As := [.int (nI 0), .int (nI 1)]) (rest := [.int (mReachL u T (mNext u T v) T)]) hB (B + 16 * r + 9) (r_waiting hW e0 ((v_waiting o e0 hj (by omega)).trans (congrArg (Prod.mk u) ex))) (gCW.of ggL_law_X6_waiting rfl ⟨by decide, by decide, by decide +kernel⟩ ⟨Nat.le_of_ble_eq_true rfl, Nat.le_of_ble_eq_true rfl⟩) (by decide +kernel) (by decide +kernel) (by decide +kernel) (by decide +kernel) hW rfl rfl (Nat.le_of_ble_eq_true rfl) ⟨Nat.le_of_ble_eq_true rfl, Nat.le_of_ble_eq_true rfl⟩ ⟨Nat.le_of_ble_eq_true rfl, Nat.le_of_ble_eq_true rfl⟩ dL_law_567 (bd.to (by omega)) (fun h k n F hW bd => ?_)
      refine gI_ishr hB dL_law_570 ?_
      refine gI_iconst (v := nI 1) hB dL_law_571 (by decide) ?_
      refine gI_iand hB dL_law_572 ?_
      refine gI_if_ne hB 578 dL_law_573 (by decide) (fun _ => ?_) (fun z => absurd ((show mReachL u T (mNext u T v) T >>> (nI x &&& 31) &&& nI 1 = nI 1 from mReachL_in (by omega) hin T).symm.trans z) (by decide))
      refine gI_iinc hB 1 ([(15, .int (nI (0 + 1))), (16, .int (nI rr)), (14, .int sg), (13, .int sm), (12, .int (nI τ)), (11, .int v11), (10, .int v10), (9, .int v9), (8, .int v8), (7, .int v7), (6, .int (nI time)), (5, .int lo), (4, .int he), (3, .int (nI T)), (2, .ref y), (1, .ref (c 0)), (0, .ref b)]) hnL dL_law_578 rfl (nI_1 (0)) (by decide) rfl ?_
      refine gI_goto hB 441 dL_law_581 (by decide) ?_
      refine gI_loc [0, 2, 3, 4, 5, 6, 7, 8, 9, 10, 11, 12, 13, 14, 15, 16] rfl ?_
      exact ih _ h k n F (by omega) hW (bd.to (by omega))
    · skip
      obtain ⟨j9, rfl⟩ : ∃ j9, j = j9 + 1 := ⟨j - 1, by omega⟩
      obtain ⟨r0, p0, x0, v0, g1, g2, er0, g3, g4, ep0, gx, ex0, gv, ev0, -⟩ := f_ring o qq (show j9 < W by omega)
      have hord := f_ord o qq (show j9 + 1 < W by omega)
      unfold pLe at hord
      rw [er0, er, ex0, ex] at hord
      rcases hord with hlt | ⟨heq, hle⟩
      · skip
        refine gI_iload hB 1 dL_law_500 rfl ?_
        refine gI_if_le hB 552 dL_law_502 (by decide) (fun z => absurd z (Int32.not_le.mpr (nI_lt (a := 0) (b := j9 + 1) (by omega) (by omega)))) (fun _ => ?_)
        refine gI_iload hB 0 dL_law_505 rfl ?_
        refine gI_aload_n hB 15 dL_law_507 rfl ?_
        refine gI_iload hB 1 dL_law_508 rfl ?_
        refine gI_iconst (v := nI 1) hB dL_law_510 (by decide) ?_
        refine gI_isub hB dL_law_511 ?_
        refine gI_topi hB (y := nI j9) (nI_m1 j9) ?_
        refine gI_iconst (v := nI 0) hB dL_law_512 (by decide) ?_
        refine gI_cl (n9 := 2) (As := [.int (nI j9), .int (nI 0)]) (rest := [.int (nI rr)]) hB (B + 16 * r + 11) (r_waiting hW e0 ((v_waiting o e0 (show j9 < W by omega) (by omega)).trans (congrArg (Prod.mk u) er0))) (gCW.of ggL_law_X6_waiting rfl ⟨by decide, by decide, by decide +kernel⟩ ⟨Nat.le_of_ble_eq_true rfl, Nat.le_of_ble_eq_true rfl⟩) (by decide +kernel) (by decide +kernel) (by decide +kernel) (by decide +kernel) hW rfl rfl (Nat.le_of_ble_eq_true rfl) ⟨Nat.le_of_ble_eq_true rfl, Nat.le_of_ble_eq_true rfl⟩ ⟨Nat.le_of_ble_eq_true rfl, Nat.le_of_ble_eq_true rfl⟩ dL_law_513 (bd.to (by omega)) (fun h k n F hW bd => ?_)
        refine gI_icmp_lt hB 576 dL_law_516 (by decide) (fun z => absurd z (Int32.not_lt.mpr (Int32.le_of_lt hlt))) (fun _ => ?_)
        refine gI_iload hB 0 dL_law_519 rfl ?_
        refine gI_aload_n hB 15 dL_law_521 rfl ?_
        refine gI_iload hB 1 dL_law_522 rfl ?_
        refine gI_iconst (v := nI 1) hB dL_law_524 (by decide) ?_
        refine gI_isub hB dL_law_525 ?_
        refine gI_topi hB (y := nI j9) (nI_m1 j9) ?_
        refine gI_iconst (v := nI 0) hB dL_law_526 (by decide) ?_
        refine gI_cl (n9 := 2) (As := [.int (nI j9), .int (nI 0)]) (rest := [.int (nI rr)]) hB (B + 16 * r + 10) (r_waiting hW e0 ((v_waiting o e0 (show j9 < W by omega) (by omega)).trans (congrArg (Prod.mk u) er0))) (gCW.of ggL_law_X6_waiting rfl ⟨by decide, by decide, by decide +kernel⟩ ⟨Nat.le_of_ble_eq_true rfl, Nat.le_of_ble_eq_true rfl⟩) (by decide +kernel) (by decide +kernel) (by decide +kernel) (by decide +kernel) hW rfl rfl (Nat.le_of_ble_eq_true rfl) ⟨Nat.le_of_ble_eq_true rfl, Nat.le_of_ble_eq_true rfl⟩ ⟨Nat.le_of_ble_eq_true rfl, Nat.le_of_ble_eq_true rfl⟩ dL_law_527 (bd.to (by omega)) (fun h k n F hW bd => ?_)
        refine gI_icmp_ne hB 552 dL_law_530 (by decide) (fun _ => ?_) (fun z => absurd hlt (by rw [z]; exact Int32.lt_irrefl))
        refine gI_aload_n hB 15 dL_law_552 rfl ?_
        refine gI_aload_n hB 15 dL_law_553 rfl ?_
        refine gI_iload hB 1 dL_law_554 rfl ?_
        refine gI_iconst (v := nI 2) hB dL_law_556 (by decide) ?_
        refine gI_cl (n9 := 2) (As := [.int (nI (j9 + 1)), .int (nI 2)]) (rest := [.ref (c 0)]) hB (B + 16 * r + 9) (r_waiting hW e0 ((v_waiting o e0 hj (by omega)).trans (congrArg (Prod.mk u) ev))) (gCW.of ggL_law_X6_waiting rfl ⟨by decide, by decide, by decide +kernel⟩ ⟨Nat.le_of_ble_eq_true rfl, Nat.le_of_ble_eq_true rfl⟩) (by decide +kernel) (by decide +kernel) (by decide +kernel) (by decide +kernel) hW rfl rfl (Nat.le_of_ble_eq_true rfl) ⟨Nat.le_of_ble_eq_true rfl, Nat.le_of_ble_eq_true rfl⟩ ⟨Nat.le_of_ble_eq_true rfl, Nat.le_of_ble_eq_true rfl⟩ dL_law_557 (bd.to (by omega)) (fun h k n F hW bd => ?_)
        refine gI_cl (n9 := 1) (As := [.int (nI v)]) (rest := []) hB (B + 16 * r + 8) (r_reach hW e0 (v_reach o e0 hv)) (gCW.of ggL_law_X6_reach rfl ⟨by decide, by decide, by decide +kernel⟩ ⟨Nat.le_of_ble_eq_true rfl, Nat.le_of_ble_eq_true rfl⟩) (by decide +kernel) (by decide +kernel) (by decide +kernel) (by decide +kernel) hW rfl rfl (Nat.le_of_ble_eq_true rfl) ⟨Nat.le_of_ble_eq_true rfl, Nat.le_of_ble_eq_true rfl⟩ ⟨Nat.le_of_ble_eq_true rfl, Nat.le_of_ble_eq_true rfl⟩ dL_law_560 (bd.to (by omega)) (fun h k n F hW bd => ?_)
        refine gI_aload_n hB 15 dL_law_563 rfl ?_
        refine gI_iload hB 1 dL_law_564 rfl ?_
        refine gI_iconst (v := nI 1) hB dL_law_566 (by decide) ?_
        refine gI_cl (n9 := 2) (As := [.int (nI (j9 + 1)), .int (nI 1)]) (rest := [.int (mReachL u T (mNext u T v) T)]) hB (B + 16 * r + 7) (r_waiting hW e0 ((v_waiting o e0 hj (by omega)).trans (congrArg (Prod.mk u) ex))) (gCW.of ggL_law_X6_waiting rfl ⟨by decide, by decide, by decide +kernel⟩ ⟨Nat.le_of_ble_eq_true rfl, Nat.le_of_ble_eq_true rfl⟩) (by decide +kernel) (by decide +kernel) (by decide +kernel) (by decide +kernel) hW rfl rfl (Nat.le_of_ble_eq_true rfl) ⟨Nat.le_of_ble_eq_true rfl, Nat.le_of_ble_eq_true rfl⟩ ⟨Nat.le_of_ble_eq_true rfl, Nat.le_of_ble_eq_true rfl⟩ dL_law_567 (bd.to (by omega)) (fun h k n F hW bd => ?_)
        refine gI_ishr hB dL_law_570 ?_
        refine gI_iconst (v := nI 1) hB dL_law_571 (by decide) ?_
        refine gI_iand hB dL_law_572 ?_
        refine gI_if_ne hB 578 dL_law_573 (by decide) (fun _ => ?_) (fun z => absurd ((show mReachL u T (mNext u T v) T >>> (nI x &&& 31) &&& nI 1 = nI 1 from mReachL_in (by omega) hin T).symm.trans z) (by decide))
        refine gI_iinc hB 1 ([(15, .int (nI (j9 + 1 + 1))), (16, .int (nI rr)), (14, .int sg), (13, .int sm), (12, .int (nI τ)), (11, .int v11), (10, .int v10), (9, .int v9), (8, .int v8), (7, .int v7), (6, .int (nI time)), (5, .int lo), (4, .int he), (3, .int (nI T)), (2, .ref y), (1, .ref (c 0)), (0, .ref b)]) hnL dL_law_578 rfl (nI_1 (j9 + 1)) (by decide) rfl ?_
        refine gI_goto hB 441 dL_law_581 (by decide) ?_
        refine gI_loc [0, 2, 3, 4, 5, 6, 7, 8, 9, 10, 11, 12, 13, 14, 15, 16] rfl ?_
        exact ih _ h k n F (by omega) hW (bd.to (by omega))
      · skip
        refine gI_iload hB 1 dL_law_500 rfl ?_
        refine gI_if_le hB 552 dL_law_502 (by decide) (fun z => absurd z (Int32.not_le.mpr (nI_lt (a := 0) (b := j9 + 1) (by omega) (by omega)))) (fun _ => ?_)
        refine gI_iload hB 0 dL_law_505 rfl ?_
        refine gI_aload_n hB 15 dL_law_507 rfl ?_
        refine gI_iload hB 1 dL_law_508 rfl ?_
        refine gI_iconst (v := nI 1) hB dL_law_510 (by decide) ?_
        refine gI_isub hB dL_law_511 ?_
        refine gI_topi hB (y := nI j9) (nI_m1 j9) ?_
        refine gI_iconst (v := nI 0) hB dL_law_512 (by decide) ?_
        refine gI_cl (n9 := 2) (As := [.int (nI j9), .int (nI 0)]) (rest := [.int (nI rr)]) hB (B + 16 * r + 11) (r_waiting hW e0 ((v_waiting o e0 (show j9 < W by omega) (by omega)).trans (congrArg (Prod.mk u) er0))) (gCW.of ggL_law_X6_waiting rfl ⟨by decide, by decide, by decide +kernel⟩ ⟨Nat.le_of_ble_eq_true rfl, Nat.le_of_ble_eq_true rfl⟩) (by decide +kernel) (by decide +kernel) (by decide +kernel) (by decide +kernel) hW rfl rfl (Nat.le_of_ble_eq_true rfl) ⟨Nat.le_of_ble_eq_true rfl, Nat.le_of_ble_eq_true rfl⟩ ⟨Nat.le_of_ble_eq_true rfl, Nat.le_of_ble_eq_true rfl⟩ dL_law_513 (bd.to (by omega)) (fun h k n F hW bd => ?_)
        refine gI_icmp_lt hB 576 dL_law_516 (by decide) (fun z => absurd z (Int32.not_lt.mpr (by rw [heq]; exact Int32.le_refl _))) (fun _ => ?_)
        refine gI_iload hB 0 dL_law_519 rfl ?_
        refine gI_aload_n hB 15 dL_law_521 rfl ?_
        refine gI_iload hB 1 dL_law_522 rfl ?_
        refine gI_iconst (v := nI 1) hB dL_law_524 (by decide) ?_
        refine gI_isub hB dL_law_525 ?_
        refine gI_topi hB (y := nI j9) (nI_m1 j9) ?_
        refine gI_iconst (v := nI 0) hB dL_law_526 (by decide) ?_
        refine gI_cl (n9 := 2) (As := [.int (nI j9), .int (nI 0)]) (rest := [.int (nI rr)]) hB (B + 16 * r + 10) (r_waiting hW e0 ((v_waiting o e0 (show j9 < W by omega) (by omega)).trans (congrArg (Prod.mk u) er0))) (gCW.of ggL_law_X6_waiting rfl ⟨by decide, by decide, by decide +kernel⟩ ⟨Nat.le_of_ble_eq_true rfl, Nat.le_of_ble_eq_true rfl⟩) (by decide +kernel) (by decide +kernel) (by decide +kernel) (by decide +kernel) hW rfl rfl (Nat.le_of_ble_eq_true rfl) ⟨Nat.le_of_ble_eq_true rfl, Nat.le_of_ble_eq_true rfl⟩ ⟨Nat.le_of_ble_eq_true rfl, Nat.le_of_ble_eq_true rfl⟩ dL_law_527 (bd.to (by omega)) (fun h k n F hW bd => ?_)
        refine gI_icmp_ne hB 552 dL_law_530 (by decide) (fun z => absurd z (fun z8 => z8 heq.symm)) (fun _ => ?_)
        refine gI_aload_n hB 15 dL_law_533 rfl ?_
        refine gI_iload hB 1 dL_law_534 rfl ?_
        refine gI_iconst (v := nI 1) hB dL_law_536 (by decide) ?_
        refine gI_cl (n9 := 2) (As := [.int (nI (j9 + 1)), .int (nI 1)]) (rest := []) hB (B + 16 * r + 9) (r_waiting hW e0 ((v_waiting o e0 hj (by omega)).trans (congrArg (Prod.mk u) ex))) (gCW.of ggL_law_X6_waiting rfl ⟨by decide, by decide, by decide +kernel⟩ ⟨Nat.le_of_ble_eq_true rfl, Nat.le_of_ble_eq_true rfl⟩) (by decide +kernel) (by decide +kernel) (by decide +kernel) (by decide +kernel) hW rfl rfl (Nat.le_of_ble_eq_true rfl) ⟨Nat.le_of_ble_eq_true rfl, Nat.le_of_ble_eq_true rfl⟩ ⟨Nat.le_of_ble_eq_true rfl, Nat.le_of_ble_eq_true rfl⟩ dL_law_537 (bd.to (by omega)) (fun h k n F hW bd => ?_)
        refine gI_aload_n hB 15 dL_law_540 rfl ?_
        refine gI_iload hB 1 dL_law_541 rfl ?_
        refine gI_iconst (v := nI 1) hB dL_law_543 (by decide) ?_
        refine gI_isub hB dL_law_544 ?_
        refine gI_topi hB (y := nI j9) (nI_m1 j9) ?_
        refine gI_iconst (v := nI 1) hB dL_law_545 (by decide) ?_
        refine gI_cl (n9 := 2) (As := [.int (nI j9), .int (nI 1)]) (rest := [.int (nI x)]) hB (B + 16 * r + 8) (r_waiting hW e0 ((v_waiting o e0 (show j9 < W by omega) (by omega)).trans (congrArg (Prod.mk u) ex0))) (gCW.of ggL_law_X6_waiting rfl ⟨by decide, by decide, by decide +kernel⟩ ⟨Nat.le_of_ble_eq_true rfl, Nat.le_of_ble_eq_true rfl⟩) (by decide +kernel) (by decide +kernel) (by decide +kernel) (by decide +kernel) hW rfl rfl (Nat.le_of_ble_eq_true rfl) ⟨Nat.le_of_ble_eq_true rfl, Nat.le_of_ble_eq_true rfl⟩ ⟨Nat.le_of_ble_eq_true rfl, Nat.le_of_ble_eq_true rfl⟩ dL_law_546 (bd.to (by omega)) (fun h k n F hW bd => ?_)
        refine gI_icmp_lt hB 576 dL_law_549 (by decide) (fun z => absurd z (Int32.not_lt.mpr hle)) (fun _ => ?_)
        refine gI_aload_n hB 15 dL_law_552 rfl ?_
        refine gI_aload_n hB 15 dL_law_553 rfl ?_
        refine gI_iload hB 1 dL_law_554 rfl ?_
        refine gI_iconst (v := nI 2) hB dL_law_556 (by decide) ?_
        refine gI_cl (n9 := 2) (As := [.int (nI (j9 + 1)), .int (nI 2)]) (rest := [.ref (c 0)]) hB (B + 16 * r + 7) (r_waiting hW e0 ((v_waiting o e0 hj (by omega)).trans (congrArg (Prod.mk u) ev))) (gCW.of ggL_law_X6_waiting rfl ⟨by decide, by decide, by decide +kernel⟩ ⟨Nat.le_of_ble_eq_true rfl, Nat.le_of_ble_eq_true rfl⟩) (by decide +kernel) (by decide +kernel) (by decide +kernel) (by decide +kernel) hW rfl rfl (Nat.le_of_ble_eq_true rfl) ⟨Nat.le_of_ble_eq_true rfl, Nat.le_of_ble_eq_true rfl⟩ ⟨Nat.le_of_ble_eq_true rfl, Nat.le_of_ble_eq_true rfl⟩ dL_law_557 (bd.to (by omega)) (fun h k n F hW bd => ?_)
        refine gI_cl (n9 := 1) (As := [.int (nI v)]) (rest := []) hB (B + 16 * r + 6) (r_reach hW e0 (v_reach o e0 hv)) (gCW.of ggL_law_X6_reach rfl ⟨by decide, by decide, by decide +kernel⟩ ⟨Nat.le_of_ble_eq_true rfl, Nat.le_of_ble_eq_true rfl⟩) (by decide +kernel) (by decide +kernel) (by decide +kernel) (by decide +kernel) hW rfl rfl (Nat.le_of_ble_eq_true rfl) ⟨Nat.le_of_ble_eq_true rfl, Nat.le_of_ble_eq_true rfl⟩ ⟨Nat.le_of_ble_eq_true rfl, Nat.le_of_ble_eq_true rfl⟩ dL_law_560 (bd.to (by omega)) (fun h k n F hW bd => ?_)
        refine gI_aload_n hB 15 dL_law_563 rfl ?_
        refine gI_iload hB 1 dL_law_564 rfl ?_
        refine gI_iconst (v := nI 1) hB dL_law_566 (by decide) ?_
        refine gI_cl (n9 := 2) (As := [.int (nI (j9 + 1)), .int (nI 1)]) (rest := [.int (mReachL u T (mNext u T v) T)]) hB (B + 16 * r + 5) (r_waiting hW e0 ((v_waiting o e0 hj (by omega)).trans (congrArg (Prod.mk u) ex))) (gCW.of ggL_law_X6_waiting rfl ⟨by decide, by decide, by decide +kernel⟩ ⟨Nat.le_of_ble_eq_true rfl, Nat.le_of_ble_eq_true rfl⟩) (by decide +kernel) (by decide +kernel) (by decide +kernel) (by decide +kernel) hW rfl rfl (Nat.le_of_ble_eq_true rfl) ⟨Nat.le_of_ble_eq_true rfl, Nat.le_of_ble_eq_true rfl⟩ ⟨Nat.le_of_ble_eq_true rfl, Nat.le_of_ble_eq_true rfl⟩ dL_law_567 (bd.to (by omega)) (fun h k n F hW bd => ?_)
        refine gI_ishr hB dL_law_570 ?_
        refine gI_iconst (v := nI 1) hB dL_law_571 (by decide) ?_
        refine gI_iand hB dL_law_572 ?_
        refine gI_if_ne hB 578 dL_law_573 (by decide) (fun _ => ?_) (fun z => absurd ((show mReachL u T (mNext u T v) T >>> (nI x &&& 31) &&& nI 1 = nI 1 from mReachL_in (by omega) hin T).symm.trans z) (by decide))
        refine gI_iinc hB 1 ([(15, .int (nI (j9 + 1 + 1))), (16, .int (nI rr)), (14, .int sg), (13, .int sm), (12, .int (nI τ)), (11, .int v11), (10, .int v10), (9, .int v9), (8, .int v8), (7, .int v7), (6, .int (nI time)), (5, .int lo), (4, .int he), (3, .int (nI T)), (2, .ref y), (1, .ref (c 0)), (0, .ref b)]) hnL dL_law_578 rfl (nI_1 (j9 + 1)) (by decide) rfl ?_
        refine gI_goto hB 441 dL_law_581 (by decide) ?_
        refine gI_loc [0, 2, 3, 4, 5, 6, 7, 8, 9, 10, 11, 12, 13, 14, 15, 16] rfl ?_
        exact ih _ h k n F (by omega) hW (bd.to (by omega))
