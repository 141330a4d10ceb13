theorem pBud.pay {k n F B z k1 n1 B' : Nat} (b : pBud k n F B') (hB : B + z ≤ B') (h1 : k1 ≤ z) (h2 : n1 ≤ 6 * z) : pBud (k + k1) (n + n1) F B := by
  obtain ⟨b1, b2, b3⟩ := b
  exact ⟨by omega, by omega, b3⟩
theorem mIn_min {y : Nat} (hy : y < 100) : mIn (if nI y < nI 2 then nI y else nI 2) (nI 0) (nI 2) := by
  by_cases c : y < 2
  · rw [if_pos (nI_lt c (by omega))]
    exact mIn_lo (by omega) (by omega)
  · rw [if_neg (fun z9 => c ((nI_ltI (by omega) (by omega)).mp z9))]
    exact mIn_lo (by omega) (by omega)
theorem mIn_12 {y : Nat} (hy : y < 25) : mIn (nI y - nI 12) (-12) (nI 12) := by
  have key : ∀ y : Fin 25, mIn (nI y.val - nI 12) (-12) (nI 12) := by decide +kernel
  exact key ⟨y, hy⟩
/-- the courtyard has one tenant more -/
theorem sSim.move {G : gG} {h hC h1 : gH} {y m t9 hb al tn rn sn : Nat} {ten : Nat → Nat} {i0 i1 b1 b2 b3 b4 p q : Int32} {f fl : Nat → Option Nat} (o : sSim G h hC y m ten (fun _ => 0)) (hs : gSub hC h) (hy : gat h y (.inr (0, [.int i0, .int i1, .ref tn, .ref rn, .ref sn, .int b1, .int b2, .int b3, .int b4]))) (oy : y ∉ hC.1) (hft : ∀ j, j < m → f j = some (ten j))
    (n1 : t9 ∉ h.1) (n2 : hb ∉ h.1) (n3 : al ∉ h.1) (Hy : gat h1 y (.inr (0, [.int i0, .int i1, .ref al, .ref rn, .ref sn, .int b1, .int b2, .int b3, .int b4]))) (Hal : gat h1 al (.inl (gTn G, m + 1, .inr (.inr (.inr (.inr fl)))))) (hf1 : ∀ j, j < m → fl j = f j) (hf2 : fl m = some t9)
    (Ht : gat h1 t9 (.inr (1, [.int p, .int q, .int q, .int 0, .int 0, .int (-1), .ref hb]))) (Hhb : gat h1 hb (.inl (gJ G, 0, .inr (.inr (.inr (.inr (fun _ => none))))))) (hK : gSt h h1 y) : sSim G h1 hC y (m + 1) (pUp ten m t9) (fun _ => 0) ∧ gSub hC h1 := by
  obtain ⟨-, o2, o3⟩ := o
  have hold : ∀ j, j < m → ten j ≠ t9 := fun j hj z9 => by
    obtain ⟨a0, c1, c2, c3, c4, c5, c6, g0, k1, -⟩ := o2 j hj
    exact n1 (z9 ▸ k1.1)
  refine ⟨⟨⟨i0, i1, al, rn, sn, b1, b2, b3, b4, fl, Hy, oy, Hal, hs.fresh n3, fun j hj => ?_⟩, fun j hj => ?_, fun i j hi hj e => ?_⟩, hs.st oy hK⟩
  · by_cases e : j = m
    · subst e
      rw [pUp_s]
      exact hf2
    · rw [pUp_n e]
      exact (hf1 j (by omega)).trans (hft j (by omega))
  · by_cases e : j = m
    · subst e
      rw [pUp_s]
      exact ⟨p, q, q, 0, 0, -1, hb, _, Ht, hs.fresh n1, Hhb, hs.fresh n2, fun i hi => absurd hi (Nat.not_lt_zero _)⟩
    · rw [pUp_n e]
      have hj9 := o2 j (by omega)
      obtain ⟨a0, c1, c2, c3, c4, c5, c6, g0, k1, -⟩ := id hj9
      exact hj9.st hy (gat_ne k1 hy rfl) hK
  · by_cases ei : i = m
    · by_cases ej : j = m
      · omega
      · rw [ei, pUp_s, pUp_n ej] at e
        exact absurd e.symm (hold j (by omega))
    · by_cases ej : j = m
      · rw [ej, pUp_s, pUp_n ei] at e
        exact absurd e (hold i (by omega))
      · rw [pUp_n ei, pUp_n ej] at e
        exact o3 i j (by omega) (by omega) e

set_option maxRecDepth 100000 in
set_option maxHeartbeats 4000000 in
theorem b_add {X : gX} {b y : Nat} {c : Nat → Nat} {t j mm N q x5 B : Nat} {ten len : Nat → Nat} {f : Nat → Int32} (hB : gB X (gRm 8 110000 1100000) cL_build wsL_build RL) (hnL : gnL X = 11) (hN : N ≤ 8) (ht : t < N) (hlen : len t = j) (hj : j < 8) (hl8 : ∀ x, x < N → len x ≤ 8)
    (m0 : mIn (f 0) (nI 0) (nI 23)) (m1 : mIn (f 1) (nI 0) (nI 23)) (m2 : mIn (f 2) (nI 0) (nI 2)) (m3 : mIn (f 3) (nI 0) (nI 9)) (m4 : mIn (f 4) (nI 0) (nI 5)) (m5 : f 5 = nI x5) (h5 : x5 < N) (m6 : mIn (f 6) (nI 1) (nI 99)) (m7 : mIn (f 7) (-12) (nI 12))
    (kk : ∀ (h hC : gH) (u : MS) (k n F : Nat), pB u N (pUp len t (j + 1)) → sSim X.2.1 h hC y N ten (pUp len t (j + 1)) → gSub hC h → hC.1.Nodup → cW X.2.1 hC c u F → pBud k n F B → gW X h k n 169 [(7, .int (nI (j + 1))), (6, .int (nI mm)), (5, .int (nI t)), (4, .int (nI N)), (3, .ref y), (2, .int (nI 8)), (1, .ref b), (0, .ref (c 0))] []) {h hC : gH} {u : MS} {k n F : Nat} (hu : pB u N len) (hS : sSim X.2.1 h hC y N ten len) (hs : gSub hC h) (hnd : hC.1.Nodup) (hW : cW X.2.1 hC c u F) (hq : gat h q (.inl (gI X.2.1, 9, .inl f))) (oq : q ∉ hC.1) (bd : pBud k n F (B + 124)) : gW X h k n 358 [(10, .ref q), (7, .int (nI j)), (6, .int (nI mm)), (5, .int (nI t)), (4, .int (nI N)), (3, .ref y), (2, .int (nI 8)), (1, .ref b), (0, .ref (c 0))] [] := by
  refine gI_aload_n hB 8 dL_build_358 rfl ?_
  refine gI_iload hB 3 dL_build_359 rfl ?_
  obtain ⟨W1, z1, o1⟩ := hW.ok hu.1 (by omega)
  obtain ⟨u1, eA, hu1, e2, e4⟩ := hu.add o1 ht hlen hj hl8
  refine gI_clK (n9 := 1) (As := [.int (nI t)]) (rest := []) hB (B + 7) (r_addHabit hW eA hu1.2.1) hs hnd (gCW.of ggL_build_X6_addHabit rfl ⟨by decide, by decide, by decide +kernel⟩ ⟨Nat.le_of_ble_eq_true rfl, Nat.le_of_ble_eq_true rfl⟩) (by decide +kernel) (by decide +kernel) (by decide +kernel) (by decide +kernel) hW rfl rfl (Nat.le_of_ble_eq_true rfl) ⟨Nat.le_of_ble_eq_true rfl, Nat.le_of_ble_eq_true rfl⟩ ⟨Nat.le_of_ble_eq_true rfl, Nat.le_of_ble_eq_true rfl⟩ dL_build_361 (bd.to (by omega)) (fun h hC k n F hW hs hr hnd bd => ?_)
  replace hS := hS.rest hr
  obtain ⟨hq, oq⟩ := hr _ _ hq oq
  refine gI_iload hB 1 dL_build_364 rfl ?_
  refine gI_iconst (v := nI 1) hB dL_build_366 (by decide) ?_
  refine gI_iaddN hB dL_build_367 ?_
  refine gI_icmp_ne hB 429 dL_build_368 (by decide) (fun z => absurd z (fun z8 => z8 rfl)) (fun _ => ?_)
  refine gI_aload_n hB 8 dL_build_371 rfl ?_
  refine gI_iload hB 3 dL_build_372 rfl ?_
  refine gI_iload hB 1 dL_build_374 rfl ?_
  refine gI_aload hB 0 dL_build_376 rfl ?_
  refine gI_iconst (v := nI 0) hB dL_build_378 (by decide) ?_
  refine gC_iald hB 0 hq rfl (by omega) (by omega) dL_build_379 ?_
  refine gI_aload hB 0 dL_build_380 rfl ?_
  refine gI_iconst (v := nI 1) hB dL_build_382 (by decide) ?_
  refine gC_iald hB 1 hq rfl (by omega) (by omega) dL_build_383 ?_
  refine gI_aload hB 0 dL_build_384 rfl ?_
  refine gI_iconst (v := nI 2) hB dL_build_386 (by decide) ?_
  refine gC_iald hB 2 hq rfl (by omega) (by omega) dL_build_387 ?_
  refine gI_aload hB 0 dL_build_388 rfl ?_
  refine gI_iconst (v := nI 3) hB dL_build_390 (by decide) ?_
  refine gC_iald hB 3 hq rfl (by omega) (by omega) dL_build_391 ?_
  obtain ⟨W2, z2, o2⟩ := hW.ok hu1.1 (by omega)
  obtain ⟨u2, eB, hu2, f4⟩ := hu1.when o2 ht (by rw [pUp_s]; omega) (by rw [pUp_s]; omega) m0 m1 m2 m3 e2 e4
  refine gI_clK (n9 := 6) (As := [.int (nI t), .int (nI j), .int (f 0), .int (f 1), .int (f 2), .int (f 3)]) (rest := []) hB (B + 6) (r_setWhen hW eB hu2.2.1) hs hnd (gCW.of ggL_build_X6_setWhen rfl ⟨by decide, by decide, by decide +kernel⟩ ⟨Nat.le_of_ble_eq_true rfl, Nat.le_of_ble_eq_true rfl⟩) (by decide +kernel) (by decide +kernel) (by decide +kernel) (by decide +kernel) hW rfl rfl (Nat.le_of_ble_eq_true rfl) ⟨Nat.le_of_ble_eq_true rfl, Nat.le_of_ble_eq_true rfl⟩ ⟨Nat.le_of_ble_eq_true rfl, Nat.le_of_ble_eq_true rfl⟩ dL_build_392 (bd.to (by omega)) (fun h hC k n F hW hs hr hnd bd => ?_)
  replace hS := hS.rest hr
  obtain ⟨hq, oq⟩ := hr _ _ hq oq
  refine gI_iconst (v := nI 2) hB dL_build_395 (by decide) ?_
  refine gI_icmp_ne hB 429 dL_build_396 (by decide) (fun z => absurd z (fun z8 => z8 rfl)) (fun _ => ?_)
  refine gI_aload_n hB 8 dL_build_399 rfl ?_
  refine gI_iload hB 3 dL_build_400 rfl ?_
  refine gI_iload hB 1 dL_build_402 rfl ?_
  refine gI_aload hB 0 dL_build_404 rfl ?_
  refine gI_iconst (v := nI 4) hB dL_build_406 (by decide) ?_
  refine gC_iald hB 4 hq rfl (by omega) (by omega) dL_build_407 ?_
  refine gI_aload hB 0 dL_build_408 rfl ?_
  refine gI_iconst (v := nI 5) hB dL_build_410 (by decide) ?_
  refine gC_iald hB 5 hq rfl (by omega) (by omega) dL_build_411 ?_
  refine gI_aload hB 0 dL_build_412 rfl ?_
  refine gI_bipush (v := nI 6) hB dL_build_414 (by decide) ?_
  refine gC_iald hB 6 hq rfl (by omega) (by omega) dL_build_416 ?_
  refine gI_aload hB 0 dL_build_417 rfl ?_
  refine gI_bipush (v := nI 7) hB dL_build_419 (by decide) ?_
  refine gC_iald hB 7 hq rfl (by omega) (by omega) dL_build_421 ?_
  obtain ⟨W3, z3, o3⟩ := hW.ok hu2.1 (by omega)
  obtain ⟨u3, eC, hu3⟩ := hu2.what o3 ht (by rw [pUp_s]; omega) (by rw [pUp_s]; omega) m4 h5 m6 m7 f4
  rw [← m5] at eC
  refine gI_clK (n9 := 6) (As := [.int (nI t), .int (nI j), .int (f 4), .int (f 5), .int (f 6), .int (f 7)]) (rest := []) hB (B + 5) (r_setWhat hW eC hu3.2.1) hs hnd (gCW.of ggL_build_X6_setWhat rfl ⟨by decide, by decide, by decide +kernel⟩ ⟨Nat.le_of_ble_eq_true rfl, Nat.le_of_ble_eq_true rfl⟩) (by decide +kernel) (by decide +kernel) (by decide +kernel) (by decide +kernel) hW rfl rfl (Nat.le_of_ble_eq_true rfl) ⟨Nat.le_of_ble_eq_true rfl, Nat.le_of_ble_eq_true rfl⟩ ⟨Nat.le_of_ble_eq_true rfl, Nat.le_of_ble_eq_true rfl⟩ dL_build_422 (bd.to (by omega)) (fun h hC k n F hW hs hr hnd bd => ?_)
  replace hS := hS.rest hr
  obtain ⟨hq, oq⟩ := hr _ _ hq oq
  refine gI_iconst (v := nI 1) hB dL_build_425 (by decide) ?_
  refine gI_icmp_eq hB 431 dL_build_426 (by decide) (fun _ => ?_) (fun z => absurd (rfl) z)
  obtain ⟨⟨i0, i1, tn, rn, sn, b1, b2, b3, b4, ft, hy, oy, htn, otn, hft⟩, hTen, hinj⟩ := id hS
  obtain ⟨a9, b9, c9, d9, e9, f9, hb, gb, hx, ox, hhb, ohb, hgb⟩ := hTen t ht
  rw [hlen] at hhb hgb
  refine gI_aload_n hB 5 dL_build_431 rfl ?_
  refine gI_get (v := .ref tn) hB 2 hy (C := RX7) (T := TX7) (N := 9) rfl (by decide +kernel) (by decide) (by decide +kernel) (fun _ h9 => h9) rfl dL_build_432 ?_
  refine gI_iload hB 3 dL_build_435 rfl ?_
  refine gC_aaldT hB t htn rfl ht (by omega) (hft t ht) dL_build_437 ?_
  refine gI_aload_n hB 5 dL_build_438 rfl ?_
  refine gI_get (v := .ref tn) hB 2 hy (C := RX7) (T := TX7) (N := 9) rfl (by decide +kernel) (by decide) (by decide +kernel) (fun _ h9 => h9) rfl dL_build_439 ?_
  refine gI_iload hB 3 dL_build_442 rfl ?_
  refine gC_aaldT hB t htn rfl ht (by omega) (hft t ht) dL_build_444 ?_
  refine gI_get (v := .ref hb) hB 6 hx (C := RX8) (T := TX8) (N := 7) rfl (by decide +kernel) (by decide) (by decide +kernel) (fun _ h9 => h9) rfl dL_build_445 ?_
  refine gI_iload hB 1 dL_build_448 rfl ?_
  refine gI_aload hB 0 dL_build_450 rfl ?_
  refine gI_callS (n9 := 3) (As := [.ref hb, .int (nI j), .ref q]) (rest := [.ref (ten t)]) hB (s_more X.2.1 h hb q j gb f (by omega) hhb hq (fun i hi => by obtain ⟨w9, f8, g1, g2, -⟩ := hgb i hi; exact ⟨w9, f8, g1, g2⟩)) (gCW.of ggL_build_X7_more rfl ⟨by decide, by decide, by decide +kernel⟩ ⟨Nat.le_of_ble_eq_true rfl, Nat.le_of_ble_eq_true rfl⟩) (Or.inl (by decide +kernel)) (by decide +kernel) (by decide +kernel) rfl rfl (Nat.le_of_ble_eq_true rfl) (by obtain ⟨b1, b2, b3⟩ := bd; dsimp only [gRm]; omega) (by obtain ⟨b1, b2, b3⟩ := bd; dsimp only [gRm]; omega) dL_build_452 (fun v9 h1 k1 n1 hp => ?_) (fun E9 h1 k1 n1 hp => by obtain ⟨al, fl, e9, -⟩ := hp; cases e9)
  obtain ⟨al, fl, e8, hal, Hal, hf1, hf2, hK1, hk1, hn1⟩ := hp
  cases e8
  have hx1 := hK1 _ _ hx
  refine gC_put hB 6 tyX8 tyX8_ok nmX8 hx1 (C := RX8) (T := TX8) (N := 7) rfl (by decide +kernel) (by decide) (by decide +kernel) (fun _ h9 => h9) rfl rfl rfl (Nat.le_of_ble_eq_true rfl) dL_build_455 (fun h2 Hx2 hK2 => ?_)
  obtain ⟨hS2, hs2⟩ := hS.more hs ht hlen hq oq hx ox hgb hal Hal hf1 hf2 hK1 Hx2 hK2
  refine gI_iinc hB 1 ([(7, .int (nI (j + 1))), (10, .ref q), (6, .int (nI mm)), (5, .int (nI t)), (4, .int (nI N)), (3, .ref y), (2, .int (nI 8)), (1, .ref b), (0, .ref (c 0))]) hnL dL_build_458 rfl (nI_1 j) (by decide) rfl ?_
  refine gI_goto hB 169 dL_build_461 (by decide) ?_
  refine gI_loc [0, 2, 3, 4, 5, 6, 7, 8] rfl ?_
  exact kk h2 hC u3 _ _ F hu3 hS2 hs2 hnd hW (bd.pay (z := 4) (by omega) (by omega) (by omega))

set_option maxRecDepth 100000 in
set_option maxHeartbeats 4000000 in
theorem b_hab {X : gX} {b y : Nat} {c : Nat → Nat} {t mm N L9 B : Nat} {xs : Nat → Int32} {ten : Nat → Nat} (hB : gB X (gRm 8 110000 1100000) cL_build wsL_build RL) (hnL : gnL X = 11) (hS9 : gScr X b L9 xs) (hL : L9 ≤ 260) (hN : N ≤ 8) (ht : t < N) (hmm : mm ≤ 8)
    (kk : ∀ (h hC : gH) (u : MS) (len : Nat → Nat) (k n F : Nat), pB u N len → (∀ x, x < N → len x ≤ 8) → (∀ x, x < N → t < x → len x = 0) → sSim X.2.1 h hC y N ten len → gSub hC h → hC.1.Nodup → cW X.2.1 hC c u F → pBud k n F B → gW X h k n 464 [(5, .int (nI t)), (4, .int (nI N)), (3, .ref y), (2, .int (nI 8)), (1, .ref b), (0, .ref (c 0))] []) : ∀ (r j : Nat) (h hC : gH) (u : MS) (len : Nat → Nat) (k n F : Nat), j + r = mm → pB u N len → len t = j → (∀ x, x < N → len x ≤ 8) → (∀ x, x < N → t < x → len x = 0) → sSim X.2.1 h hC y N ten len → gSub hC h → hC.1.Nodup → cW X.2.1 hC c u F → pBud k n F (B + 130 * r) → gW X h k n 169 [(7, .int (nI j)), (6, .int (nI mm)), (5, .int (nI t)), (4, .int (nI N)), (3, .ref y), (2, .int (nI 8)), (1, .ref b), (0, .ref (c 0))] [] := by
  intro r
  induction r with
  | zero =>
    intro j h hC u len k n F e hu hlen hl8 hl0 hS hs hnd hW bd
    obtain rfl : j = mm := by omega
    refine gI_iload hB 0 dL_build_169 rfl ?_
    refine gI_iload hB 1 dL_build_171 rfl ?_
    refine gI_icmp_ge hB 464 dL_build_173 (by decide) (fun _ => ?_) (fun z => absurd (Int32.le_refl _) z)
    refine gI_loc [2, 3, 4, 5, 6, 7] rfl ?_
    exact kk h hC u len k n F hu hl8 hl0 hS hs hnd hW (bd.to (by omega))
  | succ r ih =>
    intro j h hC u len k n F e hu hlen hl8 hl0 hS hs hnd hW bd
    refine gI_iload hB 0 dL_build_169 rfl ?_
    refine gI_iload hB 1 dL_build_171 rfl ?_
    refine gI_icmp_ge hB 464 dL_build_173 (by decide) (fun z => absurd z (Int32.not_le.mpr (nI_lt (a := j) (b := mm) (by omega) (by omega)))) (fun _ => ?_)
    refine gI_aload_n hB 6 dL_build_176 rfl ?_
    refine gI_iconst (v := nI 2) hB dL_build_177 (by decide) ?_
    refine gI_iload hB 2 dL_build_178 rfl ?_
    refine gI_iconst (v := nI 3) hB dL_build_180 (by decide) ?_
    refine gI_iload hB 0 dL_build_181 rfl ?_
    refine gI_imulN hB dL_build_183 ?_
    refine gI_iaddN hB dL_build_184 ?_
    refine gI_bipush (v := nI 14) hB dL_build_185 (by decide) ?_
    refine gI_irem hB dL_build_187 (by decide) ?_
    refine gI_topi hB (y := nI ((t + (3 * j)) % 14)) (pk_rem (by omega) (by omega) (by omega)) ?_
    refine gI_iaddN hB dL_build_188 ?_
    refine gI_callSS (n9 := 2) (As := [.ref b, .int (nI (2 + ((t + (3 * j)) % 14)))]) (rest := []) hB hS9 (s_cell X.2.1 h hL (2 + ((t + (3 * j)) % 14)) (by omega)) (gCW.of ggL_build_L_cell rfl ⟨by decide, by decide, by decide +kernel⟩ ⟨Nat.le_of_ble_eq_true rfl, Nat.le_of_ble_eq_true rfl⟩) (by decide +kernel) (by decide +kernel) (by decide +kernel) rfl rfl (Nat.le_of_ble_eq_true rfl) (by obtain ⟨b1, b2, b3⟩ := bd; dsimp only [gRm]; omega) (by obtain ⟨b1, b2, b3⟩ := bd; dsimp only [gRm]; omega) dL_build_189 (fun v9 h1 k1 n1 hp => ?_) (fun E9 h1 k1 n1 hp => by obtain ⟨-, -, -, x9, e9⟩ := hp; cases e9)
    obtain ⟨rfl, rfl, rfl, x1, e9⟩ := hp
    cases e9
    refine gI_iload hB 2 dL_build_192 rfl ?_
    refine gI_iconst (v := nI 5) hB dL_build_194 (by decide) ?_
    refine gI_irem hB dL_build_195 (by decide) ?_
    refine gI_topi hB (y := nI (t % 5)) (pk_rem (by omega) (by omega) (by omega)) ?_
    refine gI_ishr hB dL_build_196 ?_
    refine gI_bipush (v := nI 31) hB dL_build_197 (by decide) ?_
    refine gI_iload hB 2 dL_build_199 rfl ?_
    refine gI_imulN hB dL_build_201 ?_
    refine gI_iadd hB dL_build_202 ?_
    refine gI_bipush (v := nI 7) hB dL_build_203 (by decide) ?_
    refine gI_iload hB 0 dL_build_205 rfl ?_
    refine gI_imulN hB dL_build_207 ?_
    refine gI_iadd hB dL_build_208 ?_
    obtain ⟨v8, ev8⟩ : ∃ v8 : Int32, v8 = (((x1 >>> ((nI (t % 5)) &&& 31)) + (nI (31 * t))) + (nI (7 * j))) := ⟨_, rfl⟩
    refine gI_topi hB (y := v8) ev8.symm ?_
    refine gI_istore hB ([(8, .int v8), (7, .int (nI j)), (6, .int (nI mm)), (5, .int (nI t)), (4, .int (nI N)), (3, .ref y), (2, .int (nI 8)), (1, .ref b), (0, .ref (c 0))]) hnL dL_build_209 (by decide) rfl ?_
    refine gI_iload hB 0 dL_build_211 rfl ?_
    refine gI_iconst (v := nI 2) hB dL_build_213 (by decide) ?_
    refine gI_ishr hB dL_build_214 ?_
    refine gI_iconst (v := nI 5) hB dL_build_215 (by decide) ?_
    refine gI_callS (n9 := 2) (As := [.int (v8 >>> ((nI 2) &&& 31)), .int (nI 5)]) (rest := []) hB (s_below X.2.1 h (v8 >>> ((nI 2) &&& 31)) (N := 5) (by omega) (by omega)) (gCW.of ggL_build_L_below rfl ⟨by decide, by decide, by decide +kernel⟩ ⟨Nat.le_of_ble_eq_true rfl, Nat.le_of_ble_eq_true rfl⟩) (Or.inl (by decide +kernel)) (by decide +kernel) (by decide +kernel) rfl rfl (Nat.le_of_ble_eq_true rfl) (by obtain ⟨b1, b2, b3⟩ := bd; dsimp only [gRm]; omega) (by obtain ⟨b1, b2, b3⟩ := bd; dsimp only [gRm]; omega) dL_build_216 (fun v9 h1 k1 n1 hp => ?_) (fun E9 h1 k1 n1 hp => by obtain ⟨-, -, -, x9, -, e9⟩ := hp; cases e9)
    obtain ⟨rfl, rfl, rfl, y2, hy2, e9⟩ := hp
    cases e9
    refine gI_istore hB ([(9, .int (nI y2)), (8, .int v8), (7, .int (nI j)), (6, .int (nI mm)), (5, .int (nI t)), (4, .int (nI N)), (3, .ref y), (2, .int (nI 8)), (1, .ref b), (0, .ref (c 0))]) hnL dL_build_219 (by decide) rfl ?_
    obtain ⟨h_0, eh0⟩ : ∃ h_0, h_0 = h := ⟨_, rfl⟩
    obtain ⟨FR, eFR⟩ : ∃ FR : Nat → va_E → Prop, FR = fun (_ : Nat) (_ : va_E) => True := ⟨_, rfl⟩
    have hO : ∀ q e, gat h_0 q e → FR q e → gat h q e := fun q e z9 _ => by rw [← eh0]; exact z9
    have hI : ∀ q, q ∈ h_0.1 → q ∈ h.1 := fun q z9 => by rw [← eh0]; exact z9
    have hs0 : gSub hC h_0 := by rw [eh0]; exact hs
    have hS0 : sSim X.2.1 h_0 hC y N ten len := by rw [eh0]; exact hS
    refine gI_bipush (v := nI 9) hB dL_build_221 (by decide) ?_
    refine gC_newI hB 9 rfl (by omega) (by decide +kernel) (by obtain ⟨b1, b2, b3⟩ := bd; dsimp only [gRm]; omega) (by obtain ⟨b1, b2, b3⟩ := bd; dsimp only [gRm]; omega) dL_build_223 (fun q3 h hq3 Hq3 hK => ?_)
    have on_q3 : ∀ q9 e9, gat h_0 q9 e9 → FR q9 e9 → q9 ≠ q3 := fun q9 e9 z9 w9 y9 => hq3 (y9 ▸ (hO q9 e9 z9 w9).1)
    have nw_q3 : q3 ∉ h_0.1 := fun z9 => hq3 (hI q3 z9)
    have hO : ∀ q e, gat h_0 q e → FR q e → gat h q e := fun q e z9 w9 => hK q e (hO q e z9 w9)
    have hI : ∀ q, q ∈ h_0.1 → q ∈ h.1 := fun q z9 => gSa.dom hK (hI q z9)
    have bd := bd.pay (B := B + 130 * r + 128) (z := 2) (k1 := 1) (n1 := 9) (by omega) (by omega) (by omega)
    refine gI_dup hB dL_build_225 rfl ?_
    refine gI_iconst (v := nI 0) hB dL_build_226 (by decide) ?_
    refine gI_iload hB 1 dL_build_227 rfl ?_
    refine gI_iconst (v := nI 3) hB dL_build_229 (by decide) ?_
    refine gI_ishr hB dL_build_230 ?_
    refine gI_bipush (v := nI 24) hB dL_build_231 (by decide) ?_
    refine gI_callS (n9 := 2) (As := [.int (v8 >>> ((nI 3) &&& 31)), .int (nI 24)]) (rest := [.int (nI 0), .ref q3, .ref q3]) hB (s_below X.2.1 h (v8 >>> ((nI 3) &&& 31)) (N := 24) (by omega) (by omega)) (gCW.of ggL_build_L_below rfl ⟨by decide, by decide, by decide +kernel⟩ ⟨Nat.le_of_ble_eq_true rfl, Nat.le_of_ble_eq_true rfl⟩) (Or.inl (by decide +kernel)) (by decide +kernel) (by decide +kernel) rfl rfl (Nat.le_of_ble_eq_true rfl) (by obtain ⟨b1, b2, b3⟩ := bd; dsimp only [gRm]; omega) (by obtain ⟨b1, b2, b3⟩ := bd; dsimp only [gRm]; omega) dL_build_233 (fun v9 h1 k1 n1 hp => ?_) (fun E9 h1 k1 n1 hp => by obtain ⟨-, -, -, x9, -, e9⟩ := hp; cases e9)
    obtain ⟨rfl, rfl, rfl, y4, hy4, e9⟩ := hp
    cases e9
    refine gC_iast hB 0 Hq3 rfl (by omega) (by omega) dL_build_236 (fun h Nq3 hK => ?_)
    have hO : ∀ q e, gat h_0 q e → FR q e → gat h q e := fun q e z9 w9 => hK q e (hO q e z9 w9) (on_q3 q e z9 w9)
    have hI : ∀ q, q ∈ h_0.1 → q ∈ h.1 := fun q z9 => gSt.dom hK Nq3 (hI q z9)
    replace Hq3 := Nq3
    refine gI_dup hB dL_build_237 rfl ?_
    refine gI_iconst (v := nI 1) hB dL_build_238 (by decide) ?_
    refine gI_iload hB 1 dL_build_239 rfl ?_
    refine gI_iconst (v := nI 5) hB dL_build_241 (by decide) ?_
    refine gI_ishr hB dL_build_242 ?_
    refine gI_bipush (v := nI 24) hB dL_build_243 (by decide) ?_
    refine gI_callS (n9 := 2) (As := [.int (v8 >>> ((nI 5) &&& 31)), .int (nI 24)]) (rest := [.int (nI 1), .ref q3, .ref q3]) hB (s_below X.2.1 h (v8 >>> ((nI 5) &&& 31)) (N := 24) (by omega) (by omega)) (gCW.of ggL_build_L_below rfl ⟨by decide, by decide, by decide +kernel⟩ ⟨Nat.le_of_ble_eq_true rfl, Nat.le_of_ble_eq_true rfl⟩) (Or.inl (by decide +kernel)) (by decide +kernel) (by decide +kernel) rfl rfl (Nat.le_of_ble_eq_true rfl) (by obtain ⟨b1, b2, b3⟩ := bd; dsimp only [gRm]; omega) (by obtain ⟨b1, b2, b3⟩ := bd; dsimp only [gRm]; omega) dL_build_245 (fun v9 h1 k1 n1 hp => ?_) (fun E9 h1 k1 n1 hp => by obtain ⟨-, -, -, x9, -, e9⟩ := hp; cases e9)
    obtain ⟨rfl, rfl, rfl, y5, hy5, e9⟩ := hp
    cases e9
    refine gC_iast hB 1 Hq3 rfl (by omega) (by omega) dL_build_248 (fun h Nq3 hK => ?_)
    have hO : ∀ q e, gat h_0 q e → FR q e → gat h q e := fun q e z9 w9 => hK q e (hO q e z9 w9) (on_q3 q e z9 w9)
    have hI : ∀ q, q ∈ h_0.1 → q ∈ h.1 := fun q z9 => gSt.dom hK Nq3 (hI q z9)
    replace Hq3 := Nq3
    refine gI_dup hB dL_build_249 rfl ?_
    refine gI_iconst (v := nI 2) hB dL_build_250 (by decide) ?_
    refine gI_iconst (v := nI 2) hB dL_build_251 (by decide) ?_
    refine gI_iload hB 0 dL_build_252 rfl ?_
    refine gI_mmin hB (by decide +kernel) (by decide +kernel) (by decide +kernel) (by decide +kernel) (Nat.le_of_ble_eq_true rfl) (Nat.le_of_ble_eq_true rfl) (by obtain ⟨b1, b2, b3⟩ := bd; dsimp only [gRm]; omega) (by obtain ⟨b1, b2, b3⟩ := bd; dsimp only [gRm]; omega) dL_build_254 ?_
    refine gC_iast hB 2 Hq3 rfl (by omega) (by omega) dL_build_257 (fun h Nq3 hK => ?_)
    have hO : ∀ q e, gat h_0 q e → FR q e → gat h q e := fun q e z9 w9 => hK q e (hO q e z9 w9) (on_q3 q e z9 w9)
    have hI : ∀ q, q ∈ h_0.1 → q ∈ h.1 := fun q z9 => gSt.dom hK Nq3 (hI q z9)
    replace Hq3 := Nq3
    refine gI_dup hB dL_build_258 rfl ?_
    refine gI_iconst (v := nI 3) hB dL_build_259 (by decide) ?_
    refine gI_iload hB 1 dL_build_260 rfl ?_
    refine gI_bipush (v := nI 7) hB dL_build_262 (by decide) ?_
    refine gI_ishr hB dL_build_264 ?_
    refine gI_iconst (v := nI 4) hB dL_build_265 (by decide) ?_
    refine gI_callS (n9 := 2) (As := [.int (v8 >>> ((nI 7) &&& 31)), .int (nI 4)]) (rest := [.int (nI 3), .ref q3, .ref q3]) hB (s_below X.2.1 h (v8 >>> ((nI 7) &&& 31)) (N := 4) (by omega) (by omega)) (gCW.of ggL_build_L_below rfl ⟨by decide, by decide, by decide +kernel⟩ ⟨Nat.le_of_ble_eq_true rfl, Nat.le_of_ble_eq_true rfl⟩) (Or.inl (by decide +kernel)) (by decide +kernel) (by decide +kernel) rfl rfl (Nat.le_of_ble_eq_true rfl) (by obtain ⟨b1, b2, b3⟩ := bd; dsimp only [gRm]; omega) (by obtain ⟨b1, b2, b3⟩ := bd; dsimp only [gRm]; omega) dL_build_266 (fun v9 h1 k1 n1 hp => ?_) (fun E9 h1 k1 n1 hp => by obtain ⟨-, -, -, x9, -, e9⟩ := hp; cases e9)
    obtain ⟨rfl, rfl, rfl, y6, hy6, e9⟩ := hp
    cases e9
    refine gC_iast hB 3 Hq3 rfl (by omega) (by omega) dL_build_269 (fun h Nq3 hK => ?_)
    have hO : ∀ q e, gat h_0 q e → FR q e → gat h q e := fun q e z9 w9 => hK q e (hO q e z9 w9) (on_q3 q e z9 w9)
    have hI : ∀ q, q ∈ h_0.1 → q ∈ h.1 := fun q z9 => gSt.dom hK Nq3 (hI q z9)
    replace Hq3 := Nq3
    refine gI_dup hB dL_build_270 rfl ?_
    refine gI_iconst (v := nI 4) hB dL_build_271 (by decide) ?_
    refine gI_iload hB 1 dL_build_272 rfl ?_
    refine gI_iconst (v := nI 4) hB dL_build_274 (by decide) ?_
    refine gI_ishr hB dL_build_275 ?_
    refine gI_bipush (v := nI 6) hB dL_build_276 (by decide) ?_
    refine gI_callS (n9 := 2) (As := [.int (v8 >>> ((nI 4) &&& 31)), .int (nI 6)]) (rest := [.int (nI 4), .ref q3, .ref q3]) hB (s_below X.2.1 h (v8 >>> ((nI 4) &&& 31)) (N := 6) (by omega) (by omega)) (gCW.of ggL_build_L_below rfl ⟨by decide, by decide, by decide +kernel⟩ ⟨Nat.le_of_ble_eq_true rfl, Nat.le_of_ble_eq_true rfl⟩) (Or.inl (by decide +kernel)) (by decide +kernel) (by decide +kernel) rfl rfl (Nat.le_of_ble_eq_true rfl) (by obtain ⟨b1, b2, b3⟩ := bd; dsimp only [gRm]; omega) (by obtain ⟨b1, b2, b3⟩ := bd; dsimp only [gRm]; omega) dL_build_278 (fun v9 h1 k1 n1 hp => ?_) (fun E9 h1 k1 n1 hp => by obtain ⟨-, -, -, x9, -, e9⟩ := hp; cases e9)
    obtain ⟨rfl, rfl, rfl, y7, hy7, e9⟩ := hp
    cases e9
    refine gC_iast hB 4 Hq3 rfl (by omega) (by omega) dL_build_281 (fun h Nq3 hK => ?_)
    have hO : ∀ q e, gat h_0 q e → FR q e → gat h q e := fun q e z9 w9 => hK q e (hO q e z9 w9) (on_q3 q e z9 w9)
    have hI : ∀ q, q ∈ h_0.1 → q ∈ h.1 := fun q z9 => gSt.dom hK Nq3 (hI q z9)
    replace Hq3 := Nq3
    refine gI_dup hB dL_build_282 rfl ?_
    refine gI_iconst (v := nI 5) hB dL_build_283 (by decide) ?_
    refine gI_iload hB 1 dL_build_284 rfl ?_
    refine gI_bipush (v := nI 8) hB dL_build_286 (by decide) ?_
    refine gI_ishr hB dL_build_288 ?_
    refine gI_iload hB 5 dL_build_289 rfl ?_
    refine gI_callS (n9 := 2) (As := [.int (v8 >>> ((nI 8) &&& 31)), .int (nI N)]) (rest := [.int (nI 5), .ref q3, .ref q3]) hB (s_below X.2.1 h (v8 >>> ((nI 8) &&& 31)) (N := N) (by omega) (by omega)) (gCW.of ggL_build_L_below rfl ⟨by decide, by decide, by decide +kernel⟩ ⟨Nat.le_of_ble_eq_true rfl, Nat.le_of_ble_eq_true rfl⟩) (Or.inl (by decide +kernel)) (by decide +kernel) (by decide +kernel) rfl rfl (Nat.le_of_ble_eq_true rfl) (by obtain ⟨b1, b2, b3⟩ := bd; dsimp only [gRm]; omega) (by obtain ⟨b1, b2, b3⟩ := bd; dsimp only [gRm]; omega) dL_build_291 (fun v9 h1 k1 n1 hp => ?_) (fun E9 h1 k1 n1 hp => by obtain ⟨-, -, -, x9, -, e9⟩ := hp; cases e9)
    obtain ⟨rfl, rfl, rfl, y8, hy8, e9⟩ := hp
    cases e9
    refine gC_iast hB 5 Hq3 rfl (by omega) (by omega) dL_build_294 (fun h Nq3 hK => ?_)
    have hO : ∀ q e, gat h_0 q e → FR q e → gat h q e := fun q e z9 w9 => hK q e (hO q e z9 w9) (on_q3 q e z9 w9)
    have hI : ∀ q, q ∈ h_0.1 → q ∈ h.1 := fun q z9 => gSt.dom hK Nq3 (hI q z9)
    replace Hq3 := Nq3
    refine gI_dup hB dL_build_295 rfl ?_
    refine gI_bipush (v := nI 6) hB dL_build_296 (by decide) ?_
    refine gI_iconst (v := nI 1) hB dL_build_298 (by decide) ?_
    refine gI_iload hB 1 dL_build_299 rfl ?_
    refine gI_bipush (v := nI 6) hB dL_build_301 (by decide) ?_
    refine gI_ishr hB dL_build_303 ?_
    refine gI_bipush (v := nI 9) hB dL_build_304 (by decide) ?_
    refine gI_callS (n9 := 2) (As := [.int (v8 >>> ((nI 6) &&& 31)), .int (nI 9)]) (rest := [.int (nI 1), .int (nI 6), .ref q3, .ref q3]) hB (s_below X.2.1 h (v8 >>> ((nI 6) &&& 31)) (N := 9) (by omega) (by omega)) (gCW.of ggL_build_L_below rfl ⟨by decide, by decide, by decide +kernel⟩ ⟨Nat.le_of_ble_eq_true rfl, Nat.le_of_ble_eq_true rfl⟩) (Or.inl (by decide +kernel)) (by decide +kernel) (by decide +kernel) rfl rfl (Nat.le_of_ble_eq_true rfl) (by obtain ⟨b1, b2, b3⟩ := bd; dsimp only [gRm]; omega) (by obtain ⟨b1, b2, b3⟩ := bd; dsimp only [gRm]; omega) dL_build_306 (fun v9 h1 k1 n1 hp => ?_) (fun E9 h1 k1 n1 hp => by obtain ⟨-, -, -, x9, -, e9⟩ := hp; cases e9)
    obtain ⟨rfl, rfl, rfl, y9, hy9, e9⟩ := hp
    cases e9
    refine gI_iaddN hB dL_build_309 ?_
    refine gC_iast hB 6 Hq3 rfl (by omega) (by omega) dL_build_310 (fun h Nq3 hK => ?_)
    have hO : ∀ q e, gat h_0 q e → FR q e → gat h q e := fun q e z9 w9 => hK q e (hO q e z9 w9) (on_q3 q e z9 w9)
    have hI : ∀ q, q ∈ h_0.1 → q ∈ h.1 := fun q z9 => gSt.dom hK Nq3 (hI q z9)
    replace Hq3 := Nq3
    refine gI_dup hB dL_build_311 rfl ?_
    refine gI_bipush (v := nI 7) hB dL_build_312 (by decide) ?_
    refine gI_iload hB 1 dL_build_314 rfl ?_
    refine gI_bipush (v := nI 9) hB dL_build_316 (by decide) ?_
    refine gI_ishr hB dL_build_318 ?_
    refine gI_bipush (v := nI 25) hB dL_build_319 (by decide) ?_
    refine gI_callS (n9 := 2) (As := [.int (v8 >>> ((nI 9) &&& 31)), .int (nI 25)]) (rest := [.int (nI 7), .ref q3, .ref q3]) hB (s_below X.2.1 h (v8 >>> ((nI 9) &&& 31)) (N := 25) (by omega) (by omega)) (gCW.of ggL_build_L_below rfl ⟨by decide, by decide, by decide +kernel⟩ ⟨Nat.le_of_ble_eq_true rfl, Nat.le_of_ble_eq_true rfl⟩) (Or.inl (by decide +kernel)) (by decide +kernel) (by decide +kernel) rfl rfl (Nat.le_of_ble_eq_true rfl) (by obtain ⟨b1, b2, b3⟩ := bd; dsimp only [gRm]; omega) (by obtain ⟨b1, b2, b3⟩ := bd; dsimp only [gRm]; omega) dL_build_321 (fun v9 h1 k1 n1 hp => ?_) (fun E9 h1 k1 n1 hp => by obtain ⟨-, -, -, x9, -, e9⟩ := hp; cases e9)
    obtain ⟨rfl, rfl, rfl, y10, hy10, e9⟩ := hp
    cases e9
    refine gI_bipush (v := nI 12) hB dL_build_324 (by decide) ?_
    refine gI_isub hB dL_build_326 ?_
    refine gC_iast hB 7 Hq3 rfl (by omega) (by omega) dL_build_327 (fun h Nq3 hK => ?_)
    have hO : ∀ q e, gat h_0 q e → FR q e → gat h q e := fun q e z9 w9 => hK q e (hO q e z9 w9) (on_q3 q e z9 w9)
    have hI : ∀ q, q ∈ h_0.1 → q ∈ h.1 := fun q z9 => gSt.dom hK Nq3 (hI q z9)
    replace Hq3 := Nq3
    refine gI_dup hB dL_build_328 rfl ?_
    refine gI_bipush (v := nI 8) hB dL_build_329 (by decide) ?_
    refine gI_iconst (v := nI 0) hB dL_build_331 (by decide) ?_
    refine gC_iast hB 8 Hq3 rfl (by omega) (by omega) dL_build_332 (fun h Nq3 hK => ?_)
    have hO : ∀ q e, gat h_0 q e → FR q e → gat h q e := fun q e z9 w9 => hK q e (hO q e z9 w9) (on_q3 q e z9 w9)
    have hI : ∀ q, q ∈ h_0.1 → q ∈ h.1 := fun q z9 => gSt.dom hK Nq3 (hI q z9)
    replace Hq3 := Nq3
    refine gI_astore hB ([(10, .ref q3), (9, .int (nI y2)), (8, .int v8), (7, .int (nI j)), (6, .int (nI mm)), (5, .int (nI t)), (4, .int (nI N)), (3, .ref y), (2, .int (nI 8)), (1, .ref b), (0, .ref (c 0))]) hnL dL_build_333 (by decide) rfl ?_
    refine gI_iload hB 2 dL_build_335 rfl ?_
    refine gI_bipush (v := nI 10) hB dL_build_337 (by decide) ?_
    refine gI_ishr hB dL_build_339 ?_
    refine gI_iconst (v := nI 3) hB dL_build_340 (by decide) ?_
    refine gI_callS (n9 := 2) (As := [.int (v8 >>> ((nI 10) &&& 31)), .int (nI 3)]) (rest := []) hB (s_below X.2.1 h (v8 >>> ((nI 10) &&& 31)) (N := 3) (by omega) (by omega)) (gCW.of ggL_build_L_below rfl ⟨by decide, by decide, by decide +kernel⟩ ⟨Nat.le_of_ble_eq_true rfl, Nat.le_of_ble_eq_true rfl⟩) (Or.inl (by decide +kernel)) (by decide +kernel) (by decide +kernel) rfl rfl (Nat.le_of_ble_eq_true rfl) (by obtain ⟨b1, b2, b3⟩ := bd; dsimp only [gRm]; omega) (by obtain ⟨b1, b2, b3⟩ := bd; dsimp only [gRm]; omega) dL_build_341 (fun v9 h1 k1 n1 hp => ?_) (fun E9 h1 k1 n1 hp => by obtain ⟨-, -, -, x9, -, e9⟩ := hp; cases e9)
    obtain ⟨rfl, rfl, rfl, y11, hy11, e9⟩ := hp
    cases e9
    refine gI_if_le hB 358 dL_build_344 (by decide) (fun c344_12 => ?_) (fun c344_12 => ?_)
    · skip
      refine gI_loc [0, 3, 4, 5, 6, 7, 8, 9, 10] rfl ?_
      obtain ⟨ff, eff⟩ : ∃ ff : Nat → Int32, ff = (upd (upd (upd (upd (upd (upd (upd (upd (upd (fun _ => 0) 0 (nI y4)) 1 (nI y5)) 2 (if (nI y2) < (nI 2) then (nI y2) else (nI 2))) 3 (nI y6)) 4 (nI y7)) 5 (nI y8)) 6 (nI (1 + y9))) 7 ((nI y10) - (nI 12))) 8 (nI 0)) := ⟨_, rfl⟩
      rw [← eff] at Hq3
      have m0 : mIn (ff 0) (nI 0) (nI 23) := by rw [eff]; exact mIn_lo (w := y4) (by omega) (by omega)
      have m1 : mIn (ff 1) (nI 0) (nI 23) := by rw [eff]; exact mIn_lo (w := y5) (by omega) (by omega)
      have m3 : mIn (ff 3) (nI 0) (nI 9) := by rw [eff]; exact mIn_lo (w := y6) (by omega) (by omega)
      have m4 : mIn (ff 4) (nI 0) (nI 5) := by rw [eff]; exact mIn_lo (w := y7) (by omega) (by omega)
      have m2 : mIn (ff 2) (nI 0) (nI 2) := by rw [eff]; exact mIn_min (y := y2) (by omega)
      have m5 : ff 5 = nI y8 := by rw [eff]; rfl
      have m6 : mIn (ff 6) (nI 1) (nI 99) := by rw [eff]; exact ⟨nI_le (a := 1) (b := 1 + y9) (by omega) (by omega), nI_le (a := 1 + y9) (b := 99) (by omega) (by omega)⟩
      have m7 : mIn (ff 7) (-12) (nI 12) := by rw [eff]; exact mIn_12 (y := y10) (by omega)
      have hs1 : gSub hC h := fun q9 e9 z9 => hO q9 e9 (hs0 q9 e9 z9) (by rw [eFR]; trivial)
      have hS1 := hS0.sa (fun q9 e9 z9 => hO q9 e9 z9 (by rw [eFR]; trivial))
      refine b_add (B := B + 130 * r) hB hnL hN ht hlen (by omega) hl8 m0 m1 m2 m3 m4 m5 hy8 m6 m7 (fun h hC u k n F hu hS hs hnd hW bd => ?_) hu hS1 hs1 hnd hW Hq3 (hs0.fresh nw_q3) (bd.to (by omega))
      refine ih (j + 1) h hC u (pUp len t (j + 1)) k n F (by omega) hu pUp_s (fun x hx => ?_) (fun x hx hx9 => ?_) hS hs hnd hW bd
      · by_cases c9 : x = t
        · rw [c9, pUp_s]
          omega
        · rw [pUp_n c9]
          exact hl8 x hx
      · rw [pUp_n (by omega)]
        exact hl0 x hx hx9
    · skip
      refine gI_aload hB 0 dL_build_347 rfl ?_
      refine gI_iconst (v := nI 0) hB dL_build_349 (by decide) ?_
      refine gI_iconst (v := nI 0) hB dL_build_350 (by decide) ?_
      refine gC_iast hB 0 Hq3 rfl (by omega) (by omega) dL_build_351 (fun h Nq3 hK => ?_)
      have hO : ∀ q e, gat h_0 q e → FR q e → gat h q e := fun q e z9 w9 => hK q e (hO q e z9 w9) (on_q3 q e z9 w9)
      have hI : ∀ q, q ∈ h_0.1 → q ∈ h.1 := fun q z9 => gSt.dom hK Nq3 (hI q z9)
      replace Hq3 := Nq3
      refine gI_aload hB 0 dL_build_352 rfl ?_
      refine gI_iconst (v := nI 1) hB dL_build_354 (by decide) ?_
      refine gI_bipush (v := nI 23) hB dL_build_355 (by decide) ?_
      refine gC_iast hB 1 Hq3 rfl (by omega) (by omega) dL_build_357 (fun h Nq3 hK => ?_)
      have hO : ∀ q e, gat h_0 q e → FR q e → gat h q e := fun q e z9 w9 => hK q e (hO q e z9 w9) (on_q3 q e z9 w9)
      have hI : ∀ q, q ∈ h_0.1 → q ∈ h.1 := fun q z9 => gSt.dom hK Nq3 (hI q z9)
      replace Hq3 := Nq3
      refine gI_loc [0, 3, 4, 5, 6, 7, 8, 9, 10] rfl ?_
      obtain ⟨ff, eff⟩ : ∃ ff : Nat → Int32, ff = (upd (upd (upd (upd (upd (upd (upd (upd (upd (upd (upd (fun _ => 0) 0 (nI y4)) 1 (nI y5)) 2 (if (nI y2) < (nI 2) then (nI y2) else (nI 2))) 3 (nI y6)) 4 (nI y7)) 5 (nI y8)) 6 (nI (1 + y9))) 7 ((nI y10) - (nI 12))) 8 (nI 0)) 0 (nI 0)) 1 (nI 23)) := ⟨_, rfl⟩
      rw [← eff] at Hq3
      have m0 : mIn (ff 0) (nI 0) (nI 23) := by rw [eff]; exact mIn_lo (w := 0) (by omega) (by omega)
      have m1 : mIn (ff 1) (nI 0) (nI 23) := by rw [eff]; exact mIn_lo (w := 23) (by omega) (by omega)
      have m3 : mIn (ff 3) (nI 0) (nI 9) := by rw [eff]; exact mIn_lo (w := y6) (by omega) (by omega)
      have m4 : mIn (ff 4) (nI 0) (nI 5) := by rw [eff]; exact mIn_lo (w := y7) (by omega) (by omega)
      have m2 : mIn (ff 2) (nI 0) (nI 2) := by rw [eff]; exact mIn_min (y := y2) (by omega)
      have m5 : ff 5 = nI y8 := by rw [eff]; rfl
      have m6 : mIn (ff 6) (nI 1) (nI 99) := by rw [eff]; exact ⟨nI_le (a := 1) (b := 1 + y9) (by omega) (by omega), nI_le (a := 1 + y9) (b := 99) (by omega) (by omega)⟩
      have m7 : mIn (ff 7) (-12) (nI 12) := by rw [eff]; exact mIn_12 (y := y10) (by omega)
      have hs1 : gSub hC h := fun q9 e9 z9 => hO q9 e9 (hs0 q9 e9 z9) (by rw [eFR]; trivial)
      have hS1 := hS0.sa (fun q9 e9 z9 => hO q9 e9 z9 (by rw [eFR]; trivial))
      refine b_add (B := B + 130 * r) hB hnL hN ht hlen (by omega) hl8 m0 m1 m2 m3 m4 m5 hy8 m6 m7 (fun h hC u k n F hu hS hs hnd hW bd => ?_) hu hS1 hs1 hnd hW Hq3 (hs0.fresh nw_q3) (bd.to (by omega))
      refine ih (j + 1) h hC u (pUp len t (j + 1)) k n F (by omega) hu pUp_s (fun x hx => ?_) (fun x hx hx9 => ?_) hS hs hnd hW bd
      · by_cases c9 : x = t
        · rw [c9, pUp_s]
          omega
        · rw [pUp_n c9]
          exact hl8 x hx
      · rw [pUp_n (by omega)]
        exact hl0 x hx hx9
