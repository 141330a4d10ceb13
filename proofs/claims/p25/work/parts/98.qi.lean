/-! the twenty times -/
set_option maxRecDepth 100000 in
set_option maxHeartbeats 4000000 in
theorem l_rest2 {X : gX} {b y : Nat} {c : Nat → Nat} {u : MS} {T τ L time lo B : Nat} {M : Nat → Int32} {a bb : Nat → Nat} {g : Nat → Nat → Nat} {v11 v10 v9 v8 v7 : Int32} (hB : gB X room_1 cL_law wsL_law RL) (hnL : gnL X = 18) (q : pI u T M τ L a bb g) (hT1 : 1 ≤ T) (hT8 : T ≤ 8) (hτ : τ < 900000) (hlo : lo ≤ L) (hL9 : L < 900000)
    (kk : ∀ (h : gH) (k n F : Nat), cW X.2.1 h c u F → pBud k n F B → gW X h k n 584 [(6, .int (nI time)), (5, .int (nI lo)), (4, .int (nI (pS a T))), (3, .int (nI T)), (2, .ref y), (1, .ref (c 0)), (0, .ref b)] []) {h : gH} {k n F : Nat} (hW : cW X.2.1 h c u F) (bd : pBud k n F (B + 1250)) : gW X h k n 228 [(11, .int v11), (10, .int v10), (9, .int v9), (8, .int v8), (7, .int v7), (6, .int (nI time)), (5, .int (nI lo)), (4, .int (nI (pS a T))), (3, .int (nI T)), (2, .ref y), (1, .ref (c 0)), (0, .ref b)] [] := by
  obtain ⟨⟨W, z, o⟩, qq, qc⟩ := q
  have e0 : u.1 0 = nI 0 := qc.2.2.2.2.2
  have hW60 := o.2.2.2.1
  obtain ⟨q9, hq9, e11⟩ := qc.2.2.2.1
  have hbb : pS bb T ≤ (τ + 1) * T := pS_le T (fun i hi => by obtain ⟨-, -, c54, ca, -⟩ := qc.1 i hi; rcases ca with z9 | z9 <;> omega)
  refine gI_aload_n hB 10 dL_law_228 rfl ?_
  refine gI_iconst (v := nI 0) hB dL_law_229 (by decide) ?_
  refine gI_cl (n9 := 1) (As := [.int (nI 0)]) (rest := []) hB (B + 1249) (r_count hW e0 ((v_count e0 (w := 0) (by omega)).trans (congrArg (Prod.mk u) (qq.rings o).2.2.2.1))) (gCW.of ggL_law_X6_count rfl ⟨by decide, by decide, by decide +kernel⟩ ⟨Nat.le_of_ble_eq_true rfl, Nat.le_of_ble_eq_true rfl⟩) (by decide +kernel) (by decide +kernel) (by decide +kernel) (by decide +kernel) hW rfl rfl (Nat.le_of_ble_eq_true rfl) ⟨Nat.le_of_ble_eq_true rfl, Nat.le_of_ble_eq_true rfl⟩ ⟨Nat.le_of_ble_eq_true rfl, Nat.le_of_ble_eq_true rfl⟩ dL_law_230 (bd.to (by omega)) (fun h k n F hW bd => ?_)
  refine gI_istore hB ([(12, .int (nI τ)), (11, .int v11), (10, .int v10), (9, .int v9), (8, .int v8), (7, .int v7), (6, .int (nI time)), (5, .int (nI lo)), (4, .int (nI (pS a T))), (3, .int (nI T)), (2, .ref y), (1, .ref (c 0)), (0, .ref b)]) hnL dL_law_233 (by decide) rfl ?_
  refine gI_iconst (v := nI 0) hB dL_law_235 (by decide) ?_
  refine gI_istore hB ([(13, .int (nI 0)), (12, .int (nI τ)), (11, .int v11), (10, .int v10), (9, .int v9), (8, .int v8), (7, .int v7), (6, .int (nI time)), (5, .int (nI lo)), (4, .int (nI (pS a T))), (3, .int (nI T)), (2, .ref y), (1, .ref (c 0)), (0, .ref b)]) hnL dL_law_236 (by decide) rfl ?_
  refine gI_iconst (v := nI 0) hB dL_law_238 (by decide) ?_
  refine gI_istore hB ([(14, .int (nI 0)), (13, .int (nI 0)), (12, .int (nI τ)), (11, .int v11), (10, .int v10), (9, .int v9), (8, .int v8), (7, .int v7), (6, .int (nI time)), (5, .int (nI lo)), (4, .int (nI (pS a T))), (3, .int (nI T)), (2, .ref y), (1, .ref (c 0)), (0, .ref b)]) hnL dL_law_239 (by decide) rfl ?_
  refine gI_iconst (v := nI 0) hB dL_law_241 (by decide) ?_
  refine gI_istore hB ([(15, .int (nI 0)), (14, .int (nI 0)), (13, .int (nI 0)), (12, .int (nI τ)), (11, .int v11), (10, .int v10), (9, .int v9), (8, .int v8), (7, .int v7), (6, .int (nI time)), (5, .int (nI lo)), (4, .int (nI (pS a T))), (3, .int (nI T)), (2, .ref y), (1, .ref (c 0)), (0, .ref b)]) hnL dL_law_242 (by decide) rfl ?_
  refine l_ten (B := B + 1000) hB hnL o qc (by omega) (fun h k n F hW bd => ?_) T 0 h k n F (by omega) hW (bd.to (by omega))
  refine gI_iload hB 2 dL_law_377 rfl ?_
  refine gI_iload hB 11 dL_law_379 rfl ?_
  refine gI_icmp_ne hB 436 dL_law_381 (by decide) (fun z => absurd z (fun z8 => z8 rfl)) (fun _ => ?_)
  refine gI_aload_n hB 14 dL_law_384 rfl ?_
  refine gI_iconst (v := nI 4) hB dL_law_385 (by decide) ?_
  refine gI_cl (n9 := 1) (As := [.int (nI 4)]) (rest := []) hB (B + 999) (r_count hW e0 ((v_count e0 (w := 4) (by omega)).trans (congrArg (Prod.mk u) qc.2.1))) (gCW.of ggL_law_X6_count rfl ⟨by decide, by decide, by decide +kernel⟩ ⟨Nat.le_of_ble_eq_true rfl, Nat.le_of_ble_eq_true rfl⟩) (by decide +kernel) (by decide +kernel) (by decide +kernel) (by decide +kernel) hW rfl rfl (Nat.le_of_ble_eq_true rfl) ⟨Nat.le_of_ble_eq_true rfl, Nat.le_of_ble_eq_true rfl⟩ ⟨Nat.le_of_ble_eq_true rfl, Nat.le_of_ble_eq_true rfl⟩ dL_law_386 (bd.to (by omega)) (fun h k n F hW bd => ?_)
  refine gI_iload hB 11 dL_law_389 rfl ?_
  refine gI_icmp_ne hB 436 dL_law_391 (by decide) (fun z => absurd z (fun z8 => z8 rfl)) (fun _ => ?_)
  refine gI_aload_n hB 14 dL_law_394 rfl ?_
  refine gI_iconst (v := nI 5) hB dL_law_395 (by decide) ?_
  refine gI_cl (n9 := 1) (As := [.int (nI 5)]) (rest := []) hB (B + 998) (r_count hW e0 ((v_count e0 (w := 5) (by omega)).trans (congrArg (Prod.mk u) (qq.rings o).2.2.2.2))) (gCW.of ggL_law_X6_count rfl ⟨by decide, by decide, by decide +kernel⟩ ⟨Nat.le_of_ble_eq_true rfl, Nat.le_of_ble_eq_true rfl⟩) (by decide +kernel) (by decide +kernel) (by decide +kernel) (by decide +kernel) hW rfl rfl (Nat.le_of_ble_eq_true rfl) ⟨Nat.le_of_ble_eq_true rfl, Nat.le_of_ble_eq_true rfl⟩ ⟨Nat.le_of_ble_eq_true rfl, Nat.le_of_ble_eq_true rfl⟩ dL_law_396 (bd.to (by omega)) (fun h k n F hW bd => ?_)
  refine gI_iload hB 10 dL_law_399 rfl ?_
  refine gI_icmp_lt hB 436 dL_law_401 (by decide) (fun z => absurd z (Int32.not_lt.mpr (nI_le hlo (by omega)))) (fun _ => ?_)
  refine gI_iload hB 1 dL_law_404 rfl ?_
  refine gI_aload_n hB 14 dL_law_406 rfl ?_
  refine gI_bipush (v := nI 6) hB dL_law_407 (by decide) ?_
  refine gI_cl (n9 := 1) (As := [.int (nI 6)]) (rest := [.int (nI (pS bb T))]) hB (B + 997) (r_count hW e0 ((v_count e0 (w := 6) (by omega)).trans (congrArg (Prod.mk u) qc.2.2.1))) (gCW.of ggL_law_X6_count rfl ⟨by decide, by decide, by decide +kernel⟩ ⟨Nat.le_of_ble_eq_true rfl, Nat.le_of_ble_eq_true rfl⟩) (by decide +kernel) (by decide +kernel) (by decide +kernel) (by decide +kernel) hW rfl rfl (Nat.le_of_ble_eq_true rfl) ⟨Nat.le_of_ble_eq_true rfl, Nat.le_of_ble_eq_true rfl⟩ ⟨Nat.le_of_ble_eq_true rfl, Nat.le_of_ble_eq_true rfl⟩ dL_law_409 (bd.to (by omega)) (fun h k n F hW bd => ?_)
  refine gI_icmp_ne hB 436 dL_law_412 (by decide) (fun z => absurd z (fun z8 => z8 rfl)) (fun _ => ?_)
  refine gI_aload_n hB 14 dL_law_415 rfl ?_
  refine gI_iconst (v := nI 3) hB dL_law_416 (by decide) ?_
  refine gI_cl (n9 := 1) (As := [.int (nI 3)]) (rest := []) hB (B + 996) (r_count hW e0 ((v_count e0 (w := 3) (by omega)).trans (congrArg (Prod.mk u) o.2.2.1))) (gCW.of ggL_law_X6_count rfl ⟨by decide, by decide, by decide +kernel⟩ ⟨Nat.le_of_ble_eq_true rfl, Nat.le_of_ble_eq_true rfl⟩) (by decide +kernel) (by decide +kernel) (by decide +kernel) (by decide +kernel) hW rfl rfl (Nat.le_of_ble_eq_true rfl) ⟨Nat.le_of_ble_eq_true rfl, Nat.le_of_ble_eq_true rfl⟩ ⟨Nat.le_of_ble_eq_true rfl, Nat.le_of_ble_eq_true rfl⟩ dL_law_417 (bd.to (by omega)) (fun h k n F hW bd => ?_)
  refine gI_bipush (v := nI 60) hB dL_law_420 (by decide) ?_
  refine gI_icmp_gt hB 436 dL_law_422 (by decide) (fun z => absurd z (Int32.not_lt.mpr (nI_le hW60 (by omega)))) (fun _ => ?_)
  refine gI_aload_n hB 14 dL_law_425 rfl ?_
  refine gI_bipush (v := nI 7) hB dL_law_426 (by decide) ?_
  refine gI_cl (n9 := 1) (As := [.int (nI 7)]) (rest := []) hB (B + 995) (r_count hW e0 ((v_count e0 (w := 7) (by omega)).trans (congrArg (Prod.mk u) e11))) (gCW.of ggL_law_X6_count rfl ⟨by decide, by decide, by decide +kernel⟩ ⟨Nat.le_of_ble_eq_true rfl, Nat.le_of_ble_eq_true rfl⟩) (by decide +kernel) (by decide +kernel) (by decide +kernel) (by decide +kernel) hW rfl rfl (Nat.le_of_ble_eq_true rfl) ⟨Nat.le_of_ble_eq_true rfl, Nat.le_of_ble_eq_true rfl⟩ ⟨Nat.le_of_ble_eq_true rfl, Nat.le_of_ble_eq_true rfl⟩ dL_law_428 (bd.to (by omega)) (fun h k n F hW bd => ?_)
  refine gI_bipush (v := nI 8) hB dL_law_431 (by decide) ?_
  refine gI_icmp_le hB 438 dL_law_433 (by decide) (fun _ => ?_) (fun z => absurd (nI_le hq9 (by omega)) z)
  refine gI_iconst (v := nI 0) hB dL_law_438 (by decide) ?_
  refine gI_istore hB ([(15, .int (nI 0)), (14, .int (nI (pS bb T))), (13, .int (nI (pS a T))), (12, .int (nI τ)), (11, .int v11), (10, .int v10), (9, .int v9), (8, .int v8), (7, .int v7), (6, .int (nI time)), (5, .int (nI lo)), (4, .int (nI (pS a T))), (3, .int (nI T)), (2, .ref y), (1, .ref (c 0)), (0, .ref b)]) hnL dL_law_439 (by decide) rfl ?_
  refine l_rng (B := B) hB hnL o e0 qq (by omega) (fun h k n F hW bd => ?_) W 0 h k n F (by omega) hW (bd.to (by omega))
  refine gI_loc [9, 10, 11, 12, 13, 14, 15] rfl ?_
  exact kk h k n F hW bd

set_option maxRecDepth 100000 in
set_option maxHeartbeats 4000000 in
theorem l_rest {X : gX} {b y : Nat} {c : Nat → Nat} {u : MS} {T τ L time lo B : Nat} {M : Nat → Int32} {a bb : Nat → Nat} {g : Nat → Nat → Nat} {v11 v10 v9 v8 v7 : Int32} (hB : gB X room_1 cL_law wsL_law RL) (hnL : gnL X = 18) (q : pI u T M τ L a bb g) (hT1 : 1 ≤ T) (hT8 : T ≤ 8) (hτ : τ < 800000) (hlo : lo ≤ L) (hL9 : L < 800000)
    (kk : ∀ (u2 : MS) (p L2 : Nat) (a2 b2 : Nat → Nat) (g2 : Nat → Nat → Nat) (h : gH) (k n F : Nat), p ≤ 20 → L ≤ L2 → L2 ≤ L + 20400 → pI u2 T M (τ + p) L2 a2 b2 g2 → cW X.2.1 h c u2 F → pBud k n F B → gW X h k n 584 [(6, .int (nI time)), (5, .int (nI lo)), (4, .int (nI (pS a2 T))), (3, .int (nI T)), (2, .ref y), (1, .ref (c 0)), (0, .ref b)] []) {h : gH} {k n F : Nat} (hW : cW X.2.1 h c u F) (bd : pBud k n F (B + 1251)) : gW X h k n 208 [(11, .int v11), (10, .int v10), (9, .int v9), (8, .int v8), (7, .int v7), (6, .int (nI time)), (5, .int (nI lo)), (4, .int (nI (pS a T))), (3, .int (nI T)), (2, .ref y), (1, .ref (c 0)), (0, .ref b)] [] := by
  refine gI_iload hB 7 dL_law_208 rfl ?_
  refine gI_aload_n hB 10 dL_law_210 rfl ?_
  refine gI_iconst (v := nI 1) hB dL_law_211 (by decide) ?_
  refine gI_iload hB 4 dL_law_212 rfl ?_
  refine gI_iconst (v := nI 4) hB dL_law_214 (by decide) ?_
  refine gI_ishr hB dL_law_215 ?_
  refine gI_bipush (v := nI 20) hB dL_law_216 (by decide) ?_
  refine gI_callS (n9 := 2) (As := [.int (v7 >>> ((nI 4) &&& 31)), .int (nI 20)]) (rest := [.int (nI 1), .ref (c 0), .int (nI (pS a T))]) hB (s_below X.2.1 h (v7 >>> ((nI 4) &&& 31)) (N := 20) (by omega) (by omega)) (gCW.of ggL_law_L_below rfl ⟨by decide, by decide, by decide +kernel⟩ ⟨Nat.le_of_ble_eq_true rfl, Nat.le_of_ble_eq_true rfl⟩) (Or.inl (by decide +kernel)) (by decide +kernel) (by decide +kernel) rfl rfl (Nat.le_of_ble_eq_true rfl) (by obtain ⟨b1, b2, b3⟩ := bd; show _ ≤ 600074; first | omega | (dsimp only [gRm]; omega)) (by obtain ⟨b1, b2, b3⟩ := bd; show _ ≤ 7301550; first | omega | (dsimp only [gRm]; omega)) dL_law_218 (fun v9 h1 k1 n1 hp => ?_) (fun E9 h1 k1 n1 hp => by obtain ⟨-, -, -, x9, -, e9⟩ := hp; cases e9)
  obtain ⟨rfl, rfl, rfl, y1, hy1, e9⟩ := hp
  cases e9
  refine gI_iaddN hB dL_law_221 ?_
  obtain ⟨L2, a2, b2, g2, l1, l2, q2⟩ := mPassL_I (1 + y1) u τ L a bb g (by omega) q
  have eP := v_pass (p := (1 + y1)) q.2.2.2.2.2.2.2 (by omega) (by omega)
  obtain ⟨u2, e2⟩ : ∃ u2, u2 = mPassL (1 + y1) u := ⟨_, rfl⟩
  rw [← e2] at q2 eP
  rw [q2.2.2.2.1, q.2.2.2.1] at eP
  refine gI_cl (n9 := 1) (As := [.int (nI (1 + y1))]) (rest := [.int (nI (pS a T))]) hB (B + 1250) (r_pass hW eP q2.2.2.2.2.2.2.2) (gCW.of ggL_law_X6_pass rfl ⟨by decide, by decide, by decide +kernel⟩ ⟨Nat.le_of_ble_eq_true rfl, Nat.le_of_ble_eq_true rfl⟩) (by decide +kernel) (by decide +kernel) (by decide +kernel) (by decide +kernel) hW rfl rfl (Nat.le_of_ble_eq_true rfl) ⟨Nat.le_of_ble_eq_true rfl, Nat.le_of_ble_eq_true rfl⟩ ⟨Nat.le_of_ble_eq_true rfl, Nat.le_of_ble_eq_true rfl⟩ dL_law_222 (bd.to (by omega)) (fun h k n F hW bd => ?_)
  refine gI_iadd hB dL_law_225 ?_
  refine gI_topi hB (y := nI (pS a2 T)) (by rw [Int32.add_comm, Int32.sub_add_cancel]) ?_
  refine gI_istore hB ([(4, .int (nI (pS a2 T))), (11, .int v11), (10, .int v10), (9, .int v9), (8, .int v8), (7, .int v7), (6, .int (nI time)), (5, .int (nI lo)), (3, .int (nI T)), (2, .ref y), (1, .ref (c 0)), (0, .ref b)]) hnL dL_law_226 (by decide) rfl ?_
  refine gI_loc [1, 2, 3, 4, 5, 6, 7, 0, 8, 9, 10, 11] rfl ?_
  exact l_rest2 hB hnL q2 hT1 hT8 (by omega) (by omega) (by omega) (fun h k n F hW bd => kk u2 _ L2 a2 b2 g2 h k n F (by omega) l1 (by omega) q2 hW bd) hW (bd.to (by omega))

set_option maxRecDepth 100000 in
set_option maxHeartbeats 4000000 in
theorem l_main {X : gX} {b y : Nat} {c : Nat → Nat} {T L9 B : Nat} {xs : Nat → Int32} {M : Nat → Int32} (hB : gB X room_1 cL_law wsL_law RL) (hnL : gnL X = 18) (hS9 : gScr X b L9 xs) (hL : L9 ≤ 260) (hT1 : 1 ≤ T) (hT8 : T ≤ 8)
    (kk : ∀ (u : MS) (τ L lo : Nat) (a bb : Nat → Nat) (g : Nat → Nat → Nat) (h : gH) (k n F : Nat), τ < 1000 → pI u T M τ L a bb g → cW X.2.1 h c u F → pBud k n F B → gW X h k n 590 [(6, .int (nI 20)), (5, .int (nI lo)), (4, .int (nI (pS a T))), (3, .int (nI T)), (2, .ref y), (1, .ref (c 0)), (0, .ref b)] []) : ∀ (r time : Nat) (u : MS) (τ L lo : Nat) (a bb : Nat → Nat) (g : Nat → Nat → Nat) (h : gH) (k n F : Nat), time + r = 20 → τ ≤ 20 * time → L ≤ 20420 * time → lo ≤ L → pI u T M τ L a bb g → cW X.2.1 h c u F → pBud k n F (B + 1300 * r) → gW X h k n 37 [(6, .int (nI time)), (5, .int (nI lo)), (4, .int (nI (pS a T))), (3, .int (nI T)), (2, .ref y), (1, .ref (c 0)), (0, .ref b)] [] := by
  intro r
  induction r with
  | zero =>
    intro time u τ L lo a bb g h k n F e h1 h2 h3 q hW bd
    obtain rfl : time = 20 := by omega
    refine gI_iload hB 0 dL_law_37 rfl ?_
    refine gI_bipush (v := nI 20) hB dL_law_39 (by decide) ?_
    refine gI_icmp_ge hB 590 dL_law_41 (by decide) (fun _ => ?_) (fun z => absurd (Int32.le_refl _) z)
    exact kk u τ L lo a bb g h k n F (by omega) q hW (bd.to (by omega))
  | succ r ih =>
    intro time u τ L lo a bb g h k n F e h1 h2 h3 q hW bd
    obtain ⟨⟨W, z, o⟩, qq, qc⟩ := id q
    have e0 : u.1 0 = nI 0 := qc.2.2.2.2.2
    refine gI_iload hB 0 dL_law_37 rfl ?_
    refine gI_bipush (v := nI 20) hB dL_law_39 (by decide) ?_
    refine gI_icmp_ge hB 590 dL_law_41 (by decide) (fun z => absurd z (Int32.not_le.mpr (nI_lt (a := time) (b := 20) (by omega) (by omega)))) (fun _ => ?_)
    refine gI_aload_n hB 6 dL_law_44 rfl ?_
    refine gI_iload hB 0 dL_law_45 rfl ?_
    refine gI_bipush (v := nI 16) hB dL_law_47 (by decide) ?_
    refine gI_irem hB dL_law_49 (by decide) ?_
    refine gI_topi hB (y := nI (time % 16)) (pk_rem (by omega) (by omega) (by omega)) ?_
    refine gI_callSS (n9 := 2) (As := [.ref b, .int (nI (time % 16))]) (rest := []) hB hS9 (s_cell X.2.1 h hL (time % 16) (by omega)) (gCW.of ggL_law_L_cell rfl ⟨by decide, by decide, by decide +kernel⟩ ⟨Nat.le_of_ble_eq_true rfl, Nat.le_of_ble_eq_true rfl⟩) (by decide +kernel) (by decide +kernel) (by decide +kernel) rfl rfl (Nat.le_of_ble_eq_true rfl) (by obtain ⟨b1, b2, b3⟩ := bd; show _ ≤ 600074; first | omega | (dsimp only [gRm]; omega)) (by obtain ⟨b1, b2, b3⟩ := bd; show _ ≤ 7301550; first | omega | (dsimp only [gRm]; omega)) dL_law_50 (fun v9 h1 k1 n1 hp => ?_) (fun E9 h1 k1 n1 hp => by obtain ⟨-, -, -, x9, e9⟩ := hp; cases e9)
    obtain ⟨rfl, rfl, rfl, x1, e9⟩ := hp
    cases e9
    refine gI_iload hB 0 dL_law_53 rfl ?_
    refine gI_bipush (v := nI 16) hB dL_law_55 (by decide) ?_
    refine gI_idiv hB dL_law_57 (by decide) ?_
    refine gI_iconst (v := nI 4) hB dL_law_58 (by decide) ?_
    refine gI_imul hB dL_law_59 ?_
    refine gI_ishr hB dL_law_60 ?_
    obtain ⟨v7, ev7⟩ : ∃ v7 : Int32, v7 = (x1 >>> ((((nI time) / (nI 16)) * (nI 4)) &&& 31)) := ⟨_, rfl⟩
    refine gI_topi hB (y := v7) ev7.symm ?_
    refine gI_istore hB ([(7, .int v7), (6, .int (nI time)), (5, .int (nI lo)), (4, .int (nI (pS a T))), (3, .int (nI T)), (2, .ref y), (1, .ref (c 0)), (0, .ref b)]) hnL dL_law_61 (by decide) rfl ?_
    refine gI_iload hB 0 dL_law_63 rfl ?_
    refine gI_iload_n hB 4 dL_law_65 rfl ?_
    refine gI_callS (n9 := 2) (As := [.int v7, .int (nI T)]) (rest := []) hB (s_below X.2.1 h v7 (N := T) (by omega) (by omega)) (gCW.of ggL_law_L_below rfl ⟨by decide, by decide, by decide +kernel⟩ ⟨Nat.le_of_ble_eq_true rfl, Nat.le_of_ble_eq_true rfl⟩) (Or.inl (by decide +kernel)) (by decide +kernel) (by decide +kernel) rfl rfl (Nat.le_of_ble_eq_true rfl) (by obtain ⟨b1, b2, b3⟩ := bd; show _ ≤ 600074; first | omega | (dsimp only [gRm]; omega)) (by obtain ⟨b1, b2, b3⟩ := bd; show _ ≤ 7301550; first | omega | (dsimp only [gRm]; omega)) dL_law_66 (fun v9 h1 k1 n1 hp => ?_) (fun E9 h1 k1 n1 hp => by obtain ⟨-, -, -, x9, -, e9⟩ := hp; cases e9)
    obtain ⟨rfl, rfl, rfl, y2, hy2, e9⟩ := hp
    cases e9
    refine gI_istore hB ([(8, .int (nI y2)), (7, .int v7), (6, .int (nI time)), (5, .int (nI lo)), (4, .int (nI (pS a T))), (3, .int (nI T)), (2, .ref y), (1, .ref (c 0)), (0, .ref b)]) hnL dL_law_69 (by decide) rfl ?_
    have ht : y2 < T := hy2
    have hc := qc.1 y2 ht
    rw [ite_self] at hc
    obtain ⟨c4, -⟩ := hc
    obtain ⟨m, hm, em, ⟨p, hp, ep⟩, -⟩ := o.2.2.2.2.2.2.2.1 y2 ht
    refine gI_aload_n hB 7 dL_law_71 rfl ?_
    refine gI_iload hB 0 dL_law_72 rfl ?_
    refine gI_iconst (v := nI 4) hB dL_law_74 (by decide) ?_
    refine gI_cl (n9 := 2) (As := [.int (nI y2), .int (nI 4)]) (rest := []) hB (B + 1300 * r + 1299) (r_tenant hW e0 ((v_tenant o e0 ht (by omega)).trans (congrArg (Prod.mk u) c4))) (gCW.of ggL_law_X6_tenant rfl ⟨by decide, by decide, by decide +kernel⟩ ⟨Nat.le_of_ble_eq_true rfl, Nat.le_of_ble_eq_true rfl⟩) (by decide +kernel) (by decide +kernel) (by decide +kernel) (by decide +kernel) hW rfl rfl (Nat.le_of_ble_eq_true rfl) ⟨Nat.le_of_ble_eq_true rfl, Nat.le_of_ble_eq_true rfl⟩ ⟨Nat.le_of_ble_eq_true rfl, Nat.le_of_ble_eq_true rfl⟩ dL_law_75 (bd.to (by omega)) (fun h k n F hW bd => ?_)
    refine gI_istore hB ([(9, .int (nI (a y2))), (8, .int (nI y2)), (7, .int v7), (6, .int (nI time)), (5, .int (nI lo)), (4, .int (nI (pS a T))), (3, .int (nI T)), (2, .ref y), (1, .ref (c 0)), (0, .ref b)]) hnL dL_law_78 (by decide) rfl ?_
    refine gI_aload_n hB 8 dL_law_80 rfl ?_
    refine gI_iload hB 1 dL_law_81 rfl ?_
    refine gI_iconst (v := nI 2) hB dL_law_83 (by decide) ?_
    refine gI_cl (n9 := 2) (As := [.int (nI y2), .int (nI 2)]) (rest := []) hB (B + 1300 * r + 1298) (r_tenant hW e0 ((v_tenant o e0 ht (by omega)).trans (congrArg (Prod.mk u) ep))) (gCW.of ggL_law_X6_tenant rfl ⟨by decide, by decide, by decide +kernel⟩ ⟨Nat.le_of_ble_eq_true rfl, Nat.le_of_ble_eq_true rfl⟩) (by decide +kernel) (by decide +kernel) (by decide +kernel) (by decide +kernel) hW rfl rfl (Nat.le_of_ble_eq_true rfl) ⟨Nat.le_of_ble_eq_true rfl, Nat.le_of_ble_eq_true rfl⟩ ⟨Nat.le_of_ble_eq_true rfl, Nat.le_of_ble_eq_true rfl⟩ dL_law_84 (bd.to (by omega)) (fun h k n F hW bd => ?_)
    refine gI_istore hB ([(10, .int (nI p)), (9, .int (nI (a y2))), (8, .int (nI y2)), (7, .int v7), (6, .int (nI time)), (5, .int (nI lo)), (4, .int (nI (pS a T))), (3, .int (nI T)), (2, .ref y), (1, .ref (c 0)), (0, .ref b)]) hnL dL_law_87 (by decide) rfl ?_
    refine gI_aload_n hB 9 dL_law_89 rfl ?_
    refine gI_iload hB 2 dL_law_90 rfl ?_
    obtain ⟨L1, a1, b1, g1, l1, l2, q1, hcs⟩ := mRing_I (by omega) ht q
    obtain ⟨u1, told, eR⟩ : ∃ u1 told, mRing u (nI y2) = (u1, told) := ⟨_, _, rfl⟩
    rw [eR] at q1 hcs
    replace q1 : pI u1 T M τ L1 a1 b1 g1 := q1
    replace hcs : (told = nI 2 ∧ L + 1 ≤ L1 ∧ a1 = a ∧ u1.2 0 (7 * y2 + 2) = u.2 0 (7 * y2 + 2)) ∨ ((told = nI 0 ∨ told = nI 1) ∧ a1 = pU1 a y2 ∧ u1.2 0 (7 * y2 + 2) = (if nI 0 < u.2 0 (7 * y2 + 2) - nI 1 then u.2 0 (7 * y2 + 2) - nI 1 else nI 0)) := hcs
    obtain ⟨⟨W1, z1, o1⟩, qq1, qc1⟩ := id q1
    have e01 : u1.1 0 = nI 0 := qc1.2.2.2.2.2
    have hc1 := qc1.1 y2 ht
    rw [ite_self] at hc1
    obtain ⟨d4, -⟩ := hc1
    rw [ep] at hcs
    refine gI_cl (n9 := 1) (As := [.int (nI y2)]) (rest := []) hB (B + 1300 * r + 1297) (r_ring hW eR e01) (gCW.of ggL_law_X6_ring rfl ⟨by decide, by decide, by decide +kernel⟩ ⟨Nat.le_of_ble_eq_true rfl, Nat.le_of_ble_eq_true rfl⟩) (by decide +kernel) (by decide +kernel) (by decide +kernel) (by decide +kernel) hW rfl rfl (Nat.le_of_ble_eq_true rfl) ⟨Nat.le_of_ble_eq_true rfl, Nat.le_of_ble_eq_true rfl⟩ ⟨Nat.le_of_ble_eq_true rfl, Nat.le_of_ble_eq_true rfl⟩ dL_law_92 (bd.to (by omega)) (fun h k n F hW bd => ?_)
    refine gI_istore hB ([(11, .int told), (10, .int (nI p)), (9, .int (nI (a y2))), (8, .int (nI y2)), (7, .int v7), (6, .int (nI time)), (5, .int (nI lo)), (4, .int (nI (pS a T))), (3, .int (nI T)), (2, .ref y), (1, .ref (c 0)), (0, .ref b)]) hnL dL_law_95 (by decide) rfl ?_
    rcases hcs with ⟨e2, hL1, ea, hA⟩ | ⟨e2 | e2, ea, hA⟩
    · skip
      subst e2
      refine gI_iload hB 0 dL_law_97 rfl ?_
      refine gI_if_lt hB 174 dL_law_99 (by decide) (fun z => absurd z (nI_pos (by omega))) (fun _ => ?_)
      refine gI_iload hB 0 dL_law_102 rfl ?_
      refine gI_iconst (v := nI 2) hB dL_law_104 (by decide) ?_
      refine gI_icmp_gt hB 174 dL_law_105 (by decide) (fun z => absurd z (by decide)) (fun _ => ?_)
      refine gI_aload_n hB 10 dL_law_108 rfl ?_
      refine gI_iload hB 3 dL_law_109 rfl ?_
      refine gI_iconst (v := nI 4) hB dL_law_111 (by decide) ?_
      refine gI_cl (n9 := 2) (As := [.int (nI y2), .int (nI 4)]) (rest := []) hB (B + 1300 * r + 1296) (r_tenant hW e01 ((v_tenant o1 e01 ht (by omega)).trans (congrArg (Prod.mk u1) d4))) (gCW.of ggL_law_X6_tenant rfl ⟨by decide, by decide, by decide +kernel⟩ ⟨Nat.le_of_ble_eq_true rfl, Nat.le_of_ble_eq_true rfl⟩) (by decide +kernel) (by decide +kernel) (by decide +kernel) (by decide +kernel) hW rfl rfl (Nat.le_of_ble_eq_true rfl) ⟨Nat.le_of_ble_eq_true rfl, Nat.le_of_ble_eq_true rfl⟩ ⟨Nat.le_of_ble_eq_true rfl, Nat.le_of_ble_eq_true rfl⟩ dL_law_112 (bd.to (by omega)) (fun h k n F hW bd => ?_)
      refine gI_iload hB 2 dL_law_115 rfl ?_
      refine gI_iload hB 0 dL_law_117 rfl ?_
      refine gI_iconst (v := nI 2) hB dL_law_119 (by decide) ?_
      refine gI_icmp_ge hB 127 dL_law_120 (by decide) (fun _ => ?_) (fun z => absurd (by decide) z)
      refine gI_iconst (v := nI 0) hB dL_law_127 (by decide) ?_
      refine gI_iaddN hB dL_law_128 ?_
      refine gI_icmp_ne hB 174 dL_law_129 (by decide) (fun z => absurd z (fun z8 => z8 (congrArg nI (by rw [ea]; rfl)))) (fun _ => ?_)
      refine gI_iload hB 0 dL_law_132 rfl ?_
      refine gI_iconst (v := nI 2) hB dL_law_134 (by decide) ?_
      refine gI_icmp_ge hB 156 dL_law_135 (by decide) (fun _ => ?_) (fun z => absurd (by decide) z)
      refine gI_iload hB 0 dL_law_156 rfl ?_
      refine gI_iconst (v := nI 2) hB dL_law_158 (by decide) ?_
      refine gI_icmp_ne hB 176 dL_law_159 (by decide) (fun z => absurd z (fun z8 => z8 rfl)) (fun _ => ?_)
      refine gI_aload_n hB 10 dL_law_162 rfl ?_
      refine gI_iload hB 3 dL_law_163 rfl ?_
      refine gI_iconst (v := nI 2) hB dL_law_165 (by decide) ?_
      refine gI_cl (n9 := 2) (As := [.int (nI y2), .int (nI 2)]) (rest := []) hB (B + 1300 * r + 1295) (r_tenant hW e01 ((v_tenant o1 e01 ht (by omega)).trans (congrArg (Prod.mk u1) hA))) (gCW.of ggL_law_X6_tenant rfl ⟨by decide, by decide, by decide +kernel⟩ ⟨Nat.le_of_ble_eq_true rfl, Nat.le_of_ble_eq_true rfl⟩) (by decide +kernel) (by decide +kernel) (by decide +kernel) (by decide +kernel) hW rfl rfl (Nat.le_of_ble_eq_true rfl) ⟨Nat.le_of_ble_eq_true rfl, Nat.le_of_ble_eq_true rfl⟩ ⟨Nat.le_of_ble_eq_true rfl, Nat.le_of_ble_eq_true rfl⟩ dL_law_166 (bd.to (by omega)) (fun h k n F hW bd => ?_)
      refine gI_iload hB 1 dL_law_169 rfl ?_
      refine gI_icmp_eq hB 176 dL_law_171 (by decide) (fun _ => ?_) (fun z => absurd (rfl) z)
      refine gI_iload hB 7 dL_law_176 rfl ?_
      refine gI_iload hB 0 dL_law_178 rfl ?_
      refine gI_iconst (v := nI 2) hB dL_law_180 (by decide) ?_
      refine gI_icmp_ge hB 188 dL_law_181 (by decide) (fun _ => ?_) (fun z => absurd (by decide) z)
      refine gI_iconst (v := nI 0) hB dL_law_188 (by decide) ?_
      refine gI_iaddN hB dL_law_189 ?_
      refine gI_istore hB ([(4, .int (nI ((pS a T) + 0))), (11, .int (nI 2)), (10, .int (nI p)), (9, .int (nI (a y2))), (8, .int (nI y2)), (7, .int v7), (6, .int (nI time)), (5, .int (nI lo)), (3, .int (nI T)), (2, .ref y), (1, .ref (c 0)), (0, .ref b)]) hnL dL_law_190 (by decide) rfl ?_
      refine gI_iload hB 7 dL_law_192 rfl ?_
      refine gI_iload hB 1 dL_law_194 rfl ?_
      refine gI_iconst (v := nI 2) hB dL_law_196 (by decide) ?_
      refine gI_icmp_ne hB 204 dL_law_197 (by decide) (fun z => absurd z (fun z8 => z8 rfl)) (fun _ => ?_)
      refine gI_iconst (v := nI 1) hB dL_law_200 (by decide) ?_
      refine gI_goto hB 205 dL_law_201 (by decide) ?_
      refine gI_iaddN hB dL_law_205 ?_
      refine gI_istore hB ([(5, .int (nI (lo + 1))), (4, .int (nI ((pS a T) + 0))), (11, .int (nI 2)), (10, .int (nI p)), (9, .int (nI (a y2))), (8, .int (nI y2)), (7, .int v7), (6, .int (nI time)), (3, .int (nI T)), (2, .ref y), (1, .ref (c 0)), (0, .ref b)]) hnL dL_law_206 (by decide) rfl ?_
      refine gI_loc [2, 3, 4, 5, 6, 7, 0, 1, 8, 9, 10, 11] rfl ?_
      have eS : pS a1 T = pS a T + 0 := by rw [ea]; rfl
      rw [← eS]
      refine l_rest (B := B + 1300 * r) hB hnL q1 hT1 hT8 (by omega) (by omega) (by omega) (fun u2 p9 L2 a2 b2 g2 h k n F hp9 g1 g2 q2 hW bd => ?_) hW (bd.to (by omega))
      refine gI_iinc hB 0 ([(6, .int (nI (time + 1))), (5, .int (nI (lo + 1))), (4, .int (nI (pS a2 T))), (3, .int (nI T)), (2, .ref y), (1, .ref (c 0)), (0, .ref b)]) hnL dL_law_584 rfl (nI_1 (time)) (by decide) rfl ?_
      refine gI_goto hB 37 dL_law_587 (by decide) ?_
      exact ih (time + 1) u2 (τ + p9) L2 _ a2 b2 _ h k n F (by omega) (by omega) (by omega) (by omega) q2 hW bd
    · skip
      subst e2
      refine gI_iload hB 0 dL_law_97 rfl ?_
      refine gI_if_lt hB 174 dL_law_99 (by decide) (fun z => absurd z (nI_pos (by omega))) (fun _ => ?_)
      refine gI_iload hB 0 dL_law_102 rfl ?_
      refine gI_iconst (v := nI 2) hB dL_law_104 (by decide) ?_
      refine gI_icmp_gt hB 174 dL_law_105 (by decide) (fun z => absurd z (by decide)) (fun _ => ?_)
      refine gI_aload_n hB 10 dL_law_108 rfl ?_
      refine gI_iload hB 3 dL_law_109 rfl ?_
      refine gI_iconst (v := nI 4) hB dL_law_111 (by decide) ?_
      refine gI_cl (n9 := 2) (As := [.int (nI y2), .int (nI 4)]) (rest := []) hB (B + 1300 * r + 1296) (r_tenant hW e01 ((v_tenant o1 e01 ht (by omega)).trans (congrArg (Prod.mk u1) d4))) (gCW.of ggL_law_X6_tenant rfl ⟨by decide, by decide, by decide +kernel⟩ ⟨Nat.le_of_ble_eq_true rfl, Nat.le_of_ble_eq_true rfl⟩) (by decide +kernel) (by decide +kernel) (by decide +kernel) (by decide +kernel) hW rfl rfl (Nat.le_of_ble_eq_true rfl) ⟨Nat.le_of_ble_eq_true rfl, Nat.le_of_ble_eq_true rfl⟩ ⟨Nat.le_of_ble_eq_true rfl, Nat.le_of_ble_eq_true rfl⟩ dL_law_112 (bd.to (by omega)) (fun h k n F hW bd => ?_)
      refine gI_iload hB 2 dL_law_115 rfl ?_
      refine gI_iload hB 0 dL_law_117 rfl ?_
      refine gI_iconst (v := nI 2) hB dL_law_119 (by decide) ?_
      refine gI_icmp_ge hB 127 dL_law_120 (by decide) (fun z => absurd z (by decide)) (fun _ => ?_)
      refine gI_iconst (v := nI 1) hB dL_law_123 (by decide) ?_
      refine gI_goto hB 128 dL_law_124 (by decide) ?_
      refine gI_iaddN hB dL_law_128 ?_
      refine gI_icmp_ne hB 174 dL_law_129 (by decide) (fun z => absurd z (fun z8 => z8 (congrArg nI (by rw [ea, pU1_s])))) (fun _ => ?_)
      refine gI_iload hB 0 dL_law_132 rfl ?_
      refine gI_iconst (v := nI 2) hB dL_law_134 (by decide) ?_
      refine gI_icmp_ge hB 156 dL_law_135 (by decide) (fun z => absurd z (by decide)) (fun _ => ?_)
      refine gI_aload_n hB 10 dL_law_138 rfl ?_
      refine gI_iload hB 3 dL_law_139 rfl ?_
      refine gI_iconst (v := nI 2) hB dL_law_141 (by decide) ?_
      refine gI_cl (n9 := 2) (As := [.int (nI y2), .int (nI 2)]) (rest := []) hB (B + 1300 * r + 1295) (r_tenant hW e01 ((v_tenant o1 e01 ht (by omega)).trans (congrArg (Prod.mk u1) hA))) (gCW.of ggL_law_X6_tenant rfl ⟨by decide, by decide, by decide +kernel⟩ ⟨Nat.le_of_ble_eq_true rfl, Nat.le_of_ble_eq_true rfl⟩) (by decide +kernel) (by decide +kernel) (by decide +kernel) (by decide +kernel) hW rfl rfl (Nat.le_of_ble_eq_true rfl) ⟨Nat.le_of_ble_eq_true rfl, Nat.le_of_ble_eq_true rfl⟩ ⟨Nat.le_of_ble_eq_true rfl, Nat.le_of_ble_eq_true rfl⟩ dL_law_142 (bd.to (by omega)) (fun h k n F hW bd => ?_)
      refine gI_iconst (v := nI 0) hB dL_law_145 (by decide) ?_
      refine gI_iload hB 1 dL_law_146 rfl ?_
      refine gI_iconst (v := nI 1) hB dL_law_148 (by decide) ?_
      refine gI_isub hB dL_law_149 ?_
      refine gI_mmax hB (by decide +kernel) (by decide +kernel) (by decide +kernel) (by decide +kernel) (Nat.le_of_ble_eq_true rfl) (Nat.le_of_ble_eq_true rfl) (by obtain ⟨b1, b2, b3⟩ := bd; show _ ≤ 600074; first | omega | (dsimp only [gRm]; omega)) (by obtain ⟨b1, b2, b3⟩ := bd; show _ ≤ 7301550; first | omega | (dsimp only [gRm]; omega)) dL_law_150 ?_
      refine gI_icmp_ne hB 174 dL_law_153 (by decide) (fun z => absurd z (fun z8 => z8 rfl)) (fun _ => ?_)
      refine gI_iload hB 0 dL_law_156 rfl ?_
      refine gI_iconst (v := nI 2) hB dL_law_158 (by decide) ?_
      refine gI_icmp_ne hB 176 dL_law_159 (by decide) (fun _ => ?_) (fun z => absurd z (by decide))
      refine gI_iload hB 7 dL_law_176 rfl ?_
      refine gI_iload hB 0 dL_law_178 rfl ?_
      refine gI_iconst (v := nI 2) hB dL_law_180 (by decide) ?_
      refine gI_icmp_ge hB 188 dL_law_181 (by decide) (fun z => absurd z (by decide)) (fun _ => ?_)
      refine gI_iconst (v := nI 1) hB dL_law_184 (by decide) ?_
      refine gI_goto hB 189 dL_law_185 (by decide) ?_
      refine gI_iaddN hB dL_law_189 ?_
      refine gI_istore hB ([(4, .int (nI ((pS a T) + 1))), (11, .int (nI 0)), (10, .int (nI p)), (9, .int (nI (a y2))), (8, .int (nI y2)), (7, .int v7), (6, .int (nI time)), (5, .int (nI lo)), (3, .int (nI T)), (2, .ref y), (1, .ref (c 0)), (0, .ref b)]) hnL dL_law_190 (by decide) rfl ?_
      refine gI_iload hB 7 dL_law_192 rfl ?_
      refine gI_iload hB 1 dL_law_194 rfl ?_
      refine gI_iconst (v := nI 2) hB dL_law_196 (by decide) ?_
      refine gI_icmp_ne hB 204 dL_law_197 (by decide) (fun _ => ?_) (fun z => absurd z (by decide))
      refine gI_iconst (v := nI 0) hB dL_law_204 (by decide) ?_
      refine gI_iaddN hB dL_law_205 ?_
      refine gI_istore hB ([(5, .int (nI (lo + 0))), (4, .int (nI ((pS a T) + 1))), (11, .int (nI 0)), (10, .int (nI p)), (9, .int (nI (a y2))), (8, .int (nI y2)), (7, .int v7), (6, .int (nI time)), (3, .int (nI T)), (2, .ref y), (1, .ref (c 0)), (0, .ref b)]) hnL dL_law_206 (by decide) rfl ?_
      refine gI_loc [2, 3, 4, 5, 6, 7, 0, 1, 8, 9, 10, 11] rfl ?_
      have eS : pS a1 T = pS a T + 1 := by rw [ea, pS_u, if_pos ht]
      rw [← eS]
      refine l_rest (B := B + 1300 * r) hB hnL q1 hT1 hT8 (by omega) (by omega) (by omega) (fun u2 p9 L2 a2 b2 g2 h k n F hp9 g1 g2 q2 hW bd => ?_) hW (bd.to (by omega))
      refine gI_iinc hB 0 ([(6, .int (nI (time + 1))), (5, .int (nI (lo + 0))), (4, .int (nI (pS a2 T))), (3, .int (nI T)), (2, .ref y), (1, .ref (c 0)), (0, .ref b)]) hnL dL_law_584 rfl (nI_1 (time)) (by decide) rfl ?_
      refine gI_goto hB 37 dL_law_587 (by decide) ?_
      exact ih (time + 1) u2 (τ + p9) L2 _ a2 b2 _ h k n F (by omega) (by omega) (by omega) (by omega) q2 hW bd
    · skip
      subst e2
      refine gI_iload hB 0 dL_law_97 rfl ?_
      refine gI_if_lt hB 174 dL_law_99 (by decide) (fun z => absurd z (nI_pos (by omega))) (fun _ => ?_)
      refine gI_iload hB 0 dL_law_102 rfl ?_
      refine gI_iconst (v := nI 2) hB dL_law_104 (by decide) ?_
      refine gI_icmp_gt hB 174 dL_law_105 (by decide) (fun z => absurd z (by decide)) (fun _ => ?_)
      refine gI_aload_n hB 10 dL_law_108 rfl ?_
      refine gI_iload hB 3 dL_law_109 rfl ?_
      refine gI_iconst (v := nI 4) hB dL_law_111 (by decide) ?_
      refine gI_cl (n9 := 2) (As := [.int (nI y2), .int (nI 4)]) (rest := []) hB (B + 1300 * r + 1296) (r_tenant hW e01 ((v_tenant o1 e01 ht (by omega)).trans (congrArg (Prod.mk u1) d4))) (gCW.of ggL_law_X6_tenant rfl ⟨by decide, by decide, by decide +kernel⟩ ⟨Nat.le_of_ble_eq_true rfl, Nat.le_of_ble_eq_true rfl⟩) (by decide +kernel) (by decide +kernel) (by decide +kernel) (by decide +kernel) hW rfl rfl (Nat.le_of_ble_eq_true rfl) ⟨Nat.le_of_ble_eq_true rfl, Nat.le_of_ble_eq_true rfl⟩ ⟨Nat.le_of_ble_eq_true rfl, Nat.le_of_ble_eq_true rfl⟩ dL_law_112 (bd.to (by omega)) (fun h k n F hW bd => ?_)
      refine gI_iload hB 2 dL_law_115 rfl ?_
      refine gI_iload hB 0 dL_law_117 rfl ?_
      refine gI_iconst (v := nI 2) hB dL_law_119 (by decide) ?_
      refine gI_icmp_ge hB 127 dL_law_120 (by decide) (fun z => absurd z (by decide)) (fun _ => ?_)
      refine gI_iconst (v := nI 1) hB dL_law_123 (by decide) ?_
      refine gI_goto hB 128 dL_law_124 (by decide) ?_
      refine gI_iaddN hB dL_law_128 ?_
      refine gI_icmp_ne hB 174 dL_law_129 (by decide) (fun z => absurd z (fun z8 => z8 (congrArg nI (by rw [ea, pU1_s])))) (fun _ => ?_)
      refine gI_iload hB 0 dL_law_132 rfl ?_
      refine gI_iconst (v := nI 2) hB dL_law_134 (by decide) ?_
      refine gI_icmp_ge hB 156 dL_law_135 (by decide) (fun z => absurd z (by decide)) (fun _ => ?_)
      refine gI_aload_n hB 10 dL_law_138 rfl ?_
      refine gI_iload hB 3 dL_law_139 rfl ?_
      refine gI_iconst (v := nI 2) hB dL_law_141 (by decide) ?_
      refine gI_cl (n9 := 2) (As := [.int (nI y2), .int (nI 2)]) (rest := []) hB (B + 1300 * r + 1295) (r_tenant hW e01 ((v_tenant o1 e01 ht (by omega)).trans (congrArg (Prod.mk u1) hA))) (gCW.of ggL_law_X6_tenant rfl ⟨by decide, by decide, by decide +kernel⟩ ⟨Nat.le_of_ble_eq_true rfl, Nat.le_of_ble_eq_true rfl⟩) (by decide +kernel) (by decide +kernel) (by decide +kernel) (by decide +kernel) hW rfl rfl (Nat.le_of_ble_eq_true rfl) ⟨Nat.le_of_ble_eq_true rfl, Nat.le_of_ble_eq_true rfl⟩ ⟨Nat.le_of_ble_eq_true rfl, Nat.le_of_ble_eq_true rfl⟩ dL_law_142 (bd.to (by omega)) (fun h k n F hW bd => ?_)
      refine gI_iconst (v := nI 0) hB dL_law_145 (by decide) ?_
      refine gI_iload hB 1 dL_law_146 rfl ?_
      refine gI_iconst (v := nI 1) hB dL_law_148 (by decide) ?_
      refine gI_isub hB dL_law_149 ?_
      refine gI_mmax hB (by decide +kernel) (by decide +kernel) (by decide +kernel) (by decide +kernel) (Nat.le_of_ble_eq_true rfl) (Nat.le_of_ble_eq_true rfl) (by obtain ⟨b1, b2, b3⟩ := bd; show _ ≤ 600074; first | omega | (dsimp only [gRm]; omega)) (by obtain ⟨b1, b2, b3⟩ := bd; show _ ≤ 7301550; first | omega | (dsimp only [gRm]; omega)) dL_law_150 ?_
      refine gI_icmp_ne hB 174 dL_law_153 (by decide) (fun z => absurd z (fun z8 => z8 rfl)) (fun _ => ?_)
      refine gI_iload hB 0 dL_law_156 rfl ?_
      refine gI_iconst (v := nI 2) hB dL_law_158 (by decide) ?_
      refine gI_icmp_ne hB 176 dL_law_159 (by decide) (fun _ => ?_) (fun z => absurd z (by decide))
      refine gI_iload hB 7 dL_law_176 rfl ?_
      refine gI_iload hB 0 dL_law_178 rfl ?_
      refine gI_iconst (v := nI 2) hB dL_law_180 (by decide) ?_
      refine gI_icmp_ge hB 188 dL_law_181 (by decide) (fun z => absurd z (by decide)) (fun _ => ?_)
      refine gI_iconst (v := nI 1) hB dL_law_184 (by decide) ?_
      refine gI_goto hB 189 dL_law_185 (by decide) ?_
      refine gI_iaddN hB dL_law_189 ?_
      refine gI_istore hB ([(4, .int (nI ((pS a T) + 1))), (11, .int (nI 1)), (10, .int (nI p)), (9, .int (nI (a y2))), (8, .int (nI y2)), (7, .int v7), (6, .int (nI time)), (5, .int (nI lo)), (3, .int (nI T)), (2, .ref y), (1, .ref (c 0)), (0, .ref b)]) hnL dL_law_190 (by decide) rfl ?_
      refine gI_iload hB 7 dL_law_192 rfl ?_
      refine gI_iload hB 1 dL_law_194 rfl ?_
      refine gI_iconst (v := nI 2) hB dL_law_196 (by decide) ?_
      refine gI_icmp_ne hB 204 dL_law_197 (by decide) (fun _ => ?_) (fun z => absurd z (by decide))
      refine gI_iconst (v := nI 0) hB dL_law_204 (by decide) ?_
      refine gI_iaddN hB dL_law_205 ?_
      refine gI_istore hB ([(5, .int (nI (lo + 0))), (4, .int (nI ((pS a T) + 1))), (11, .int (nI 1)), (10, .int (nI p)), (9, .int (nI (a y2))), (8, .int (nI y2)), (7, .int v7), (6, .int (nI time)), (3, .int (nI T)), (2, .ref y), (1, .ref (c 0)), (0, .ref b)]) hnL dL_law_206 (by decide) rfl ?_
      refine gI_loc [2, 3, 4, 5, 6, 7, 0, 1, 8, 9, 10, 11] rfl ?_
      have eS : pS a1 T = pS a T + 1 := by rw [ea, pS_u, if_pos ht]
      rw [← eS]
      refine l_rest (B := B + 1300 * r) hB hnL q1 hT1 hT8 (by omega) (by omega) (by omega) (fun u2 p9 L2 a2 b2 g2 h k n F hp9 g1 g2 q2 hW bd => ?_) hW (bd.to (by omega))
      refine gI_iinc hB 0 ([(6, .int (nI (time + 1))), (5, .int (nI (lo + 0))), (4, .int (nI (pS a2 T))), (3, .int (nI T)), (2, .ref y), (1, .ref (c 0)), (0, .ref b)]) hnL dL_law_584 rfl (nI_1 (time)) (by decide) rfl ?_
      refine gI_goto hB 37 dL_law_587 (by decide) ?_
      exact ih (time + 1) u2 (τ + p9) L2 _ a2 b2 _ h k n F (by omega) (by omega) (by omega) (by omega) q2 hW bd
