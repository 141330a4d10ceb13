/-! the law, from its entry -/
abbrev lEnd (X : gX) : Prop := ∀ (h : gH) (k n : Nat) (lc : List (Nat × Value)), k ≤ 600074 → n ≤ 7301550 → gW X h k n 854 lc []

set_option maxRecDepth 100000 in
set_option maxHeartbeats 4000000 in
theorem l_tail {X : gX} {b y : Nat} {c : Nat → Nat} {u : MS} {T τ L lo : Nat} {M : Nat → Int32} {a bb : Nat → Nat} {g : Nat → Nat → Nat} (hB : gB X room_1 cL_law wsL_law RL) (hnL : gnL X = 18) (hend : lEnd X) (hT1 : 1 ≤ T) (hτ : τ < 1000) (q : pI u T M τ L a bb g) {h : gH} {k n F : Nat} (hW : cW X.2.1 h c u F) (bd : pBud k n F 20000) : gW X h k n 590 [(6, .int (nI 20)), (5, .int (nI lo)), (4, .int (nI (pS a T))), (3, .int (nI T)), (2, .ref y), (1, .ref (c 0)), (0, .ref b)] [] := by
  obtain ⟨⟨W, z, o⟩, qq, qc⟩ := q
  have hz := o.2.2.2.2.2.1
  refine gI_iconst (v := nI 0) hB dL_law_590 (by decide) ?_
  refine gI_istore hB ([(6, .int (nI 0)), (5, .int (nI lo)), (4, .int (nI (pS a T))), (3, .int (nI T)), (2, .ref y), (1, .ref (c 0)), (0, .ref b)]) hnL dL_law_591 (by decide) rfl ?_
  refine l_note (B := 7999) hB hnL o qq qc (by omega) (fun h k n F hW bd => ?_) z 0 h k n F (by omega) hW (bd.to (by omega))
  obtain ⟨b1, b2, b3⟩ := bd
  exact hend _ _ _ _ (by omega) (by omega)

set_option maxRecDepth 100000 in
set_option maxHeartbeats 4000000 in
theorem l_start {X : gX} {b L9 : Nat} {xs : Nat → Int32} (hB : gB X room_1 cL_law wsL_law RL) (hnL : gnL X = 18) (hS9 : gScr X b L9 xs) (hL : L9 ≤ 260) (hend : lEnd X) (h : gH) : gW X h 0 0 0 [(0, .ref b)] [] := by
  refine gC_new hB (ci := 9) (C := RX6) (T := TX6) (N := 9) [.null, .null, .null, .null, .int 0, .int 0, .int 0, .int 0, .int 0] tyX6 tyX6_ok rfl (by decide +kernel) (by decide +kernel) (by decide +kernel) (by decide +kernel) (fun j hj => by rcases (show j = 0 ∨ j = 1 ∨ j = 2 ∨ j = 3 ∨ j = 4 ∨ j = 5 ∨ j = 6 ∨ j = 7 ∨ j = 8 by omega) with rfl | rfl | rfl | rfl | rfl | rfl | rfl | rfl | rfl <;> rfl) (by show _ ≤ 600074; first | omega | (dsimp only [gRm]; omega)) (by show _ ≤ 7301550; first | omega | (dsimp only [gRm]; omega)) dL_law_0 (fun q1 h hq1 Hq1 hK => ?_)
  refine gI_dup hB dL_law_3 rfl ?_
  refine gI_callI (n9 := 0) (As := []) (rest := [.ref q1]) hB (k_xinit X.2.1 h q1 Hq1) (gCW.of ggL_law_X6_init rfl ⟨by decide, by decide, by decide +kernel⟩ ⟨Nat.le_of_ble_eq_true rfl, Nat.le_of_ble_eq_true rfl⟩) rfl rfl (Or.inl (by decide +kernel)) (by decide +kernel) (by decide +kernel) rfl rfl (Nat.le_of_ble_eq_true rfl) (by show _ ≤ 600074; first | omega | (dsimp only [gRm]; omega)) (by show _ ≤ 7301550; first | omega | (dsimp only [gRm]; omega)) dL_law_4 (fun v9 h k1 n1 hp => ?_) (fun E9 h1 k1 n1 hp => by obtain ⟨l1, l2, e9, -⟩ := hp; cases e9)
  obtain ⟨c, Λ, e9, ec, hC, eF, hst, hk1, hn1⟩ := hp
  cases e9
  have hW : cW X.2.1 h c mU0 0 := ⟨Λ, 0, 0, 0, hC, mU0_ok, eF⟩
  rw [← ec]
  refine gI_astore_n hB ([(1, .ref (c 0)), (0, .ref b)]) hnL dL_law_7 (by decide) rfl ?_
  refine gI_aload_n hB 0 dL_law_8 rfl ?_
  refine gI_aload_n hB 1 dL_law_9 rfl ?_
  refine gI_bipush (v := nI 8) hB dL_law_10 (by decide) ?_
  refine gI_callSS (n9 := 3) (As := [.ref (c 0), .ref b, .int (nI 8)]) (rest := []) hB hS9 (s_build X.2.1 h hL c 0 hW) (gCW.of ggL_law_L_build rfl ⟨by decide, by decide, by decide +kernel⟩ ⟨Nat.le_of_ble_eq_true rfl, Nat.le_of_ble_eq_true rfl⟩) (by decide +kernel) (by decide +kernel) (by decide +kernel) rfl rfl (Nat.le_of_ble_eq_true rfl) (by show _ ≤ 600074; first | omega | (dsimp only [gRm]; omega)) (by show _ ≤ 7301550; first | omega | (dsimp only [gRm]; omega)) dL_law_12 (fun v9 h k2 n2 hp => ?_) (fun E9 h1 k1 n1 hp => by obtain ⟨y, u, T, F, i0, i1, tn, rn, sn, b1, b2, b3, b4, f, e9, -⟩ := hp; cases e9)
  obtain ⟨y, u, T, F, i0, i1, tn, rn, sn, b1, b2, b3, b4, f, e9, hy, htn, hW, hT1, hT8, q, hk2, hn2⟩ := hp
  cases e9
  have hF := hW.le
  refine gI_astore_n hB ([(2, .ref y), (1, .ref (c 0)), (0, .ref b)]) hnL dL_law_15 (by decide) rfl ?_
  refine gI_aload_n hB 0 dL_law_16 rfl ?_
  refine gI_ifnonnull hB 22 dL_law_17 (by decide) ?_
  refine gI_aload_n hB 0 dL_law_22 rfl ?_
  refine gI_get (v := .ref tn) hB 2 hy (C := RX7) (T := TX7) (N := 9) rfl (by decide +kernel) (by decide) (by decide +kernel) (fun _ h9 => h9) rfl dL_law_23 ?_
  refine gC_alenT hB htn dL_law_26 ?_
  refine gI_istore_n hB ([(3, .int (nI T)), (2, .ref y), (1, .ref (c 0)), (0, .ref b)]) hnL dL_law_27 (by decide) rfl ?_
  refine gI_iconst (v := nI 0) hB dL_law_28 (by decide) ?_
  refine gI_istore hB ([(4, .int (nI 0)), (3, .int (nI T)), (2, .ref y), (1, .ref (c 0)), (0, .ref b)]) hnL dL_law_29 (by decide) rfl ?_
  refine gI_iconst (v := nI 0) hB dL_law_31 (by decide) ?_
  refine gI_istore hB ([(5, .int (nI 0)), (4, .int (nI 0)), (3, .int (nI T)), (2, .ref y), (1, .ref (c 0)), (0, .ref b)]) hnL dL_law_32 (by decide) rfl ?_
  refine gI_iconst (v := nI 0) hB dL_law_34 (by decide) ?_
  refine gI_istore hB ([(6, .int (nI 0)), (5, .int (nI 0)), (4, .int (nI 0)), (3, .int (nI T)), (2, .ref y), (1, .ref (c 0)), (0, .ref b)]) hnL dL_law_35 (by decide) rfl ?_
  have bd : pBud _ _ F (60000) := (⟨by omega, by omega, hF⟩ : pBud (0 + 1 + k1 + k2) (0 + 9 + n1 + n2) F 60000)
  have e0 : pS (fun _ => 0) T = 0 := pS_0 T
  have fin := l_main (y := y) (B := 20000) (M := fun t => mNext u T t) hB hnL hS9 hL hT1 hT8 (fun u τ L lo a bb g h k n F hτ q hW bd => l_tail hB hnL hend hT1 hτ q hW bd) 20 0 u 0 0 0 (fun _ => 0) (fun _ => 0) (fun _ _ => 0) h _ _ F (by omega) (by omega) (by omega) (by omega) q hW (bd.to (by omega))
  rw [e0] at fin
  exact fin
