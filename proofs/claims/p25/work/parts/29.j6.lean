set_option maxRecDepth 100000 in
set_option maxHeartbeats 4000000 in
theorem j_fastRemove (G : gG) (h_0 : gH) (l A n cap j : Nat) (md : Int32) (g : Nat → Option Nat) (hl : gat h_0 l (.inr (2, [.int md, .ref A, .int (nI n)]))) (hA : gat h_0 A (.inl (gO G, cap, .inr (.inr (.inr (.inr g)))))) (hel : ∀ i, i < n → ∀ y, g i = some y → gOb h_0 y) (hn : n ≤ cap) (hj : j < n) (hc : cap < 1000) : gMet yJx4a65c_fastRemove_b59b0 wsJx4a65c_fastRemove_b59b0 (gRm 1 0 0) G h_0 [.ref l, .ref A, .int (nI j)] (pRem G h_0 l A n cap (md + nI 1) g j none) := by
  refine gMet_of (maxL := 4) (ret := none) (by decide) rfl (Nat.le_of_ble_eq_true rfl) ?_
  intro X hG hnL hB hE
  subst hG
  suffices go : ∀ h : gH, h = h_0 → gW X h 0 0 0 [(0, .ref l), (1, .ref A), (2, .int (nI j))] [] from go h_0 rfl
  intro h eh
  rw [← eh] at hl hA hel
  obtain ⟨FR, eFR⟩ : ∃ FR : Nat → va_E → Prop, FR = fun (q : Nat) (_ : va_E) => q ≠ l ∧ q ≠ A := ⟨_, rfl⟩
  have hO : ∀ q e, gat h_0 q e → FR q e → gat h q e := fun q e z9 _ => by rw [eh]; exact z9
  have hI : ∀ q, q ∈ h_0.1 → q ∈ h.1 := fun q z9 => by rw [eh]; exact z9
  have on_l : ∀ q e, gat h_0 q e → FR q e → q ≠ l := by intros; rename_i w9; rw [eFR] at w9; exact w9.1
  have on_A : ∀ q e, gat h_0 q e → FR q e → q ≠ A := by intros; rename_i w9; rw [eFR] at w9; exact w9.2
  refine gI_aload_n hB 0 dJx4a65c_fastRemove_b59b0_0 rfl ?_
  refine gI_dup hB dJx4a65c_fastRemove_b59b0_1 rfl ?_
  refine gI_get (v := .int md) hB 0 hl (C := RJx4a65c) (T := TJx4a65c) (N := 3) rfl (by decide +kernel) (by decide) (by decide +kernel) (u_same (hB.1.2.2.2.2 _ (show Cond.sameField "java/util/ArrayList" "java/util/AbstractList" "modCount" "I" ∈ _ by decide +kernel))) rfl dJx4a65c_fastRemove_b59b0_2 ?_
  refine gI_iconst (v := nI 1) hB dJx4a65c_fastRemove_b59b0_5 (by decide) ?_
  refine gI_iadd hB dJx4a65c_fastRemove_b59b0_6 ?_
  refine gC_put hB 0 tyJx4a65c tyJx4a65c_ok nmJx4a65c hl (C := RJx4a65c) (T := TJx4a65c) (N := 3) rfl (by decide +kernel) (by decide) (by decide +kernel) (u_same (hB.1.2.2.2.2 _ (show Cond.sameField "java/util/ArrayList" "java/util/AbstractList" "modCount" "I" ∈ _ by decide +kernel))) rfl rfl rfl (Nat.le_of_ble_eq_true rfl) dJx4a65c_fastRemove_b59b0_7 (fun h Nl hK => ?_)
  have hA := hK _ _ hA (gat_ne hA hl rfl)
  have hel := fun i hi y hy => gOb.stO hl Nl hK (hel i hi y hy)
  have hO : ∀ q e, gat h_0 q e → FR q e → gat h q e := fun q e z9 w9 => hK q e (hO q e z9 w9) (on_l q e z9 w9)
  have hI : ∀ q, q ∈ h_0.1 → q ∈ h.1 := fun q z9 => gSt.dom hK Nl (hI q z9)
  replace hl : gat h l (.inr (2, [.int (md + (nI 1)), .ref A, .int (nI n)])) := Nl
  refine gI_aload_n hB 0 dJx4a65c_fastRemove_b59b0_10 rfl ?_
  refine gI_get (v := .int (nI n)) hB 2 hl (C := RJx4a65c) (T := TJx4a65c) (N := 3) rfl (by decide +kernel) (by decide) (by decide +kernel) (fun _ h9 => h9) rfl dJx4a65c_fastRemove_b59b0_11 ?_
  refine gI_iconst (v := nI 1) hB dJx4a65c_fastRemove_b59b0_14 (by decide) ?_
  refine gI_isubN hB (by omega) dJx4a65c_fastRemove_b59b0_15 ?_
  refine gI_dup hB dJx4a65c_fastRemove_b59b0_16 rfl ?_
  refine gI_istore_n hB ([(3, .int (nI (n - 1))), (0, .ref l), (1, .ref A), (2, .int (nI j))]) hnL dJx4a65c_fastRemove_b59b0_17 (by decide) rfl ?_
  refine gI_iload_n hB 3 dJx4a65c_fastRemove_b59b0_18 rfl ?_
  refine gI_icmp_le hB 34 dJx4a65c_fastRemove_b59b0_19 (by decide) (fun c19_1 => ?_) (fun c19_1 => ?_)
  · skip
    have c19_1 := (nI_leI (by omega) (by omega)).mp c19_1
    refine gI_aload_n hB 2 dJx4a65c_fastRemove_b59b0_34 rfl ?_
    refine gI_aload_n hB 1 dJx4a65c_fastRemove_b59b0_35 rfl ?_
    refine gI_iload_n hB 0 dJx4a65c_fastRemove_b59b0_36 rfl ?_
    refine gI_dup_x1 hB dJx4a65c_fastRemove_b59b0_37 rfl rfl ?_
    refine gC_put hB 2 tyJx4a65c tyJx4a65c_ok nmJx4a65c hl (C := RJx4a65c) (T := TJx4a65c) (N := 3) rfl (by decide +kernel) (by decide) (by decide +kernel) (fun _ h9 => h9) rfl rfl rfl (Nat.le_of_ble_eq_true rfl) dJx4a65c_fastRemove_b59b0_38 (fun h Nl hK => ?_)
    have hA := hK _ _ hA (gat_ne hA hl rfl)
    have hO : ∀ q e, gat h_0 q e → FR q e → gat h q e := fun q e z9 w9 => hK q e (hO q e z9 w9) (on_l q e z9 w9)
    have hI : ∀ q, q ∈ h_0.1 → q ∈ h.1 := fun q z9 => gSt.dom hK Nl (hI q z9)
    replace hl : gat h l (.inr (2, [.int (md + (nI 1)), .ref A, .int (nI (n - 1))])) := Nl
    refine gI_null hB dJx4a65c_fastRemove_b59b0_41 ?_
    refine gC_aastN hB (n - 1) hA rfl (by omega) (by omega) dJx4a65c_fastRemove_b59b0_42 (fun h NA hK => ?_)
    have hl := hK _ _ hl (gat_ne hl hA rfl)
    have hO : ∀ q e, gat h_0 q e → FR q e → gat h q e := fun q e z9 w9 => hK q e (hO q e z9 w9) (on_A q e z9 w9)
    have hI : ∀ q, q ∈ h_0.1 → q ∈ h.1 := fun q z9 => gSt.dom hK NA (hI q z9)
    replace hA := NA
    refine gI_vret hB hE dJx4a65c_fastRemove_b59b0_43 ?_
    have ej : j + (n - 1 - j) = n - 1 := by omega
    exact ⟨_, rfl, hl, hA, fun i9 hi9 => up_ne (by omega), fun i9 h1 h2 => absurd h2 (by omega), fun q9 e9 z9 w9 => hO q9 e9 z9 (by rw [eFR]; exact w9), rfl, rfl⟩
  · skip
    have c19_1 := mt (nI_leI (by omega) (by omega)).mpr c19_1
    refine gI_aload_n hB 2 dJx4a65c_fastRemove_b59b0_22 rfl ?_
    refine gI_iload_n hB 3 dJx4a65c_fastRemove_b59b0_23 rfl ?_
    refine gI_iconst (v := nI 1) hB dJx4a65c_fastRemove_b59b0_24 (by decide) ?_
    refine gI_iaddN hB dJx4a65c_fastRemove_b59b0_25 ?_
    refine gI_aload_n hB 2 dJx4a65c_fastRemove_b59b0_26 rfl ?_
    refine gI_iload_n hB 3 dJx4a65c_fastRemove_b59b0_27 rfl ?_
    refine gI_iload_n hB 0 dJx4a65c_fastRemove_b59b0_28 rfl ?_
    refine gI_iload_n hB 3 dJx4a65c_fastRemove_b59b0_29 rfl ?_
    refine gI_isubN hB (by omega) dJx4a65c_fastRemove_b59b0_30 ?_
    refine gC_copyO hB (j + 1) j ((n - 1) - j) rfl rfl rfl (by decide +kernel) (by decide +kernel) (by decide +kernel) (by decide +kernel) hA hA (by omega) (by omega) (by omega) (by omega) (fun i9 hi9 y9 hy9 => hel _ (by omega) y9 hy9) (Nat.le_of_ble_eq_true rfl) (Nat.le_of_ble_eq_true rfl) dJx4a65c_fastRemove_b59b0_31 (fun h NA hK => ?_)
    have hl := hK _ _ hl (gat_ne hl hA rfl)
    have hel := fun i hi y hy => gOb.stA hA hK (hel i hi y hy)
    have hO : ∀ q e, gat h_0 q e → FR q e → gat h q e := fun q e z9 w9 => hK q e (hO q e z9 w9) (on_A q e z9 w9)
    have hI : ∀ q, q ∈ h_0.1 → q ∈ h.1 := fun q z9 => gSt.dom hK NA (hI q z9)
    replace hA := NA
    refine gI_aload_n hB 2 dJx4a65c_fastRemove_b59b0_34 rfl ?_
    refine gI_aload_n hB 1 dJx4a65c_fastRemove_b59b0_35 rfl ?_
    refine gI_iload_n hB 0 dJx4a65c_fastRemove_b59b0_36 rfl ?_
    refine gI_dup_x1 hB dJx4a65c_fastRemove_b59b0_37 rfl rfl ?_
    refine gC_put hB 2 tyJx4a65c tyJx4a65c_ok nmJx4a65c hl (C := RJx4a65c) (T := TJx4a65c) (N := 3) rfl (by decide +kernel) (by decide) (by decide +kernel) (fun _ h9 => h9) rfl rfl rfl (Nat.le_of_ble_eq_true rfl) dJx4a65c_fastRemove_b59b0_38 (fun h Nl hK => ?_)
    have hA := hK _ _ hA (gat_ne hA hl rfl)
    have hO : ∀ q e, gat h_0 q e → FR q e → gat h q e := fun q e z9 w9 => hK q e (hO q e z9 w9) (on_l q e z9 w9)
    have hI : ∀ q, q ∈ h_0.1 → q ∈ h.1 := fun q z9 => gSt.dom hK Nl (hI q z9)
    replace hl : gat h l (.inr (2, [.int (md + (nI 1)), .ref A, .int (nI (n - 1))])) := Nl
    refine gI_null hB dJx4a65c_fastRemove_b59b0_41 ?_
    refine gC_aastN hB (n - 1) hA rfl (by omega) (by omega) dJx4a65c_fastRemove_b59b0_42 (fun h NA hK => ?_)
    have hl := hK _ _ hl (gat_ne hl hA rfl)
    have hO : ∀ q e, gat h_0 q e → FR q e → gat h q e := fun q e z9 w9 => hK q e (hO q e z9 w9) (on_A q e z9 w9)
    have hI : ∀ q, q ∈ h_0.1 → q ∈ h.1 := fun q z9 => gSt.dom hK NA (hI q z9)
    replace hA := NA
    refine gI_vret hB hE dJx4a65c_fastRemove_b59b0_43 ?_
    have ej : j + (n - 1 - j) = n - 1 := by omega
    exact ⟨_, rfl, hl, hA, fun i9 hi9 => (up_ne (by omega)).trans (pk_cpy_out (by omega)), fun i9 h1 h2 => (up_ne (by omega)).trans ((pk_cpy_in (by omega) (by omega)).trans (congrArg g (show j + 1 + (i9 - j) = i9 + 1 by omega))), fun q9 e9 z9 w9 => hO q9 e9 z9 (by rw [eFR]; exact w9), rfl, rfl⟩

set_option maxRecDepth 100000 in
set_option maxHeartbeats 4000000 in
theorem j_remove (G : gG) (h_0 : gH) (l A n cap j : Nat) (md : Int32) (g : Nat → Option Nat) (hl : gat h_0 l (.inr (2, [.int md, .ref A, .int (nI n)]))) (hA : gat h_0 A (.inl (gO G, cap, .inr (.inr (.inr (.inr g)))))) (hel : ∀ i, i < n → ∀ y, g i = some y → gOb h_0 y) (hn : n ≤ cap) (hj : j < n) (hc : cap < 1000) (y : Nat) (hy : g j = some y) : gMet yJx4a65c_remove_915e3 wsJx4a65c_remove_915e3 (gRm 3 0 0) G h_0 [.ref l, .int (nI j)] (pRem G h_0 l A n cap (md + nI 1) g j (some (.ref y))) := by
  refine gMet_of (maxL := 4) (ret := (some (.object "java/lang/Object"))) (by decide) rfl (Nat.le_of_ble_eq_true rfl) ?_
  intro X hG hnL hB hE
  subst hG
  suffices go : ∀ h : gH, h = h_0 → gW X h 0 0 0 [(0, .ref l), (1, .int (nI j))] [] from go h_0 rfl
  intro h eh
  rw [← eh] at hl hA hel
  obtain ⟨FR, eFR⟩ : ∃ FR : Nat → va_E → Prop, FR = fun (q : Nat) (_ : va_E) => q ≠ l ∧ q ≠ A := ⟨_, rfl⟩
  have hO : ∀ q e, gat h_0 q e → FR q e → gat h q e := fun q e z9 _ => by rw [eh]; exact z9
  have hI : ∀ q, q ∈ h_0.1 → q ∈ h.1 := fun q z9 => by rw [eh]; exact z9
  have on_l : ∀ q e, gat h_0 q e → FR q e → q ≠ l := by intros; rename_i w9; rw [eFR] at w9; exact w9.1
  have on_A : ∀ q e, gat h_0 q e → FR q e → q ≠ A := by intros; rename_i w9; rw [eFR] at w9; exact w9.2
  refine gI_iload_n hB 1 dJx4a65c_remove_915e3_0 rfl ?_
  refine gI_aload_n hB 0 dJx4a65c_remove_915e3_1 rfl ?_
  refine gI_get (v := .int (nI n)) hB 2 hl (C := RJx4a65c) (T := TJx4a65c) (N := 3) rfl (by decide +kernel) (by decide) (by decide +kernel) (fun _ h9 => h9) rfl dJx4a65c_remove_915e3_2 ?_
  refine gI_pureS (n9 := 2) (As := [.int (nI j), .int (nI n)]) (rest := []) hB (j_check15 X.2.1 h j n hj (by omega)) (gCW.of ggJx4a65c_remove_915e3_J15_checkIndex_7cf53 rfl ⟨by decide, by decide, by decide +kernel⟩ ⟨Nat.le_of_ble_eq_true rfl, Nat.le_of_ble_eq_true rfl⟩) (Or.inl (by decide +kernel)) (by decide +kernel) (by decide +kernel) rfl rfl (Nat.le_of_ble_eq_true rfl) (by dsimp only [gRm]; omega) (by dsimp only [gRm]; omega) dJx4a65c_remove_915e3_5 ?_
  refine gI_pop hB dJx4a65c_remove_915e3_8 rfl ?_
  refine gI_aload_n hB 0 dJx4a65c_remove_915e3_9 rfl ?_
  refine gI_get (v := .ref A) hB 1 hl (C := RJx4a65c) (T := TJx4a65c) (N := 3) rfl (by decide +kernel) (by decide) (by decide +kernel) (fun _ h9 => h9) rfl dJx4a65c_remove_915e3_10 ?_
  refine gI_astore_n hB ([(2, .ref A), (0, .ref l), (1, .int (nI j))]) hnL dJx4a65c_remove_915e3_13 (by decide) rfl ?_
  refine gI_aload_n hB 0 dJx4a65c_remove_915e3_14 rfl ?_
  refine gI_iload_n hB 2 dJx4a65c_remove_915e3_15 rfl ?_
  refine gC_aald hB j hA rfl (by omega) (by omega) hy dJx4a65c_remove_915e3_16 ?_
  refine gI_astore_n hB ([(3, .ref y), (2, .ref A), (0, .ref l), (1, .int (nI j))]) hnL dJx4a65c_remove_915e3_17 (by decide) rfl ?_
  refine gI_aload_n hB 2 dJx4a65c_remove_915e3_18 rfl ?_
  refine gI_aload_n hB 1 dJx4a65c_remove_915e3_19 rfl ?_
  refine gI_iload_n hB 3 dJx4a65c_remove_915e3_20 rfl ?_
  refine gI_callV (n9 := 2) (As := [.ref A, .int (nI j)]) (rest := []) hB (j_fastRemove X.2.1 h l A n cap j md g hl hA hel hn hj hc) (gCW.of ggJx4a65c_remove_915e3_Jx4a65c_fastRemove_b59b0 rfl ⟨by decide, by decide, by decide +kernel⟩ ⟨Nat.le_of_ble_eq_true rfl, Nat.le_of_ble_eq_true rfl⟩) (by decide +kernel) (by decide +kernel) (by decide +kernel) (by decide +kernel) hl (C := RJx4a65c) (T := TJx4a65c) (N := 3) rfl rfl rfl (Nat.le_of_ble_eq_true rfl) (by dsimp only [gRm]; omega) (by dsimp only [gRm]; omega) dJx4a65c_remove_915e3_21 (fun v9 h k9 n9 hp => ?_) (fun E9 h1 k1 n1 hp => by obtain ⟨g9, e9, -⟩ := hp; cases e9)
  obtain ⟨g1, e9, Hl1, HA1, hg1, hg2, hK, rfl, rfl⟩ := hp
  cases e9
  refine gI_aload_n hB 0 dJx4a65c_remove_915e3_24 rfl ?_
  refine gI_aret hB hE (Or.inl ⟨_, rfl⟩) (Or.inr ⟨_, rfl⟩) dJx4a65c_remove_915e3_25 ?_
  exact ⟨g1, rfl, Hl1, HA1, hg1, hg2, fun q9 e9 z9 w9 => hK q9 e9 (hO q9 e9 z9 (by rw [eFR]; exact w9)) w9, rfl, rfl⟩

set_option maxRecDepth 100000 in
set_option maxHeartbeats 4000000 in
theorem j_init1 (G : gG) (h : gH) (l : Nat) (md : Int32) (v1 v2 : Value) (hl : gat h l (.inr (2, [.int md, v1, v2]))) : gMet yJxa1e45_init_da8c8 wsJxa1e45_init_da8c8 (gRm 1 0 0) G h [.ref l] (gRet h none) := by
  refine gMet_of (maxL := 1) (ret := none) (by decide) rfl (Nat.le_of_ble_eq_true rfl) ?_
  intro X hG hnL hB hE
  subst hG
  change gW X h 0 0 0 [(0, .ref l)] []
  refine gI_aload_n hB 0 dJxa1e45_init_da8c8_0 rfl ?_
  refine gI_objInit hB (by decide +kernel) (by decide +kernel) (by decide +kernel) (Nat.le_of_ble_eq_true rfl) (Nat.le_of_ble_eq_true rfl) dJxa1e45_init_da8c8_1 ?_
  refine gI_vret hB hE dJxa1e45_init_da8c8_4 ?_
  exact gRet.rfl'

/-- a list as its maker leaves it -/
def pIni (h : gH) (l : Nat) (fs : List Value) : gPo := fun r h' k s => r = .inl none ∧ gat h' l (.inr (2, fs)) ∧ gSt h h' l ∧ k = 0 ∧ s = 0

set_option maxRecDepth 100000 in
set_option maxHeartbeats 4000000 in
theorem j_init2 (G : gG) (h_0 : gH) (l : Nat) (md : Int32) (v1 v2 : Value) (hl : gat h_0 l (.inr (2, [.int md, v1, v2]))) : gMet yJxc12de_init_da8c8 wsJxc12de_init_da8c8 (gRm 2 0 0) G h_0 [.ref l] (pIni h_0 l [.int (nI 0), v1, v2]) := by
  refine gMet_of (maxL := 1) (ret := none) (by decide) rfl (Nat.le_of_ble_eq_true rfl) ?_
  intro X hG hnL hB hE
  subst hG
  suffices go : ∀ h : gH, h = h_0 → gW X h 0 0 0 [(0, .ref l)] [] from go h_0 rfl
  intro h eh
  rw [← eh] at hl
  obtain ⟨FR, eFR⟩ : ∃ FR : Nat → va_E → Prop, FR = fun (q : Nat) (_ : va_E) => q ≠ l := ⟨_, rfl⟩
  have hO : ∀ q e, gat h_0 q e → FR q e → gat h q e := fun q e z9 _ => by rw [eh]; exact z9
  have hI : ∀ q, q ∈ h_0.1 → q ∈ h.1 := fun q z9 => by rw [eh]; exact z9
  have on_l : ∀ q e, gat h_0 q e → FR q e → q ≠ l := by intros; rename_i w9; rw [eFR] at w9; exact w9
  refine gI_aload_n hB 0 dJxc12de_init_da8c8_0 rfl ?_
  refine gI_pureI (n9 := 0) (As := []) (rest := []) hB (j_init1 X.2.1 h l md v1 v2 hl) (gCW.of ggJxc12de_init_da8c8_Jxa1e45_init_da8c8 rfl ⟨by decide, by decide, by decide +kernel⟩ ⟨Nat.le_of_ble_eq_true rfl, Nat.le_of_ble_eq_true rfl⟩) rfl rfl (Or.inl (by decide +kernel)) (by decide +kernel) (by decide +kernel) rfl rfl (Nat.le_of_ble_eq_true rfl) (by first | exact Nat.le_of_ble_eq_true rfl | (dsimp only [gRm]; omega)) (by first | exact Nat.le_of_ble_eq_true rfl | (dsimp only [gRm]; omega)) dJxc12de_init_da8c8_1 ?_
  refine gI_aload_n hB 0 dJxc12de_init_da8c8_4 rfl ?_
  refine gI_iconst (v := nI 0) hB dJxc12de_init_da8c8_5 (by decide) ?_
  refine gC_put hB 0 tyJx4a65c tyJx4a65c_ok nmJx4a65c hl (C := RJx4a65c) (T := TJx4a65c) (N := 3) rfl (by decide +kernel) (by decide) (by decide +kernel) (fun _ h9 => h9) rfl rfl rfl (Nat.le_of_ble_eq_true rfl) dJxc12de_init_da8c8_6 (fun h Nl hK => ?_)
  have hO : ∀ q e, gat h_0 q e → FR q e → gat h q e := fun q e z9 w9 => hK q e (hO q e z9 w9) (on_l q e z9 w9)
  have hI : ∀ q, q ∈ h_0.1 → q ∈ h.1 := fun q z9 => gSt.dom hK Nl (hI q z9)
  replace hl : gat h l (.inr (2, [.int (nI 0), v1, v2])) := Nl
  refine gI_vret hB hE dJxc12de_init_da8c8_9 ?_
  exact ⟨rfl, hl, fun q9 e9 z9 w9 => hO q9 e9 z9 (by rw [eFR]; exact w9), rfl, rfl⟩

set_option maxRecDepth 100000 in
set_option maxHeartbeats 4000000 in
theorem j_init (G : gG) (h_0 : gH) (l : Nat) (md : Int32) (v1 v2 : Value) (hl : gat h_0 l (.inr (2, [.int md, v1, v2]))) : gMet yJx4a65c_init_da8c8 wsJx4a65c_init_da8c8 (gRm 3 0 0) G h_0 [.ref l] (pIni h_0 l [.int (nI 0), .ref (gE0 G), v2]) := by
  refine gMet_of (maxL := 1) (ret := none) (by decide) rfl (Nat.le_of_ble_eq_true rfl) ?_
  intro X hG hnL hB hE
  subst hG
  suffices go : ∀ h : gH, h = h_0 → gW X h 0 0 0 [(0, .ref l)] [] from go h_0 rfl
  intro h eh
  rw [← eh] at hl
  obtain ⟨FR, eFR⟩ : ∃ FR : Nat → va_E → Prop, FR = fun (q : Nat) (_ : va_E) => q ≠ l := ⟨_, rfl⟩
  have hO : ∀ q e, gat h_0 q e → FR q e → gat h q e := fun q e z9 _ => by rw [eh]; exact z9
  have hI : ∀ q, q ∈ h_0.1 → q ∈ h.1 := fun q z9 => by rw [eh]; exact z9
  have on_l : ∀ q e, gat h_0 q e → FR q e → q ≠ l := by intros; rename_i w9; rw [eFR] at w9; exact w9
  refine gI_aload_n hB 0 dJx4a65c_init_da8c8_0 rfl ?_
  refine gI_callI (n9 := 0) (As := []) (rest := []) hB (j_init2 X.2.1 h l md v1 v2 hl) (gCW.of ggJx4a65c_init_da8c8_Jxc12de_init_da8c8 rfl ⟨by decide, by decide, by decide +kernel⟩ ⟨Nat.le_of_ble_eq_true rfl, Nat.le_of_ble_eq_true rfl⟩) rfl rfl (Or.inl (by decide +kernel)) (by decide +kernel) (by decide +kernel) rfl rfl (Nat.le_of_ble_eq_true rfl) (by first | exact Nat.le_of_ble_eq_true rfl | (dsimp only [gRm]; omega)) (by first | exact Nat.le_of_ble_eq_true rfl | (dsimp only [gRm]; omega)) dJx4a65c_init_da8c8_1 (fun v9 h k9 n9 hp => ?_) (fun E9 h1 k1 n1 hp => by cases hp.1)
  obtain ⟨e9, Nl, hK, rfl, rfl⟩ := hp
  cases e9
  have hO : ∀ q e, gat h_0 q e → FR q e → gat h q e := fun q e z9 w9 => hK q e (hO q e z9 w9) (on_l q e z9 w9)
  have hI : ∀ q, q ∈ h_0.1 → q ∈ h.1 := fun q z9 => gSt.dom hK Nl (hI q z9)
  replace hl := Nl
  refine gI_aload_n hB 0 dJx4a65c_init_da8c8_4 rfl ?_
  refine gI_getsE hB (by decide +kernel) dJx4a65c_init_da8c8_5 ?_
  refine gC_put hB 1 tyJx4a65c tyJx4a65c_ok nmJx4a65c hl (C := RJx4a65c) (T := TJx4a65c) (N := 3) rfl (by decide +kernel) (by decide) (by decide +kernel) (fun _ h9 => h9) rfl rfl rfl (Nat.le_of_ble_eq_true rfl) dJx4a65c_init_da8c8_8 (fun h Nl hK => ?_)
  have hO : ∀ q e, gat h_0 q e → FR q e → gat h q e := fun q e z9 w9 => hK q e (hO q e z9 w9) (on_l q e z9 w9)
  have hI : ∀ q, q ∈ h_0.1 → q ∈ h.1 := fun q z9 => gSt.dom hK Nl (hI q z9)
  replace hl : gat h l (.inr (2, [.int (nI 0), .ref (gE0 X.2.1), v2])) := Nl
  refine gI_vret hB hE dJx4a65c_init_da8c8_11 ?_
  exact ⟨rfl, hl, fun q9 e9 z9 w9 => hO q9 e9 z9 (by rw [eFR]; exact w9), rfl, rfl⟩

set_option maxRecDepth 100000 in
set_option maxHeartbeats 4000000 in
theorem j_fill (G : gG) (h_0 : gH) (qa N : Nat) (f : Nat → Int32) (v : Int32) (hq : gat h_0 qa (.inl (gI G, N, .inl f))) (hN : N < 1000) : gMet yJ7_fill_53178 wsJ7_fill_53178 (gRm 1 0 0) G h_0 [.ref qa, .int v] ((fun r h9 k s => ∃ f9, r = .inl none ∧ gat h9 qa (.inl (gI G, N, .inl f9)) ∧ (∀ i, i < N → f9 i = v) ∧ gSt h_0 h9 qa ∧ k = 0 ∧ s = 0)) := by
  refine gMet_of (maxL := 4) (ret := none) (by decide) rfl (Nat.le_of_ble_eq_true rfl) ?_
  intro X hG hnL hB hE
  subst hG
  suffices go : ∀ h : gH, h = h_0 → gW X h 0 0 0 [(0, .ref qa), (1, .int v)] [] from go h_0 rfl
  intro h eh
  rw [← eh] at hq
  obtain ⟨FR, eFR⟩ : ∃ FR : Nat → va_E → Prop, FR = fun (x : Nat) (_ : va_E) => x ≠ qa := ⟨_, rfl⟩
  have hO : ∀ q e, gat h_0 q e → FR q e → gat h q e := fun q e z9 _ => by rw [eh]; exact z9
  have hI : ∀ q, q ∈ h_0.1 → q ∈ h.1 := fun q z9 => by rw [eh]; exact z9
  have on_qa : ∀ q e, gat h_0 q e → FR q e → q ≠ qa := by intros; rename_i w9; rw [eFR] at w9; exact w9
  refine gI_iconst (v := nI 0) hB dJ7_fill_53178_0 (by decide) ?_
  refine gI_istore_n hB ([(2, .int (nI 0)), (0, .ref qa), (1, .int v)]) hnL dJ7_fill_53178_1 (by decide) rfl ?_
  refine gI_aload_n hB 1 dJ7_fill_53178_2 rfl ?_
  refine gI_alenI hB hq dJ7_fill_53178_3 ?_
  refine gI_istore_n hB ([(3, .int (nI N)), (2, .int (nI 0)), (0, .ref qa), (1, .int v)]) hnL dJ7_fill_53178_4 (by decide) rfl ?_
  have lf : ∀ (r_lf : Nat) (h : gH) (i : Nat) (f : Nat → Int32), N + 1 ≤ i + r_lf → i ≤ N → gat h qa (.inl (gI X.2.1, N, .inl f)) → (∀ j, j < i → f j = v) → (∀ x e, gat h_0 x e → FR x e → gat h x e) → (∀ x, x ∈ h_0.1 → x ∈ h.1) → gW X h 0 0 5 [(2, .int (nI i)), (3, .int (nI N)), (0, .ref qa), (1, .int v)] [] := by
    intro r_lf
    induction r_lf with
    | zero => intro h i f hfu hi hq hf hO hI; exact absurd hfu (by omega)
    | succ r_lf ih_lf =>
      intro h i f hfu hi hq hf hO hI
      refine gI_iload_n hB 0 dJ7_fill_53178_5 rfl ?_
      refine gI_iload_n hB 1 dJ7_fill_53178_6 rfl ?_
      refine gI_icmp_ge hB 20 dJ7_fill_53178_7 (by decide) (fun c7_1 => ?_) (fun c7_1 => ?_)
      · skip
        have c7_1 := (nI_leI (by omega) (by omega)).mp c7_1
        refine gI_vret hB hE dJ7_fill_53178_20 ?_
        exact ⟨f, rfl, hq, fun j hj => hf j (by omega), fun q9 e9 z9 w9 => hO q9 e9 z9 (by rw [eFR]; exact w9), rfl, rfl⟩
      · skip
        have c7_1 := mt (nI_leI (by omega) (by omega)).mpr c7_1
        refine gI_aload_n hB 2 dJ7_fill_53178_10 rfl ?_
        refine gI_iload_n hB 0 dJ7_fill_53178_11 rfl ?_
        refine gI_iload_n hB 3 dJ7_fill_53178_12 rfl ?_
        refine gC_iast hB i hq rfl (by omega) (by omega) dJ7_fill_53178_13 (fun h Nqa hK => ?_)
        have hO : ∀ q e, gat h_0 q e → FR q e → gat h q e := fun q e z9 w9 => hK q e (hO q e z9 w9) (on_qa q e z9 w9)
        have hI : ∀ q, q ∈ h_0.1 → q ∈ h.1 := fun q z9 => gSt.dom hK Nqa (hI q z9)
        replace hq := Nqa
        refine gI_iinc hB 0 ([(2, .int (nI (i + 1))), (3, .int (nI N)), (0, .ref qa), (1, .int v)]) hnL dJ7_fill_53178_14 rfl (nI_1 (i)) (by decide) rfl ?_
        refine gI_goto hB 5 dJ7_fill_53178_17 (by decide) ?_
        refine gI_loc [0, 1, 2, 3] rfl ?_
        exact ih_lf h (i + 1) (upd f i v) (by omega) (by omega) hq (fun j hj => by by_cases e : j = i; exact e ▸ pk_us; rw [pk_un e]; exact hf j (by omega)) hO hI
  refine gI_loc [1, 0, 2, 3] rfl ?_
  exact lf (N + 1) h 0 f (by omega) (by omega) hq (fun j hj => absurd hj (by omega)) hO hI

