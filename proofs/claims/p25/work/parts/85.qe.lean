/-! the law's own courtyard: its objects and rows -/
def sTIni (G : gG) (h : gH) (y : Nat) : gPo := fun r h' k n => ∃ hb, r = .inl none ∧ hb ∉ h.1 ∧ gat h' y (.inr (1, [.int 0, .int 0, .int 0, .int 0, .int 0, .int (-1), .ref hb])) ∧ gat h' hb (.inl (gJ G, 0, .inr (.inr (.inr (.inr (fun _ => none)))))) ∧ gSt h h' y ∧ k = 1 ∧ n = 0
def sSIni (G : gG) (h : gH) (y : Nat) : gPo := fun r h' k n => ∃ tn rn sn, r = .inl none ∧ tn ∉ h.1 ∧ rn ∉ h.1 ∧ sn ∉ h.1 ∧ gat h' y (.inr (0, [.int 0, .int (nI 60), .ref tn, .ref rn, .ref sn, .int 0, .int 0, .int 0, .int 0])) ∧ gat h' tn (.inl (gTn G, 0, .inr (.inr (.inr (.inr (fun _ => none)))))) ∧ gSt h h' y ∧ k = 3 ∧ n = 0
def sMv (G : gG) (h : gH) (y : Nat) (fs : List Value) (T : Nat) (g : Nat → Option Nat) (p q : Int32) : gPo := fun r h' k n => ∃ t9 hb al f, r = .inl (some (.ref t9)) ∧ t9 ∉ h.1 ∧ hb ∉ h.1 ∧ al ∉ h.1 ∧ gat h' y (.inr (0, fs.set 2 (.ref al))) ∧ gat h' al (.inl (gTn G, T + 1, .inr (.inr (.inr (.inr f))))) ∧ (∀ j, j < T → f j = g j) ∧ f T = some t9 ∧ gat h' t9 (.inr (1, [.int p, .int q, .int q, .int 0, .int 0, .int (-1), .ref hb])) ∧ gat h' hb (.inl (gJ G, 0, .inr (.inr (.inr (.inr (fun _ => none)))))) ∧ gSt h h' y ∧ k ≤ 3 ∧ n ≤ 40
def sMo (G : gG) (h : gH) (v P : Nat) (g : Nat → Option Nat) : gPo := fun r h' k n => ∃ al f, r = .inl (some (.ref al)) ∧ al ∉ h.1 ∧ gat h' al (.inl (gJ G, P + 1, .inr (.inr (.inr (.inr f))))) ∧ (∀ j, j < P → f j = g j) ∧ f P = some v ∧ gSa h h' ∧ k ≤ 1 ∧ n ≤ 20

set_option maxRecDepth 100000 in
set_option maxHeartbeats 4000000 in
theorem s_tinit (G : gG) (h_0 : gH) (y : Nat) (hy : gat h_0 y (.inr (1, [.int 0, .int 0, .int 0, .int 0, .int 0, .int 0, .null]))) : gMet yX8_init wsX8_init (gRm 1 1 0) G h_0 [.ref y] (sTIni G h_0 y) := by
  refine gMet_of (maxL := 1) (ret := none) (by decide) rfl (Nat.le_of_ble_eq_true rfl) ?_
  intro X hG hnL hB hE
  subst hG
  suffices go : ∀ h : gH, h = h_0 → gW X h 0 0 0 [(0, .ref y)] [] from go h_0 rfl
  intro h eh
  rw [← eh] at hy
  obtain ⟨FR, eFR⟩ : ∃ FR : Nat → va_E → Prop, FR = fun (q : Nat) (_ : va_E) => q ≠ y := ⟨_, rfl⟩
  have hO : ∀ q e, gat h_0 q e → FR q e → gat h q e := fun q e z9 _ => by rw [eh]; exact z9
  have hI : ∀ q, q ∈ h_0.1 → q ∈ h.1 := fun q z9 => by rw [eh]; exact z9
  have on_y : ∀ q e, gat h_0 q e → FR q e → q ≠ y := by intros; rename_i w9; rw [eFR] at w9; exact w9
  refine gI_aload_n hB 0 dX8_init_0 rfl ?_
  refine gI_objInit hB (by decide +kernel) (by decide +kernel) (by decide +kernel) (Nat.le_of_ble_eq_true rfl) (Nat.le_of_ble_eq_true rfl) dX8_init_1 ?_
  refine gI_aload_n hB 0 dX8_init_4 rfl ?_
  refine gI_iconst (v := (-1)) hB dX8_init_5 (by decide) ?_
  refine gC_put hB 5 tyX8 tyX8_ok nmX8 hy (C := RX8) (T := TX8) (N := 7) rfl (by decide +kernel) (by decide) (by decide +kernel) (fun _ h9 => h9) rfl rfl rfl (Nat.le_of_ble_eq_true rfl) dX8_init_6 (fun h Ny hK => ?_)
  have hO : ∀ q e, gat h_0 q e → FR q e → gat h q e := fun q e z9 w9 => hK q e (hO q e z9 w9) (on_y q e z9 w9)
  have hI : ∀ q, q ∈ h_0.1 → q ∈ h.1 := fun q z9 => gSt.dom hK Ny (hI q z9)
  replace hy : gat h y (.inr (1, [.int 0, .int 0, .int 0, .int 0, .int 0, .int (-1), .null])) := Ny
  refine gI_aload_n hB 0 dX8_init_9 rfl ?_
  refine gI_iconst (v := nI 0) hB dX8_init_10 (by decide) ?_
  refine gC_newA hB 0 rfl (by omega) (by decide +kernel) (by dsimp only [gRm]; omega) (by dsimp only [gRm]; omega) dX8_init_11 (fun q1 h hq1 Hq1 hK => ?_)
  have n_q1_y : y ≠ q1 := fun z9 => hq1 (z9 ▸ hy.1)
  have hy := hK _ _ hy
  have on_q1 : ∀ q9 e9, gat h_0 q9 e9 → FR q9 e9 → q9 ≠ q1 := fun q9 e9 z9 w9 y9 => hq1 (y9 ▸ (hO q9 e9 z9 w9).1)
  have nw_q1 : q1 ∉ h_0.1 := fun z9 => hq1 (hI q1 z9)
  have hO : ∀ q e, gat h_0 q e → FR q e → gat h q e := fun q e z9 w9 => hK q e (hO q e z9 w9)
  have hI : ∀ q, q ∈ h_0.1 → q ∈ h.1 := fun q z9 => gSa.dom hK (hI q z9)
  refine gC_put hB 6 tyX8 tyX8_ok nmX8 hy (C := RX8) (T := TX8) (N := 7) rfl (by decide +kernel) (by decide) (by decide +kernel) (fun _ h9 => h9) rfl rfl rfl (Nat.le_of_ble_eq_true rfl) dX8_init_14 (fun h Ny hK => ?_)
  have Hq1 := hK _ _ Hq1 (gat_ne Hq1 hy rfl)
  have hO : ∀ q e, gat h_0 q e → FR q e → gat h q e := fun q e z9 w9 => hK q e (hO q e z9 w9) (on_y q e z9 w9)
  have hI : ∀ q, q ∈ h_0.1 → q ∈ h.1 := fun q z9 => gSt.dom hK Ny (hI q z9)
  replace hy : gat h y (.inr (1, [.int 0, .int 0, .int 0, .int 0, .int 0, .int (-1), .ref q1])) := Ny
  refine gI_vret hB hE dX8_init_17 ?_
  exact ⟨q1, rfl, nw_q1, hy, Hq1, fun q9 e9 z9 w9 => hO q9 e9 z9 (by rw [eFR]; exact w9), by omega, by omega⟩

set_option maxRecDepth 100000 in
set_option maxHeartbeats 4000000 in
theorem s_sinit (G : gG) (h_0 : gH) (y : Nat) (hy : gat h_0 y (.inr (0, [.int 0, .int 0, .null, .null, .null, .int 0, .int 0, .int 0, .int 0]))) : gMet yX7_init wsX7_init (gRm 1 3 0) G h_0 [.ref y] (sSIni G h_0 y) := by
  refine gMet_of (maxL := 1) (ret := none) (by decide) rfl (Nat.le_of_ble_eq_true rfl) ?_
  intro X hG hnL hB hE
  subst hG
  suffices go : ∀ h : gH, h = h_0 → gW X h 0 0 0 [(0, .ref y)] [] from go h_0 rfl
  intro h eh
  rw [← eh] at hy
  obtain ⟨FR, eFR⟩ : ∃ FR : Nat → va_E → Prop, FR = fun (q : Nat) (_ : va_E) => q ≠ y := ⟨_, rfl⟩
  have hO : ∀ q e, gat h_0 q e → FR q e → gat h q e := fun q e z9 _ => by rw [eh]; exact z9
  have hI : ∀ q, q ∈ h_0.1 → q ∈ h.1 := fun q z9 => by rw [eh]; exact z9
  have on_y : ∀ q e, gat h_0 q e → FR q e → q ≠ y := by intros; rename_i w9; rw [eFR] at w9; exact w9
  refine gI_aload_n hB 0 dX7_init_0 rfl ?_
  refine gI_objInit hB (by decide +kernel) (by decide +kernel) (by decide +kernel) (Nat.le_of_ble_eq_true rfl) (Nat.le_of_ble_eq_true rfl) dX7_init_1 ?_
  refine gI_aload_n hB 0 dX7_init_4 rfl ?_
  refine gI_bipush (v := nI 60) hB dX7_init_5 (by decide) ?_
  refine gC_put hB 1 tyX7 tyX7_ok nmX7 hy (C := RX7) (T := TX7) (N := 9) rfl (by decide +kernel) (by decide) (by decide +kernel) (fun _ h9 => h9) rfl rfl rfl (Nat.le_of_ble_eq_true rfl) dX7_init_7 (fun h Ny hK => ?_)
  have hO : ∀ q e, gat h_0 q e → FR q e → gat h q e := fun q e z9 w9 => hK q e (hO q e z9 w9) (on_y q e z9 w9)
  have hI : ∀ q, q ∈ h_0.1 → q ∈ h.1 := fun q z9 => gSt.dom hK Ny (hI q z9)
  replace hy : gat h y (.inr (0, [.int 0, .int (nI 60), .null, .null, .null, .int 0, .int 0, .int 0, .int 0])) := Ny
  refine gI_aload_n hB 0 dX7_init_10 rfl ?_
  refine gI_iconst (v := nI 0) hB dX7_init_11 (by decide) ?_
  refine gC_newT hB 0 rfl (by omega) (by decide +kernel) (by dsimp only [gRm]; omega) (by dsimp only [gRm]; omega) dX7_init_12 (fun q1 h hq1 Hq1 hK => ?_)
  have n_q1_y : y ≠ q1 := fun z9 => hq1 (z9 ▸ hy.1)
  have hy := hK _ _ hy
  have on_q1 : ∀ q9 e9, gat h_0 q9 e9 → FR q9 e9 → q9 ≠ q1 := fun q9 e9 z9 w9 y9 => hq1 (y9 ▸ (hO q9 e9 z9 w9).1)
  have nw_q1 : q1 ∉ h_0.1 := fun z9 => hq1 (hI q1 z9)
  have hO : ∀ q e, gat h_0 q e → FR q e → gat h q e := fun q e z9 w9 => hK q e (hO q e z9 w9)
  have hI : ∀ q, q ∈ h_0.1 → q ∈ h.1 := fun q z9 => gSa.dom hK (hI q z9)
  refine gC_put hB 2 tyX7 tyX7_ok nmX7 hy (C := RX7) (T := TX7) (N := 9) rfl (by decide +kernel) (by decide) (by decide +kernel) (fun _ h9 => h9) rfl rfl rfl (Nat.le_of_ble_eq_true rfl) dX7_init_15 (fun h Ny hK => ?_)
  have Hq1 := hK _ _ Hq1 (gat_ne Hq1 hy rfl)
  have hO : ∀ q e, gat h_0 q e → FR q e → gat h q e := fun q e z9 w9 => hK q e (hO q e z9 w9) (on_y q e z9 w9)
  have hI : ∀ q, q ∈ h_0.1 → q ∈ h.1 := fun q z9 => gSt.dom hK Ny (hI q z9)
  replace hy : gat h y (.inr (0, [.int 0, .int (nI 60), .ref q1, .null, .null, .int 0, .int 0, .int 0, .int 0])) := Ny
  refine gI_aload_n hB 0 dX7_init_18 rfl ?_
  refine gI_iconst (v := nI 0) hB dX7_init_19 (by decide) ?_
  refine gC_newA hB 0 rfl (by omega) (by decide +kernel) (by dsimp only [gRm]; omega) (by dsimp only [gRm]; omega) dX7_init_20 (fun q2 h hq2 Hq2 hK => ?_)
  have n_q2_y : y ≠ q2 := fun z9 => hq2 (z9 ▸ hy.1)
  have n_q2_q1 : q1 ≠ q2 := fun z9 => hq2 (z9 ▸ Hq1.1)
  have hy := hK _ _ hy
  have Hq1 := hK _ _ Hq1
  have on_q2 : ∀ q9 e9, gat h_0 q9 e9 → FR q9 e9 → q9 ≠ q2 := fun q9 e9 z9 w9 y9 => hq2 (y9 ▸ (hO q9 e9 z9 w9).1)
  have nw_q2 : q2 ∉ h_0.1 := fun z9 => hq2 (hI q2 z9)
  have hO : ∀ q e, gat h_0 q e → FR q e → gat h q e := fun q e z9 w9 => hK q e (hO q e z9 w9)
  have hI : ∀ q, q ∈ h_0.1 → q ∈ h.1 := fun q z9 => gSa.dom hK (hI q z9)
  refine gC_put hB 3 tyX7 tyX7_ok nmX7 hy (C := RX7) (T := TX7) (N := 9) rfl (by decide +kernel) (by decide) (by decide +kernel) (fun _ h9 => h9) rfl rfl rfl (Nat.le_of_ble_eq_true rfl) dX7_init_23 (fun h Ny hK => ?_)
  have Hq1 := hK _ _ Hq1 (gat_ne Hq1 hy rfl)
  have Hq2 := hK _ _ Hq2 (gat_ne Hq2 hy rfl)
  have hO : ∀ q e, gat h_0 q e → FR q e → gat h q e := fun q e z9 w9 => hK q e (hO q e z9 w9) (on_y q e z9 w9)
  have hI : ∀ q, q ∈ h_0.1 → q ∈ h.1 := fun q z9 => gSt.dom hK Ny (hI q z9)
  replace hy : gat h y (.inr (0, [.int 0, .int (nI 60), .ref q1, .ref q2, .null, .int 0, .int 0, .int 0, .int 0])) := Ny
  refine gI_aload_n hB 0 dX7_init_26 rfl ?_
  refine gI_iconst (v := nI 0) hB dX7_init_27 (by decide) ?_
  refine gC_newA hB 0 rfl (by omega) (by decide +kernel) (by dsimp only [gRm]; omega) (by dsimp only [gRm]; omega) dX7_init_28 (fun q3 h hq3 Hq3 hK => ?_)
  have n_q3_y : y ≠ q3 := fun z9 => hq3 (z9 ▸ hy.1)
  have n_q3_q1 : q1 ≠ q3 := fun z9 => hq3 (z9 ▸ Hq1.1)
  have n_q3_q2 : q2 ≠ q3 := fun z9 => hq3 (z9 ▸ Hq2.1)
  have hy := hK _ _ hy
  have Hq1 := hK _ _ Hq1
  have Hq2 := hK _ _ Hq2
  have on_q3 : ∀ q9 e9, gat h_0 q9 e9 → FR q9 e9 → q9 ≠ q3 := fun q9 e9 z9 w9 y9 => hq3 (y9 ▸ (hO q9 e9 z9 w9).1)
  have nw_q3 : q3 ∉ h_0.1 := fun z9 => hq3 (hI q3 z9)
  have hO : ∀ q e, gat h_0 q e → FR q e → gat h q e := fun q e z9 w9 => hK q e (hO q e z9 w9)
  have hI : ∀ q, q ∈ h_0.1 → q ∈ h.1 := fun q z9 => gSa.dom hK (hI q z9)
  refine gC_put hB 4 tyX7 tyX7_ok nmX7 hy (C := RX7) (T := TX7) (N := 9) rfl (by decide +kernel) (by decide) (by decide +kernel) (fun _ h9 => h9) rfl rfl rfl (Nat.le_of_ble_eq_true rfl) dX7_init_31 (fun h Ny hK => ?_)
  have Hq1 := hK _ _ Hq1 (gat_ne Hq1 hy rfl)
  have Hq2 := hK _ _ Hq2 (gat_ne Hq2 hy rfl)
  have Hq3 := hK _ _ Hq3 (gat_ne Hq3 hy rfl)
  have hO : ∀ q e, gat h_0 q e → FR q e → gat h q e := fun q e z9 w9 => hK q e (hO q e z9 w9) (on_y q e z9 w9)
  have hI : ∀ q, q ∈ h_0.1 → q ∈ h.1 := fun q z9 => gSt.dom hK Ny (hI q z9)
  replace hy : gat h y (.inr (0, [.int 0, .int (nI 60), .ref q1, .ref q2, .ref q3, .int 0, .int 0, .int 0, .int 0])) := Ny
  refine gI_vret hB hE dX7_init_34 ?_
  exact ⟨q1, q2, q3, rfl, nw_q1, nw_q2, nw_q3, hy, Hq1, fun q9 e9 z9 w9 => hO q9 e9 z9 (by rw [eFR]; exact w9), by omega, by omega⟩

set_option maxRecDepth 100000 in
set_option maxHeartbeats 4000000 in
theorem s_move (G : gG) (h_0 : gH) (y tn rn sn T : Nat) (i0 i1 b1 b2 b3 b4 p q : Int32) (g : Nat → Option Nat) (hT : T ≤ 16) (hy0 : gat h_0 y (.inr (0, [.int i0, .int i1, .ref tn, .ref rn, .ref sn, .int b1, .int b2, .int b3, .int b4]))) (ht0 : gat h_0 tn (.inl (gTn G, T, .inr (.inr (.inr (.inr g)))))) (hg : ∀ j, j < T → ∃ x fs, g j = some x ∧ gat h_0 x (.inr (1, fs))) : gMet yX7_moveIn wsX7_moveIn (gRm 2 3 40) G h_0 [.ref y, .int p, .int q] (sMv G h_0 y [.int i0, .int i1, .ref tn, .ref rn, .ref sn, .int b1, .int b2, .int b3, .int b4] T g p q) := by
  refine gMet_of (maxL := 6) (ret := (some (.object "DoorbellChoirLaw$Tenant"))) (by decide) rfl (Nat.le_of_ble_eq_true rfl) ?_
  intro X hG hnL hB hE
  subst hG
  suffices go : ∀ h : gH, h = h_0 → gW X h 0 0 0 [(0, .ref y), (1, .int p), (2, .int q)] [] from go h_0 rfl
  intro h eh
  obtain ⟨FR, eFR⟩ : ∃ FR : Nat → va_E → Prop, FR = fun (q : Nat) (_ : va_E) => q ≠ y := ⟨_, rfl⟩
  have hO : ∀ q e, gat h_0 q e → FR q e → gat h q e := fun q e z9 _ => by rw [eh]; exact z9
  have hI : ∀ q, q ∈ h_0.1 → q ∈ h.1 := fun q z9 => by rw [eh]; exact z9
  have on_y : ∀ q e, gat h_0 q e → FR q e → q ≠ y := by intros; rename_i w9; rw [eFR] at w9; exact w9
  have hy := hy0
  rw [← eh] at hy
  have ht := ht0
  rw [← eh] at ht
  refine gC_new hB (ci := 1) (C := RX8) (T := TX8) (N := 7) [.int 0, .int 0, .int 0, .int 0, .int 0, .int 0, .null] tyX8 tyX8_ok rfl (by decide +kernel) (by decide +kernel) (by decide +kernel) (by decide +kernel) (fun j hj => by rcases (show j = 0 ∨ j = 1 ∨ j = 2 ∨ j = 3 ∨ j = 4 ∨ j = 5 ∨ j = 6 by omega) with rfl | rfl | rfl | rfl | rfl | rfl | rfl <;> rfl) (by dsimp only [gRm]; omega) (by dsimp only [gRm]; omega) dX7_moveIn_0 (fun q1 h hq1 Hq1 hK => ?_)
  have n_q1_y : y ≠ q1 := fun z9 => hq1 (z9 ▸ hy.1)
  have n_q1_tn : tn ≠ q1 := fun z9 => hq1 (z9 ▸ ht.1)
  have hy := hK _ _ hy
  have ht := hK _ _ ht
  have on_q1 : ∀ q9 e9, gat h_0 q9 e9 → FR q9 e9 → q9 ≠ q1 := fun q9 e9 z9 w9 y9 => hq1 (y9 ▸ (hO q9 e9 z9 w9).1)
  have nw_q1 : q1 ∉ h_0.1 := fun z9 => hq1 (hI q1 z9)
  have hO : ∀ q e, gat h_0 q e → FR q e → gat h q e := fun q e z9 w9 => hK q e (hO q e z9 w9)
  have hI : ∀ q, q ∈ h_0.1 → q ∈ h.1 := fun q z9 => gSa.dom hK (hI q z9)
  refine gI_dup hB dX7_moveIn_3 rfl ?_
  refine gI_callI (n9 := 0) (As := []) (rest := [.ref q1]) hB (s_tinit X.2.1 h q1 Hq1) (gCW.of ggX7_moveIn_X8_init rfl ⟨by decide, by decide, by decide +kernel⟩ ⟨Nat.le_of_ble_eq_true rfl, Nat.le_of_ble_eq_true rfl⟩) rfl rfl (Or.inr ⟨"DoorbellChoirLaw", by decide +kernel⟩) (by decide +kernel) (by decide +kernel) rfl rfl (Nat.le_of_ble_eq_true rfl) (by dsimp only [gRm]; omega) (by dsimp only [gRm]; omega) dX7_moveIn_4 (fun v9 h k1 n1 hp => ?_) (fun E9 h1 k1 n1 hp => by obtain ⟨l1, e9, -⟩ := hp; cases e9)
  obtain ⟨a2, e9, ha2, N_q1, Ha2, hK, rfl, rfl⟩ := hp
  cases e9
  have n_a2_y : y ≠ a2 := fun z9 => ha2 (z9 ▸ hy.1)
  have n_a2_tn : tn ≠ a2 := fun z9 => ha2 (z9 ▸ ht.1)
  have n_a2_q1 : q1 ≠ a2 := fun z9 => ha2 (z9 ▸ Hq1.1)
  have on_a2 : ∀ q9 e9, gat h_0 q9 e9 → FR q9 e9 → q9 ≠ a2 := fun q9 e9 z9 w9 y9 => ha2 (y9 ▸ (hO q9 e9 z9 w9).1)
  have nw_a2 : a2 ∉ h_0.1 := fun z9 => ha2 (hI a2 z9)
  have hy := hK _ _ hy (gat_ne hy Hq1 rfl)
  have ht := hK _ _ ht (gat_ne ht Hq1 rfl)
  have hO : ∀ q e, gat h_0 q e → FR q e → gat h q e := fun q e z9 w9 => hK q e (hO q e z9 w9) (on_q1 q e z9 w9)
  have hI : ∀ q, q ∈ h_0.1 → q ∈ h.1 := fun q z9 => gSt.dom hK N_q1 (hI q z9)
  replace Hq1 := N_q1
  refine gI_astore_n hB ([(3, .ref q1), (0, .ref y), (1, .int p), (2, .int q)]) hnL dX7_moveIn_7 (by decide) rfl ?_
  refine gI_aload_n hB 0 dX7_moveIn_8 rfl ?_
  refine gI_iload_n hB 2 dX7_moveIn_9 rfl ?_
  refine gC_put hB 0 tyX8 tyX8_ok nmX8 Hq1 (C := RX8) (T := TX8) (N := 7) rfl (by decide +kernel) (by decide) (by decide +kernel) (fun _ h9 => h9) rfl rfl rfl (Nat.le_of_ble_eq_true rfl) dX7_moveIn_10 (fun h Nq1 hK => ?_)
  have hy := hK _ _ hy (gat_ne hy Hq1 rfl)
  have ht := hK _ _ ht (gat_ne ht Hq1 rfl)
  have Ha2 := hK _ _ Ha2 (gat_ne Ha2 Hq1 rfl)
  have hO : ∀ q e, gat h_0 q e → FR q e → gat h q e := fun q e z9 w9 => hK q e (hO q e z9 w9) (on_q1 q e z9 w9)
  have hI : ∀ q, q ∈ h_0.1 → q ∈ h.1 := fun q z9 => gSt.dom hK Nq1 (hI q z9)
  replace Hq1 : gat h q1 (.inr (1, [.int p, .int 0, .int 0, .int 0, .int 0, .int (-1), .ref a2])) := Nq1
  refine gI_aload_n hB 0 dX7_moveIn_13 rfl ?_
  refine gI_iload_n hB 3 dX7_moveIn_14 rfl ?_
  refine gC_put hB 1 tyX8 tyX8_ok nmX8 Hq1 (C := RX8) (T := TX8) (N := 7) rfl (by decide +kernel) (by decide) (by decide +kernel) (fun _ h9 => h9) rfl rfl rfl (Nat.le_of_ble_eq_true rfl) dX7_moveIn_15 (fun h Nq1 hK => ?_)
  have hy := hK _ _ hy (gat_ne hy Hq1 rfl)
  have ht := hK _ _ ht (gat_ne ht Hq1 rfl)
  have Ha2 := hK _ _ Ha2 (gat_ne Ha2 Hq1 rfl)
  have hO : ∀ q e, gat h_0 q e → FR q e → gat h q e := fun q e z9 w9 => hK q e (hO q e z9 w9) (on_q1 q e z9 w9)
  have hI : ∀ q, q ∈ h_0.1 → q ∈ h.1 := fun q z9 => gSt.dom hK Nq1 (hI q z9)
  replace Hq1 : gat h q1 (.inr (1, [.int p, .int q, .int 0, .int 0, .int 0, .int (-1), .ref a2])) := Nq1
  refine gI_aload_n hB 0 dX7_moveIn_18 rfl ?_
  refine gI_iload_n hB 3 dX7_moveIn_19 rfl ?_
  refine gC_put hB 2 tyX8 tyX8_ok nmX8 Hq1 (C := RX8) (T := TX8) (N := 7) rfl (by decide +kernel) (by decide) (by decide +kernel) (fun _ h9 => h9) rfl rfl rfl (Nat.le_of_ble_eq_true rfl) dX7_moveIn_20 (fun h Nq1 hK => ?_)
  have hy := hK _ _ hy (gat_ne hy Hq1 rfl)
  have ht := hK _ _ ht (gat_ne ht Hq1 rfl)
  have Ha2 := hK _ _ Ha2 (gat_ne Ha2 Hq1 rfl)
  have hO : ∀ q e, gat h_0 q e → FR q e → gat h q e := fun q e z9 w9 => hK q e (hO q e z9 w9) (on_q1 q e z9 w9)
  have hI : ∀ q, q ∈ h_0.1 → q ∈ h.1 := fun q z9 => gSt.dom hK Nq1 (hI q z9)
  replace Hq1 : gat h q1 (.inr (1, [.int p, .int q, .int q, .int 0, .int 0, .int (-1), .ref a2])) := Nq1
  refine gI_aload_n hB 1 dX7_moveIn_23 rfl ?_
  refine gI_get (v := .ref tn) hB 2 hy (C := RX7) (T := TX7) (N := 9) rfl (by decide +kernel) (by decide) (by decide +kernel) (fun _ h9 => h9) rfl dX7_moveIn_24 ?_
  refine gC_alenT hB ht dX7_moveIn_27 ?_
  refine gI_iconst (v := nI 1) hB dX7_moveIn_28 (by decide) ?_
  refine gI_iaddN hB dX7_moveIn_29 ?_
  refine gC_newT hB (T + 1) rfl (by omega) (by decide +kernel) (by dsimp only [gRm]; omega) (by dsimp only [gRm]; omega) dX7_moveIn_30 (fun q3 h hq3 Hq3 hK => ?_)
  have n_q3_y : y ≠ q3 := fun z9 => hq3 (z9 ▸ hy.1)
  have n_q3_tn : tn ≠ q3 := fun z9 => hq3 (z9 ▸ ht.1)
  have n_q3_q1 : q1 ≠ q3 := fun z9 => hq3 (z9 ▸ Hq1.1)
  have n_q3_a2 : a2 ≠ q3 := fun z9 => hq3 (z9 ▸ Ha2.1)
  have hy := hK _ _ hy
  have ht := hK _ _ ht
  have Hq1 := hK _ _ Hq1
  have Ha2 := hK _ _ Ha2
  have on_q3 : ∀ q9 e9, gat h_0 q9 e9 → FR q9 e9 → q9 ≠ q3 := fun q9 e9 z9 w9 y9 => hq3 (y9 ▸ (hO q9 e9 z9 w9).1)
  have nw_q3 : q3 ∉ h_0.1 := fun z9 => hq3 (hI q3 z9)
  have hO : ∀ q e, gat h_0 q e → FR q e → gat h q e := fun q e z9 w9 => hK q e (hO q e z9 w9)
  have hI : ∀ q, q ∈ h_0.1 → q ∈ h.1 := fun q z9 => gSa.dom hK (hI q z9)
  refine gI_astore hB ([(4, .ref q3), (3, .ref q1), (0, .ref y), (1, .int p), (2, .int q)]) hnL dX7_moveIn_33 (by decide) rfl ?_
  refine gI_iconst (v := nI 0) hB dX7_moveIn_35 (by decide) ?_
  refine gI_istore hB ([(5, .int (nI 0)), (4, .ref q3), (3, .ref q1), (0, .ref y), (1, .int p), (2, .int q)]) hnL dX7_moveIn_36 (by decide) rfl ?_
  suffices loop : ∀ (r m : Nat) (h : gH) (f : Nat → Option Nat), m + r = T → (∀ j, j < m → f j = g j) → gat h y (.inr (0, [.int i0, .int i1, .ref tn, .ref rn, .ref sn, .int b1, .int b2, .int b3, .int b4])) → gat h tn (.inl (gTn X.2.1, T, .inr (.inr (.inr (.inr (g)))))) → gat h q1 (.inr (1, [.int p, .int q, .int q, .int 0, .int 0, .int (-1), .ref a2])) → gat h a2 (.inl (gJ X.2.1, 0, .inr (.inr (.inr (.inr (fun _ => none)))))) → gat h q3 (.inl (gTn X.2.1, (T + 1), .inr (.inr (.inr (.inr (f)))))) → (∀ q e, gat h_0 q e → FR q e → gat h q e) → (∀ q, q ∈ h_0.1 → q ∈ h.1) → gW X h (0 + 1 + 1 + 1) (0 + 7 + 0 + (T + 1)) 38 [(5, .int (nI m)), (4, .ref q3), (3, .ref q1), (0, .ref y), (1, .int p), (2, .int q)] [] from loop (T) 0 h _ (by omega) (fun j hj => absurd hj (Nat.not_lt_zero j)) hy ht Hq1 Ha2 Hq3 hO hI
  intro r
  induction r with
  | zero =>
    intro m h f em hf hy ht Hq1 Ha2 Hq3 hO hI
    refine gI_iload hB 0 dX7_moveIn_38 rfl ?_
    refine gI_aload_n hB 3 dX7_moveIn_40 rfl ?_
    refine gI_get (v := .ref tn) hB 2 hy (C := RX7) (T := TX7) (N := 9) rfl (by decide +kernel) (by decide) (by decide +kernel) (fun _ h9 => h9) rfl dX7_moveIn_41 ?_
    refine gC_alenT hB ht dX7_moveIn_44 ?_
    refine gI_icmp_ge hB 66 dX7_moveIn_45 (by decide) (fun _ => ?_) (fun z => absurd (nI_le (a := T) (b := m) (by omega) (by omega)) z)
    refine gI_aload hB 1 dX7_moveIn_66 rfl ?_
    refine gI_aload_n hB 3 dX7_moveIn_68 rfl ?_
    refine gI_get (v := .ref tn) hB 2 hy (C := RX7) (T := TX7) (N := 9) rfl (by decide +kernel) (by decide) (by decide +kernel) (fun _ h9 => h9) rfl dX7_moveIn_69 ?_
    refine gC_alenT hB ht dX7_moveIn_72 ?_
    refine gI_aload_n hB 2 dX7_moveIn_73 rfl ?_
    refine gC_aastT hB T Hq3 Hq1 rfl (by omega) (by omega) dX7_moveIn_74 (fun h Nq3 hK => ?_)
    have hy := hK _ _ hy (gat_ne hy Hq3 rfl)
    have ht := hK _ _ ht n_q3_tn
    have Hq1 := hK _ _ Hq1 (gat_ne Hq1 Hq3 rfl)
    have Ha2 := hK _ _ Ha2 n_q3_a2
    have hO : ∀ q e, gat h_0 q e → FR q e → gat h q e := fun q e z9 w9 => hK q e (hO q e z9 w9) (on_q3 q e z9 w9)
    have hI : ∀ q, q ∈ h_0.1 → q ∈ h.1 := fun q z9 => gSt.dom hK Nq3 (hI q z9)
    replace Hq3 := Nq3
    refine gI_aload_n hB 3 dX7_moveIn_75 rfl ?_
    refine gI_aload hB 1 dX7_moveIn_76 rfl ?_
    refine gC_put hB 2 tyX7 tyX7_ok nmX7 hy (C := RX7) (T := TX7) (N := 9) rfl (by decide +kernel) (by decide) (by decide +kernel) (fun _ h9 => h9) rfl rfl rfl (Nat.le_of_ble_eq_true rfl) dX7_moveIn_78 (fun h Ny hK => ?_)
    have ht := hK _ _ ht (gat_ne ht hy rfl)
    have Hq1 := hK _ _ Hq1 (gat_ne Hq1 hy rfl)
    have Ha2 := hK _ _ Ha2 (gat_ne Ha2 hy rfl)
    have Hq3 := hK _ _ Hq3 (gat_ne Hq3 hy rfl)
    have hO : ∀ q e, gat h_0 q e → FR q e → gat h q e := fun q e z9 w9 => hK q e (hO q e z9 w9) (on_y q e z9 w9)
    have hI : ∀ q, q ∈ h_0.1 → q ∈ h.1 := fun q z9 => gSt.dom hK Ny (hI q z9)
    replace hy : gat h y (.inr (0, [.int i0, .int i1, .ref q3, .ref rn, .ref sn, .int b1, .int b2, .int b3, .int b4])) := Ny
    refine gI_aload_n hB 2 dX7_moveIn_81 rfl ?_
    refine gI_aret hB hE (Or.inl ⟨_, rfl⟩) (Or.inr ⟨_, rfl⟩) dX7_moveIn_82 ?_
    refine ⟨q1, a2, q3, _, rfl, nw_q1, nw_a2, nw_q3, hy, Hq3, fun j hj => ?_, ?_, Hq1, Ha2, fun q9 e9 z9 w9 => hO q9 e9 z9 (by rw [eFR]; exact w9), by omega, by omega⟩
    · rw [va_up_ne _ _ (by omega)]
      exact hf j (by omega)
    · rw [va_up_self]
  | succ r ih =>
    intro m h f em hf hy ht Hq1 Ha2 Hq3 hO hI
    obtain ⟨x, fs, ex, hx0⟩ := hg m (by omega)
    have hxy : x ≠ y := gat_ne hx0 hy0 rfl
    refine gI_iload hB 0 dX7_moveIn_38 rfl ?_
    refine gI_aload_n hB 3 dX7_moveIn_40 rfl ?_
    refine gI_get (v := .ref tn) hB 2 hy (C := RX7) (T := TX7) (N := 9) rfl (by decide +kernel) (by decide) (by decide +kernel) (fun _ h9 => h9) rfl dX7_moveIn_41 ?_
    refine gC_alenT hB ht dX7_moveIn_44 ?_
    refine gI_icmp_ge hB 66 dX7_moveIn_45 (by decide) (fun z => absurd z (Int32.not_le.mpr (nI_lt (a := m) (b := T) (by omega) (by omega)))) (fun _ => ?_)
    refine gI_aload hB 1 dX7_moveIn_48 rfl ?_
    refine gI_iload hB 0 dX7_moveIn_50 rfl ?_
    refine gI_aload_n hB 3 dX7_moveIn_52 rfl ?_
    refine gI_get (v := .ref tn) hB 2 hy (C := RX7) (T := TX7) (N := 9) rfl (by decide +kernel) (by decide) (by decide +kernel) (fun _ h9 => h9) rfl dX7_moveIn_53 ?_
    refine gI_iload hB 0 dX7_moveIn_56 rfl ?_
    refine gC_aaldT hB m ht rfl (by omega) (by omega) ex dX7_moveIn_58 ?_
    refine gC_aastT hB m Hq3 (hO x _ hx0 (by rw [eFR]; exact hxy)) rfl (by omega) (by omega) dX7_moveIn_59 (fun h Nq3 hK => ?_)
    have hy := hK _ _ hy (gat_ne hy Hq3 rfl)
    have ht := hK _ _ ht n_q3_tn
    have Hq1 := hK _ _ Hq1 (gat_ne Hq1 Hq3 rfl)
    have Ha2 := hK _ _ Ha2 n_q3_a2
    have hO : ∀ q e, gat h_0 q e → FR q e → gat h q e := fun q e z9 w9 => hK q e (hO q e z9 w9) (on_q3 q e z9 w9)
    have hI : ∀ q, q ∈ h_0.1 → q ∈ h.1 := fun q z9 => gSt.dom hK Nq3 (hI q z9)
    replace Hq3 := Nq3
    refine gI_iinc hB 0 ([(5, .int (nI (m + 1))), (4, .ref q3), (3, .ref q1), (0, .ref y), (1, .int p), (2, .int q)]) hnL dX7_moveIn_60 rfl (nI_1 (m)) (by decide) rfl ?_
    refine gI_goto hB 38 dX7_moveIn_63 (by decide) ?_
    refine ih (m + 1) h _ (by omega) (fun j hj => ?_) hy ht Hq1 Ha2 Hq3 hO hI
    by_cases c9 : j = m
    · subst c9
      rw [va_up_self, ex]
    · rw [va_up_ne _ _ c9]
      exact hf j (by omega)

set_option maxRecDepth 100000 in
set_option maxHeartbeats 4000000 in
theorem s_more (G : gG) (h_0 : gH) (ro v Q : Nat) (g : Nat → Option Nat) (rf : Nat → Int32) (hQ : Q ≤ 16) (hr0 : gat h_0 ro (.inl (gJ G, Q, .inr (.inr (.inr (.inr g)))))) (hv0 : gat h_0 v (.inl (gI G, 9, .inl rf))) (hg : ∀ j, j < Q → ∃ x f9, g j = some x ∧ gat h_0 x (.inl (gI G, 9, .inl f9))) : gMet yX7_more wsX7_more (gRm 1 1 20) G h_0 [.ref ro, .int (nI Q), .ref v] (sMo G h_0 v Q g) := by
  refine gMet_of (maxL := 5) (ret := (some (.array (.array .int)))) (by decide) rfl (Nat.le_of_ble_eq_true rfl) ?_
  intro X hG hnL hB hE
  subst hG
  suffices go : ∀ h : gH, h = h_0 → gW X h 0 0 0 [(0, .ref ro), (1, .int (nI Q)), (2, .ref v)] [] from go h_0 rfl
  intro h eh
  obtain ⟨FR, eFR⟩ : ∃ FR : Nat → va_E → Prop, FR = fun (_ : Nat) (_ : va_E) => True := ⟨_, rfl⟩
  have hO : ∀ q e, gat h_0 q e → FR q e → gat h q e := fun q e z9 _ => by rw [eh]; exact z9
  have hI : ∀ q, q ∈ h_0.1 → q ∈ h.1 := fun q z9 => by rw [eh]; exact z9
  have hr := hr0
  rw [← eh] at hr
  have hv := hv0
  rw [← eh] at hv
  refine gI_aload_n hB 0 dX7_more_0 rfl ?_
  refine gC_alenA hB hr dX7_more_1 ?_
  refine gI_iconst (v := nI 1) hB dX7_more_2 (by decide) ?_
  refine gI_iaddN hB dX7_more_3 ?_
  refine gC_newA hB (Q + 1) rfl (by omega) (by decide +kernel) (by dsimp only [gRm]; omega) (by dsimp only [gRm]; omega) dX7_more_4 (fun q1 h hq1 Hq1 hK => ?_)
  have n_q1_ro : ro ≠ q1 := fun z9 => hq1 (z9 ▸ hr.1)
  have n_q1_v : v ≠ q1 := fun z9 => hq1 (z9 ▸ hv.1)
  have hr := hK _ _ hr
  have hv := hK _ _ hv
  have on_q1 : ∀ q9 e9, gat h_0 q9 e9 → FR q9 e9 → q9 ≠ q1 := fun q9 e9 z9 w9 y9 => hq1 (y9 ▸ (hO q9 e9 z9 w9).1)
  have nw_q1 : q1 ∉ h_0.1 := fun z9 => hq1 (hI q1 z9)
  have hO : ∀ q e, gat h_0 q e → FR q e → gat h q e := fun q e z9 w9 => hK q e (hO q e z9 w9)
  have hI : ∀ q, q ∈ h_0.1 → q ∈ h.1 := fun q z9 => gSa.dom hK (hI q z9)
  refine gI_astore_n hB ([(3, .ref q1), (0, .ref ro), (1, .int (nI Q)), (2, .ref v)]) hnL dX7_more_7 (by decide) rfl ?_
  refine gI_iconst (v := nI 0) hB dX7_more_8 (by decide) ?_
  refine gI_istore hB ([(4, .int (nI 0)), (3, .ref q1), (0, .ref ro), (1, .int (nI Q)), (2, .ref v)]) hnL dX7_more_9 (by decide) rfl ?_
  suffices loop : ∀ (r m : Nat) (h : gH) (f : Nat → Option Nat), m + r = Q + 1 → ((∀ j, j < m → j < Q → f j = g j) ∧ (Q < m → f Q = some v)) → gat h ro (.inl (gJ X.2.1, Q, .inr (.inr (.inr (.inr (g)))))) → gat h v (.inl (gI X.2.1, 9, .inl (rf))) → gat h q1 (.inl (gJ X.2.1, (Q + 1), .inr (.inr (.inr (.inr (f)))))) → (∀ q e, gat h_0 q e → FR q e → gat h q e) → (∀ q, q ∈ h_0.1 → q ∈ h.1) → gW X h (0 + 1) (0 + (Q + 1)) 11 [(4, .int (nI m)), (3, .ref q1), (0, .ref ro), (1, .int (nI Q)), (2, .ref v)] [] from loop (Q + 1) 0 h _ (by omega) ⟨fun j hj _ => absurd hj (Nat.not_lt_zero j), fun hQ9 => absurd hQ9 (Nat.not_lt_zero _)⟩ hr hv Hq1 hO hI
  intro r
  induction r with
  | zero =>
    intro m h f em hf hr hv Hq1 hO hI
    refine gI_iload hB 0 dX7_more_11 rfl ?_
    refine gI_aload_n hB 1 dX7_more_13 rfl ?_
    refine gC_alenA hB Hq1 dX7_more_14 ?_
    refine gI_icmp_ge hB 57 dX7_more_15 (by decide) (fun _ => ?_) (fun z => absurd (nI_le (a := Q + 1) (b := m) (by omega) (by omega)) z)
    refine gI_aload_n hB 1 dX7_more_57 rfl ?_
    refine gI_aret hB hE (Or.inr ⟨_, rfl⟩) (Or.inr ⟨_, rfl⟩) dX7_more_58 ?_
    exact ⟨q1, _, rfl, nw_q1, Hq1, fun j hj => hf.1 j (by omega) hj, hf.2 (by omega), fun q9 e9 z9 => hO q9 e9 z9 (by rw [eFR]; trivial), by omega, by omega⟩
  | succ r ih =>
    intro m h f em hf hr hv Hq1 hO hI
    refine gI_iload hB 0 dX7_more_11 rfl ?_
    refine gI_aload_n hB 1 dX7_more_13 rfl ?_
    refine gC_alenA hB Hq1 dX7_more_14 ?_
    refine gI_icmp_ge hB 57 dX7_more_15 (by decide) (fun z => absurd z (Int32.not_le.mpr (nI_lt (a := m) (b := Q + 1) (by omega) (by omega)))) (fun _ => ?_)
    refine gI_aload_n hB 1 dX7_more_18 rfl ?_
    refine gI_iload hB 0 dX7_more_19 rfl ?_
    refine gI_iload hB 0 dX7_more_21 rfl ?_
    refine gI_iload_n hB 3 dX7_more_23 rfl ?_
    refine gI_icmp_ge hB 34 dX7_more_24 (by decide) (fun c24_2 => ?_) (fun c24_2 => ?_)
    · skip
      have c24_2 := (nI_leI (by omega) (by omega)).mp c24_2
      refine gI_iload hB 0 dX7_more_34 rfl ?_
      refine gI_iload_n hB 3 dX7_more_36 rfl ?_
      refine gI_icmp_ne hB 44 dX7_more_37 (by decide) (fun z => absurd z (fun z8 => z8 (congrArg nI (show m = Q by omega)))) (fun _ => ?_)
      refine gI_aload_n hB 4 dX7_more_40 rfl ?_
      refine gI_goto hB 50 dX7_more_41 (by decide) ?_
      refine gC_aastA hB m Hq1 hv rfl (by omega) (by omega) dX7_more_50 (fun h Nq1 hK => ?_)
      have hr := hK _ _ hr n_q1_ro
      have hv := hK _ _ hv n_q1_v
      have hO : ∀ q e, gat h_0 q e → FR q e → gat h q e := fun q e z9 w9 => hK q e (hO q e z9 w9) (on_q1 q e z9 w9)
      have hI : ∀ q, q ∈ h_0.1 → q ∈ h.1 := fun q z9 => gSt.dom hK Nq1 (hI q z9)
      replace Hq1 := Nq1
      refine gI_iinc hB 0 ([(4, .int (nI (m + 1))), (3, .ref q1), (0, .ref ro), (1, .int (nI Q)), (2, .ref v)]) hnL dX7_more_51 rfl (nI_1 (m)) (by decide) rfl ?_
      refine gI_goto hB 11 dX7_more_54 (by decide) ?_
      refine ih (m + 1) h _ (by omega) ⟨fun j hj hQ9 => ?_, fun hQ9 => ?_⟩ hr hv Hq1 hO hI
      · rw [va_up_ne _ _ (by omega)]
        exact hf.1 j (by omega) hQ9
      · rw [show Q = m by omega, va_up_self]
    · skip
      have c24_2 := mt (nI_leI (by omega) (by omega)).mpr c24_2
      obtain ⟨x, f9, ex, hx0⟩ := hg m (by omega)
      refine gI_aload_n hB 2 dX7_more_27 rfl ?_
      refine gI_iload hB 0 dX7_more_28 rfl ?_
      refine gC_aaldA hB m hr rfl (by omega) (by omega) ex dX7_more_30 ?_
      refine gI_goto hB 50 dX7_more_31 (by decide) ?_
      refine gC_aastA hB m Hq1 (hO x _ hx0 (by rw [eFR]; trivial)) rfl (by omega) (by omega) dX7_more_50 (fun h Nq1 hK => ?_)
      have hr := hK _ _ hr n_q1_ro
      have hv := hK _ _ hv n_q1_v
      have hO : ∀ q e, gat h_0 q e → FR q e → gat h q e := fun q e z9 w9 => hK q e (hO q e z9 w9) (on_q1 q e z9 w9)
      have hI : ∀ q, q ∈ h_0.1 → q ∈ h.1 := fun q z9 => gSt.dom hK Nq1 (hI q z9)
      replace Hq1 := Nq1
      refine gI_iinc hB 0 ([(4, .int (nI (m + 1))), (3, .ref q1), (0, .ref ro), (1, .int (nI Q)), (2, .ref v)]) hnL dX7_more_51 rfl (nI_1 (m)) (by decide) rfl ?_
      refine gI_goto hB 11 dX7_more_54 (by decide) ?_
      refine ih (m + 1) h _ (by omega) ⟨fun j hj hQ9 => ?_, fun hQ9 => ?_⟩ hr hv Hq1 hO hI
      · by_cases c9 : j = m
        · subst c9
          rw [va_up_self, ex]
        · rw [va_up_ne _ _ c9]
          exact hf.1 j (by omega) hQ9
      · omega
