/-- a tenant as its maker leaves it -/
def pTen (G : gG) (h : gH) (y : Nat) (number note great : Int32) : gPo := fun r h' k s => ∃ l, r = .inl none ∧ l ∉ h.1 ∧ gat h' y (.inr (7, [.int number, .int note, .int great, .ref l, .int great, .int 0, .int 0, .int (-1)])) ∧ gat h' l (.inr (2, [.int (nI 0), .ref (gE0 G), .int 0])) ∧ gSt h h' y ∧ k = 1 ∧ s = 3

set_option maxRecDepth 100000 in
set_option maxHeartbeats 4000000 in
theorem k_tinit (G : gG) (h_0 : gH) (y : Nat) (number note great : Int32) (hy : gat h_0 y (.inr (7, [.int 0, .int 0, .int 0, .null, .int 0, .int 0, .int 0, .int 0]))) : gMet yX4_init wsX4_init (gRm 4 1 3) G h_0 [.ref y, .int number, .int note, .int great] (pTen G h_0 y number note great) := by
  refine gMet_of (maxL := 4) (ret := none) (by decide) rfl (Nat.le_of_ble_eq_true rfl) ?_
  intro X hG hnL hB hE
  subst hG
  suffices go : ∀ h : gH, h = h_0 → gW X h 0 0 0 [(0, .ref y), (1, .int number), (2, .int note), (3, .int great)] [] from go h_0 rfl
  intro h eh
  rw [← eh] at hy
  obtain ⟨FR, eFR⟩ : ∃ FR : Nat → va_E → Prop, FR = fun (q : Nat) (_ : va_E) => q ≠ y := ⟨_, rfl⟩
  have hO : ∀ q e, gat h_0 q e → FR q e → gat h q e := fun q e z9 _ => by rw [eh]; exact z9
  have hI : ∀ q, q ∈ h_0.1 → q ∈ h.1 := fun q z9 => by rw [eh]; exact z9
  have on_y : ∀ q e, gat h_0 q e → FR q e → q ≠ y := by intros; rename_i w9; rw [eFR] at w9; exact w9
  refine gI_aload_n hB 0 dX4_init_0 rfl ?_
  refine gI_objInit hB (by decide +kernel) (by decide +kernel) (by decide +kernel) (Nat.le_of_ble_eq_true rfl) (Nat.le_of_ble_eq_true rfl) dX4_init_1 ?_
  refine gI_aload_n hB 0 dX4_init_4 rfl ?_
  refine gC_new hB (ci := 2) (C := RJx4a65c) (T := TJx4a65c) (N := 3) [.int 0, .null, .int 0] tyJx4a65c tyJx4a65c_ok rfl (by decide +kernel) (by decide +kernel) (by decide +kernel) (by decide +kernel) (fun j hj => by rcases (show j = 0 ∨ j = 1 ∨ j = 2 by omega) with rfl | rfl | rfl <;> rfl) (by dsimp only [gRm]; omega) (by dsimp only [gRm]; omega) dX4_init_5 (fun q1 h hq1 Hq1 hK => ?_)
  have n_q1_y : y ≠ q1 := fun z9 => hq1 (z9 ▸ hy.1)
  have hy := hK _ _ hy
  have on_q1 : ∀ q9 e9, gat h_0 q9 e9 → FR q9 e9 → q9 ≠ q1 := fun q9 e9 z9 w9 y9 => hq1 (y9 ▸ (hO q9 e9 z9 w9).1)
  have nw_q1 : q1 ∉ h_0.1 := fun z9 => hq1 (hI q1 z9)
  have hO : ∀ q e, gat h_0 q e → FR q e → gat h q e := fun q e z9 w9 => hK q e (hO q e z9 w9)
  have hI : ∀ q, q ∈ h_0.1 → q ∈ h.1 := fun q z9 => gSa.dom hK (hI q z9)
  refine gI_dup hB dX4_init_8 rfl ?_
  refine gI_callI (n9 := 0) (As := []) (rest := [.ref q1, .ref y]) hB (j_init X.2.1 h q1 0 .null (.int 0) Hq1) (gCW.of ggX4_init_Jx4a65c_init_da8c8 rfl ⟨by decide, by decide, by decide +kernel⟩ ⟨Nat.le_of_ble_eq_true rfl, Nat.le_of_ble_eq_true rfl⟩) rfl rfl (Or.inl (by decide +kernel)) (by decide +kernel) (by decide +kernel) rfl rfl (Nat.le_of_ble_eq_true rfl) (by dsimp only [gRm]; omega) (by dsimp only [gRm]; omega) dX4_init_9 (fun v9 h k9 n9 hp => ?_) (fun E9 h1 k1 n1 hp => by cases hp.1)
  obtain ⟨e9, Nl, hK, rfl, rfl⟩ := hp
  cases e9
  have hy := hK _ _ hy (gat_ne hy Hq1 rfl)
  have hO : ∀ q e, gat h_0 q e → FR q e → gat h q e := fun q e z9 w9 => hK q e (hO q e z9 w9) (on_q1 q e z9 w9)
  have hI : ∀ q, q ∈ h_0.1 → q ∈ h.1 := fun q z9 => gSt.dom hK Nl (hI q z9)
  replace Hq1 := Nl
  refine gC_putF hB hE 3 tyX4 tyX4_ok nmX4 hy (C := RX4) (T := TX4) (N := 8) rfl (by decide +kernel) (by decide) (by decide +kernel) (fun _ h9 => h9) rfl rfl rfl rfl (Nat.le_of_ble_eq_true rfl) dX4_init_12 (fun h Ny hK => ?_)
  have Hq1 := hK _ _ Hq1 (gat_ne Hq1 hy rfl)
  have hO : ∀ q e, gat h_0 q e → FR q e → gat h q e := fun q e z9 w9 => hK q e (hO q e z9 w9) (on_y q e z9 w9)
  have hI : ∀ q, q ∈ h_0.1 → q ∈ h.1 := fun q z9 => gSt.dom hK Ny (hI q z9)
  replace hy : gat h y (.inr (7, [.int 0, .int 0, .int 0, .ref q1, .int 0, .int 0, .int 0, .int 0])) := Ny
  refine gI_aload_n hB 0 dX4_init_15 rfl ?_
  refine gI_iconst (v := (-1)) hB dX4_init_16 (by decide) ?_
  refine gC_put hB 7 tyX4 tyX4_ok nmX4 hy (C := RX4) (T := TX4) (N := 8) rfl (by decide +kernel) (by decide) (by decide +kernel) (fun _ h9 => h9) rfl rfl rfl (Nat.le_of_ble_eq_true rfl) dX4_init_17 (fun h Ny hK => ?_)
  have Hq1 := hK _ _ Hq1 (gat_ne Hq1 hy rfl)
  have hO : ∀ q e, gat h_0 q e → FR q e → gat h q e := fun q e z9 w9 => hK q e (hO q e z9 w9) (on_y q e z9 w9)
  have hI : ∀ q, q ∈ h_0.1 → q ∈ h.1 := fun q z9 => gSt.dom hK Ny (hI q z9)
  replace hy : gat h y (.inr (7, [.int 0, .int 0, .int 0, .ref q1, .int 0, .int 0, .int 0, .int (-1)])) := Ny
  refine gI_aload_n hB 0 dX4_init_20 rfl ?_
  refine gI_iload_n hB 1 dX4_init_21 rfl ?_
  refine gC_putF hB hE 0 tyX4 tyX4_ok nmX4 hy (C := RX4) (T := TX4) (N := 8) rfl (by decide +kernel) (by decide) (by decide +kernel) (fun _ h9 => h9) rfl rfl rfl rfl (Nat.le_of_ble_eq_true rfl) dX4_init_22 (fun h Ny hK => ?_)
  have Hq1 := hK _ _ Hq1 (gat_ne Hq1 hy rfl)
  have hO : ∀ q e, gat h_0 q e → FR q e → gat h q e := fun q e z9 w9 => hK q e (hO q e z9 w9) (on_y q e z9 w9)
  have hI : ∀ q, q ∈ h_0.1 → q ∈ h.1 := fun q z9 => gSt.dom hK Ny (hI q z9)
  replace hy : gat h y (.inr (7, [.int number, .int 0, .int 0, .ref q1, .int 0, .int 0, .int 0, .int (-1)])) := Ny
  refine gI_aload_n hB 0 dX4_init_25 rfl ?_
  refine gI_iload_n hB 2 dX4_init_26 rfl ?_
  refine gC_putF hB hE 1 tyX4 tyX4_ok nmX4 hy (C := RX4) (T := TX4) (N := 8) rfl (by decide +kernel) (by decide) (by decide +kernel) (fun _ h9 => h9) rfl rfl rfl rfl (Nat.le_of_ble_eq_true rfl) dX4_init_27 (fun h Ny hK => ?_)
  have Hq1 := hK _ _ Hq1 (gat_ne Hq1 hy rfl)
  have hO : ∀ q e, gat h_0 q e → FR q e → gat h q e := fun q e z9 w9 => hK q e (hO q e z9 w9) (on_y q e z9 w9)
  have hI : ∀ q, q ∈ h_0.1 → q ∈ h.1 := fun q z9 => gSt.dom hK Ny (hI q z9)
  replace hy : gat h y (.inr (7, [.int number, .int note, .int 0, .ref q1, .int 0, .int 0, .int 0, .int (-1)])) := Ny
  refine gI_aload_n hB 0 dX4_init_30 rfl ?_
  refine gI_iload_n hB 3 dX4_init_31 rfl ?_
  refine gC_putF hB hE 2 tyX4 tyX4_ok nmX4 hy (C := RX4) (T := TX4) (N := 8) rfl (by decide +kernel) (by decide) (by decide +kernel) (fun _ h9 => h9) rfl rfl rfl rfl (Nat.le_of_ble_eq_true rfl) dX4_init_32 (fun h Ny hK => ?_)
  have Hq1 := hK _ _ Hq1 (gat_ne Hq1 hy rfl)
  have hO : ∀ q e, gat h_0 q e → FR q e → gat h q e := fun q e z9 w9 => hK q e (hO q e z9 w9) (on_y q e z9 w9)
  have hI : ∀ q, q ∈ h_0.1 → q ∈ h.1 := fun q z9 => gSt.dom hK Ny (hI q z9)
  replace hy : gat h y (.inr (7, [.int number, .int note, .int great, .ref q1, .int 0, .int 0, .int 0, .int (-1)])) := Ny
  refine gI_aload_n hB 0 dX4_init_35 rfl ?_
  refine gI_iload_n hB 3 dX4_init_36 rfl ?_
  refine gC_put hB 4 tyX4 tyX4_ok nmX4 hy (C := RX4) (T := TX4) (N := 8) rfl (by decide +kernel) (by decide) (by decide +kernel) (fun _ h9 => h9) rfl rfl rfl (Nat.le_of_ble_eq_true rfl) dX4_init_37 (fun h Ny hK => ?_)
  have Hq1 := hK _ _ Hq1 (gat_ne Hq1 hy rfl)
  have hO : ∀ q e, gat h_0 q e → FR q e → gat h q e := fun q e z9 w9 => hK q e (hO q e z9 w9) (on_y q e z9 w9)
  have hI : ∀ q, q ∈ h_0.1 → q ∈ h.1 := fun q z9 => gSt.dom hK Ny (hI q z9)
  replace hy : gat h y (.inr (7, [.int number, .int note, .int great, .ref q1, .int great, .int 0, .int 0, .int (-1)])) := Ny
  refine gI_vret hB hE dX4_init_40 ?_
  exact ⟨q1, rfl, nw_q1, hy, Hq1, fun q9 e9 z9 w9 => hO q9 e9 z9 (by rw [eFR]; exact w9), by omega, by omega⟩

