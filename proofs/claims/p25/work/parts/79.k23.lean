/-- the courtyard as both begin with it -/
def mU0 : MS := (fun i => if i = 2 then nI 60 else 0, fun _ _ => 0)
theorem mU0_ok : mOk mU0 0 0 0 := ⟨rfl, by omega, rfl, by omega, rfl, by omega, ⟨60, by omega, by omega, rfl⟩, fun t ht => absurd ht (Nat.not_lt_zero t), fun t ht => absurd ht (Nat.not_lt_zero t), fun t ht => absurd ht (Nat.not_lt_zero t)⟩
def c5 (y wr sg rg st : Nat) : Nat → Nat := fun i => if i = 0 then y else if i = 1 then wr else if i = 2 then sg else if i = 3 then rg else st
def L0 (E l0 a1 a2 a3 : Nat) : CL := (fun i => if i = 0 then l0 else if i = 1 then a1 else if i = 2 then a2 else a3, fun _ => E, fun _ => 0, fun _ => 0, fun _ _ => 0)
theorem cRep.first {G : gG} {h : gH} {y l0 wr sg rg st a1 a2 a3 : Nat} (h0 : gat h y (.inr (9, [.ref l0, .ref wr, .ref sg, .ref rg, .int (nI 60), .int 0, .int 0, .int 0, .int 0]))) (hw : gat h wr (.inr (8, [.ref a1, .ref a2]))) (hs : gat h sg (.inr (6, [.ref a3, .ref st, .int 0, .int 0]))) (hr : gat h rg (.inr (5, [.int 0, .int 0, .int 0, .int 0, .int 0, .long 0]))) (ht : gat h st (.inl (gI G, 12, .inl (fun _ => 0))))
    (e0 : gat h l0 (.inr (2, [.int (nI 0), .ref (gE0 G), .int 0]))) (e1 : gat h a1 (.inr (2, [.int (nI 0), .ref (gE0 G), .int 0]))) (e2 : gat h a2 (.inr (2, [.int (nI 0), .ref (gE0 G), .int 0]))) (e3 : gat h a3 (.inr (2, [.int (nI 0), .ref (gE0 G), .int 0])))
    (n01 : l0 ≠ a1) (n02 : l0 ≠ a2) (n03 : l0 ≠ a3) (n12 : a1 ≠ a2) (n13 : a1 ≠ a3) (n23 : a2 ≠ a3) : cRep G h (c5 y wr sg rg st) (L0 (gE0 G) l0 a1 a2 a3) mU0 0 0 0 := by
  have nz : ∀ {P : Prop} {k : Nat}, k < 0 → P := fun h => absurd h (Nat.not_lt_zero _)
  refine ⟨h0, ⟨hw, ⟨_, ht⟩, fun _ => 0, 0, hr⟩, hs, fun i hi => ?_, ⟨rfl, rfl, Nat.le_refl 0, Nat.zero_le 200, Nat.zero_le 61, fun t ht => nz ht⟩, fun t ht => nz ht, fun t j ht => nz ht, fun k hk => nz hk, fun k hk => nz hk, fun k hk => nz hk, ⟨fun i j hi hj e => ?_, fun i j hi hj ci => absurd rfl ci, fun i j k l hi hj hk => nz hk⟩, fun k hk => nz hk, fun k hk => nz hk⟩
  · refine ⟨nI 0, fun _ => none, ?_, Or.inl ⟨rfl, rfl⟩, Nat.le_refl 0, Nat.zero_le 450, Nat.zero_le 300, fun j hj => nz hj⟩
    rcases (show i = 0 ∨ i = 1 ∨ i = 2 ∨ i = 3 by omega) with rfl | rfl | rfl | rfl
    · exact e0
    · exact e1
    · exact e2
    · exact e3
  · rcases (show i = 0 ∨ i = 1 ∨ i = 2 ∨ i = 3 by omega) with rfl | rfl | rfl | rfl <;> rcases (show j = 0 ∨ j = 1 ∨ j = 2 ∨ j = 3 by omega) with rfl | rfl | rfl | rfl <;> first | rfl | exact absurd e n01 | exact absurd e n02 | exact absurd e n03 | exact absurd e n12 | exact absurd e n13 | exact absurd e n23 | exact absurd e.symm n01 | exact absurd e.symm n02 | exact absurd e.symm n03 | exact absurd e.symm n12 | exact absurd e.symm n13 | exact absurd e.symm n23
def pWIni (G : gG) (h : gH) (y : Nat) : gPo := fun r h' k s => ∃ l1 l2, r = .inl none ∧ l1 ∉ h.1 ∧ l2 ∉ h.1 ∧ l1 ≠ l2 ∧ gat h' y (.inr (8, [.ref l1, .ref l2])) ∧ gat h' l1 (.inr (2, [.int (nI 0), .ref (gE0 G), .int 0])) ∧ gat h' l2 (.inr (2, [.int (nI 0), .ref (gE0 G), .int 0])) ∧ gSt h h' y ∧ k = 2 ∧ s = 6
def pSIni (G : gG) (h : gH) (y : Nat) : gPo := fun r h' k s => ∃ l1 l2, r = .inl none ∧ l1 ∉ h.1 ∧ l2 ∉ h.1 ∧ gat h' y (.inr (6, [.ref l1, .ref l2, .int 0, .int 0])) ∧ gat h' l1 (.inr (2, [.int (nI 0), .ref (gE0 G), .int 0])) ∧ gat h' l2 (.inl (gI G, 12, .inl (fun _ => 0))) ∧ gSt h h' y ∧ k = 2 ∧ s = 15
def pXIni (G : gG) (h : gH) (y : Nat) : gPo := fun r h' k s => ∃ c Λ, r = .inl none ∧ c 0 = y ∧ cRep G h' c Λ mU0 0 0 0 ∧ cPhi Λ = 0 ∧ gSt h h' y ∧ k ≤ 10 ∧ s ≤ 60
set_option maxRecDepth 100000 in
set_option maxHeartbeats 4000000 in
theorem k_winit (G : gG) (h_0 : gH) (y : Nat) (hy : gat h_0 y (.inr (8, [.null, .null]))) : gMet yX5_init wsX5_init (gRm 4 2 6) G h_0 [.ref y] (pWIni G h_0 y) := by
  refine gMet_of (maxL := 1) (ret := none) (by decide) rfl (Nat.le_of_ble_eq_true rfl) ?_
  intro X hG hnL hB hE
  subst hG
  suffices go : ∀ h : gH, h = h_0 → gW X h 0 0 0 [(0, .ref y)] [] from go h_0 rfl
  intro h eh
  rw [← eh] at hy
  obtain ⟨FR, eFR⟩ : ∃ FR : Nat → va_E → Prop, FR = fun (q : Nat) (_ : va_E) => q ≠ y := ⟨_, rfl⟩
  have hO : ∀ q e, gat h_0 q e → FR q e → gat h q e := fun q e z9 _ => by rw [eh]; exact z9
  have hI : ∀ q, q ∈ h_0.1 → q ∈ h.1 := fun q z9 => by rw [eh]; exact z9
  have on_y : ∀ q e, gat h_0 q e → FR q e → q ≠ y := by intros; rename_i w9; rw [eFR] at w9; exact w9
  refine gI_aload_n hB 0 dX5_init_0 rfl ?_
  refine gI_objInit hB (by decide +kernel) (by decide +kernel) (by decide +kernel) (Nat.le_of_ble_eq_true rfl) (Nat.le_of_ble_eq_true rfl) dX5_init_1 ?_
  refine gI_aload_n hB 0 dX5_init_4 rfl ?_
  refine gC_new hB (ci := 2) (C := RJx4a65c) (T := TJx4a65c) (N := 3) [.int 0, .null, .int 0] tyJx4a65c tyJx4a65c_ok rfl (by decide +kernel) (by decide +kernel) (by decide +kernel) (by decide +kernel) (fun j hj => by rcases (show j = 0 ∨ j = 1 ∨ j = 2 by omega) with rfl | rfl | rfl <;> rfl) (by dsimp only [gRm]; omega) (by dsimp only [gRm]; omega) dX5_init_5 (fun q1 h hq1 Hq1 hK => ?_)
  have n_q1_y : y ≠ q1 := fun z9 => hq1 (z9 ▸ hy.1)
  have hy := hK _ _ hy
  have on_q1 : ∀ q9 e9, gat h_0 q9 e9 → FR q9 e9 → q9 ≠ q1 := fun q9 e9 z9 w9 y9 => hq1 (y9 ▸ (hO q9 e9 z9 w9).1)
  have nw_q1 : q1 ∉ h_0.1 := fun z9 => hq1 (hI q1 z9)
  have hO : ∀ q e, gat h_0 q e → FR q e → gat h q e := fun q e z9 w9 => hK q e (hO q e z9 w9)
  have hI : ∀ q, q ∈ h_0.1 → q ∈ h.1 := fun q z9 => gSa.dom hK (hI q z9)
  refine gI_dup hB dX5_init_8 rfl ?_
  refine gI_callI (n9 := 0) (As := []) (rest := [.ref q1, .ref y]) hB (j_init X.2.1 h q1 0 .null (.int 0) Hq1) (gCW.of ggX5_init_Jx4a65c_init_da8c8 rfl ⟨by decide, by decide, by decide +kernel⟩ ⟨Nat.le_of_ble_eq_true rfl, Nat.le_of_ble_eq_true rfl⟩) rfl rfl (Or.inl (by decide +kernel)) (by decide +kernel) (by decide +kernel) rfl rfl (Nat.le_of_ble_eq_true rfl) (by dsimp only [gRm]; omega) (by dsimp only [gRm]; omega) dX5_init_9 (fun v9 h k9 n9 hp => ?_) (fun E9 h1 k1 n1 hp => by cases hp.1)
  obtain ⟨e9, Nl, hK, rfl, rfl⟩ := hp
  cases e9
  have hy := hK _ _ hy (gat_ne hy Hq1 rfl)
  have hO : ∀ q e, gat h_0 q e → FR q e → gat h q e := fun q e z9 w9 => hK q e (hO q e z9 w9) (on_q1 q e z9 w9)
  have hI : ∀ q, q ∈ h_0.1 → q ∈ h.1 := fun q z9 => gSt.dom hK Nl (hI q z9)
  replace Hq1 := Nl
  refine gC_putF hB hE 0 tyX5 tyX5_ok nmX5 hy (C := RX5) (T := TX5) (N := 2) rfl (by decide +kernel) (by decide) (by decide +kernel) (fun _ h9 => h9) rfl rfl rfl rfl (Nat.le_of_ble_eq_true rfl) dX5_init_12 (fun h Ny hK => ?_)
  have Hq1 := hK _ _ Hq1 (gat_ne Hq1 hy rfl)
  have hO : ∀ q e, gat h_0 q e → FR q e → gat h q e := fun q e z9 w9 => hK q e (hO q e z9 w9) (on_y q e z9 w9)
  have hI : ∀ q, q ∈ h_0.1 → q ∈ h.1 := fun q z9 => gSt.dom hK Ny (hI q z9)
  replace hy : gat h y (.inr (8, [.ref q1, .null])) := Ny
  refine gI_aload_n hB 0 dX5_init_15 rfl ?_
  refine gC_new hB (ci := 2) (C := RJx4a65c) (T := TJx4a65c) (N := 3) [.int 0, .null, .int 0] tyJx4a65c tyJx4a65c_ok rfl (by decide +kernel) (by decide +kernel) (by decide +kernel) (by decide +kernel) (fun j hj => by rcases (show j = 0 ∨ j = 1 ∨ j = 2 by omega) with rfl | rfl | rfl <;> rfl) (by dsimp only [gRm]; omega) (by dsimp only [gRm]; omega) dX5_init_16 (fun q2 h hq2 Hq2 hK => ?_)
  have n_q2_y : y ≠ q2 := fun z9 => hq2 (z9 ▸ hy.1)
  have n_q2_q1 : q1 ≠ q2 := fun z9 => hq2 (z9 ▸ Hq1.1)
  have hy := hK _ _ hy
  have Hq1 := hK _ _ Hq1
  have on_q2 : ∀ q9 e9, gat h_0 q9 e9 → FR q9 e9 → q9 ≠ q2 := fun q9 e9 z9 w9 y9 => hq2 (y9 ▸ (hO q9 e9 z9 w9).1)
  have nw_q2 : q2 ∉ h_0.1 := fun z9 => hq2 (hI q2 z9)
  have hO : ∀ q e, gat h_0 q e → FR q e → gat h q e := fun q e z9 w9 => hK q e (hO q e z9 w9)
  have hI : ∀ q, q ∈ h_0.1 → q ∈ h.1 := fun q z9 => gSa.dom hK (hI q z9)
  refine gI_dup hB dX5_init_19 rfl ?_
  refine gI_callI (n9 := 0) (As := []) (rest := [.ref q2, .ref y]) hB (j_init X.2.1 h q2 0 .null (.int 0) Hq2) (gCW.of ggX5_init_Jx4a65c_init_da8c8 rfl ⟨by decide, by decide, by decide +kernel⟩ ⟨Nat.le_of_ble_eq_true rfl, Nat.le_of_ble_eq_true rfl⟩) rfl rfl (Or.inl (by decide +kernel)) (by decide +kernel) (by decide +kernel) rfl rfl (Nat.le_of_ble_eq_true rfl) (by dsimp only [gRm]; omega) (by dsimp only [gRm]; omega) dX5_init_20 (fun v9 h k9 n9 hp => ?_) (fun E9 h1 k1 n1 hp => by cases hp.1)
  obtain ⟨e9, Nl, hK, rfl, rfl⟩ := hp
  cases e9
  have hy := hK _ _ hy (gat_ne hy Hq2 rfl)
  have Hq1 := hK _ _ Hq1 n_q2_q1
  have hO : ∀ q e, gat h_0 q e → FR q e → gat h q e := fun q e z9 w9 => hK q e (hO q e z9 w9) (on_q2 q e z9 w9)
  have hI : ∀ q, q ∈ h_0.1 → q ∈ h.1 := fun q z9 => gSt.dom hK Nl (hI q z9)
  replace Hq2 := Nl
  refine gC_putF hB hE 1 tyX5 tyX5_ok nmX5 hy (C := RX5) (T := TX5) (N := 2) rfl (by decide +kernel) (by decide) (by decide +kernel) (fun _ h9 => h9) rfl rfl rfl rfl (Nat.le_of_ble_eq_true rfl) dX5_init_23 (fun h Ny hK => ?_)
  have Hq1 := hK _ _ Hq1 (gat_ne Hq1 hy rfl)
  have Hq2 := hK _ _ Hq2 (gat_ne Hq2 hy rfl)
  have hO : ∀ q e, gat h_0 q e → FR q e → gat h q e := fun q e z9 w9 => hK q e (hO q e z9 w9) (on_y q e z9 w9)
  have hI : ∀ q, q ∈ h_0.1 → q ∈ h.1 := fun q z9 => gSt.dom hK Ny (hI q z9)
  replace hy : gat h y (.inr (8, [.ref q1, .ref q2])) := Ny
  refine gI_vret hB hE dX5_init_26 ?_
  exact ⟨q1, q2, rfl, nw_q1, nw_q2, n_q2_q1, hy, Hq1, Hq2, fun q9 e9 z9 w9 => hO q9 e9 z9 (by rw [eFR]; exact w9), by omega, by omega⟩

set_option maxRecDepth 100000 in
set_option maxHeartbeats 4000000 in
theorem k_sinit (G : gG) (h_0 : gH) (y : Nat) (hy : gat h_0 y (.inr (6, [.null, .null, .int 0, .int 0]))) : gMet yX3_init wsX3_init (gRm 4 2 15) G h_0 [.ref y] (pSIni G h_0 y) := by
  refine gMet_of (maxL := 1) (ret := none) (by decide) rfl (Nat.le_of_ble_eq_true rfl) ?_
  intro X hG hnL hB hE
  subst hG
  suffices go : ∀ h : gH, h = h_0 → gW X h 0 0 0 [(0, .ref y)] [] from go h_0 rfl
  intro h eh
  rw [← eh] at hy
  obtain ⟨FR, eFR⟩ : ∃ FR : Nat → va_E → Prop, FR = fun (q : Nat) (_ : va_E) => q ≠ y := ⟨_, rfl⟩
  have hO : ∀ q e, gat h_0 q e → FR q e → gat h q e := fun q e z9 _ => by rw [eh]; exact z9
  have hI : ∀ q, q ∈ h_0.1 → q ∈ h.1 := fun q z9 => by rw [eh]; exact z9
  have on_y : ∀ q e, gat h_0 q e → FR q e → q ≠ y := by intros; rename_i w9; rw [eFR] at w9; exact w9
  refine gI_aload_n hB 0 dX3_init_0 rfl ?_
  refine gI_objInit hB (by decide +kernel) (by decide +kernel) (by decide +kernel) (Nat.le_of_ble_eq_true rfl) (Nat.le_of_ble_eq_true rfl) dX3_init_1 ?_
  refine gI_aload_n hB 0 dX3_init_4 rfl ?_
  refine gC_new hB (ci := 2) (C := RJx4a65c) (T := TJx4a65c) (N := 3) [.int 0, .null, .int 0] tyJx4a65c tyJx4a65c_ok rfl (by decide +kernel) (by decide +kernel) (by decide +kernel) (by decide +kernel) (fun j hj => by rcases (show j = 0 ∨ j = 1 ∨ j = 2 by omega) with rfl | rfl | rfl <;> rfl) (by dsimp only [gRm]; omega) (by dsimp only [gRm]; omega) dX3_init_5 (fun q1 h hq1 Hq1 hK => ?_)
  have n_q1_y : y ≠ q1 := fun z9 => hq1 (z9 ▸ hy.1)
  have hy := hK _ _ hy
  have on_q1 : ∀ q9 e9, gat h_0 q9 e9 → FR q9 e9 → q9 ≠ q1 := fun q9 e9 z9 w9 y9 => hq1 (y9 ▸ (hO q9 e9 z9 w9).1)
  have nw_q1 : q1 ∉ h_0.1 := fun z9 => hq1 (hI q1 z9)
  have hO : ∀ q e, gat h_0 q e → FR q e → gat h q e := fun q e z9 w9 => hK q e (hO q e z9 w9)
  have hI : ∀ q, q ∈ h_0.1 → q ∈ h.1 := fun q z9 => gSa.dom hK (hI q z9)
  refine gI_dup hB dX3_init_8 rfl ?_
  refine gI_callI (n9 := 0) (As := []) (rest := [.ref q1, .ref y]) hB (j_init X.2.1 h q1 0 .null (.int 0) Hq1) (gCW.of ggX3_init_Jx4a65c_init_da8c8 rfl ⟨by decide, by decide, by decide +kernel⟩ ⟨Nat.le_of_ble_eq_true rfl, Nat.le_of_ble_eq_true rfl⟩) rfl rfl (Or.inl (by decide +kernel)) (by decide +kernel) (by decide +kernel) rfl rfl (Nat.le_of_ble_eq_true rfl) (by dsimp only [gRm]; omega) (by dsimp only [gRm]; omega) dX3_init_9 (fun v9 h k9 n9 hp => ?_) (fun E9 h1 k1 n1 hp => by cases hp.1)
  obtain ⟨e9, Nl, hK, rfl, rfl⟩ := hp
  cases e9
  have hy := hK _ _ hy (gat_ne hy Hq1 rfl)
  have hO : ∀ q e, gat h_0 q e → FR q e → gat h q e := fun q e z9 w9 => hK q e (hO q e z9 w9) (on_q1 q e z9 w9)
  have hI : ∀ q, q ∈ h_0.1 → q ∈ h.1 := fun q z9 => gSt.dom hK Nl (hI q z9)
  replace Hq1 := Nl
  refine gC_putF hB hE 0 tyX3 tyX3_ok nmX3 hy (C := RX3) (T := TX3) (N := 4) rfl (by decide +kernel) (by decide) (by decide +kernel) (fun _ h9 => h9) rfl rfl rfl rfl (Nat.le_of_ble_eq_true rfl) dX3_init_12 (fun h Ny hK => ?_)
  have Hq1 := hK _ _ Hq1 (gat_ne Hq1 hy rfl)
  have hO : ∀ q e, gat h_0 q e → FR q e → gat h q e := fun q e z9 w9 => hK q e (hO q e z9 w9) (on_y q e z9 w9)
  have hI : ∀ q, q ∈ h_0.1 → q ∈ h.1 := fun q z9 => gSt.dom hK Ny (hI q z9)
  replace hy : gat h y (.inr (6, [.ref q1, .null, .int 0, .int 0])) := Ny
  refine gI_aload_n hB 0 dX3_init_15 rfl ?_
  refine gI_bipush (v := nI 12) hB dX3_init_16 (by decide) ?_
  refine gC_newI hB 12 rfl (by omega) (by decide +kernel) (by dsimp only [gRm]; omega) (by dsimp only [gRm]; omega) dX3_init_18 (fun q2 h hq2 Hq2 hK => ?_)
  have n_q2_y : y ≠ q2 := fun z9 => hq2 (z9 ▸ hy.1)
  have n_q2_q1 : q1 ≠ q2 := fun z9 => hq2 (z9 ▸ Hq1.1)
  have hy := hK _ _ hy
  have Hq1 := hK _ _ Hq1
  have on_q2 : ∀ q9 e9, gat h_0 q9 e9 → FR q9 e9 → q9 ≠ q2 := fun q9 e9 z9 w9 y9 => hq2 (y9 ▸ (hO q9 e9 z9 w9).1)
  have nw_q2 : q2 ∉ h_0.1 := fun z9 => hq2 (hI q2 z9)
  have hO : ∀ q e, gat h_0 q e → FR q e → gat h q e := fun q e z9 w9 => hK q e (hO q e z9 w9)
  have hI : ∀ q, q ∈ h_0.1 → q ∈ h.1 := fun q z9 => gSa.dom hK (hI q z9)
  refine gC_putF hB hE 1 tyX3 tyX3_ok nmX3 hy (C := RX3) (T := TX3) (N := 4) rfl (by decide +kernel) (by decide) (by decide +kernel) (fun _ h9 => h9) rfl rfl rfl rfl (Nat.le_of_ble_eq_true rfl) dX3_init_20 (fun h Ny hK => ?_)
  have Hq1 := hK _ _ Hq1 (gat_ne Hq1 hy rfl)
  have Hq2 := hK _ _ Hq2 (gat_ne Hq2 hy rfl)
  have hO : ∀ q e, gat h_0 q e → FR q e → gat h q e := fun q e z9 w9 => hK q e (hO q e z9 w9) (on_y q e z9 w9)
  have hI : ∀ q, q ∈ h_0.1 → q ∈ h.1 := fun q z9 => gSt.dom hK Ny (hI q z9)
  replace hy : gat h y (.inr (6, [.ref q1, .ref q2, .int 0, .int 0])) := Ny
  refine gI_vret hB hE dX3_init_23 ?_
  exact ⟨q1, q2, rfl, nw_q1, nw_q2, hy, Hq1, Hq2, fun q9 e9 z9 w9 => hO q9 e9 z9 (by rw [eFR]; exact w9), by omega, by omega⟩

set_option maxRecDepth 100000 in
set_option maxHeartbeats 4000000 in
theorem k_xinit (G : gG) (h_0 : gH) (y : Nat) (hy : gat h_0 y (.inr (9, [.null, .null, .null, .null, .int 0, .int 0, .int 0, .int 0, .int 0]))) : gMet yX6_init wsX6_init (gRm 5 10 60) G h_0 [.ref y] (pXIni G h_0 y) := by
  refine gMet_of (maxL := 1) (ret := none) (by decide) rfl (Nat.le_of_ble_eq_true rfl) ?_
  intro X hG hnL hB hE
  subst hG
  suffices go : ∀ h : gH, h = h_0 → gW X h 0 0 0 [(0, .ref y)] [] from go h_0 rfl
  intro h eh
  rw [← eh] at hy
  obtain ⟨FR, eFR⟩ : ∃ FR : Nat → va_E → Prop, FR = fun (q : Nat) (_ : va_E) => q ≠ y := ⟨_, rfl⟩
  have hO : ∀ q e, gat h_0 q e → FR q e → gat h q e := fun q e z9 _ => by rw [eh]; exact z9
  have hI : ∀ q, q ∈ h_0.1 → q ∈ h.1 := fun q z9 => by rw [eh]; exact z9
  have on_y : ∀ q e, gat h_0 q e → FR q e → q ≠ y := by intros; rename_i w9; rw [eFR] at w9; exact w9
  refine gI_aload_n hB 0 dX6_init_0 rfl ?_
  refine gI_objInit hB (by decide +kernel) (by decide +kernel) (by decide +kernel) (Nat.le_of_ble_eq_true rfl) (Nat.le_of_ble_eq_true rfl) dX6_init_1 ?_
  refine gI_aload_n hB 0 dX6_init_4 rfl ?_
  refine gC_new hB (ci := 2) (C := RJx4a65c) (T := TJx4a65c) (N := 3) [.int 0, .null, .int 0] tyJx4a65c tyJx4a65c_ok rfl (by decide +kernel) (by decide +kernel) (by decide +kernel) (by decide +kernel) (fun j hj => by rcases (show j = 0 ∨ j = 1 ∨ j = 2 by omega) with rfl | rfl | rfl <;> rfl) (by dsimp only [gRm]; omega) (by dsimp only [gRm]; omega) dX6_init_5 (fun q1 h hq1 Hq1 hK => ?_)
  have n_q1_y : y ≠ q1 := fun z9 => hq1 (z9 ▸ hy.1)
  have hy := hK _ _ hy
  have on_q1 : ∀ q9 e9, gat h_0 q9 e9 → FR q9 e9 → q9 ≠ q1 := fun q9 e9 z9 w9 y9 => hq1 (y9 ▸ (hO q9 e9 z9 w9).1)
  have nw_q1 : q1 ∉ h_0.1 := fun z9 => hq1 (hI q1 z9)
  have hO : ∀ q e, gat h_0 q e → FR q e → gat h q e := fun q e z9 w9 => hK q e (hO q e z9 w9)
  have hI : ∀ q, q ∈ h_0.1 → q ∈ h.1 := fun q z9 => gSa.dom hK (hI q z9)
  refine gI_dup hB dX6_init_8 rfl ?_
  refine gI_callI (n9 := 0) (As := []) (rest := [.ref q1, .ref y]) hB (j_init X.2.1 h q1 0 .null (.int 0) Hq1) (gCW.of ggX6_init_Jx4a65c_init_da8c8 rfl ⟨by decide, by decide, by decide +kernel⟩ ⟨Nat.le_of_ble_eq_true rfl, Nat.le_of_ble_eq_true rfl⟩) rfl rfl (Or.inl (by decide +kernel)) (by decide +kernel) (by decide +kernel) rfl rfl (Nat.le_of_ble_eq_true rfl) (by dsimp only [gRm]; omega) (by dsimp only [gRm]; omega) dX6_init_9 (fun v9 h k9 n9 hp => ?_) (fun E9 h1 k1 n1 hp => by cases hp.1)
  obtain ⟨e9, Nl, hK, rfl, rfl⟩ := hp
  cases e9
  have hy := hK _ _ hy (gat_ne hy Hq1 rfl)
  have hO : ∀ q e, gat h_0 q e → FR q e → gat h q e := fun q e z9 w9 => hK q e (hO q e z9 w9) (on_q1 q e z9 w9)
  have hI : ∀ q, q ∈ h_0.1 → q ∈ h.1 := fun q z9 => gSt.dom hK Nl (hI q z9)
  replace Hq1 := Nl
  refine gC_putF hB hE 0 tyX6 tyX6_ok nmX6 hy (C := RX6) (T := TX6) (N := 9) rfl (by decide +kernel) (by decide) (by decide +kernel) (fun _ h9 => h9) rfl rfl rfl rfl (Nat.le_of_ble_eq_true rfl) dX6_init_12 (fun h Ny hK => ?_)
  have Hq1 := hK _ _ Hq1 (gat_ne Hq1 hy rfl)
  have hO : ∀ q e, gat h_0 q e → FR q e → gat h q e := fun q e z9 w9 => hK q e (hO q e z9 w9) (on_y q e z9 w9)
  have hI : ∀ q, q ∈ h_0.1 → q ∈ h.1 := fun q z9 => gSt.dom hK Ny (hI q z9)
  replace hy : gat h y (.inr (9, [.ref q1, .null, .null, .null, .int 0, .int 0, .int 0, .int 0, .int 0])) := Ny
  refine gI_aload_n hB 0 dX6_init_15 rfl ?_
  refine gC_new hB (ci := 8) (C := RX5) (T := TX5) (N := 2) [.null, .null] tyX5 tyX5_ok rfl (by decide +kernel) (by decide +kernel) (by decide +kernel) (by decide +kernel) (fun j hj => by rcases (show j = 0 ∨ j = 1 by omega) with rfl | rfl <;> rfl) (by dsimp only [gRm]; omega) (by dsimp only [gRm]; omega) dX6_init_16 (fun q2 h hq2 Hq2 hK => ?_)
  have n_q2_y : y ≠ q2 := fun z9 => hq2 (z9 ▸ hy.1)
  have n_q2_q1 : q1 ≠ q2 := fun z9 => hq2 (z9 ▸ Hq1.1)
  have hy := hK _ _ hy
  have Hq1 := hK _ _ Hq1
  have on_q2 : ∀ q9 e9, gat h_0 q9 e9 → FR q9 e9 → q9 ≠ q2 := fun q9 e9 z9 w9 y9 => hq2 (y9 ▸ (hO q9 e9 z9 w9).1)
  have nw_q2 : q2 ∉ h_0.1 := fun z9 => hq2 (hI q2 z9)
  have hO : ∀ q e, gat h_0 q e → FR q e → gat h q e := fun q e z9 w9 => hK q e (hO q e z9 w9)
  have hI : ∀ q, q ∈ h_0.1 → q ∈ h.1 := fun q z9 => gSa.dom hK (hI q z9)
  refine gI_dup hB dX6_init_19 rfl ?_
  refine gI_callI (n9 := 0) (As := []) (rest := [.ref q2, .ref y]) hB (k_winit X.2.1 h q2 Hq2) (gCW.of ggX6_init_X5_init rfl ⟨by decide, by decide, by decide +kernel⟩ ⟨Nat.le_of_ble_eq_true rfl, Nat.le_of_ble_eq_true rfl⟩) rfl rfl (Or.inr ⟨"DoorbellChoir", by decide +kernel⟩) (by decide +kernel) (by decide +kernel) rfl rfl (Nat.le_of_ble_eq_true rfl) (by dsimp only [gRm]; omega) (by dsimp only [gRm]; omega) dX6_init_20 (fun v9 h k9 n9 hp => ?_) (fun E9 h1 k1 n1 hp => by obtain ⟨l1, l2, e9, -⟩ := hp; cases e9)
  obtain ⟨a3, a4, e9, ha3, ha4, hne_a3, N_q2, Ha3, Ha4, hK, rfl, rfl⟩ := hp
  cases e9
  have n_a3_y : y ≠ a3 := fun z9 => ha3 (z9 ▸ hy.1)
  have n_a3_q1 : q1 ≠ a3 := fun z9 => ha3 (z9 ▸ Hq1.1)
  have n_a3_q2 : q2 ≠ a3 := fun z9 => ha3 (z9 ▸ Hq2.1)
  have on_a3 : ∀ q9 e9, gat h_0 q9 e9 → FR q9 e9 → q9 ≠ a3 := fun q9 e9 z9 w9 y9 => ha3 (y9 ▸ (hO q9 e9 z9 w9).1)
  have nw_a3 : a3 ∉ h_0.1 := fun z9 => ha3 (hI a3 z9)
  have n_a4_y : y ≠ a4 := fun z9 => ha4 (z9 ▸ hy.1)
  have n_a4_q1 : q1 ≠ a4 := fun z9 => ha4 (z9 ▸ Hq1.1)
  have n_a4_q2 : q2 ≠ a4 := fun z9 => ha4 (z9 ▸ Hq2.1)
  have on_a4 : ∀ q9 e9, gat h_0 q9 e9 → FR q9 e9 → q9 ≠ a4 := fun q9 e9 z9 w9 y9 => ha4 (y9 ▸ (hO q9 e9 z9 w9).1)
  have nw_a4 : a4 ∉ h_0.1 := fun z9 => ha4 (hI a4 z9)
  have hy := hK _ _ hy (gat_ne hy Hq2 rfl)
  have Hq1 := hK _ _ Hq1 (gat_ne Hq1 Hq2 rfl)
  have hO : ∀ q e, gat h_0 q e → FR q e → gat h q e := fun q e z9 w9 => hK q e (hO q e z9 w9) (on_q2 q e z9 w9)
  have hI : ∀ q, q ∈ h_0.1 → q ∈ h.1 := fun q z9 => gSt.dom hK N_q2 (hI q z9)
  replace Hq2 := N_q2
  refine gC_putF hB hE 1 tyX6 tyX6_ok nmX6 hy (C := RX6) (T := TX6) (N := 9) rfl (by decide +kernel) (by decide) (by decide +kernel) (fun _ h9 => h9) rfl rfl rfl rfl (Nat.le_of_ble_eq_true rfl) dX6_init_23 (fun h Ny hK => ?_)
  have Hq1 := hK _ _ Hq1 (gat_ne Hq1 hy rfl)
  have Hq2 := hK _ _ Hq2 (gat_ne Hq2 hy rfl)
  have Ha3 := hK _ _ Ha3 (gat_ne Ha3 hy rfl)
  have Ha4 := hK _ _ Ha4 (gat_ne Ha4 hy rfl)
  have hO : ∀ q e, gat h_0 q e → FR q e → gat h q e := fun q e z9 w9 => hK q e (hO q e z9 w9) (on_y q e z9 w9)
  have hI : ∀ q, q ∈ h_0.1 → q ∈ h.1 := fun q z9 => gSt.dom hK Ny (hI q z9)
  replace hy : gat h y (.inr (9, [.ref q1, .ref q2, .null, .null, .int 0, .int 0, .int 0, .int 0, .int 0])) := Ny
  refine gI_aload_n hB 0 dX6_init_26 rfl ?_
  refine gC_new hB (ci := 6) (C := RX3) (T := TX3) (N := 4) [.null, .null, .int 0, .int 0] tyX3 tyX3_ok rfl (by decide +kernel) (by decide +kernel) (by decide +kernel) (by decide +kernel) (fun j hj => by rcases (show j = 0 ∨ j = 1 ∨ j = 2 ∨ j = 3 by omega) with rfl | rfl | rfl | rfl <;> rfl) (by dsimp only [gRm]; omega) (by dsimp only [gRm]; omega) dX6_init_27 (fun q5 h hq5 Hq5 hK => ?_)
  have n_q5_y : y ≠ q5 := fun z9 => hq5 (z9 ▸ hy.1)
  have n_q5_q1 : q1 ≠ q5 := fun z9 => hq5 (z9 ▸ Hq1.1)
  have n_q5_q2 : q2 ≠ q5 := fun z9 => hq5 (z9 ▸ Hq2.1)
  have n_q5_a3 : a3 ≠ q5 := fun z9 => hq5 (z9 ▸ Ha3.1)
  have n_q5_a4 : a4 ≠ q5 := fun z9 => hq5 (z9 ▸ Ha4.1)
  have hy := hK _ _ hy
  have Hq1 := hK _ _ Hq1
  have Hq2 := hK _ _ Hq2
  have Ha3 := hK _ _ Ha3
  have Ha4 := hK _ _ Ha4
  have on_q5 : ∀ q9 e9, gat h_0 q9 e9 → FR q9 e9 → q9 ≠ q5 := fun q9 e9 z9 w9 y9 => hq5 (y9 ▸ (hO q9 e9 z9 w9).1)
  have nw_q5 : q5 ∉ h_0.1 := fun z9 => hq5 (hI q5 z9)
  have hO : ∀ q e, gat h_0 q e → FR q e → gat h q e := fun q e z9 w9 => hK q e (hO q e z9 w9)
  have hI : ∀ q, q ∈ h_0.1 → q ∈ h.1 := fun q z9 => gSa.dom hK (hI q z9)
  refine gI_dup hB dX6_init_30 rfl ?_
  refine gI_callI (n9 := 0) (As := []) (rest := [.ref q5, .ref y]) hB (k_sinit X.2.1 h q5 Hq5) (gCW.of ggX6_init_X3_init rfl ⟨by decide, by decide, by decide +kernel⟩ ⟨Nat.le_of_ble_eq_true rfl, Nat.le_of_ble_eq_true rfl⟩) rfl rfl (Or.inr ⟨"DoorbellChoir", by decide +kernel⟩) (by decide +kernel) (by decide +kernel) rfl rfl (Nat.le_of_ble_eq_true rfl) (by dsimp only [gRm]; omega) (by dsimp only [gRm]; omega) dX6_init_31 (fun v9 h k9 n9 hp => ?_) (fun E9 h1 k1 n1 hp => by obtain ⟨l1, l2, e9, -⟩ := hp; cases e9)
  obtain ⟨a6, a7, e9, ha6, ha7, N_q5, Ha6, Ha7, hK, rfl, rfl⟩ := hp
  cases e9
  have n_a6_y : y ≠ a6 := fun z9 => ha6 (z9 ▸ hy.1)
  have n_a6_q1 : q1 ≠ a6 := fun z9 => ha6 (z9 ▸ Hq1.1)
  have n_a6_q2 : q2 ≠ a6 := fun z9 => ha6 (z9 ▸ Hq2.1)
  have n_a6_a3 : a3 ≠ a6 := fun z9 => ha6 (z9 ▸ Ha3.1)
  have n_a6_a4 : a4 ≠ a6 := fun z9 => ha6 (z9 ▸ Ha4.1)
  have n_a6_q5 : q5 ≠ a6 := fun z9 => ha6 (z9 ▸ Hq5.1)
  have on_a6 : ∀ q9 e9, gat h_0 q9 e9 → FR q9 e9 → q9 ≠ a6 := fun q9 e9 z9 w9 y9 => ha6 (y9 ▸ (hO q9 e9 z9 w9).1)
  have nw_a6 : a6 ∉ h_0.1 := fun z9 => ha6 (hI a6 z9)
  have n_a7_y : y ≠ a7 := fun z9 => ha7 (z9 ▸ hy.1)
  have n_a7_q1 : q1 ≠ a7 := fun z9 => ha7 (z9 ▸ Hq1.1)
  have n_a7_q2 : q2 ≠ a7 := fun z9 => ha7 (z9 ▸ Hq2.1)
  have n_a7_a3 : a3 ≠ a7 := fun z9 => ha7 (z9 ▸ Ha3.1)
  have n_a7_a4 : a4 ≠ a7 := fun z9 => ha7 (z9 ▸ Ha4.1)
  have n_a7_q5 : q5 ≠ a7 := fun z9 => ha7 (z9 ▸ Hq5.1)
  have on_a7 : ∀ q9 e9, gat h_0 q9 e9 → FR q9 e9 → q9 ≠ a7 := fun q9 e9 z9 w9 y9 => ha7 (y9 ▸ (hO q9 e9 z9 w9).1)
  have nw_a7 : a7 ∉ h_0.1 := fun z9 => ha7 (hI a7 z9)
  have hy := hK _ _ hy (gat_ne hy Hq5 rfl)
  have Hq1 := hK _ _ Hq1 (gat_ne Hq1 Hq5 rfl)
  have Hq2 := hK _ _ Hq2 (gat_ne Hq2 Hq5 rfl)
  have Ha3 := hK _ _ Ha3 (gat_ne Ha3 Hq5 rfl)
  have Ha4 := hK _ _ Ha4 (gat_ne Ha4 Hq5 rfl)
  have hO : ∀ q e, gat h_0 q e → FR q e → gat h q e := fun q e z9 w9 => hK q e (hO q e z9 w9) (on_q5 q e z9 w9)
  have hI : ∀ q, q ∈ h_0.1 → q ∈ h.1 := fun q z9 => gSt.dom hK N_q5 (hI q z9)
  replace Hq5 := N_q5
  refine gC_putF hB hE 2 tyX6 tyX6_ok nmX6 hy (C := RX6) (T := TX6) (N := 9) rfl (by decide +kernel) (by decide) (by decide +kernel) (fun _ h9 => h9) rfl rfl rfl rfl (Nat.le_of_ble_eq_true rfl) dX6_init_34 (fun h Ny hK => ?_)
  have Hq1 := hK _ _ Hq1 (gat_ne Hq1 hy rfl)
  have Hq2 := hK _ _ Hq2 (gat_ne Hq2 hy rfl)
  have Ha3 := hK _ _ Ha3 (gat_ne Ha3 hy rfl)
  have Ha4 := hK _ _ Ha4 (gat_ne Ha4 hy rfl)
  have Hq5 := hK _ _ Hq5 (gat_ne Hq5 hy rfl)
  have Ha6 := hK _ _ Ha6 (gat_ne Ha6 hy rfl)
  have Ha7 := hK _ _ Ha7 (gat_ne Ha7 hy rfl)
  have hO : ∀ q e, gat h_0 q e → FR q e → gat h q e := fun q e z9 w9 => hK q e (hO q e z9 w9) (on_y q e z9 w9)
  have hI : ∀ q, q ∈ h_0.1 → q ∈ h.1 := fun q z9 => gSt.dom hK Ny (hI q z9)
  replace hy : gat h y (.inr (9, [.ref q1, .ref q2, .ref q5, .null, .int 0, .int 0, .int 0, .int 0, .int 0])) := Ny
  refine gI_aload_n hB 0 dX6_init_37 rfl ?_
  refine gC_new hB (ci := 5) (C := RX2) (T := TX2) (N := 6) [.int 0, .int 0, .int 0, .int 0, .int 0, .long 0] tyX2 tyX2_ok rfl (by decide +kernel) (by decide +kernel) (by decide +kernel) (by decide +kernel) (fun j hj => by rcases (show j = 0 ∨ j = 1 ∨ j = 2 ∨ j = 3 ∨ j = 4 ∨ j = 5 by omega) with rfl | rfl | rfl | rfl | rfl | rfl <;> rfl) (by dsimp only [gRm]; omega) (by dsimp only [gRm]; omega) dX6_init_38 (fun q8 h hq8 Hq8 hK => ?_)
  have n_q8_y : y ≠ q8 := fun z9 => hq8 (z9 ▸ hy.1)
  have n_q8_q1 : q1 ≠ q8 := fun z9 => hq8 (z9 ▸ Hq1.1)
  have n_q8_q2 : q2 ≠ q8 := fun z9 => hq8 (z9 ▸ Hq2.1)
  have n_q8_a3 : a3 ≠ q8 := fun z9 => hq8 (z9 ▸ Ha3.1)
  have n_q8_a4 : a4 ≠ q8 := fun z9 => hq8 (z9 ▸ Ha4.1)
  have n_q8_q5 : q5 ≠ q8 := fun z9 => hq8 (z9 ▸ Hq5.1)
  have n_q8_a6 : a6 ≠ q8 := fun z9 => hq8 (z9 ▸ Ha6.1)
  have n_q8_a7 : a7 ≠ q8 := fun z9 => hq8 (z9 ▸ Ha7.1)
  have hy := hK _ _ hy
  have Hq1 := hK _ _ Hq1
  have Hq2 := hK _ _ Hq2
  have Ha3 := hK _ _ Ha3
  have Ha4 := hK _ _ Ha4
  have Hq5 := hK _ _ Hq5
  have Ha6 := hK _ _ Ha6
  have Ha7 := hK _ _ Ha7
  have on_q8 : ∀ q9 e9, gat h_0 q9 e9 → FR q9 e9 → q9 ≠ q8 := fun q9 e9 z9 w9 y9 => hq8 (y9 ▸ (hO q9 e9 z9 w9).1)
  have nw_q8 : q8 ∉ h_0.1 := fun z9 => hq8 (hI q8 z9)
  have hO : ∀ q e, gat h_0 q e → FR q e → gat h q e := fun q e z9 w9 => hK q e (hO q e z9 w9)
  have hI : ∀ q, q ∈ h_0.1 → q ∈ h.1 := fun q z9 => gSa.dom hK (hI q z9)
  refine gI_dup hB dX6_init_41 rfl ?_
  refine gI_pureI (n9 := 0) (As := []) (rest := [.ref q8, .ref y]) hB (k_rinit X.2.1 h q8 Hq8) (gCW.of ggX6_init_X2_init rfl ⟨by decide, by decide, by decide +kernel⟩ ⟨Nat.le_of_ble_eq_true rfl, Nat.le_of_ble_eq_true rfl⟩) rfl rfl (Or.inr ⟨"DoorbellChoir", by decide +kernel⟩) (by decide +kernel) (by decide +kernel) rfl rfl (Nat.le_of_ble_eq_true rfl) (by dsimp only [gRm]; omega) (by dsimp only [gRm]; omega) dX6_init_42 ?_
  refine gC_putF hB hE 3 tyX6 tyX6_ok nmX6 hy (C := RX6) (T := TX6) (N := 9) rfl (by decide +kernel) (by decide) (by decide +kernel) (fun _ h9 => h9) rfl rfl rfl rfl (Nat.le_of_ble_eq_true rfl) dX6_init_45 (fun h Ny hK => ?_)
  have Hq1 := hK _ _ Hq1 (gat_ne Hq1 hy rfl)
  have Hq2 := hK _ _ Hq2 (gat_ne Hq2 hy rfl)
  have Ha3 := hK _ _ Ha3 (gat_ne Ha3 hy rfl)
  have Ha4 := hK _ _ Ha4 (gat_ne Ha4 hy rfl)
  have Hq5 := hK _ _ Hq5 (gat_ne Hq5 hy rfl)
  have Ha6 := hK _ _ Ha6 (gat_ne Ha6 hy rfl)
  have Ha7 := hK _ _ Ha7 (gat_ne Ha7 hy rfl)
  have Hq8 := hK _ _ Hq8 (gat_ne Hq8 hy rfl)
  have hO : ∀ q e, gat h_0 q e → FR q e → gat h q e := fun q e z9 w9 => hK q e (hO q e z9 w9) (on_y q e z9 w9)
  have hI : ∀ q, q ∈ h_0.1 → q ∈ h.1 := fun q z9 => gSt.dom hK Ny (hI q z9)
  replace hy : gat h y (.inr (9, [.ref q1, .ref q2, .ref q5, .ref q8, .int 0, .int 0, .int 0, .int 0, .int 0])) := Ny
  refine gI_aload_n hB 0 dX6_init_48 rfl ?_
  refine gI_bipush (v := nI 60) hB dX6_init_49 (by decide) ?_
  refine gC_put hB 4 tyX6 tyX6_ok nmX6 hy (C := RX6) (T := TX6) (N := 9) rfl (by decide +kernel) (by decide) (by decide +kernel) (fun _ h9 => h9) rfl rfl rfl (Nat.le_of_ble_eq_true rfl) dX6_init_51 (fun h Ny hK => ?_)
  have Hq1 := hK _ _ Hq1 (gat_ne Hq1 hy rfl)
  have Hq2 := hK _ _ Hq2 (gat_ne Hq2 hy rfl)
  have Ha3 := hK _ _ Ha3 (gat_ne Ha3 hy rfl)
  have Ha4 := hK _ _ Ha4 (gat_ne Ha4 hy rfl)
  have Hq5 := hK _ _ Hq5 (gat_ne Hq5 hy rfl)
  have Ha6 := hK _ _ Ha6 (gat_ne Ha6 hy rfl)
  have Ha7 := hK _ _ Ha7 (gat_ne Ha7 hy rfl)
  have Hq8 := hK _ _ Hq8 (gat_ne Hq8 hy rfl)
  have hO : ∀ q e, gat h_0 q e → FR q e → gat h q e := fun q e z9 w9 => hK q e (hO q e z9 w9) (on_y q e z9 w9)
  have hI : ∀ q, q ∈ h_0.1 → q ∈ h.1 := fun q z9 => gSt.dom hK Ny (hI q z9)
  replace hy : gat h y (.inr (9, [.ref q1, .ref q2, .ref q5, .ref q8, .int (nI 60), .int 0, .int 0, .int 0, .int 0])) := Ny
  refine gI_vret hB hE dX6_init_54 ?_
  have hR := cRep.first hy Hq2 Hq5 Hq8 Ha7 Hq1 Ha3 Ha4 Ha6 n_a3_q1 n_a4_q1 n_a6_q1 hne_a3 n_a6_a3 n_a6_a4
  exact ⟨_, _, rfl, rfl, hR, rfl, fun q9 e9 z9 w9 => hO q9 e9 z9 (by rw [eFR]; exact w9), by omega, by omega⟩

