theorem gCap_pos {n : Nat} (h : 0 < n) : gCap n = n + max 1 (n / 2) := if_neg (by omega)
theorem gCap_le {n : Nat} (h : n ≤ 300) : n < gCap n ∧ gCap n ≤ 450 := by
  unfold gCap
  split <;> omega

set_option maxRecDepth 100000 in
set_option maxHeartbeats 4000000 in
theorem j_grow1 (G : gG) (h_0 : gH) (l A n : Nat) (md : Int32) (g : Nat → Option Nat) (hl : gat h_0 l (.inr (2, [.int md, .ref A, .int (nI n)]))) (hr : gRow G h_0 A n g) (hel : ∀ i, i < n → ∀ y, g i = some y → gOb h_0 y) (hn : n ≤ 300) : gMet yJx4a65c_grow_92f84 wsJx4a65c_grow_92f84 (gRm 3 1 (gCap n)) G h_0 [.ref l, .int (nI (n + 1))] (pGrow G h_0 l n md g) := by
  refine gMet_of (maxL := 4) (ret := (some (.array (.object "java/lang/Object")))) (by decide) rfl (Nat.le_of_ble_eq_true rfl) ?_
  intro X hG hnL hB hE
  subst hG
  suffices go : ∀ h : gH, h = h_0 → gW X h 0 0 0 [(0, .ref l), (1, .int (nI (n + 1)))] [] from go h_0 rfl
  intro h eh
  rw [← eh] at hl hr hel
  obtain ⟨FR, eFR⟩ : ∃ FR : Nat → va_E → Prop, FR = fun (q : Nat) (_ : va_E) => q ≠ l := ⟨_, rfl⟩
  have hO : ∀ q e, gat h_0 q e → FR q e → gat h q e := fun q e z9 _ => by rw [eh]; exact z9
  have hI : ∀ q, q ∈ h_0.1 → q ∈ h.1 := fun q z9 => by rw [eh]; exact z9
  have on_l : ∀ q e, gat h_0 q e → FR q e → q ≠ l := by intros; rename_i w9; rw [eFR] at w9; exact w9
  have hc9 := gCap_le hn
  rcases hr with ⟨h0, hA0⟩ | ⟨h0, hA⟩
  · skip
    subst h0 hA0
    have g10 : gCap 0 = 10 := rfl
    refine gI_aload_n hB 0 dJx4a65c_grow_92f84_0 rfl ?_
    refine gI_get (v := .ref (gE0 X.2.1)) hB 1 hl (C := RJx4a65c) (T := TJx4a65c) (N := 3) rfl (by decide +kernel) (by decide) (by decide +kernel) (fun _ h9 => h9) rfl dJx4a65c_grow_92f84_1 ?_
    refine gI_alenE hB dJx4a65c_grow_92f84_4 ?_
    refine gI_istore_n hB ([(2, .int (nI 0)), (0, .ref l), (1, .int (nI (0 + 1)))]) hnL dJx4a65c_grow_92f84_5 (by decide) rfl ?_
    refine gI_iload_n hB 0 dJx4a65c_grow_92f84_6 rfl ?_
    refine gI_if_gt hB 20 dJx4a65c_grow_92f84_7 (by decide) (fun z => absurd z ((by decide : ¬ nI 0 > 0))) (fun _ => ?_)
    refine gI_aload_n hB 1 dJx4a65c_grow_92f84_10 rfl ?_
    refine gI_get (v := .ref (gE0 X.2.1)) hB 1 hl (C := RJx4a65c) (T := TJx4a65c) (N := 3) rfl (by decide +kernel) (by decide) (by decide +kernel) (fun _ h9 => h9) rfl dJx4a65c_grow_92f84_11 ?_
    refine gI_getsE hB (by decide +kernel) dJx4a65c_grow_92f84_14 ?_
    refine gI_acmp_eq hB 45 dJx4a65c_grow_92f84_17 (by decide) (fun _ => ?_) (fun z => absurd (rfl) z)
    refine gI_aload_n hB 1 dJx4a65c_grow_92f84_45 rfl ?_
    refine gI_bipush (v := nI 10) hB dJx4a65c_grow_92f84_46 (by decide) ?_
    refine gI_iload_n hB 2 dJx4a65c_grow_92f84_48 rfl ?_
    refine gI_mmax hB (by decide +kernel) (by decide +kernel) (by decide +kernel) (by decide +kernel) (Nat.le_of_ble_eq_true rfl) (Nat.le_of_ble_eq_true rfl) (by dsimp only [gRm]; omega) (by dsimp only [gRm]; omega) dJx4a65c_grow_92f84_49 ?_
    refine gI_topi hB (y := nI 10) (by decide) ?_
    refine gC_newO hB 10 rfl (by omega) (by decide +kernel) (by dsimp only [gRm]; omega) (by dsimp only [gRm]; omega) dJx4a65c_grow_92f84_52 (fun q1 h hq1 Hq1 hK => ?_)
    have n_q1_l : l ≠ q1 := fun z9 => hq1 (z9 ▸ hl.1)
    have hl := hK _ _ hl
    have on_q1 : ∀ q9 e9, gat h_0 q9 e9 → FR q9 e9 → q9 ≠ q1 := fun q9 e9 z9 w9 y9 => hq1 (y9 ▸ (hO q9 e9 z9 w9).1)
    have nw_q1 : q1 ∉ h_0.1 := fun z9 => hq1 (hI q1 z9)
    have hO : ∀ q e, gat h_0 q e → FR q e → gat h q e := fun q e z9 w9 => hK q e (hO q e z9 w9)
    have hI : ∀ q, q ∈ h_0.1 → q ∈ h.1 := fun q z9 => gSa.dom hK (hI q z9)
    refine gI_dup_x1 hB dJx4a65c_grow_92f84_55 rfl rfl ?_
    refine gC_put hB 1 tyJx4a65c tyJx4a65c_ok nmJx4a65c hl (C := RJx4a65c) (T := TJx4a65c) (N := 3) rfl (by decide +kernel) (by decide) (by decide +kernel) (fun _ h9 => h9) rfl rfl rfl (Nat.le_of_ble_eq_true rfl) dJx4a65c_grow_92f84_56 (fun h Nl hK => ?_)
    have Hq1 := hK _ _ Hq1 (gat_ne Hq1 hl rfl)
    have hO : ∀ q e, gat h_0 q e → FR q e → gat h q e := fun q e z9 w9 => hK q e (hO q e z9 w9) (on_l q e z9 w9)
    have hI : ∀ q, q ∈ h_0.1 → q ∈ h.1 := fun q z9 => gSt.dom hK Nl (hI q z9)
    replace hl : gat h l (.inr (2, [.int md, .ref q1, .int (nI 0)])) := Nl
    refine gI_aret hB hE (Or.inr ⟨_, rfl⟩) (Or.inr ⟨_, rfl⟩) dJx4a65c_grow_92f84_59 ?_
    exact ⟨q1, _, rfl, nw_q1, hl, (by rw [g10]; exact Hq1), fun j hj => absurd hj (by omega), fun q9 e9 z9 w9 => hO q9 e9 z9 (by rw [eFR]; exact w9), by omega, by omega⟩
  · skip
    have g10 := gCap_pos h0
    refine gI_aload_n hB 0 dJx4a65c_grow_92f84_0 rfl ?_
    refine gI_get (v := .ref A) hB 1 hl (C := RJx4a65c) (T := TJx4a65c) (N := 3) rfl (by decide +kernel) (by decide) (by decide +kernel) (fun _ h9 => h9) rfl dJx4a65c_grow_92f84_1 ?_
    refine gI_alenO hB hA dJx4a65c_grow_92f84_4 ?_
    refine gI_istore_n hB ([(2, .int (nI n)), (0, .ref l), (1, .int (nI (n + 1)))]) hnL dJx4a65c_grow_92f84_5 (by decide) rfl ?_
    refine gI_iload_n hB 0 dJx4a65c_grow_92f84_6 rfl ?_
    refine gI_if_gt hB 20 dJx4a65c_grow_92f84_7 (by decide) (fun _ => ?_) (fun z => absurd ((nI_ltI (a := 0) (by omega) (by omega)).mpr h0) z)
    refine gI_iload_n hB 0 dJx4a65c_grow_92f84_20 rfl ?_
    refine gI_iload_n hB 2 dJx4a65c_grow_92f84_21 rfl ?_
    refine gI_iload_n hB 0 dJx4a65c_grow_92f84_22 rfl ?_
    refine gI_isub hB dJx4a65c_grow_92f84_23 ?_
    refine gI_topi hB (y := nI 1) (by rw [pk_sub (by omega)]; congr 1; omega) ?_
    refine gI_iload_n hB 0 dJx4a65c_grow_92f84_24 rfl ?_
    refine gI_iconst (v := nI 1) hB dJx4a65c_grow_92f84_25 (by decide) ?_
    refine gI_ishr hB dJx4a65c_grow_92f84_26 ?_
    refine gI_topi hB (y := nI (n / 2)) (nI_half (by omega)) ?_
    refine gI_pureS (n9 := 3) (As := [.int (nI n), .int (nI 1), .int (nI (n / 2))]) (rest := []) hB (j_newLength X.2.1 h n (n / 2) (by omega) (by omega)) (gCW.of ggJx4a65c_grow_92f84_J8_newLength_cabcc rfl ⟨by decide, by decide, by decide +kernel⟩ ⟨Nat.le_of_ble_eq_true rfl, Nat.le_of_ble_eq_true rfl⟩) (Or.inl (by decide +kernel)) (by decide +kernel) (by decide +kernel) rfl rfl (Nat.le_of_ble_eq_true rfl) (by dsimp only [gRm]; omega) (by dsimp only [gRm]; omega) dJx4a65c_grow_92f84_27 ?_
    refine gI_istore_n hB ([(3, .int (nI (n + max 1 (n / 2)))), (2, .int (nI n)), (0, .ref l), (1, .int (nI (n + 1)))]) hnL dJx4a65c_grow_92f84_30 (by decide) rfl ?_
    refine gI_aload_n hB 2 dJx4a65c_grow_92f84_31 rfl ?_
    refine gI_aload_n hB 2 dJx4a65c_grow_92f84_32 rfl ?_
    refine gI_get (v := .ref A) hB 1 hl (C := RJx4a65c) (T := TJx4a65c) (N := 3) rfl (by decide +kernel) (by decide) (by decide +kernel) (fun _ h9 => h9) rfl dJx4a65c_grow_92f84_33 ?_
    refine gI_iload_n hB 0 dJx4a65c_grow_92f84_36 rfl ?_
    refine gI_callS (n9 := 2) (As := [.ref A, .int (nI (n + max 1 (n / 2)))]) (rest := [.ref l]) hB (j_copy X.2.1 h A n (n + max 1 (n / 2)) g hA hel (by omega) (by omega)) (gCW.of ggJx4a65c_grow_92f84_J7_copyOf_1904c rfl ⟨by decide, by decide, by decide +kernel⟩ ⟨Nat.le_of_ble_eq_true rfl, Nat.le_of_ble_eq_true rfl⟩) (Or.inl (by decide +kernel)) (by decide +kernel) (by decide +kernel) rfl rfl (Nat.le_of_ble_eq_true rfl) (by dsimp only [gRm]; omega) (by dsimp only [gRm]; omega) dJx4a65c_grow_92f84_37 (fun v9 h k9 n9 hp => ?_) (fun E9 h1 k1 n1 hp => by obtain ⟨q9, e9, -⟩ := hp; cases e9)
    obtain ⟨q2, e9, hq2, Hq2, hK, rfl, rfl⟩ := hp
    cases e9
    have n_q2_l : l ≠ q2 := fun z9 => hq2 (z9 ▸ hl.1)
    have n_q2_A : A ≠ q2 := fun z9 => hq2 (z9 ▸ hA.1)
    have hl := hK _ _ hl
    have hA := hK _ _ hA
    have hel := fun i hi y hy => gOb.sa hK (hel i hi y hy)
    have on_q2 : ∀ q9 e9, gat h_0 q9 e9 → FR q9 e9 → q9 ≠ q2 := fun q9 e9 z9 w9 y9 => hq2 (y9 ▸ (hO q9 e9 z9 w9).1)
    have nw_q2 : q2 ∉ h_0.1 := fun z9 => hq2 (hI q2 z9)
    have hO : ∀ q e, gat h_0 q e → FR q e → gat h q e := fun q e z9 w9 => hK q e (hO q e z9 w9)
    have hI : ∀ q, q ∈ h_0.1 → q ∈ h.1 := fun q z9 => gSa.dom hK (hI q z9)
    refine gI_dup_x1 hB dJx4a65c_grow_92f84_40 rfl rfl ?_
    refine gC_put hB 1 tyJx4a65c tyJx4a65c_ok nmJx4a65c hl (C := RJx4a65c) (T := TJx4a65c) (N := 3) rfl (by decide +kernel) (by decide) (by decide +kernel) (fun _ h9 => h9) rfl rfl rfl (Nat.le_of_ble_eq_true rfl) dJx4a65c_grow_92f84_41 (fun h Nl hK => ?_)
    have hA := hK _ _ hA (gat_ne hA hl rfl)
    have Hq2 := hK _ _ Hq2 (gat_ne Hq2 hl rfl)
    have hel := fun i hi y hy => gOb.stO hl Nl hK (hel i hi y hy)
    have hO : ∀ q e, gat h_0 q e → FR q e → gat h q e := fun q e z9 w9 => hK q e (hO q e z9 w9) (on_l q e z9 w9)
    have hI : ∀ q, q ∈ h_0.1 → q ∈ h.1 := fun q z9 => gSt.dom hK Nl (hI q z9)
    replace hl : gat h l (.inr (2, [.int md, .ref q2, .int (nI n)])) := Nl
    refine gI_aret hB hE (Or.inr ⟨_, rfl⟩) (Or.inr ⟨_, rfl⟩) dJx4a65c_grow_92f84_44 ?_
    exact ⟨q2, _, rfl, nw_q2, hl, (by rw [g10]; exact Hq2), fun j hj => by rw [pk_cpy_in (by omega) (by omega), show 0 + (j - 0) = j by omega], fun q9 e9 z9 w9 => hO q9 e9 z9 (by rw [eFR]; exact w9), by omega, by omega⟩

