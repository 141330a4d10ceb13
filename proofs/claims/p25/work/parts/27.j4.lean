/-- an element has come into a list at j -/
def pAdd (G : gG) (h : gH) (l A n cap : Nat) (md : Int32) (g : Nat → Option Nat) (e j : Nat) (ov : Option Value) : gPo := fun r h' k s => ∃ A' cap' g', r = .inl ov ∧ gat h' l (.inr (2, [.int md, .ref A', .int (nI (n + 1))])) ∧ gat h' A' (.inl (gO G, cap', .inr (.inr (.inr (.inr g'))))) ∧
  (∀ i, i < j → g' i = g i) ∧ g' j = some e ∧ (∀ i, j ≤ i → i < n → g' (i + 1) = g i) ∧ (∀ q e9, gat h q e9 → q ≠ l ∧ (q = A → n = cap) → gat h' q e9) ∧ n < cap' ∧ A' ≠ l ∧
  ((n < cap ∧ A' = A ∧ cap' = cap ∧ k = 0 ∧ s = 0) ∨ (n = cap ∧ A' ∉ h.1 ∧ cap' = gCap cap ∧ k = 1 ∧ s = cap'))
/-- the element at j has left a list -/
def pRem (G : gG) (h : gH) (l A n cap : Nat) (md : Int32) (g : Nat → Option Nat) (j : Nat) (ov : Option Value) : gPo := fun r h' k s => ∃ g', r = .inl ov ∧ gat h' l (.inr (2, [.int md, .ref A, .int (nI (n - 1))])) ∧ gat h' A (.inl (gO G, cap, .inr (.inr (.inr (.inr g'))))) ∧
  (∀ i, i < j → g' i = g i) ∧ (∀ i, j ≤ i → i + 1 < n → g' i = g (i + 1)) ∧ (∀ q e9, gat h q e9 → q ≠ l ∧ q ≠ A → gat h' q e9) ∧ k = 0 ∧ s = 0
theorem up_at {f : Nat → Option Nat} {i : Nat} {v : Option Nat} : va_up f i v i = v := va_up_self _ _ _
theorem up_ne {f : Nat → Option Nat} {i j : Nat} {v : Option Nat} (h : j ≠ i) : va_up f i v j = f j := va_up_ne _ _ h

set_option maxRecDepth 100000 in
set_option maxHeartbeats 4000000 in
theorem j_grow0 (G : gG) (h_0 : gH) (l A n : Nat) (md : Int32) (g : Nat → Option Nat) (hl : gat h_0 l (.inr (2, [.int md, .ref A, .int (nI n)]))) (hr : gRow G h_0 A n g) (hel : ∀ i, i < n → ∀ y, g i = some y → gOb h_0 y) (hn : n ≤ 300) : gMet yJx4a65c_grow_d5877 wsJx4a65c_grow_d5877 (gRm 4 1 (gCap n)) G h_0 [.ref l] (pGrow G h_0 l n md g) := by
  refine gMet_of (maxL := 1) (ret := (some (.array (.object "java/lang/Object")))) (by decide) rfl (Nat.le_of_ble_eq_true rfl) ?_
  intro X hG hnL hB hE
  subst hG
  suffices go : ∀ h : gH, h = h_0 → gW X h 0 0 0 [(0, .ref l)] [] from go h_0 rfl
  intro h eh
  rw [← eh] at hl hr hel
  obtain ⟨FR, eFR⟩ : ∃ FR : Nat → va_E → Prop, FR = fun (q : Nat) (_ : va_E) => q ≠ l := ⟨_, rfl⟩
  have hO : ∀ q e, gat h_0 q e → FR q e → gat h q e := fun q e z9 _ => by rw [eh]; exact z9
  have hI : ∀ q, q ∈ h_0.1 → q ∈ h.1 := fun q z9 => by rw [eh]; exact z9
  have on_l : ∀ q e, gat h_0 q e → FR q e → q ≠ l := by intros; rename_i w9; rw [eFR] at w9; exact w9
  refine gI_aload_n hB 0 dJx4a65c_grow_d5877_0 rfl ?_
  refine gI_aload_n hB 0 dJx4a65c_grow_d5877_1 rfl ?_
  refine gI_get (v := .int (nI n)) hB 2 hl (C := RJx4a65c) (T := TJx4a65c) (N := 3) rfl (by decide +kernel) (by decide) (by decide +kernel) (fun _ h9 => h9) rfl dJx4a65c_grow_d5877_2 ?_
  refine gI_iconst (v := nI 1) hB dJx4a65c_grow_d5877_5 (by decide) ?_
  refine gI_iaddN hB dJx4a65c_grow_d5877_6 ?_
  refine gI_callV (n9 := 1) (As := [.int (nI (n + 1))]) (rest := []) hB (j_grow1 X.2.1 h l A n md g hl hr hel hn) (gCW.of ggJx4a65c_grow_d5877_Jx4a65c_grow_92f84 rfl ⟨by decide, by decide, by decide +kernel⟩ ⟨Nat.le_of_ble_eq_true rfl, Nat.le_of_ble_eq_true rfl⟩) (by decide +kernel) (by decide +kernel) (by decide +kernel) (by decide +kernel) hl (C := RJx4a65c) (T := TJx4a65c) (N := 3) rfl rfl rfl (Nat.le_of_ble_eq_true rfl) (by dsimp only [gRm]; omega) (by dsimp only [gRm]; omega) dJx4a65c_grow_d5877_7 (fun v9 h k9 n9 hp => ?_) (fun E9 h1 k1 n1 hp => by obtain ⟨q9, g9, e9, -⟩ := hp; cases e9)
  obtain ⟨q1, g1, e9, hq1, Hl, Hq1, hg1, hK, rfl, rfl⟩ := hp
  cases e9
  refine gI_aret hB hE (Or.inr ⟨_, rfl⟩) (Or.inr ⟨_, rfl⟩) dJx4a65c_grow_d5877_10 ?_
  exact ⟨q1, g1, rfl, fun z9 => hq1 (eh ▸ z9), Hl, Hq1, hg1, fun q e z9 w9 => hK q e (hO q e z9 (by rw [eFR]; exact w9)) w9, by omega, by omega⟩

set_option maxRecDepth 100000 in
set_option maxHeartbeats 4000000 in
theorem j_add3 (G : gG) (h_0 : gH) (l A n cap e : Nat) (md : Int32) (g : Nat → Option Nat) (hl : gat h_0 l (.inr (2, [.int md, .ref A, .int (nI n)]))) (hr : gRow G h_0 A cap g) (hel : ∀ i, i < n → ∀ y, g i = some y → gOb h_0 y) (ho : gOb h_0 e) (hn : n ≤ cap) (hn3 : n ≤ 300) (hc : cap < 1000) : gMet yJx4a65c_add_72be8 wsJx4a65c_add_72be8 (gRm 5 1 (gCap cap)) G h_0 [.ref l, .ref e, .ref A, .int (nI n)] (pAdd G h_0 l A n cap md g e n none) := by
  refine gMet_of (maxL := 4) (ret := none) (by decide) rfl (Nat.le_of_ble_eq_true rfl) ?_
  intro X hG hnL hB hE
  subst hG
  suffices go : ∀ h : gH, h = h_0 → gW X h 0 0 0 [(0, .ref l), (1, .ref e), (2, .ref A), (3, .int (nI n))] [] from go h_0 rfl
  intro h eh
  rw [← eh] at hl hr hel ho
  obtain ⟨FR, eFR⟩ : ∃ FR : Nat → va_E → Prop, FR = fun (q : Nat) (_ : va_E) => q ≠ l ∧ (q = A → n = cap) := ⟨_, rfl⟩
  have hO : ∀ q e, gat h_0 q e → FR q e → gat h q e := fun q e z9 _ => by rw [eh]; exact z9
  have hI : ∀ q, q ∈ h_0.1 → q ∈ h.1 := fun q z9 => by rw [eh]; exact z9
  have on_l : ∀ q e, gat h_0 q e → FR q e → q ≠ l := by intros; rename_i w9; rw [eFR] at w9; exact w9.1
  have on_A : n < cap → ∀ q e, gat h_0 q e → FR q e → q ≠ A := by intros; rename_i w9; rw [eFR] at w9; rename_i c9 _ _ _; intro y9; have := w9.2 y9; omega
  rcases Nat.lt_or_ge n cap with hlt | hge
  · skip
    have hA : gat h A (.inl (gO X.2.1, cap, .inr (.inr (.inr (.inr g))))) := by rcases hr with ⟨h0, -⟩ | ⟨-, hA⟩; exact absurd h0 (by omega); exact hA
    refine gI_iload_n hB 3 dJx4a65c_add_72be8_0 rfl ?_
    refine gI_aload_n hB 2 dJx4a65c_add_72be8_1 rfl ?_
    refine gI_alenO hB hA dJx4a65c_add_72be8_2 ?_
    refine gI_icmp_ne hB 11 dJx4a65c_add_72be8_3 (by decide) (fun _ => ?_) (fun z => absurd ((nI_eq (by omega) (by omega)).mp z) (by omega))
    refine gI_aload_n hB 2 dJx4a65c_add_72be8_11 rfl ?_
    refine gI_iload_n hB 3 dJx4a65c_add_72be8_12 rfl ?_
    refine gI_aload_n hB 1 dJx4a65c_add_72be8_13 rfl ?_
    refine gC_aast hB n hA ho rfl (by omega) (by omega) dJx4a65c_add_72be8_14 (fun h NA hK => ?_)
    have hl := hK _ _ hl (gat_ne hl hA rfl)
    have hel := fun i hi y hy => gOb.stA hA hK (hel i hi y hy)
    have ho := gOb.stA hA hK ho
    have hO : ∀ q e, gat h_0 q e → FR q e → gat h q e := fun q e z9 w9 => hK q e (hO q e z9 w9) ((on_A (by omega)) q e z9 w9)
    have hI : ∀ q, q ∈ h_0.1 → q ∈ h.1 := fun q z9 => gSt.dom hK NA (hI q z9)
    replace hA := NA
    refine gI_aload_n hB 0 dJx4a65c_add_72be8_15 rfl ?_
    refine gI_iload_n hB 3 dJx4a65c_add_72be8_16 rfl ?_
    refine gI_iconst (v := nI 1) hB dJx4a65c_add_72be8_17 (by decide) ?_
    refine gI_iaddN hB dJx4a65c_add_72be8_18 ?_
    refine gC_put hB 2 tyJx4a65c tyJx4a65c_ok nmJx4a65c hl (C := RJx4a65c) (T := TJx4a65c) (N := 3) rfl (by decide +kernel) (by decide) (by decide +kernel) (fun _ h9 => h9) rfl rfl rfl (Nat.le_of_ble_eq_true rfl) dJx4a65c_add_72be8_19 (fun h Nl hK => ?_)
    have hA := hK _ _ hA (gat_ne hA hl rfl)
    have hel := fun i hi y hy => gOb.stO hl Nl hK (hel i hi y hy)
    have ho := gOb.stO hl Nl hK ho
    have hO : ∀ q e, gat h_0 q e → FR q e → gat h q e := fun q e z9 w9 => hK q e (hO q e z9 w9) (on_l q e z9 w9)
    have hI : ∀ q, q ∈ h_0.1 → q ∈ h.1 := fun q z9 => gSt.dom hK Nl (hI q z9)
    replace hl : gat h l (.inr (2, [.int md, .ref A, .int (nI (n + 1))])) := Nl
    refine gI_vret hB hE dJx4a65c_add_72be8_22 ?_
    exact ⟨A, _, _, rfl, hl, hA, fun i hi => up_ne (by omega), up_at, fun i h1 h2 => absurd h2 (by omega), fun q9 e9 z9 w9 => hO q9 e9 z9 (by rw [eFR]; exact w9), by omega, (gat_ne hA hl rfl), Or.inl ⟨by omega, rfl, rfl, by omega, by omega⟩⟩
  · skip
    have en : n = cap := by omega
    subst en
    rcases hr with ⟨h0, hA0⟩ | ⟨h0, hA⟩
    · skip
      subst h0 hA0
      refine gI_iload_n hB 3 dJx4a65c_add_72be8_0 rfl ?_
      refine gI_aload_n hB 2 dJx4a65c_add_72be8_1 rfl ?_
      refine gI_alenE hB dJx4a65c_add_72be8_2 ?_
      refine gI_icmp_ne hB 11 dJx4a65c_add_72be8_3 (by decide) (fun z => absurd rfl z) (fun _ => ?_)
      refine gI_aload_n hB 0 dJx4a65c_add_72be8_6 rfl ?_
      refine gI_callV (n9 := 0) (As := []) (rest := []) hB (j_grow0 X.2.1 h l (gE0 X.2.1) 0 md g hl (Or.inl ⟨rfl, rfl⟩) hel (by omega)) (gCW.of ggJx4a65c_add_72be8_Jx4a65c_grow_d5877 rfl ⟨by decide, by decide, by decide +kernel⟩ ⟨Nat.le_of_ble_eq_true rfl, Nat.le_of_ble_eq_true rfl⟩) (by decide +kernel) (by decide +kernel) (by decide +kernel) (by decide +kernel) hl (C := RJx4a65c) (T := TJx4a65c) (N := 3) rfl rfl rfl (Nat.le_of_ble_eq_true rfl) (by dsimp only [gRm]; omega) (by dsimp only [gRm]; omega) dJx4a65c_add_72be8_7 (fun v9 h k9 n9 hp => ?_) (fun E9 h1 k1 n1 hp => by obtain ⟨q9, g9, e9, -⟩ := hp; cases e9)
      obtain ⟨q1, g_q1, e9, hq1, Nl, Hq1, hg_q1, hK, rfl, rfl⟩ := hp
      cases e9
      have n_q1_l : l ≠ q1 := fun z9 => hq1 (z9 ▸ hl.1)
      have on_q1 : ∀ q9 e9, gat h_0 q9 e9 → FR q9 e9 → q9 ≠ q1 := fun q9 e9 z9 w9 y9 => hq1 (y9 ▸ (hO q9 e9 z9 w9).1)
      have nw_q1 : q1 ∉ h_0.1 := fun z9 => hq1 (hI q1 z9)
      have hel := fun i hi y hy => gOb.stO hl Nl hK (hel i hi y hy)
      have ho := gOb.stO hl Nl hK ho
      have hO : ∀ q e, gat h_0 q e → FR q e → gat h q e := fun q e z9 w9 => hK q e (hO q e z9 w9) (on_l q e z9 w9)
      have hI : ∀ q, q ∈ h_0.1 → q ∈ h.1 := fun q z9 => gSt.dom hK Nl (hI q z9)
      replace hl := Nl
      have hel := fun i hi y hy => hel i hi y ((hg_q1 i hi).symm.trans hy)
      have hcq := gCap_le (n := 0) (by omega)
      refine gI_astore_n hB ([(2, .ref q1), (0, .ref l), (1, .ref e), (3, .int (nI 0))]) hnL dJx4a65c_add_72be8_10 (by decide) rfl ?_
      refine gI_aload_n hB 0 dJx4a65c_add_72be8_11 rfl ?_
      refine gI_iload_n hB 3 dJx4a65c_add_72be8_12 rfl ?_
      refine gI_aload_n hB 2 dJx4a65c_add_72be8_13 rfl ?_
      refine gC_aast hB 0 Hq1 ho rfl (by omega) (by omega) dJx4a65c_add_72be8_14 (fun h Nq1 hK => ?_)
      have hl := hK _ _ hl (gat_ne hl Hq1 rfl)
      have hel := fun i hi y hy => gOb.stA Hq1 hK (hel i hi y hy)
      have ho := gOb.stA Hq1 hK ho
      have hO : ∀ q e, gat h_0 q e → FR q e → gat h q e := fun q e z9 w9 => hK q e (hO q e z9 w9) (on_q1 q e z9 w9)
      have hI : ∀ q, q ∈ h_0.1 → q ∈ h.1 := fun q z9 => gSt.dom hK Nq1 (hI q z9)
      replace Hq1 := Nq1
      refine gI_aload_n hB 1 dJx4a65c_add_72be8_15 rfl ?_
      refine gI_iload_n hB 3 dJx4a65c_add_72be8_16 rfl ?_
      refine gI_iconst (v := nI 1) hB dJx4a65c_add_72be8_17 (by decide) ?_
      refine gI_iaddN hB dJx4a65c_add_72be8_18 ?_
      refine gC_put hB 2 tyJx4a65c tyJx4a65c_ok nmJx4a65c hl (C := RJx4a65c) (T := TJx4a65c) (N := 3) rfl (by decide +kernel) (by decide) (by decide +kernel) (fun _ h9 => h9) rfl rfl rfl (Nat.le_of_ble_eq_true rfl) dJx4a65c_add_72be8_19 (fun h Nl hK => ?_)
      have Hq1 := hK _ _ Hq1 (gat_ne Hq1 hl rfl)
      have hel := fun i hi y hy => gOb.stO hl Nl hK (hel i hi y hy)
      have ho := gOb.stO hl Nl hK ho
      have hO : ∀ q e, gat h_0 q e → FR q e → gat h q e := fun q e z9 w9 => hK q e (hO q e z9 w9) (on_l q e z9 w9)
      have hI : ∀ q, q ∈ h_0.1 → q ∈ h.1 := fun q z9 => gSt.dom hK Nl (hI q z9)
      replace hl : gat h l (.inr (2, [.int md, .ref q1, .int (nI (0 + 1))])) := Nl
      refine gI_vret hB hE dJx4a65c_add_72be8_22 ?_
      exact ⟨q1, _, _, rfl, hl, Hq1, fun i hi => (up_ne (by omega)).trans (hg_q1 i hi), up_at, fun i h1 h2 => absurd h2 (by omega), fun q9 e9 z9 w9 => hO q9 e9 z9 (by rw [eFR]; exact w9), by omega, (gat_ne Hq1 hl rfl), Or.inr ⟨rfl, nw_q1, rfl, by omega, by omega⟩⟩
    · skip
      refine gI_iload_n hB 3 dJx4a65c_add_72be8_0 rfl ?_
      refine gI_aload_n hB 2 dJx4a65c_add_72be8_1 rfl ?_
      refine gI_alenO hB hA dJx4a65c_add_72be8_2 ?_
      refine gI_icmp_ne hB 11 dJx4a65c_add_72be8_3 (by decide) (fun z => absurd rfl z) (fun _ => ?_)
      refine gI_aload_n hB 0 dJx4a65c_add_72be8_6 rfl ?_
      refine gI_callV (n9 := 0) (As := []) (rest := []) hB (j_grow0 X.2.1 h l A n md g hl (Or.inr ⟨by omega, hA⟩) hel (by omega)) (gCW.of ggJx4a65c_add_72be8_Jx4a65c_grow_d5877 rfl ⟨by decide, by decide, by decide +kernel⟩ ⟨Nat.le_of_ble_eq_true rfl, Nat.le_of_ble_eq_true rfl⟩) (by decide +kernel) (by decide +kernel) (by decide +kernel) (by decide +kernel) hl (C := RJx4a65c) (T := TJx4a65c) (N := 3) rfl rfl rfl (Nat.le_of_ble_eq_true rfl) (by dsimp only [gRm]; omega) (by dsimp only [gRm]; omega) dJx4a65c_add_72be8_7 (fun v9 h k9 n9 hp => ?_) (fun E9 h1 k1 n1 hp => by obtain ⟨q9, g9, e9, -⟩ := hp; cases e9)
      obtain ⟨q2, g_q2, e9, hq2, Nl, Hq2, hg_q2, hK, rfl, rfl⟩ := hp
      cases e9
      have n_q2_l : l ≠ q2 := fun z9 => hq2 (z9 ▸ hl.1)
      have n_q2_A : A ≠ q2 := fun z9 => hq2 (z9 ▸ hA.1)
      have on_q2 : ∀ q9 e9, gat h_0 q9 e9 → FR q9 e9 → q9 ≠ q2 := fun q9 e9 z9 w9 y9 => hq2 (y9 ▸ (hO q9 e9 z9 w9).1)
      have nw_q2 : q2 ∉ h_0.1 := fun z9 => hq2 (hI q2 z9)
      have hA := hK _ _ hA (gat_ne hA hl rfl)
      have hel := fun i hi y hy => gOb.stO hl Nl hK (hel i hi y hy)
      have ho := gOb.stO hl Nl hK ho
      have hO : ∀ q e, gat h_0 q e → FR q e → gat h q e := fun q e z9 w9 => hK q e (hO q e z9 w9) (on_l q e z9 w9)
      have hI : ∀ q, q ∈ h_0.1 → q ∈ h.1 := fun q z9 => gSt.dom hK Nl (hI q z9)
      replace hl := Nl
      have hel := fun i hi y hy => hel i hi y ((hg_q2 i hi).symm.trans hy)
      have hcq := gCap_le (n := n) (by omega)
      refine gI_astore_n hB ([(2, .ref q2), (0, .ref l), (1, .ref e), (3, .int (nI n))]) hnL dJx4a65c_add_72be8_10 (by decide) rfl ?_
      refine gI_aload_n hB 0 dJx4a65c_add_72be8_11 rfl ?_
      refine gI_iload_n hB 3 dJx4a65c_add_72be8_12 rfl ?_
      refine gI_aload_n hB 2 dJx4a65c_add_72be8_13 rfl ?_
      refine gC_aast hB n Hq2 ho rfl (by omega) (by omega) dJx4a65c_add_72be8_14 (fun h Nq2 hK => ?_)
      have hl := hK _ _ hl (gat_ne hl Hq2 rfl)
      have hA := hK _ _ hA n_q2_A
      have hel := fun i hi y hy => gOb.stA Hq2 hK (hel i hi y hy)
      have ho := gOb.stA Hq2 hK ho
      have hO : ∀ q e, gat h_0 q e → FR q e → gat h q e := fun q e z9 w9 => hK q e (hO q e z9 w9) (on_q2 q e z9 w9)
      have hI : ∀ q, q ∈ h_0.1 → q ∈ h.1 := fun q z9 => gSt.dom hK Nq2 (hI q z9)
      replace Hq2 := Nq2
      refine gI_aload_n hB 1 dJx4a65c_add_72be8_15 rfl ?_
      refine gI_iload_n hB 3 dJx4a65c_add_72be8_16 rfl ?_
      refine gI_iconst (v := nI 1) hB dJx4a65c_add_72be8_17 (by decide) ?_
      refine gI_iaddN hB dJx4a65c_add_72be8_18 ?_
      refine gC_put hB 2 tyJx4a65c tyJx4a65c_ok nmJx4a65c hl (C := RJx4a65c) (T := TJx4a65c) (N := 3) rfl (by decide +kernel) (by decide) (by decide +kernel) (fun _ h9 => h9) rfl rfl rfl (Nat.le_of_ble_eq_true rfl) dJx4a65c_add_72be8_19 (fun h Nl hK => ?_)
      have hA := hK _ _ hA (gat_ne hA hl rfl)
      have Hq2 := hK _ _ Hq2 (gat_ne Hq2 hl rfl)
      have hel := fun i hi y hy => gOb.stO hl Nl hK (hel i hi y hy)
      have ho := gOb.stO hl Nl hK ho
      have hO : ∀ q e, gat h_0 q e → FR q e → gat h q e := fun q e z9 w9 => hK q e (hO q e z9 w9) (on_l q e z9 w9)
      have hI : ∀ q, q ∈ h_0.1 → q ∈ h.1 := fun q z9 => gSt.dom hK Nl (hI q z9)
      replace hl : gat h l (.inr (2, [.int md, .ref q2, .int (nI (n + 1))])) := Nl
      refine gI_vret hB hE dJx4a65c_add_72be8_22 ?_
      exact ⟨q2, _, _, rfl, hl, Hq2, fun i hi => (up_ne (by omega)).trans (hg_q2 i hi), up_at, fun i h1 h2 => absurd h2 (by omega), fun q9 e9 z9 w9 => hO q9 e9 z9 (by rw [eFR]; exact w9), by omega, (gat_ne Hq2 hl rfl), Or.inr ⟨rfl, nw_q2, rfl, by omega, by omega⟩⟩

