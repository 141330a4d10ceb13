theorem gRow.stO {G : gG} {h h' : gH} {a ci A cap : Nat} {g : Nat → Option Nat} {fs : List Value} (ha : gat h a (.inr (ci, fs))) (hK : gSt h h' a) (r : gRow G h A cap g) : gRow G h' A cap g := by
  rcases r with r | ⟨h0, hA⟩
  · exact Or.inl r
  · exact Or.inr ⟨h0, hK _ _ hA (gat_ne hA ha rfl)⟩
theorem gRow.sa {G : gG} {h h' : gH} {A cap : Nat} {g : Nat → Option Nat} (hK : gSa h h') (r : gRow G h A cap g) : gRow G h' A cap g := by
  rcases r with r | ⟨h0, hA⟩
  · exact Or.inl r
  · exact Or.inr ⟨h0, hK _ _ hA⟩

set_option maxRecDepth 100000 in
set_option maxHeartbeats 4000000 in
theorem j_add1 (G : gG) (h_0 : gH) (l A n cap e : Nat) (md : Int32) (g : Nat → Option Nat) (hl : gat h_0 l (.inr (2, [.int md, .ref A, .int (nI n)]))) (hr : gRow G h_0 A cap g) (hel : ∀ i, i < n → ∀ y, g i = some y → gOb h_0 y) (ho : gOb h_0 e) (hn : n ≤ cap) (hn3 : n ≤ 300) (hc : cap < 1000) : gMet yJx4a65c_add_9ea2d wsJx4a65c_add_9ea2d (gRm 6 1 (gCap cap)) G h_0 [.ref l, .ref e] (pAdd G h_0 l A n cap (md + nI 1) g e n (some (.int (nI 1)))) := by
  refine gMet_of (maxL := 2) (ret := (some .boolean)) (by decide) rfl (Nat.le_of_ble_eq_true rfl) ?_
  intro X hG hnL hB hE
  subst hG
  suffices go : ∀ h : gH, h = h_0 → gW X h 0 0 0 [(0, .ref l), (1, .ref e)] [] from go h_0 rfl
  intro h eh
  rw [← eh] at hl hr hel ho
  obtain ⟨FR, eFR⟩ : ∃ FR : Nat → va_E → Prop, FR = fun (q : Nat) (_ : va_E) => q ≠ l ∧ (q = A → n = cap) := ⟨_, rfl⟩
  have hO : ∀ q e, gat h_0 q e → FR q e → gat h q e := fun q e z9 _ => by rw [eh]; exact z9
  have hI : ∀ q, q ∈ h_0.1 → q ∈ h.1 := fun q z9 => by rw [eh]; exact z9
  have on_l : ∀ q e, gat h_0 q e → FR q e → q ≠ l := by intros; rename_i w9; rw [eFR] at w9; exact w9.1
  have on_A : n < cap → ∀ q e, gat h_0 q e → FR q e → q ≠ A := by intros; rename_i w9; rw [eFR] at w9; rename_i c9 _ _ _; intro y9; have := w9.2 y9; omega
  refine gI_aload_n hB 0 dJx4a65c_add_9ea2d_0 rfl ?_
  refine gI_dup hB dJx4a65c_add_9ea2d_1 rfl ?_
  refine gI_get (v := .int md) hB 0 hl (C := RJx4a65c) (T := TJx4a65c) (N := 3) rfl (by decide +kernel) (by decide) (by decide +kernel) (u_same (hB.1.2.2.2.2 _ (show Cond.sameField "java/util/ArrayList" "java/util/AbstractList" "modCount" "I" ∈ _ by decide +kernel))) rfl dJx4a65c_add_9ea2d_2 ?_
  refine gI_iconst (v := nI 1) hB dJx4a65c_add_9ea2d_5 (by decide) ?_
  refine gI_iadd hB dJx4a65c_add_9ea2d_6 ?_
  refine gC_put hB 0 tyJx4a65c tyJx4a65c_ok nmJx4a65c hl (C := RJx4a65c) (T := TJx4a65c) (N := 3) rfl (by decide +kernel) (by decide) (by decide +kernel) (u_same (hB.1.2.2.2.2 _ (show Cond.sameField "java/util/ArrayList" "java/util/AbstractList" "modCount" "I" ∈ _ by decide +kernel))) rfl rfl rfl (Nat.le_of_ble_eq_true rfl) dJx4a65c_add_9ea2d_7 (fun h Nl hK => ?_)
  have hel := fun i hi y hy => gOb.stO hl Nl hK (hel i hi y hy)
  have ho := gOb.stO hl Nl hK ho
  have hr := gRow.stO hl hK hr
  have hO : ∀ q e, gat h_0 q e → FR q e → gat h q e := fun q e z9 w9 => hK q e (hO q e z9 w9) (on_l q e z9 w9)
  have hI : ∀ q, q ∈ h_0.1 → q ∈ h.1 := fun q z9 => gSt.dom hK Nl (hI q z9)
  replace hl : gat h l (.inr (2, [.int (md + (nI 1)), .ref A, .int (nI n)])) := Nl
  refine gI_aload_n hB 0 dJx4a65c_add_9ea2d_10 rfl ?_
  refine gI_aload_n hB 1 dJx4a65c_add_9ea2d_11 rfl ?_
  refine gI_aload_n hB 0 dJx4a65c_add_9ea2d_12 rfl ?_
  refine gI_get (v := .ref A) hB 1 hl (C := RJx4a65c) (T := TJx4a65c) (N := 3) rfl (by decide +kernel) (by decide) (by decide +kernel) (fun _ h9 => h9) rfl dJx4a65c_add_9ea2d_13 ?_
  refine gI_aload_n hB 0 dJx4a65c_add_9ea2d_16 rfl ?_
  refine gI_get (v := .int (nI n)) hB 2 hl (C := RJx4a65c) (T := TJx4a65c) (N := 3) rfl (by decide +kernel) (by decide) (by decide +kernel) (fun _ h9 => h9) rfl dJx4a65c_add_9ea2d_17 ?_
  refine gI_callV (n9 := 3) (As := [.ref e, .ref A, .int (nI n)]) (rest := []) hB (j_add3 X.2.1 h l A n cap e (md + (nI 1)) g hl hr hel ho hn hn3 hc) (gCW.of ggJx4a65c_add_9ea2d_Jx4a65c_add_72be8 rfl ⟨by decide, by decide, by decide +kernel⟩ ⟨Nat.le_of_ble_eq_true rfl, Nat.le_of_ble_eq_true rfl⟩) (by decide +kernel) (by decide +kernel) (by decide +kernel) (by decide +kernel) hl (C := RJx4a65c) (T := TJx4a65c) (N := 3) rfl rfl rfl (Nat.le_of_ble_eq_true rfl) (by dsimp only [gRm]; omega) (by dsimp only [gRm]; omega) dJx4a65c_add_9ea2d_20 (fun v9 h k9 n9 hp => ?_) (fun E9 h1 k1 n1 hp => by obtain ⟨a9, c9, g9, e9, -⟩ := hp; cases e9)
  obtain ⟨A1, cap1, g1, e9, Hl1, HA1, hg1, hg2, hg3, hK, hn1, hA1l, hcost⟩ := hp
  cases e9
  refine gI_iconst (v := nI 1) hB dJx4a65c_add_9ea2d_23 (by decide) ?_
  refine gI_zret hB hE (by decide) dJx4a65c_add_9ea2d_24 ?_
  refine ⟨A1, cap1, g1, rfl, Hl1, HA1, hg1, hg2, hg3, fun q9 e9 z9 w9 => hK q9 e9 (hO q9 e9 z9 (by rw [eFR]; exact w9)) w9, hn1, hA1l, ?_⟩
  rcases hcost with ⟨c1, c2, c3, c4, c5⟩ | ⟨c1, c2, c3, c4, c5⟩
  · exact Or.inl ⟨c1, c2, c3, by omega, by omega⟩
  · exact Or.inr ⟨c1, fun z9 => c2 (hI _ z9), c3, by omega, by omega⟩

set_option maxRecDepth 100000 in
set_option maxHeartbeats 4000000 in
theorem j_range (G : gG) (h : gH) (l A n cap : Nat) (md : Int32) (g : Nat → Option Nat) (hl : gat h l (.inr (2, [.int md, .ref A, .int (nI n)]))) (i : Nat) (hi : i ≤ n) (hn : n < 1000) : gMet yJx4a65c_rangeCheckForAdd_d00df wsJx4a65c_rangeCheckForAdd_d00df (gRm 1 0 0) G h [.ref l, .int (nI i)] (gRet h none) := by
  refine gMet_of (maxL := 2) (ret := none) (by decide) rfl (Nat.le_of_ble_eq_true rfl) ?_
  intro X hG hnL hB hE
  subst hG
  change gW X h 0 0 0 [(0, .ref l), (1, .int (nI i))] []
  refine gI_iload_n hB 1 dJx4a65c_rangeCheckForAdd_d00df_0 rfl ?_
  refine gI_aload_n hB 0 dJx4a65c_rangeCheckForAdd_d00df_1 rfl ?_
  refine gI_get (v := .int (nI n)) hB 2 hl (C := RJx4a65c) (T := TJx4a65c) (N := 3) rfl (by decide +kernel) (by decide) (by decide +kernel) (fun _ h9 => h9) rfl dJx4a65c_rangeCheckForAdd_d00df_2 ?_
  refine gI_icmp_gt hB 12 dJx4a65c_rangeCheckForAdd_d00df_5 (by decide) (fun z => absurd z (fun y9 => absurd ((nI_ltI (by omega) (by omega)).mp y9) (by omega))) (fun _ => ?_)
  refine gI_iload_n hB 1 dJx4a65c_rangeCheckForAdd_d00df_8 rfl ?_
  refine gI_if_ge hB 25 dJx4a65c_rangeCheckForAdd_d00df_9 (by decide) (fun _ => ?_) (fun z => absurd (nI_le (a := 0) (b := i) (by omega) (by omega)) z)
  refine gI_vret hB hE dJx4a65c_rangeCheckForAdd_d00df_25 ?_
  exact gRet.rfl'

set_option maxRecDepth 100000 in
set_option maxHeartbeats 4000000 in
theorem j_addAt (G : gG) (h_0 : gH) (l A n cap e j : Nat) (md : Int32) (g : Nat → Option Nat) (hl : gat h_0 l (.inr (2, [.int md, .ref A, .int (nI n)]))) (hr : gRow G h_0 A cap g) (hel : ∀ i, i < n → ∀ y, g i = some y → gOb h_0 y) (ho : gOb h_0 e) (hn : n ≤ cap) (hn3 : n ≤ 300) (hc : cap < 1000) (hj : j ≤ n) : gMet yJx4a65c_add_7a177 wsJx4a65c_add_7a177 (gRm 5 1 (gCap cap)) G h_0 [.ref l, .int (nI j), .ref e] (pAdd G h_0 l A n cap (md + nI 1) g e j none) := by
  refine gMet_of (maxL := 5) (ret := none) (by decide) rfl (Nat.le_of_ble_eq_true rfl) ?_
  intro X hG hnL hB hE
  subst hG
  suffices go : ∀ h : gH, h = h_0 → gW X h 0 0 0 [(0, .ref l), (1, .int (nI j)), (2, .ref e)] [] from go h_0 rfl
  intro h eh
  rw [← eh] at hl hr hel ho
  obtain ⟨FR, eFR⟩ : ∃ FR : Nat → va_E → Prop, FR = fun (q : Nat) (_ : va_E) => q ≠ l ∧ (q = A → n = cap) := ⟨_, rfl⟩
  have hO : ∀ q e, gat h_0 q e → FR q e → gat h q e := fun q e z9 _ => by rw [eh]; exact z9
  have hI : ∀ q, q ∈ h_0.1 → q ∈ h.1 := fun q z9 => by rw [eh]; exact z9
  have on_l : ∀ q e, gat h_0 q e → FR q e → q ≠ l := by intros; rename_i w9; rw [eFR] at w9; exact w9.1
  have on_A : n < cap → ∀ q e, gat h_0 q e → FR q e → q ≠ A := by intros; rename_i w9; rw [eFR] at w9; rename_i c9 _ _ _; intro y9; have := w9.2 y9; omega
  rcases Nat.lt_or_ge n cap with hlt | hge
  · skip
    have hA : gat h A (.inl (gO X.2.1, cap, .inr (.inr (.inr (.inr g))))) := by rcases hr with ⟨h0, -⟩ | ⟨-, hA⟩; exact absurd h0 (by omega); exact hA
    refine gI_aload_n hB 0 dJx4a65c_add_7a177_0 rfl ?_
    refine gI_iload_n hB 1 dJx4a65c_add_7a177_1 rfl ?_
    refine gI_pureV (n9 := 1) (As := [.int (nI j)]) (rest := []) hB (j_range X.2.1 h l A n 0 md g hl j (by omega) (by omega)) (gCW.of ggJx4a65c_add_7a177_Jx4a65c_rangeCheckForAdd_d00df rfl ⟨by decide, by decide, by decide +kernel⟩ ⟨Nat.le_of_ble_eq_true rfl, Nat.le_of_ble_eq_true rfl⟩) (by decide +kernel) (by decide +kernel) (by decide +kernel) (by decide +kernel) hl (C := RJx4a65c) (T := TJx4a65c) (N := 3) rfl rfl rfl (Nat.le_of_ble_eq_true rfl) (by dsimp only [gRm]; omega) (by dsimp only [gRm]; omega) dJx4a65c_add_7a177_2 ?_
    refine gI_aload_n hB 0 dJx4a65c_add_7a177_5 rfl ?_
    refine gI_dup hB dJx4a65c_add_7a177_6 rfl ?_
    refine gI_get (v := .int md) hB 0 hl (C := RJx4a65c) (T := TJx4a65c) (N := 3) rfl (by decide +kernel) (by decide) (by decide +kernel) (u_same (hB.1.2.2.2.2 _ (show Cond.sameField "java/util/ArrayList" "java/util/AbstractList" "modCount" "I" ∈ _ by decide +kernel))) rfl dJx4a65c_add_7a177_7 ?_
    refine gI_iconst (v := nI 1) hB dJx4a65c_add_7a177_10 (by decide) ?_
    refine gI_iadd hB dJx4a65c_add_7a177_11 ?_
    refine gC_put hB 0 tyJx4a65c tyJx4a65c_ok nmJx4a65c hl (C := RJx4a65c) (T := TJx4a65c) (N := 3) rfl (by decide +kernel) (by decide) (by decide +kernel) (u_same (hB.1.2.2.2.2 _ (show Cond.sameField "java/util/ArrayList" "java/util/AbstractList" "modCount" "I" ∈ _ by decide +kernel))) rfl rfl rfl (Nat.le_of_ble_eq_true rfl) dJx4a65c_add_7a177_12 (fun h Nl hK => ?_)
    have hA := hK _ _ hA (gat_ne hA hl rfl)
    have hel := fun i hi y hy => gOb.stO hl Nl hK (hel i hi y hy)
    have ho := gOb.stO hl Nl hK ho
    have hO : ∀ q e, gat h_0 q e → FR q e → gat h q e := fun q e z9 w9 => hK q e (hO q e z9 w9) (on_l q e z9 w9)
    have hI : ∀ q, q ∈ h_0.1 → q ∈ h.1 := fun q z9 => gSt.dom hK Nl (hI q z9)
    replace hl : gat h l (.inr (2, [.int (md + (nI 1)), .ref A, .int (nI n)])) := Nl
    refine gI_aload_n hB 0 dJx4a65c_add_7a177_15 rfl ?_
    refine gI_get (v := .int (nI n)) hB 2 hl (C := RJx4a65c) (T := TJx4a65c) (N := 3) rfl (by decide +kernel) (by decide) (by decide +kernel) (fun _ h9 => h9) rfl dJx4a65c_add_7a177_16 ?_
    refine gI_dup hB dJx4a65c_add_7a177_19 rfl ?_
    refine gI_istore_n hB ([(3, .int (nI n)), (0, .ref l), (1, .int (nI j)), (2, .ref e)]) hnL dJx4a65c_add_7a177_20 (by decide) rfl ?_
    refine gI_aload_n hB 1 dJx4a65c_add_7a177_21 rfl ?_
    refine gI_get (v := .ref A) hB 1 hl (C := RJx4a65c) (T := TJx4a65c) (N := 3) rfl (by decide +kernel) (by decide) (by decide +kernel) (fun _ h9 => h9) rfl dJx4a65c_add_7a177_22 ?_
    refine gI_dup hB dJx4a65c_add_7a177_25 rfl ?_
    refine gI_astore hB ([(4, .ref A), (3, .int (nI n)), (0, .ref l), (1, .int (nI j)), (2, .ref e)]) hnL dJx4a65c_add_7a177_26 (by decide) rfl ?_
    refine gI_alenO hB hA dJx4a65c_add_7a177_28 ?_
    refine gI_icmp_ne hB 38 dJx4a65c_add_7a177_29 (by decide) (fun _ => ?_) (fun z => absurd ((nI_eq (by omega) (by omega)).mp z) (by omega))
    refine gI_aload hB 0 dJx4a65c_add_7a177_38 rfl ?_
    refine gI_iload_n hB 3 dJx4a65c_add_7a177_40 rfl ?_
    refine gI_aload hB 0 dJx4a65c_add_7a177_41 rfl ?_
    refine gI_iload_n hB 3 dJx4a65c_add_7a177_43 rfl ?_
    refine gI_iconst (v := nI 1) hB dJx4a65c_add_7a177_44 (by decide) ?_
    refine gI_iaddN hB dJx4a65c_add_7a177_45 ?_
    refine gI_iload_n hB 1 dJx4a65c_add_7a177_46 rfl ?_
    refine gI_iload_n hB 3 dJx4a65c_add_7a177_47 rfl ?_
    refine gI_isubN hB (by omega) dJx4a65c_add_7a177_48 ?_
    refine gC_copyO hB j (j + 1) (n - j) rfl rfl rfl (by decide +kernel) (by decide +kernel) (by decide +kernel) (by decide +kernel) hA hA (by omega) (by omega) (by omega) (by omega) (fun i9 hi9 y9 hy9 => hel (_ + i9) (by omega) y9 hy9) (Nat.le_of_ble_eq_true rfl) (Nat.le_of_ble_eq_true rfl) dJx4a65c_add_7a177_49 (fun h NA hK => ?_)
    have hl := hK _ _ hl (gat_ne hl hA rfl)
    have hel := fun i hi y hy => gOb.stA hA hK (hel i hi y hy)
    have ho := gOb.stA hA hK ho
    have hO : ∀ q e, gat h_0 q e → FR q e → gat h q e := fun q e z9 w9 => hK q e (hO q e z9 w9) ((on_A (by omega)) q e z9 w9)
    have hI : ∀ q, q ∈ h_0.1 → q ∈ h.1 := fun q z9 => gSt.dom hK NA (hI q z9)
    replace hA := NA
    refine gI_aload hB 0 dJx4a65c_add_7a177_52 rfl ?_
    refine gI_iload_n hB 3 dJx4a65c_add_7a177_54 rfl ?_
    refine gI_aload_n hB 4 dJx4a65c_add_7a177_55 rfl ?_
    refine gC_aast hB j hA ho rfl (by omega) (by omega) dJx4a65c_add_7a177_56 (fun h NA hK => ?_)
    have hl := hK _ _ hl (gat_ne hl hA rfl)
    have ho := gOb.stA hA hK ho
    have hO : ∀ q e, gat h_0 q e → FR q e → gat h q e := fun q e z9 w9 => hK q e (hO q e z9 w9) ((on_A (by omega)) q e z9 w9)
    have hI : ∀ q, q ∈ h_0.1 → q ∈ h.1 := fun q z9 => gSt.dom hK NA (hI q z9)
    replace hA := NA
    refine gI_aload_n hB 2 dJx4a65c_add_7a177_57 rfl ?_
    refine gI_iload_n hB 1 dJx4a65c_add_7a177_58 rfl ?_
    refine gI_iconst (v := nI 1) hB dJx4a65c_add_7a177_59 (by decide) ?_
    refine gI_iaddN hB dJx4a65c_add_7a177_60 ?_
    refine gC_put hB 2 tyJx4a65c tyJx4a65c_ok nmJx4a65c hl (C := RJx4a65c) (T := TJx4a65c) (N := 3) rfl (by decide +kernel) (by decide) (by decide +kernel) (fun _ h9 => h9) rfl rfl rfl (Nat.le_of_ble_eq_true rfl) dJx4a65c_add_7a177_61 (fun h Nl hK => ?_)
    have hA := hK _ _ hA (gat_ne hA hl rfl)
    have ho := gOb.stO hl Nl hK ho
    have hO : ∀ q e, gat h_0 q e → FR q e → gat h q e := fun q e z9 w9 => hK q e (hO q e z9 w9) (on_l q e z9 w9)
    have hI : ∀ q, q ∈ h_0.1 → q ∈ h.1 := fun q z9 => gSt.dom hK Nl (hI q z9)
    replace hl : gat h l (.inr (2, [.int (md + (nI 1)), .ref A, .int (nI (n + 1))])) := Nl
    refine gI_vret hB hE dJx4a65c_add_7a177_64 ?_
    exact ⟨A, _, _, rfl, hl, hA, fun i9 hi9 => ((up_ne (by omega)).trans (pk_cpy_out (by omega))), up_at, fun i9 h1 h2 => ((up_ne (by omega)).trans ((pk_cpy_in (by omega) (by omega)).trans (congrArg _ (show j + (i9 + 1 - (j + 1)) = i9 by omega)))), fun q9 e9 z9 w9 => hO q9 e9 z9 (by rw [eFR]; exact w9), by omega, (gat_ne hA hl rfl), Or.inl ⟨by omega, rfl, rfl, by omega, by omega⟩⟩
  · skip
    have en : n = cap := by omega
    subst en
    rcases hr with ⟨h0, hA0⟩ | ⟨h0, hA⟩
    · skip
      subst h0 hA0
      obtain rfl : j = 0 := by omega
      refine gI_aload_n hB 0 dJx4a65c_add_7a177_0 rfl ?_
      refine gI_iload_n hB 1 dJx4a65c_add_7a177_1 rfl ?_
      refine gI_pureV (n9 := 1) (As := [.int (nI 0)]) (rest := []) hB (j_range X.2.1 h l (gE0 X.2.1) 0 0 md g hl 0 (by omega) (by omega)) (gCW.of ggJx4a65c_add_7a177_Jx4a65c_rangeCheckForAdd_d00df rfl ⟨by decide, by decide, by decide +kernel⟩ ⟨Nat.le_of_ble_eq_true rfl, Nat.le_of_ble_eq_true rfl⟩) (by decide +kernel) (by decide +kernel) (by decide +kernel) (by decide +kernel) hl (C := RJx4a65c) (T := TJx4a65c) (N := 3) rfl rfl rfl (Nat.le_of_ble_eq_true rfl) (by dsimp only [gRm]; omega) (by dsimp only [gRm]; omega) dJx4a65c_add_7a177_2 ?_
      refine gI_aload_n hB 0 dJx4a65c_add_7a177_5 rfl ?_
      refine gI_dup hB dJx4a65c_add_7a177_6 rfl ?_
      refine gI_get (v := .int md) hB 0 hl (C := RJx4a65c) (T := TJx4a65c) (N := 3) rfl (by decide +kernel) (by decide) (by decide +kernel) (u_same (hB.1.2.2.2.2 _ (show Cond.sameField "java/util/ArrayList" "java/util/AbstractList" "modCount" "I" ∈ _ by decide +kernel))) rfl dJx4a65c_add_7a177_7 ?_
      refine gI_iconst (v := nI 1) hB dJx4a65c_add_7a177_10 (by decide) ?_
      refine gI_iadd hB dJx4a65c_add_7a177_11 ?_
      refine gC_put hB 0 tyJx4a65c tyJx4a65c_ok nmJx4a65c hl (C := RJx4a65c) (T := TJx4a65c) (N := 3) rfl (by decide +kernel) (by decide) (by decide +kernel) (u_same (hB.1.2.2.2.2 _ (show Cond.sameField "java/util/ArrayList" "java/util/AbstractList" "modCount" "I" ∈ _ by decide +kernel))) rfl rfl rfl (Nat.le_of_ble_eq_true rfl) dJx4a65c_add_7a177_12 (fun h Nl hK => ?_)
      have hel := fun i hi y hy => gOb.stO hl Nl hK (hel i hi y hy)
      have ho := gOb.stO hl Nl hK ho
      have hO : ∀ q e, gat h_0 q e → FR q e → gat h q e := fun q e z9 w9 => hK q e (hO q e z9 w9) (on_l q e z9 w9)
      have hI : ∀ q, q ∈ h_0.1 → q ∈ h.1 := fun q z9 => gSt.dom hK Nl (hI q z9)
      replace hl : gat h l (.inr (2, [.int (md + (nI 1)), .ref (gE0 X.2.1), .int (nI 0)])) := Nl
      refine gI_aload_n hB 0 dJx4a65c_add_7a177_15 rfl ?_
      refine gI_get (v := .int (nI 0)) hB 2 hl (C := RJx4a65c) (T := TJx4a65c) (N := 3) rfl (by decide +kernel) (by decide) (by decide +kernel) (fun _ h9 => h9) rfl dJx4a65c_add_7a177_16 ?_
      refine gI_dup hB dJx4a65c_add_7a177_19 rfl ?_
      refine gI_istore_n hB ([(3, .int (nI 0)), (0, .ref l), (1, .int (nI 0)), (2, .ref e)]) hnL dJx4a65c_add_7a177_20 (by decide) rfl ?_
      refine gI_aload_n hB 1 dJx4a65c_add_7a177_21 rfl ?_
      refine gI_get (v := .ref (gE0 X.2.1)) hB 1 hl (C := RJx4a65c) (T := TJx4a65c) (N := 3) rfl (by decide +kernel) (by decide) (by decide +kernel) (fun _ h9 => h9) rfl dJx4a65c_add_7a177_22 ?_
      refine gI_dup hB dJx4a65c_add_7a177_25 rfl ?_
      refine gI_astore hB ([(4, .ref (gE0 X.2.1)), (3, .int (nI 0)), (0, .ref l), (1, .int (nI 0)), (2, .ref e)]) hnL dJx4a65c_add_7a177_26 (by decide) rfl ?_
      refine gI_alenE hB dJx4a65c_add_7a177_28 ?_
      refine gI_icmp_ne hB 38 dJx4a65c_add_7a177_29 (by decide) (fun z => absurd rfl z) (fun _ => ?_)
      refine gI_aload_n hB 2 dJx4a65c_add_7a177_32 rfl ?_
      refine gI_callV (n9 := 0) (As := []) (rest := []) hB (j_grow0 X.2.1 h l (gE0 X.2.1) 0 (md + (nI 1)) g hl (Or.inl ⟨rfl, rfl⟩) hel (by omega)) (gCW.of ggJx4a65c_add_7a177_Jx4a65c_grow_d5877 rfl ⟨by decide, by decide, by decide +kernel⟩ ⟨Nat.le_of_ble_eq_true rfl, Nat.le_of_ble_eq_true rfl⟩) (by decide +kernel) (by decide +kernel) (by decide +kernel) (by decide +kernel) hl (C := RJx4a65c) (T := TJx4a65c) (N := 3) rfl rfl rfl (Nat.le_of_ble_eq_true rfl) (by dsimp only [gRm]; omega) (by dsimp only [gRm]; omega) dJx4a65c_add_7a177_33 (fun v9 h k9 n9 hp => ?_) (fun E9 h1 k1 n1 hp => by obtain ⟨q9, g9, e9, -⟩ := hp; cases e9)
      obtain ⟨q1, g_q1, e9, hq1, Nl, Hq1, hg_q1, hK, rfl, rfl⟩ := hp
      cases e9
      have n_q1_l : l ≠ q1 := fun z9 => hq1 (z9 ▸ hl.1)
      have on_q1 : ∀ q9 e9, gat h_0 q9 e9 → FR q9 e9 → q9 ≠ q1 := fun q9 e9 z9 w9 y9 => hq1 (y9 ▸ (hO q9 e9 z9 w9).1)
      have nw_q1 : q1 ∉ h_0.1 := fun z9 => hq1 (hI q1 z9)
      have hel := fun i hi y hy => gOb.stO hl Nl hK (hel i hi y hy)
      have ho := gOb.stO hl Nl hK ho
      have hO : ∀ q e, gat h_0 q e → FR q e → gat h q e := fun q e z9 w9 => hK q e (hO q e z9 w9) (on_l q e z9 w9)
      have hI : ∀ q, q ∈ h_0.1 → q ∈ h.1 := fun q z9 => gSt.dom hK Nl (hI q z9)
      replace hl := Nl
      have hel := fun i hi y hy => hel i hi y ((hg_q1 i hi).symm.trans hy)
      have hcq := gCap_le (n := 0) (by omega)
      refine gI_astore hB ([(4, .ref q1), (3, .int (nI 0)), (0, .ref l), (1, .int (nI 0)), (2, .ref e)]) hnL dJx4a65c_add_7a177_36 (by decide) rfl ?_
      refine gI_aload hB 0 dJx4a65c_add_7a177_38 rfl ?_
      refine gI_iload_n hB 3 dJx4a65c_add_7a177_40 rfl ?_
      refine gI_aload hB 0 dJx4a65c_add_7a177_41 rfl ?_
      refine gI_iload_n hB 3 dJx4a65c_add_7a177_43 rfl ?_
      refine gI_iconst (v := nI 1) hB dJx4a65c_add_7a177_44 (by decide) ?_
      refine gI_iaddN hB dJx4a65c_add_7a177_45 ?_
      refine gI_iload_n hB 1 dJx4a65c_add_7a177_46 rfl ?_
      refine gI_iload_n hB 3 dJx4a65c_add_7a177_47 rfl ?_
      refine gI_isubN hB (by omega) dJx4a65c_add_7a177_48 ?_
      refine gC_copyO hB 0 (0 + 1) (0 - 0) rfl rfl rfl (by decide +kernel) (by decide +kernel) (by decide +kernel) (by decide +kernel) Hq1 Hq1 (by omega) (by omega) (by omega) (by omega) (fun i9 hi9 y9 hy9 => hel (_ + i9) (by omega) y9 hy9) (Nat.le_of_ble_eq_true rfl) (Nat.le_of_ble_eq_true rfl) dJx4a65c_add_7a177_49 (fun h Nq1 hK => ?_)
      have hl := hK _ _ hl (gat_ne hl Hq1 rfl)
      have hel := fun i hi y hy => gOb.stA Hq1 hK (hel i hi y hy)
      have ho := gOb.stA Hq1 hK ho
      have hO : ∀ q e, gat h_0 q e → FR q e → gat h q e := fun q e z9 w9 => hK q e (hO q e z9 w9) (on_q1 q e z9 w9)
      have hI : ∀ q, q ∈ h_0.1 → q ∈ h.1 := fun q z9 => gSt.dom hK Nq1 (hI q z9)
      replace Hq1 := Nq1
      refine gI_aload hB 0 dJx4a65c_add_7a177_52 rfl ?_
      refine gI_iload_n hB 3 dJx4a65c_add_7a177_54 rfl ?_
      refine gI_aload_n hB 4 dJx4a65c_add_7a177_55 rfl ?_
      refine gC_aast hB 0 Hq1 ho rfl (by omega) (by omega) dJx4a65c_add_7a177_56 (fun h Nq1 hK => ?_)
      have hl := hK _ _ hl (gat_ne hl Hq1 rfl)
      have ho := gOb.stA Hq1 hK ho
      have hO : ∀ q e, gat h_0 q e → FR q e → gat h q e := fun q e z9 w9 => hK q e (hO q e z9 w9) (on_q1 q e z9 w9)
      have hI : ∀ q, q ∈ h_0.1 → q ∈ h.1 := fun q z9 => gSt.dom hK Nq1 (hI q z9)
      replace Hq1 := Nq1
      refine gI_aload_n hB 2 dJx4a65c_add_7a177_57 rfl ?_
      refine gI_iload_n hB 1 dJx4a65c_add_7a177_58 rfl ?_
      refine gI_iconst (v := nI 1) hB dJx4a65c_add_7a177_59 (by decide) ?_
      refine gI_iaddN hB dJx4a65c_add_7a177_60 ?_
      refine gC_put hB 2 tyJx4a65c tyJx4a65c_ok nmJx4a65c hl (C := RJx4a65c) (T := TJx4a65c) (N := 3) rfl (by decide +kernel) (by decide) (by decide +kernel) (fun _ h9 => h9) rfl rfl rfl (Nat.le_of_ble_eq_true rfl) dJx4a65c_add_7a177_61 (fun h Nl hK => ?_)
      have Hq1 := hK _ _ Hq1 (gat_ne Hq1 hl rfl)
      have ho := gOb.stO hl Nl hK ho
      have hO : ∀ q e, gat h_0 q e → FR q e → gat h q e := fun q e z9 w9 => hK q e (hO q e z9 w9) (on_l q e z9 w9)
      have hI : ∀ q, q ∈ h_0.1 → q ∈ h.1 := fun q z9 => gSt.dom hK Nl (hI q z9)
      replace hl : gat h l (.inr (2, [.int (md + (nI 1)), .ref q1, .int (nI (0 + 1))])) := Nl
      refine gI_vret hB hE dJx4a65c_add_7a177_64 ?_
      exact ⟨q1, _, _, rfl, hl, Hq1, fun i9 hi9 => ((up_ne (by omega)).trans (pk_cpy_out (by omega))).trans (hg_q1 i9 (by omega)), up_at, fun i9 h1 h2 => ((up_ne (by omega)).trans ((pk_cpy_in (by omega) (by omega)).trans (congrArg _ (show 0 + (i9 + 1 - (0 + 1)) = i9 by omega)))).trans (hg_q1 i9 (by omega)), fun q9 e9 z9 w9 => hO q9 e9 z9 (by rw [eFR]; exact w9), by omega, (gat_ne Hq1 hl rfl), Or.inr ⟨rfl, nw_q1, rfl, by omega, by omega⟩⟩
    · skip
      refine gI_aload_n hB 0 dJx4a65c_add_7a177_0 rfl ?_
      refine gI_iload_n hB 1 dJx4a65c_add_7a177_1 rfl ?_
      refine gI_pureV (n9 := 1) (As := [.int (nI j)]) (rest := []) hB (j_range X.2.1 h l A n 0 md g hl j (by omega) (by omega)) (gCW.of ggJx4a65c_add_7a177_Jx4a65c_rangeCheckForAdd_d00df rfl ⟨by decide, by decide, by decide +kernel⟩ ⟨Nat.le_of_ble_eq_true rfl, Nat.le_of_ble_eq_true rfl⟩) (by decide +kernel) (by decide +kernel) (by decide +kernel) (by decide +kernel) hl (C := RJx4a65c) (T := TJx4a65c) (N := 3) rfl rfl rfl (Nat.le_of_ble_eq_true rfl) (by dsimp only [gRm]; omega) (by dsimp only [gRm]; omega) dJx4a65c_add_7a177_2 ?_
      refine gI_aload_n hB 0 dJx4a65c_add_7a177_5 rfl ?_
      refine gI_dup hB dJx4a65c_add_7a177_6 rfl ?_
      refine gI_get (v := .int md) hB 0 hl (C := RJx4a65c) (T := TJx4a65c) (N := 3) rfl (by decide +kernel) (by decide) (by decide +kernel) (u_same (hB.1.2.2.2.2 _ (show Cond.sameField "java/util/ArrayList" "java/util/AbstractList" "modCount" "I" ∈ _ by decide +kernel))) rfl dJx4a65c_add_7a177_7 ?_
      refine gI_iconst (v := nI 1) hB dJx4a65c_add_7a177_10 (by decide) ?_
      refine gI_iadd hB dJx4a65c_add_7a177_11 ?_
      refine gC_put hB 0 tyJx4a65c tyJx4a65c_ok nmJx4a65c hl (C := RJx4a65c) (T := TJx4a65c) (N := 3) rfl (by decide +kernel) (by decide) (by decide +kernel) (u_same (hB.1.2.2.2.2 _ (show Cond.sameField "java/util/ArrayList" "java/util/AbstractList" "modCount" "I" ∈ _ by decide +kernel))) rfl rfl rfl (Nat.le_of_ble_eq_true rfl) dJx4a65c_add_7a177_12 (fun h Nl hK => ?_)
      have hA := hK _ _ hA (gat_ne hA hl rfl)
      have hel := fun i hi y hy => gOb.stO hl Nl hK (hel i hi y hy)
      have ho := gOb.stO hl Nl hK ho
      have hO : ∀ q e, gat h_0 q e → FR q e → gat h q e := fun q e z9 w9 => hK q e (hO q e z9 w9) (on_l q e z9 w9)
      have hI : ∀ q, q ∈ h_0.1 → q ∈ h.1 := fun q z9 => gSt.dom hK Nl (hI q z9)
      replace hl : gat h l (.inr (2, [.int (md + (nI 1)), .ref A, .int (nI n)])) := Nl
      refine gI_aload_n hB 0 dJx4a65c_add_7a177_15 rfl ?_
      refine gI_get (v := .int (nI n)) hB 2 hl (C := RJx4a65c) (T := TJx4a65c) (N := 3) rfl (by decide +kernel) (by decide) (by decide +kernel) (fun _ h9 => h9) rfl dJx4a65c_add_7a177_16 ?_
      refine gI_dup hB dJx4a65c_add_7a177_19 rfl ?_
      refine gI_istore_n hB ([(3, .int (nI n)), (0, .ref l), (1, .int (nI j)), (2, .ref e)]) hnL dJx4a65c_add_7a177_20 (by decide) rfl ?_
      refine gI_aload_n hB 1 dJx4a65c_add_7a177_21 rfl ?_
      refine gI_get (v := .ref A) hB 1 hl (C := RJx4a65c) (T := TJx4a65c) (N := 3) rfl (by decide +kernel) (by decide) (by decide +kernel) (fun _ h9 => h9) rfl dJx4a65c_add_7a177_22 ?_
      refine gI_dup hB dJx4a65c_add_7a177_25 rfl ?_
      refine gI_astore hB ([(4, .ref A), (3, .int (nI n)), (0, .ref l), (1, .int (nI j)), (2, .ref e)]) hnL dJx4a65c_add_7a177_26 (by decide) rfl ?_
      refine gI_alenO hB hA dJx4a65c_add_7a177_28 ?_
      refine gI_icmp_ne hB 38 dJx4a65c_add_7a177_29 (by decide) (fun z => absurd rfl z) (fun _ => ?_)
      refine gI_aload_n hB 2 dJx4a65c_add_7a177_32 rfl ?_
      refine gI_callV (n9 := 0) (As := []) (rest := []) hB (j_grow0 X.2.1 h l A n (md + (nI 1)) g hl (Or.inr ⟨by omega, hA⟩) hel (by omega)) (gCW.of ggJx4a65c_add_7a177_Jx4a65c_grow_d5877 rfl ⟨by decide, by decide, by decide +kernel⟩ ⟨Nat.le_of_ble_eq_true rfl, Nat.le_of_ble_eq_true rfl⟩) (by decide +kernel) (by decide +kernel) (by decide +kernel) (by decide +kernel) hl (C := RJx4a65c) (T := TJx4a65c) (N := 3) rfl rfl rfl (Nat.le_of_ble_eq_true rfl) (by dsimp only [gRm]; omega) (by dsimp only [gRm]; omega) dJx4a65c_add_7a177_33 (fun v9 h k9 n9 hp => ?_) (fun E9 h1 k1 n1 hp => by obtain ⟨q9, g9, e9, -⟩ := hp; cases e9)
      obtain ⟨q2, g_q2, e9, hq2, Nl, Hq2, hg_q2, hK, rfl, rfl⟩ := hp
      cases e9
      have n_q2_l : l ≠ q2 := fun z9 => hq2 (z9 ▸ hl.1)
      have n_q2_A : A ≠ q2 := fun z9 => hq2 (z9 ▸ hA.1)
      have on_q2 : ∀ q9 e9, gat h_0 q9 e9 → FR q9 e9 → q9 ≠ q2 := fun q9 e9 z9 w9 y9 => hq2 (y9 ▸ (hO q9 e9 z9 w9).1)
      have nw_q2 : q2 ∉ h_0.1 := fun z9 => hq2 (hI q2 z9)
      have hA := hK _ _ hA (gat_ne hA hl rfl)
      have hel := fun i hi y hy => gOb.stO hl Nl hK (hel i hi y hy)
      have ho := gOb.stO hl Nl hK ho
      have hO : ∀ q e, gat h_0 q e → FR q e → gat h q e := fun q e z9 w9 => hK q e (hO q e z9 w9) (on_l q e z9 w9)
      have hI : ∀ q, q ∈ h_0.1 → q ∈ h.1 := fun q z9 => gSt.dom hK Nl (hI q z9)
      replace hl := Nl
      have hel := fun i hi y hy => hel i hi y ((hg_q2 i hi).symm.trans hy)
      have hcq := gCap_le (n := n) (by omega)
      refine gI_astore hB ([(4, .ref q2), (3, .int (nI n)), (0, .ref l), (1, .int (nI j)), (2, .ref e)]) hnL dJx4a65c_add_7a177_36 (by decide) rfl ?_
      refine gI_aload hB 0 dJx4a65c_add_7a177_38 rfl ?_
      refine gI_iload_n hB 3 dJx4a65c_add_7a177_40 rfl ?_
      refine gI_aload hB 0 dJx4a65c_add_7a177_41 rfl ?_
      refine gI_iload_n hB 3 dJx4a65c_add_7a177_43 rfl ?_
      refine gI_iconst (v := nI 1) hB dJx4a65c_add_7a177_44 (by decide) ?_
      refine gI_iaddN hB dJx4a65c_add_7a177_45 ?_
      refine gI_iload_n hB 1 dJx4a65c_add_7a177_46 rfl ?_
      refine gI_iload_n hB 3 dJx4a65c_add_7a177_47 rfl ?_
      refine gI_isubN hB (by omega) dJx4a65c_add_7a177_48 ?_
      refine gC_copyO hB j (j + 1) (n - j) rfl rfl rfl (by decide +kernel) (by decide +kernel) (by decide +kernel) (by decide +kernel) Hq2 Hq2 (by omega) (by omega) (by omega) (by omega) (fun i9 hi9 y9 hy9 => hel (_ + i9) (by omega) y9 hy9) (Nat.le_of_ble_eq_true rfl) (Nat.le_of_ble_eq_true rfl) dJx4a65c_add_7a177_49 (fun h Nq2 hK => ?_)
      have hl := hK _ _ hl (gat_ne hl Hq2 rfl)
      have hA := hK _ _ hA n_q2_A
      have hel := fun i hi y hy => gOb.stA Hq2 hK (hel i hi y hy)
      have ho := gOb.stA Hq2 hK ho
      have hO : ∀ q e, gat h_0 q e → FR q e → gat h q e := fun q e z9 w9 => hK q e (hO q e z9 w9) (on_q2 q e z9 w9)
      have hI : ∀ q, q ∈ h_0.1 → q ∈ h.1 := fun q z9 => gSt.dom hK Nq2 (hI q z9)
      replace Hq2 := Nq2
      refine gI_aload hB 0 dJx4a65c_add_7a177_52 rfl ?_
      refine gI_iload_n hB 3 dJx4a65c_add_7a177_54 rfl ?_
      refine gI_aload_n hB 4 dJx4a65c_add_7a177_55 rfl ?_
      refine gC_aast hB j Hq2 ho rfl (by omega) (by omega) dJx4a65c_add_7a177_56 (fun h Nq2 hK => ?_)
      have hl := hK _ _ hl (gat_ne hl Hq2 rfl)
      have hA := hK _ _ hA n_q2_A
      have ho := gOb.stA Hq2 hK ho
      have hO : ∀ q e, gat h_0 q e → FR q e → gat h q e := fun q e z9 w9 => hK q e (hO q e z9 w9) (on_q2 q e z9 w9)
      have hI : ∀ q, q ∈ h_0.1 → q ∈ h.1 := fun q z9 => gSt.dom hK Nq2 (hI q z9)
      replace Hq2 := Nq2
      refine gI_aload_n hB 2 dJx4a65c_add_7a177_57 rfl ?_
      refine gI_iload_n hB 1 dJx4a65c_add_7a177_58 rfl ?_
      refine gI_iconst (v := nI 1) hB dJx4a65c_add_7a177_59 (by decide) ?_
      refine gI_iaddN hB dJx4a65c_add_7a177_60 ?_
      refine gC_put hB 2 tyJx4a65c tyJx4a65c_ok nmJx4a65c hl (C := RJx4a65c) (T := TJx4a65c) (N := 3) rfl (by decide +kernel) (by decide) (by decide +kernel) (fun _ h9 => h9) rfl rfl rfl (Nat.le_of_ble_eq_true rfl) dJx4a65c_add_7a177_61 (fun h Nl hK => ?_)
      have hA := hK _ _ hA (gat_ne hA hl rfl)
      have Hq2 := hK _ _ Hq2 (gat_ne Hq2 hl rfl)
      have ho := gOb.stO hl Nl hK ho
      have hO : ∀ q e, gat h_0 q e → FR q e → gat h q e := fun q e z9 w9 => hK q e (hO q e z9 w9) (on_l q e z9 w9)
      have hI : ∀ q, q ∈ h_0.1 → q ∈ h.1 := fun q z9 => gSt.dom hK Nl (hI q z9)
      replace hl : gat h l (.inr (2, [.int (md + (nI 1)), .ref q2, .int (nI (n + 1))])) := Nl
      refine gI_vret hB hE dJx4a65c_add_7a177_64 ?_
      exact ⟨q2, _, _, rfl, hl, Hq2, fun i9 hi9 => ((up_ne (by omega)).trans (pk_cpy_out (by omega))).trans (hg_q2 i9 (by omega)), up_at, fun i9 h1 h2 => ((up_ne (by omega)).trans ((pk_cpy_in (by omega) (by omega)).trans (congrArg _ (show j + (i9 + 1 - (j + 1)) = i9 by omega)))).trans (hg_q2 i9 (by omega)), fun q9 e9 z9 w9 => hO q9 e9 z9 (by rw [eFR]; exact w9), by omega, (gat_ne Hq2 hl rfl), Or.inr ⟨rfl, nw_q2, rfl, by omega, by omega⟩⟩

