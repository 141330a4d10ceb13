/-- nothing but a throw -/
def gThr (h : gH) (E : String) : gPo := fun r h' k n => r = .inr E ∧ h' = h ∧ k = 1 ∧ n = 6
theorem l_size (G : gG) (h : gH) (Λ : CL) (i : Nat) (o : cLst G h Λ i) : gMet yJx4a65c_size_8abf5 wsJx4a65c_size_8abf5 (gRm 1 0 0) G h [.ref (cLa Λ i)] (gRet h (some (.int (nI (cLen Λ i))))) := by
  obtain ⟨md, g, h1, -⟩ := o
  exact j_size G h _ _ _ 0 md g h1
theorem l_isEmpty (G : gG) (h : gH) (Λ : CL) (i : Nat) (o : cLst G h Λ i) : gMet yJx4a65c_isEmpty_aae02 wsJx4a65c_isEmpty_aae02 (gRm 1 0 0) G h [.ref (cLa Λ i)] (gRet h (some (.int (gbi (cLen Λ i = 0))))) := by
  obtain ⟨md, g, h1, -, -, -, h5, -⟩ := o
  exact j_isEmpty G h _ _ _ 0 md g h1 (by omega)
theorem l_get (G : gG) (h : gH) (Λ : CL) (i : Nat) (o : cLst G h Λ i) (j : Nat) (hj : j < cLen Λ i) : gMet yJx4a65c_get_915e3 wsJx4a65c_get_915e3 (gRm 3 0 0) G h [.ref (cLa Λ i), .int (nI j)] (gRet h (some (.ref (cEl Λ i j)))) := by
  obtain ⟨md, g, h1, h2, h3, h4, h5, h6⟩ := o
  rcases h2 with ⟨h0, -⟩ | ⟨h0, hA⟩
  · omega
  · exact j_get G h _ _ _ _ md g h1 hA j _ hj h3 (by omega) (h6 j hj)
theorem cRep.many {G : gG} {h : gH} {c : Nat → Nat} {Λ : CL} {u : MS} {T W z t : Nat} (hC : cRep G h c Λ u T W z) (o : mOk u T W z) (ht : t < T) : cLen Λ (4 + t) ≤ 8 ∧ mMany u t = cLen Λ (4 + t) := by
  obtain ⟨m, m1, m2, -⟩ := o.2.2.2.2.2.2.2.1 t ht
  obtain ⟨md, g, -, -, -, -, h5, -⟩ := hC.2.2.2.1 (4 + t) (by omega)
  have e := hC.2.2.2.2.1.2.2.2.2.2 t ht
  have : m = cLen Λ (4 + t) := (nI_eq (by omega) (by omega)).mp (m2.symm.trans e)
  exact ⟨by omega, by rw [mMany_of m1 m2, this]⟩

set_option maxRecDepth 100000 in
set_option maxHeartbeats 4000000 in
theorem k_tenantAt (G : gG) (h : gH) (c : Nat → Nat) (Λ : CL) (u : MS) (T W z : Nat) (hC : cRep G h c Λ u T W z) (o : mOk u T W z) (t : Nat) (ht : t < T) : gMet yX6_tenantAt wsX6_tenantAt (gRm 4 0 0) G h [.ref (c 0), .int (nI t)] (gRet h (some (.ref (cEl Λ 0 t)))) := by
  refine gMet_of (maxL := 2) (ret := (some (.object "DoorbellChoir$Tenant"))) (by decide) rfl (Nat.le_of_ble_eq_true rfl) ?_
  intro X hG hnL hB hE
  subst hG
  change gW X h 0 0 0 [(0, .ref (c 0)), (1, .int (nI t))] []
  have hT := o.2.1
  have hW60 := o.2.2.2.1
  have hz200 := o.2.2.2.2.2.1
  have ez := o.2.2.2.2.1
  have eW := o.2.2.1
  have eT := o.1
  obtain ⟨md0, g0, hl0, -⟩ := hC.2.2.2.1 0 (by omega)
  refine gI_iload_n hB 1 dX6_tenantAt_0 rfl ?_
  refine gI_iconst (v := nI 0) hB dX6_tenantAt_1 (by decide) ?_
  refine gI_aload_n hB 0 dX6_tenantAt_2 rfl ?_
  refine gI_get (v := .ref (cLa Λ 0)) hB 0 hC.1 (C := RX6) (T := TX6) (N := 9) rfl (by decide +kernel) (by decide) (by decide +kernel) (fun _ h9 => h9) rfl dX6_tenantAt_3 ?_
  refine gI_pureV (n9 := 0) (As := []) (rest := [.int (nI 0), .int (nI t)]) hB (l_size X.2.1 h Λ 0 (hC.2.2.2.1 0 (by omega))) (gCW.of ggX6_tenantAt_Jx4a65c_size_8abf5 rfl ⟨by decide, by decide, by decide +kernel⟩ ⟨Nat.le_of_ble_eq_true rfl, Nat.le_of_ble_eq_true rfl⟩) (by decide +kernel) (by decide +kernel) (by decide +kernel) (by decide +kernel) hl0 (C := RJx4a65c) (T := TJx4a65c) (N := 3) rfl rfl rfl (Nat.le_of_ble_eq_true rfl) (by first | exact Nat.le_of_ble_eq_true rfl | (dsimp only [gRm]; omega)) (by first | exact Nat.le_of_ble_eq_true rfl | (dsimp only [gRm]; omega)) dX6_tenantAt_6 ?_
  refine gI_topi hB (y := nI T) (congrArg nI hC.2.2.2.2.1.1) ?_
  refine gI_iconst (v := nI 1) hB dX6_tenantAt_9 (by decide) ?_
  refine gI_isub hB dX6_tenantAt_10 ?_
  refine gI_pureS (n9 := 3) (As := [.int (nI t), .int (nI 0), .int ((nI T) - (nI 1))]) (rest := []) hB (k_isOutside X.2.1 h (nI t) (nI 0) ((nI T) - (nI 1))) (gCW.of ggX6_tenantAt_X6_isOutside rfl ⟨by decide, by decide, by decide +kernel⟩ ⟨Nat.le_of_ble_eq_true rfl, Nat.le_of_ble_eq_true rfl⟩) (Or.inl (by decide +kernel)) (by decide +kernel) (by decide +kernel) rfl rfl (Nat.le_of_ble_eq_true rfl) (by first | exact Nat.le_of_ble_eq_true rfl | (dsimp only [gRm]; omega)) (by first | exact Nat.le_of_ble_eq_true rfl | (dsimp only [gRm]; omega)) dX6_tenantAt_11 ?_
  refine gI_if_eq hB 25 dX6_tenantAt_14 (by decide) (fun _ => ?_) (fun z => absurd (gbi_0.mpr (fun z9 => z9 (mIn_nI (by omega) ht))) z)
  refine gI_aload_n hB 0 dX6_tenantAt_25 rfl ?_
  refine gI_get (v := .ref (cLa Λ 0)) hB 0 hC.1 (C := RX6) (T := TX6) (N := 9) rfl (by decide +kernel) (by decide) (by decide +kernel) (fun _ h9 => h9) rfl dX6_tenantAt_26 ?_
  refine gI_iload_n hB 1 dX6_tenantAt_29 rfl ?_
  refine gI_pureV (n9 := 1) (As := [.int (nI t)]) (rest := []) hB (l_get X.2.1 h Λ 0 (hC.2.2.2.1 0 (by omega)) t (by rw [hC.2.2.2.2.1.1]; omega)) (gCW.of ggX6_tenantAt_Jx4a65c_get_915e3 rfl ⟨by decide, by decide, by decide +kernel⟩ ⟨Nat.le_of_ble_eq_true rfl, Nat.le_of_ble_eq_true rfl⟩) (by decide +kernel) (by decide +kernel) (by decide +kernel) (by decide +kernel) hl0 (C := RJx4a65c) (T := TJx4a65c) (N := 3) rfl rfl rfl (Nat.le_of_ble_eq_true rfl) (by first | exact Nat.le_of_ble_eq_true rfl | (dsimp only [gRm]; omega)) (by first | exact Nat.le_of_ble_eq_true rfl | (dsimp only [gRm]; omega)) dX6_tenantAt_30 ?_
  refine gI_cast hB (hC.2.2.2.2.2.1 t ht) (C := RX4) (T := TX4) (N := 8) rfl (by decide +kernel) dX6_tenantAt_33 ?_
  refine gI_aret hB hE (Or.inl ⟨_, rfl⟩) (Or.inr ⟨_, rfl⟩) dX6_tenantAt_36 ?_
  exact gRet.rfl'

set_option maxRecDepth 100000 in
set_option maxHeartbeats 4000000 in
theorem k_tenantAtNo (G : gG) (h : gH) (c : Nat → Nat) (Λ : CL) (u : MS) (T W z : Nat) (hC : cRep G h c Λ u T W z) (o : mOk u T W z) (p : Int32) (hp : ¬ mIn p (nI 0) (nI T - nI 1)) : gMet yX6_tenantAt wsX6_tenantAt (gRm 4 1 6) G h [.ref (c 0), .int p] (gThr h "java/lang/IndexOutOfBoundsException") := by
  refine gMet_of (maxL := 2) (ret := (some (.object "DoorbellChoir$Tenant"))) (by decide) rfl (Nat.le_of_ble_eq_true rfl) ?_
  intro X hG hnL hB hE
  subst hG
  change gW X h 0 0 0 [(0, .ref (c 0)), (1, .int p)] []
  have hT := o.2.1
  have hW60 := o.2.2.2.1
  have hz200 := o.2.2.2.2.2.1
  have ez := o.2.2.2.2.1
  have eW := o.2.2.1
  have eT := o.1
  obtain ⟨md0, g0, hl0, -⟩ := hC.2.2.2.1 0 (by omega)
  refine gI_iload_n hB 1 dX6_tenantAt_0 rfl ?_
  refine gI_iconst (v := nI 0) hB dX6_tenantAt_1 (by decide) ?_
  refine gI_aload_n hB 0 dX6_tenantAt_2 rfl ?_
  refine gI_get (v := .ref (cLa Λ 0)) hB 0 hC.1 (C := RX6) (T := TX6) (N := 9) rfl (by decide +kernel) (by decide) (by decide +kernel) (fun _ h9 => h9) rfl dX6_tenantAt_3 ?_
  refine gI_pureV (n9 := 0) (As := []) (rest := [.int (nI 0), .int p]) hB (l_size X.2.1 h Λ 0 (hC.2.2.2.1 0 (by omega))) (gCW.of ggX6_tenantAt_Jx4a65c_size_8abf5 rfl ⟨by decide, by decide, by decide +kernel⟩ ⟨Nat.le_of_ble_eq_true rfl, Nat.le_of_ble_eq_true rfl⟩) (by decide +kernel) (by decide +kernel) (by decide +kernel) (by decide +kernel) hl0 (C := RJx4a65c) (T := TJx4a65c) (N := 3) rfl rfl rfl (Nat.le_of_ble_eq_true rfl) (by first | exact Nat.le_of_ble_eq_true rfl | (dsimp only [gRm]; omega)) (by first | exact Nat.le_of_ble_eq_true rfl | (dsimp only [gRm]; omega)) dX6_tenantAt_6 ?_
  refine gI_topi hB (y := nI T) (congrArg nI hC.2.2.2.2.1.1) ?_
  refine gI_iconst (v := nI 1) hB dX6_tenantAt_9 (by decide) ?_
  refine gI_isub hB dX6_tenantAt_10 ?_
  refine gI_pureS (n9 := 3) (As := [.int p, .int (nI 0), .int ((nI T) - (nI 1))]) (rest := []) hB (k_isOutside X.2.1 h p (nI 0) ((nI T) - (nI 1))) (gCW.of ggX6_tenantAt_X6_isOutside rfl ⟨by decide, by decide, by decide +kernel⟩ ⟨Nat.le_of_ble_eq_true rfl, Nat.le_of_ble_eq_true rfl⟩) (Or.inl (by decide +kernel)) (by decide +kernel) (by decide +kernel) rfl rfl (Nat.le_of_ble_eq_true rfl) (by first | exact Nat.le_of_ble_eq_true rfl | (dsimp only [gRm]; omega)) (by first | exact Nat.le_of_ble_eq_true rfl | (dsimp only [gRm]; omega)) dX6_tenantAt_11 ?_
  refine gI_if_eq hB 25 dX6_tenantAt_14 (by decide) (fun z => absurd z (fun z9 => gbi_0.mp z9 hp)) (fun _ => ?_)
  refine gI_throw hB hE (cls := "java/lang/IndexOutOfBoundsException") (names := ["java/lang/RuntimeException", "java/lang/Exception"]) (ik := 92) (ic := 94) (by decide +kernel) (by decide +kernel) (by decide +kernel) (by decide +kernel) (by decide +kernel) (by decide +kernel) (by decide +kernel) dX6_tenantAt_17 dX6_tenantAt_20 dX6_tenantAt_21 dX6_tenantAt_24 (Nat.le_of_ble_eq_true rfl) (Nat.le_of_ble_eq_true rfl) (by first | exact Nat.le_of_ble_eq_true rfl | (dsimp only [gRm]; omega)) (by first | exact Nat.le_of_ble_eq_true rfl | (dsimp only [gRm]; omega)) ?_
  exact ⟨rfl, rfl, rfl, rfl⟩

set_option maxRecDepth 100000 in
set_option maxHeartbeats 4000000 in
theorem k_habitAt (G : gG) (h : gH) (c : Nat → Nat) (Λ : CL) (u : MS) (T W z : Nat) (hC : cRep G h c Λ u T W z) (o : mOk u T W z) (t : Nat) (ht : t < T) (j : Nat) (hj : j < cLen Λ (4 + t)) : gMet yX4_habitAt wsX4_habitAt (gRm 4 0 0) G h [.ref (cEl Λ 0 t), .int (nI j)] (gRet h (some (.ref (cEl Λ (4 + t) j)))) := by
  refine gMet_of (maxL := 2) (ret := (some (.object "DoorbellChoir$Habit"))) (by decide) rfl (Nat.le_of_ble_eq_true rfl) ?_
  intro X hG hnL hB hE
  subst hG
  change gW X h 0 0 0 [(0, .ref (cEl Λ 0 t)), (1, .int (nI j))] []
  have hT := o.2.1
  have hW60 := o.2.2.2.1
  have hz200 := o.2.2.2.2.2.1
  have ez := o.2.2.2.2.1
  have eW := o.2.2.1
  have eT := o.1
  have hm9 := (hC.many o ht).1
  obtain ⟨mdt, gt, hlt, -⟩ := hC.2.2.2.1 (4 + t) (by omega)
  refine gI_iload_n hB 1 dX4_habitAt_0 rfl ?_
  refine gI_iconst (v := nI 0) hB dX4_habitAt_1 (by decide) ?_
  refine gI_aload_n hB 0 dX4_habitAt_2 rfl ?_
  refine gI_get (v := .ref (cLa Λ (4 + t))) hB 3 (hC.2.2.2.2.2.1 t ht) (C := RX4) (T := TX4) (N := 8) rfl (by decide +kernel) (by decide) (by decide +kernel) (fun _ h9 => h9) rfl dX4_habitAt_3 ?_
  refine gI_pureV (n9 := 0) (As := []) (rest := [.int (nI 0), .int (nI j)]) hB (l_size X.2.1 h Λ (4 + t) (hC.2.2.2.1 (4 + t) (by omega))) (gCW.of ggX4_habitAt_Jx4a65c_size_8abf5 rfl ⟨by decide, by decide, by decide +kernel⟩ ⟨Nat.le_of_ble_eq_true rfl, Nat.le_of_ble_eq_true rfl⟩) (by decide +kernel) (by decide +kernel) (by decide +kernel) (by decide +kernel) hlt (C := RJx4a65c) (T := TJx4a65c) (N := 3) rfl rfl rfl (Nat.le_of_ble_eq_true rfl) (by first | exact Nat.le_of_ble_eq_true rfl | (dsimp only [gRm]; omega)) (by first | exact Nat.le_of_ble_eq_true rfl | (dsimp only [gRm]; omega)) dX4_habitAt_6 ?_
  refine gI_iconst (v := nI 1) hB dX4_habitAt_9 (by decide) ?_
  refine gI_isub hB dX4_habitAt_10 ?_
  refine gI_pureS (n9 := 3) (As := [.int (nI j), .int (nI 0), .int ((nI (cLen Λ (4 + t))) - (nI 1))]) (rest := []) hB (k_isOutside X.2.1 h (nI j) (nI 0) ((nI (cLen Λ (4 + t))) - (nI 1))) (gCW.of ggX4_habitAt_X6_isOutside rfl ⟨by decide, by decide, by decide +kernel⟩ ⟨Nat.le_of_ble_eq_true rfl, Nat.le_of_ble_eq_true rfl⟩) (Or.inr ⟨"DoorbellChoir", by decide +kernel⟩) (by decide +kernel) (by decide +kernel) rfl rfl (Nat.le_of_ble_eq_true rfl) (by first | exact Nat.le_of_ble_eq_true rfl | (dsimp only [gRm]; omega)) (by first | exact Nat.le_of_ble_eq_true rfl | (dsimp only [gRm]; omega)) dX4_habitAt_11 ?_
  refine gI_if_eq hB 25 dX4_habitAt_14 (by decide) (fun _ => ?_) (fun z => absurd (gbi_0.mpr (fun z9 => z9 (mIn_nI (by omega) hj))) z)
  refine gI_aload_n hB 0 dX4_habitAt_25 rfl ?_
  refine gI_get (v := .ref (cLa Λ (4 + t))) hB 3 (hC.2.2.2.2.2.1 t ht) (C := RX4) (T := TX4) (N := 8) rfl (by decide +kernel) (by decide) (by decide +kernel) (fun _ h9 => h9) rfl dX4_habitAt_26 ?_
  refine gI_iload_n hB 1 dX4_habitAt_29 rfl ?_
  refine gI_pureV (n9 := 1) (As := [.int (nI j)]) (rest := []) hB (l_get X.2.1 h Λ (4 + t) (hC.2.2.2.1 (4 + t) (by omega)) j (by omega)) (gCW.of ggX4_habitAt_Jx4a65c_get_915e3 rfl ⟨by decide, by decide, by decide +kernel⟩ ⟨Nat.le_of_ble_eq_true rfl, Nat.le_of_ble_eq_true rfl⟩) (by decide +kernel) (by decide +kernel) (by decide +kernel) (by decide +kernel) hlt (C := RJx4a65c) (T := TJx4a65c) (N := 3) rfl rfl rfl (Nat.le_of_ble_eq_true rfl) (by first | exact Nat.le_of_ble_eq_true rfl | (dsimp only [gRm]; omega)) (by first | exact Nat.le_of_ble_eq_true rfl | (dsimp only [gRm]; omega)) dX4_habitAt_30 ?_
  refine gI_cast hB (hC.2.2.2.2.2.2.1 t j ht hj) (C := RX0) (T := TX0) (N := 9) rfl (by decide +kernel) dX4_habitAt_33 ?_
  refine gI_aret hB hE (Or.inl ⟨_, rfl⟩) (Or.inr ⟨_, rfl⟩) dX4_habitAt_36 ?_
  exact gRet.rfl'

set_option maxRecDepth 100000 in
set_option maxHeartbeats 4000000 in
theorem k_habitAtNo (G : gG) (h : gH) (c : Nat → Nat) (Λ : CL) (u : MS) (T W z : Nat) (hC : cRep G h c Λ u T W z) (o : mOk u T W z) (t : Nat) (ht : t < T) (p : Int32) (hp : ¬ mIn p (nI 0) (nI (cLen Λ (4 + t)) - nI 1)) : gMet yX4_habitAt wsX4_habitAt (gRm 4 1 6) G h [.ref (cEl Λ 0 t), .int p] (gThr h "java/lang/IndexOutOfBoundsException") := by
  refine gMet_of (maxL := 2) (ret := (some (.object "DoorbellChoir$Habit"))) (by decide) rfl (Nat.le_of_ble_eq_true rfl) ?_
  intro X hG hnL hB hE
  subst hG
  change gW X h 0 0 0 [(0, .ref (cEl Λ 0 t)), (1, .int p)] []
  have hT := o.2.1
  have hW60 := o.2.2.2.1
  have hz200 := o.2.2.2.2.2.1
  have ez := o.2.2.2.2.1
  have eW := o.2.2.1
  have eT := o.1
  have hm9 := (hC.many o ht).1
  obtain ⟨mdt, gt, hlt, -⟩ := hC.2.2.2.1 (4 + t) (by omega)
  refine gI_iload_n hB 1 dX4_habitAt_0 rfl ?_
  refine gI_iconst (v := nI 0) hB dX4_habitAt_1 (by decide) ?_
  refine gI_aload_n hB 0 dX4_habitAt_2 rfl ?_
  refine gI_get (v := .ref (cLa Λ (4 + t))) hB 3 (hC.2.2.2.2.2.1 t ht) (C := RX4) (T := TX4) (N := 8) rfl (by decide +kernel) (by decide) (by decide +kernel) (fun _ h9 => h9) rfl dX4_habitAt_3 ?_
  refine gI_pureV (n9 := 0) (As := []) (rest := [.int (nI 0), .int p]) hB (l_size X.2.1 h Λ (4 + t) (hC.2.2.2.1 (4 + t) (by omega))) (gCW.of ggX4_habitAt_Jx4a65c_size_8abf5 rfl ⟨by decide, by decide, by decide +kernel⟩ ⟨Nat.le_of_ble_eq_true rfl, Nat.le_of_ble_eq_true rfl⟩) (by decide +kernel) (by decide +kernel) (by decide +kernel) (by decide +kernel) hlt (C := RJx4a65c) (T := TJx4a65c) (N := 3) rfl rfl rfl (Nat.le_of_ble_eq_true rfl) (by first | exact Nat.le_of_ble_eq_true rfl | (dsimp only [gRm]; omega)) (by first | exact Nat.le_of_ble_eq_true rfl | (dsimp only [gRm]; omega)) dX4_habitAt_6 ?_
  refine gI_iconst (v := nI 1) hB dX4_habitAt_9 (by decide) ?_
  refine gI_isub hB dX4_habitAt_10 ?_
  refine gI_pureS (n9 := 3) (As := [.int p, .int (nI 0), .int ((nI (cLen Λ (4 + t))) - (nI 1))]) (rest := []) hB (k_isOutside X.2.1 h p (nI 0) ((nI (cLen Λ (4 + t))) - (nI 1))) (gCW.of ggX4_habitAt_X6_isOutside rfl ⟨by decide, by decide, by decide +kernel⟩ ⟨Nat.le_of_ble_eq_true rfl, Nat.le_of_ble_eq_true rfl⟩) (Or.inr ⟨"DoorbellChoir", by decide +kernel⟩) (by decide +kernel) (by decide +kernel) rfl rfl (Nat.le_of_ble_eq_true rfl) (by first | exact Nat.le_of_ble_eq_true rfl | (dsimp only [gRm]; omega)) (by first | exact Nat.le_of_ble_eq_true rfl | (dsimp only [gRm]; omega)) dX4_habitAt_11 ?_
  refine gI_if_eq hB 25 dX4_habitAt_14 (by decide) (fun z => absurd z (fun z9 => gbi_0.mp z9 hp)) (fun _ => ?_)
  refine gI_throw hB hE (cls := "java/lang/IndexOutOfBoundsException") (names := ["java/lang/RuntimeException", "java/lang/Exception"]) (ik := 42) (ic := 44) (by decide +kernel) (by decide +kernel) (by decide +kernel) (by decide +kernel) (by decide +kernel) (by decide +kernel) (by decide +kernel) dX4_habitAt_17 dX4_habitAt_20 dX4_habitAt_21 dX4_habitAt_24 (Nat.le_of_ble_eq_true rfl) (Nat.le_of_ble_eq_true rfl) (by first | exact Nat.le_of_ble_eq_true rfl | (dsimp only [gRm]; omega)) (by first | exact Nat.le_of_ble_eq_true rfl | (dsimp only [gRm]; omega)) ?_
  exact ⟨rfl, rfl, rfl, rfl⟩

set_option maxRecDepth 100000 in
set_option maxHeartbeats 4000000 in
theorem k_ringAt (G : gG) (h : gH) (c : Nat → Nat) (Λ : CL) (u : MS) (T W z : Nat) (hC : cRep G h c Λ u T W z) (o : mOk u T W z) (k : Nat) (hk : k < W) : gMet yX5_at wsX5_at (gRm 4 0 0) G h [.ref (c 1), .int (nI k)] (gRet h (some (.ref (cEl Λ 1 k)))) := by
  refine gMet_of (maxL := 2) (ret := (some (.object "DoorbellChoir$Ring"))) (by decide) rfl (Nat.le_of_ble_eq_true rfl) ?_
  intro X hG hnL hB hE
  subst hG
  change gW X h 0 0 0 [(0, .ref (c 1)), (1, .int (nI k))] []
  have hT := o.2.1
  have hW60 := o.2.2.2.1
  have hz200 := o.2.2.2.2.2.1
  have ez := o.2.2.2.2.1
  have eW := o.2.2.1
  have eT := o.1
  obtain ⟨md1, g1, hl1, -⟩ := hC.2.2.2.1 1 (by omega)
  refine gI_iload_n hB 1 dX5_at_0 rfl ?_
  refine gI_iconst (v := nI 0) hB dX5_at_1 (by decide) ?_
  refine gI_aload_n hB 0 dX5_at_2 rfl ?_
  refine gI_get (v := .ref (cLa Λ 1)) hB 0 hC.2.1.1 (C := RX5) (T := TX5) (N := 2) rfl (by decide +kernel) (by decide) (by decide +kernel) (fun _ h9 => h9) rfl dX5_at_3 ?_
  refine gI_pureV (n9 := 0) (As := []) (rest := [.int (nI 0), .int (nI k)]) hB (l_size X.2.1 h Λ 1 (hC.2.2.2.1 1 (by omega))) (gCW.of ggX5_at_Jx4a65c_size_8abf5 rfl ⟨by decide, by decide, by decide +kernel⟩ ⟨Nat.le_of_ble_eq_true rfl, Nat.le_of_ble_eq_true rfl⟩) (by decide +kernel) (by decide +kernel) (by decide +kernel) (by decide +kernel) hl1 (C := RJx4a65c) (T := TJx4a65c) (N := 3) rfl rfl rfl (Nat.le_of_ble_eq_true rfl) (by first | exact Nat.le_of_ble_eq_true rfl | (dsimp only [gRm]; omega)) (by first | exact Nat.le_of_ble_eq_true rfl | (dsimp only [gRm]; omega)) dX5_at_6 ?_
  refine gI_topi hB (y := nI W) (congrArg nI hC.2.2.2.2.1.2.1) ?_
  refine gI_iconst (v := nI 1) hB dX5_at_9 (by decide) ?_
  refine gI_isub hB dX5_at_10 ?_
  refine gI_pureS (n9 := 3) (As := [.int (nI k), .int (nI 0), .int ((nI W) - (nI 1))]) (rest := []) hB (k_isOutside X.2.1 h (nI k) (nI 0) ((nI W) - (nI 1))) (gCW.of ggX5_at_X6_isOutside rfl ⟨by decide, by decide, by decide +kernel⟩ ⟨Nat.le_of_ble_eq_true rfl, Nat.le_of_ble_eq_true rfl⟩) (Or.inr ⟨"DoorbellChoir", by decide +kernel⟩) (by decide +kernel) (by decide +kernel) rfl rfl (Nat.le_of_ble_eq_true rfl) (by first | exact Nat.le_of_ble_eq_true rfl | (dsimp only [gRm]; omega)) (by first | exact Nat.le_of_ble_eq_true rfl | (dsimp only [gRm]; omega)) dX5_at_11 ?_
  refine gI_if_eq hB 25 dX5_at_14 (by decide) (fun _ => ?_) (fun z => absurd (gbi_0.mpr (fun z9 => z9 (mIn_nI (by omega) hk))) z)
  refine gI_aload_n hB 0 dX5_at_25 rfl ?_
  refine gI_get (v := .ref (cLa Λ 1)) hB 0 hC.2.1.1 (C := RX5) (T := TX5) (N := 2) rfl (by decide +kernel) (by decide) (by decide +kernel) (fun _ h9 => h9) rfl dX5_at_26 ?_
  refine gI_iload_n hB 1 dX5_at_29 rfl ?_
  refine gI_pureV (n9 := 1) (As := [.int (nI k)]) (rest := []) hB (l_get X.2.1 h Λ 1 (hC.2.2.2.1 1 (by omega)) k (by rw [hC.2.2.2.2.1.2.1]; omega)) (gCW.of ggX5_at_Jx4a65c_get_915e3 rfl ⟨by decide, by decide, by decide +kernel⟩ ⟨Nat.le_of_ble_eq_true rfl, Nat.le_of_ble_eq_true rfl⟩) (by decide +kernel) (by decide +kernel) (by decide +kernel) (by decide +kernel) hl1 (C := RJx4a65c) (T := TJx4a65c) (N := 3) rfl rfl rfl (Nat.le_of_ble_eq_true rfl) (by first | exact Nat.le_of_ble_eq_true rfl | (dsimp only [gRm]; omega)) (by first | exact Nat.le_of_ble_eq_true rfl | (dsimp only [gRm]; omega)) dX5_at_30 ?_
  refine gI_cast hB (hC.2.2.2.2.2.2.2.1 k hk) (C := RX2) (T := TX2) (N := 6) rfl (by decide +kernel) dX5_at_33 ?_
  refine gI_aret hB hE (Or.inl ⟨_, rfl⟩) (Or.inr ⟨_, rfl⟩) dX5_at_36 ?_
  exact gRet.rfl'

set_option maxRecDepth 100000 in
set_option maxHeartbeats 4000000 in
theorem k_ringAtNo (G : gG) (h : gH) (c : Nat → Nat) (Λ : CL) (u : MS) (T W z : Nat) (hC : cRep G h c Λ u T W z) (o : mOk u T W z) (p : Int32) (hp : ¬ mIn p (nI 0) (nI W - nI 1)) : gMet yX5_at wsX5_at (gRm 4 1 6) G h [.ref (c 1), .int p] (gThr h "java/lang/IndexOutOfBoundsException") := by
  refine gMet_of (maxL := 2) (ret := (some (.object "DoorbellChoir$Ring"))) (by decide) rfl (Nat.le_of_ble_eq_true rfl) ?_
  intro X hG hnL hB hE
  subst hG
  change gW X h 0 0 0 [(0, .ref (c 1)), (1, .int p)] []
  have hT := o.2.1
  have hW60 := o.2.2.2.1
  have hz200 := o.2.2.2.2.2.1
  have ez := o.2.2.2.2.1
  have eW := o.2.2.1
  have eT := o.1
  obtain ⟨md1, g1, hl1, -⟩ := hC.2.2.2.1 1 (by omega)
  refine gI_iload_n hB 1 dX5_at_0 rfl ?_
  refine gI_iconst (v := nI 0) hB dX5_at_1 (by decide) ?_
  refine gI_aload_n hB 0 dX5_at_2 rfl ?_
  refine gI_get (v := .ref (cLa Λ 1)) hB 0 hC.2.1.1 (C := RX5) (T := TX5) (N := 2) rfl (by decide +kernel) (by decide) (by decide +kernel) (fun _ h9 => h9) rfl dX5_at_3 ?_
  refine gI_pureV (n9 := 0) (As := []) (rest := [.int (nI 0), .int p]) hB (l_size X.2.1 h Λ 1 (hC.2.2.2.1 1 (by omega))) (gCW.of ggX5_at_Jx4a65c_size_8abf5 rfl ⟨by decide, by decide, by decide +kernel⟩ ⟨Nat.le_of_ble_eq_true rfl, Nat.le_of_ble_eq_true rfl⟩) (by decide +kernel) (by decide +kernel) (by decide +kernel) (by decide +kernel) hl1 (C := RJx4a65c) (T := TJx4a65c) (N := 3) rfl rfl rfl (Nat.le_of_ble_eq_true rfl) (by first | exact Nat.le_of_ble_eq_true rfl | (dsimp only [gRm]; omega)) (by first | exact Nat.le_of_ble_eq_true rfl | (dsimp only [gRm]; omega)) dX5_at_6 ?_
  refine gI_topi hB (y := nI W) (congrArg nI hC.2.2.2.2.1.2.1) ?_
  refine gI_iconst (v := nI 1) hB dX5_at_9 (by decide) ?_
  refine gI_isub hB dX5_at_10 ?_
  refine gI_pureS (n9 := 3) (As := [.int p, .int (nI 0), .int ((nI W) - (nI 1))]) (rest := []) hB (k_isOutside X.2.1 h p (nI 0) ((nI W) - (nI 1))) (gCW.of ggX5_at_X6_isOutside rfl ⟨by decide, by decide, by decide +kernel⟩ ⟨Nat.le_of_ble_eq_true rfl, Nat.le_of_ble_eq_true rfl⟩) (Or.inr ⟨"DoorbellChoir", by decide +kernel⟩) (by decide +kernel) (by decide +kernel) rfl rfl (Nat.le_of_ble_eq_true rfl) (by first | exact Nat.le_of_ble_eq_true rfl | (dsimp only [gRm]; omega)) (by first | exact Nat.le_of_ble_eq_true rfl | (dsimp only [gRm]; omega)) dX5_at_11 ?_
  refine gI_if_eq hB 25 dX5_at_14 (by decide) (fun z => absurd z (fun z9 => gbi_0.mp z9 hp)) (fun _ => ?_)
  refine gI_throw hB hE (cls := "java/lang/IndexOutOfBoundsException") (names := ["java/lang/RuntimeException", "java/lang/Exception"]) (ik := 29) (ic := 31) (by decide +kernel) (by decide +kernel) (by decide +kernel) (by decide +kernel) (by decide +kernel) (by decide +kernel) (by decide +kernel) dX5_at_17 dX5_at_20 dX5_at_21 dX5_at_24 (Nat.le_of_ble_eq_true rfl) (Nat.le_of_ble_eq_true rfl) (by first | exact Nat.le_of_ble_eq_true rfl | (dsimp only [gRm]; omega)) (by first | exact Nat.le_of_ble_eq_true rfl | (dsimp only [gRm]; omega)) ?_
  exact ⟨rfl, rfl, rfl, rfl⟩

