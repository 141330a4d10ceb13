/-- what a method leaves that has a ring in hand -/
def kRg (G : gG) (h : gH) (c : Nat → Nat) (Λ : CL) (u' : MS) (T y : Nat) (D : Nat → Int32) (B : Nat) (ov : Option Value) : gPo := fun r h' k n => ∃ Λ' W' z', r = .inl ov ∧ cRep G h' c Λ' u' T W' z' ∧ mOk u' T W' z' ∧ gat h' y (.inr (5, rFS (mRow D 0) (wOf D 5 (D 4)))) ∧ (∀ k l, k < 4 + T → l < cLen Λ' k → cEl Λ' k l ≠ y) ∧ cSame Λ Λ' ∧ cFr h h' ∧ cLen Λ' 1 + cLen Λ' 2 ≤ B ∧ cPhi Λ ≤ cPhi Λ' ∧ k ≤ cPhi Λ' - cPhi Λ ∧ n ≤ 7 * (cPhi Λ' - cPhi Λ)
theorem mOk.at {v : MS} {T W z W2 z2 : Nat} (o : mOk v T W z) (e6 : v.1 6 = nI W2) (h6 : W2 ≤ 60) (e12 : v.1 12 = nI z2) (h12 : z2 ≤ 200) : mOk v T W2 z2 := by
  have h1 := o.2.2.2.1
  have h2 := o.2.2.2.2.2.1
  have a : W2 = W := (nI_eq (by omega) (by omega)).mp (e6.symm.trans o.2.2.1)
  have b : z2 = z := (nI_eq (by omega) (by omega)).mp (e12.symm.trans o.2.2.2.2.1)
  subst a b
  exact o
theorem cPhi_1 {Λ : CL} {A cap : Nat} {f : Nat → Nat} : cPhi (cUp Λ 1 A cap (cLen Λ 1 + 1) f) + cCap Λ 1 = cPhi Λ + cap + 1 := by
  unfold cPhi
  rw [cUp_cap, cUp_len, cUp_cap_ne (show 2 ≠ 1 by omega), cUp_cap_ne (show 3 ≠ 1 by omega), cUp_len_ne (show 2 ≠ 1 by omega), cUp_len_ne (show 3 ≠ 1 by omega)]
  omega
theorem cPhi_2 {Λ : CL} {A cap : Nat} {f : Nat → Nat} : cPhi (cUp Λ 2 A cap (cLen Λ 2 + 1) f) + cCap Λ 2 = cPhi Λ + cap + 1 := by
  unfold cPhi
  rw [cUp_cap, cUp_len, cUp_cap_ne (show 1 ≠ 2 by omega), cUp_cap_ne (show 3 ≠ 2 by omega), cUp_len_ne (show 1 ≠ 2 by omega), cUp_len_ne (show 3 ≠ 2 by omega)]
  omega
theorem cPhi_3 {Λ : CL} {A cap : Nat} {f : Nat → Nat} : cPhi (cUp Λ 3 A cap (cLen Λ 3 + 1) f) + cCap Λ 3 = cPhi Λ + cap + 1 := by
  unfold cPhi
  rw [cUp_cap, cUp_len, cUp_cap_ne (show 1 ≠ 3 by omega), cUp_cap_ne (show 2 ≠ 3 by omega), cUp_len_ne (show 1 ≠ 3 by omega), cUp_len_ne (show 2 ≠ 3 by omega)]
  omega
theorem cPhi_d2 {Λ : CL} {f : Nat → Nat} (h : 0 < cLen Λ 2) : cPhi (cUp Λ 2 (cAa Λ 2) (cCap Λ 2) (cLen Λ 2 - 1) f) + 1 = cPhi Λ := by
  unfold cPhi
  rw [cUp_cap, cUp_len, cUp_cap_ne (show 1 ≠ 2 by omega), cUp_cap_ne (show 3 ≠ 2 by omega), cUp_len_ne (show 1 ≠ 2 by omega), cUp_len_ne (show 3 ≠ 2 by omega)]
  omega
theorem cPhi_d1 {Λ : CL} {f : Nat → Nat} (h : 0 < cLen Λ 1) : cPhi (cUp Λ 1 (cAa Λ 1) (cCap Λ 1) (cLen Λ 1 - 1) f) + 1 = cPhi Λ := by
  unfold cPhi
  rw [cUp_cap, cUp_len, cUp_cap_ne (show 2 ≠ 1 by omega), cUp_cap_ne (show 3 ≠ 1 by omega), cUp_len_ne (show 2 ≠ 1 by omega), cUp_len_ne (show 3 ≠ 1 by omega)]
  omega
theorem cPhi_le {G : gG} {h : gH} {c : Nat → Nat} {Λ : CL} {u : MS} {T W z : Nat} (hC : cRep G h c Λ u T W z) : cPhi Λ ≤ 1611 := by
  obtain ⟨md1, g1, -, -, -, a1, -⟩ := hC.2.2.2.1 1 (by omega)
  obtain ⟨md2, g2, -, -, -, a2, -⟩ := hC.2.2.2.1 2 (by omega)
  obtain ⟨md3, g3, -, -, -, a3, -⟩ := hC.2.2.2.1 3 (by omega)
  obtain ⟨l1, l2, l3, l4, l5, l6⟩ := hC.2.2.2.2.1
  unfold cPhi
  omega
theorem nI_dec (m : Nat) : nI (m + 1) + (-1) = nI m := by
  rw [← Int32.sub_eq_add_neg]
  exact nI_pred m

set_option maxRecDepth 100000 in
set_option maxHeartbeats 4000000 in
theorem k_wadd (G : gG) (h_0 : gH) (c : Nat → Nat) (Λ0 : CL) (u : MS) (T W z : Nat) (hC : cRep G h_0 c Λ0 u T W z) (o : mOk u T W z) (y : Nat) (D : Nat → Int32) (B : Nat) (hy : gat h_0 y (.inr (5, rFS (mRow D 0) (wOf D 5 (D 4))))) (hny : ∀ k l, k < 4 + T → l < cLen Λ0 k → cEl Λ0 k l ≠ y) (eD : u.2 4 = D) (hB6 : 60 ≤ B) (hBl : cLen Λ0 1 + cLen Λ0 2 ≤ B) (p to : Nat) (hto : to < T) (d s : Int32) (ep : D 4 = nI p) (hp : p ≤ 7) (hd : mOkR D 0 T) (hdue : D 0 + d ≠ u.1 1) : gMet yX5_add wsX5_add (gRm 6 2 700) G h_0 [.ref (c 1), .ref y, .int (D 0 + d), .int (nI to), .int (D 3 + s)] ((fun r h9 k n => (W = 60 ∧ r = .inl (some (.int (nI 0))) ∧ h9 = h_0 ∧ k = 0 ∧ n = 0) ∨ (W ≠ 60 ∧ kRg G h_0 c Λ0 (mWait u (nI to) d s) T y D B (some (.int (nI 1))) r h9 k n))) := by
  refine gMet_of (maxL := 7) (ret := (some .boolean)) (by decide) rfl (Nat.le_of_ble_eq_true rfl) ?_
  intro X hG hnL hB hE
  subst hG
  suffices go : ∀ h : gH, h = h_0 → gW X h 0 0 0 [(0, .ref (c 1)), (1, .ref y), (2, .int (D 0 + d)), (3, .int (nI to)), (4, .int (D 3 + s))] [] from go h_0 rfl
  intro h eh
  rw [← eh] at hC hy
  subst eD
  have hF : cFr h_0 h := by rw [eh]; exact cFr.rf
  obtain ⟨Λ, eΛ⟩ : ∃ Λ, Λ = Λ0 := ⟨_, rfl⟩
  rw [← eΛ] at hC hny hBl
  have hT := o.2.1
  have hW60 := o.2.2.2.1
  have hz200 := o.2.2.2.2.2.1
  have ez := o.2.2.2.2.1
  have eW := o.2.2.1
  have eT := o.1
  obtain ⟨md1, g1, hl1, -⟩ := hC.2.2.2.1 1 (by omega)
  obtain ⟨md2, g2, hl2, -⟩ := hC.2.2.2.1 2 (by omega)
  have hL1 : cLen Λ 1 = W := hC.2.2.2.2.1.2.1
  have hL5 : cLen Λ 1 + cLen Λ 2 ≤ 61 := hC.2.2.2.2.1.2.2.2.2.1
  refine gI_aload_n hB 0 dX5_add_0 rfl ?_
  refine gI_get (v := .ref (cLa Λ 1)) hB 0 hC.2.1.1 (C := RX5) (T := TX5) (N := 2) rfl (by decide +kernel) (by decide) (by decide +kernel) (fun _ h9 => h9) rfl dX5_add_1 ?_
  refine gI_pureV (n9 := 0) (As := []) (rest := []) hB (l_size X.2.1 h Λ 1 (hC.2.2.2.1 1 (by omega))) (gCW.of ggX5_add_Jx4a65c_size_8abf5 rfl ⟨by decide, by decide, by decide +kernel⟩ ⟨Nat.le_of_ble_eq_true rfl, Nat.le_of_ble_eq_true rfl⟩) (by decide +kernel) (by decide +kernel) (by decide +kernel) (by decide +kernel) hl1 (C := RJx4a65c) (T := TJx4a65c) (N := 3) rfl rfl rfl (Nat.le_of_ble_eq_true rfl) (by first | exact Nat.le_of_ble_eq_true rfl | (dsimp only [gRm]; omega)) (by first | exact Nat.le_of_ble_eq_true rfl | (dsimp only [gRm]; omega)) dX5_add_4 ?_
  refine gI_topi hB (y := nI W) (congrArg nI hC.2.2.2.2.1.2.1) ?_
  refine gI_bipush (v := nI 60) hB dX5_add_7 (by decide) ?_
  refine gI_icmp_lt hB 14 dX5_add_9 (by decide) (fun c9_1 => ?_) (fun c9_1 => ?_)
  · skip
    have c9_1 := (nI_ltI (by omega) (by omega)).mp c9_1
    have hWn : W ≠ 60 := by omega
    have j53 : ∀ (h : gH) (Λ : CL) (e : Nat) (fe : Nat → Int32) (we : Int64) (k n : Nat), cRep X.2.1 h c Λ u T W z → gat h y (.inr (5, rFS (mRow (u.2 4) 0) (wOf (u.2 4) 5 (u.2 4 4)))) → (∀ k l, k < 4 + T → l < cLen Λ k → cEl Λ k l ≠ y) → gat h e (.inr (5, rFS fe we)) → (∀ k l, k < 4 + T → l < cLen Λ k → cEl Λ k l ≠ e) → e ≠ c 3 → e ≠ y → cSame Λ0 Λ → cFr h_0 h → cLen Λ 1 + cLen Λ 2 + 1 ≤ B → cLen Λ 1 + cLen Λ 2 ≤ 60 → k + cPhi Λ0 ≤ cPhi Λ + 1 → n + 7 * cPhi Λ0 ≤ 7 * cPhi Λ + 7 → k ≤ 1 → n ≤ 6 → gW X h k n 53 [(0, .ref (c 1)), (1, .ref y), (2, .int (u.2 4 0 + d)), (3, .int (nI to)), (4, .int (u.2 4 3 + s))] [.ref e] := by
      intro h Λ e fe we k n hC hy hny He hne hec hey hsm hF hq1 hq2 hq3 hq4 hq5 hq6
      have hL1 : cLen Λ 1 = W := hC.2.2.2.2.1.2.1
      obtain ⟨md1, g1, hl1, -⟩ := hC.2.2.2.1 1 (by omega)
      refine gI_astore hB ([(5, .ref e), (0, .ref (c 1)), (1, .ref y), (2, .int (u.2 4 0 + d)), (3, .int (nI to)), (4, .int (u.2 4 3 + s))]) hnL dX5_add_53 (by decide) rfl ?_
      refine gI_aload hB 0 dX5_add_55 rfl ?_
      refine gI_aload_n hB 2 dX5_add_57 rfl ?_
      refine gI_iload_n hB 3 dX5_add_58 rfl ?_
      refine gI_iload_n hB 4 dX5_add_59 rfl ?_
      refine gI_iload hB 5 dX5_add_60 rfl ?_
      refine gI_callV (n9 := 4) (As := [.ref y, .int (u.2 4 0 + d), .int (nI to), .int (u.2 4 3 + s)]) (rest := []) hB (k_goOn X.2.1 h e fe we He y (u.2 4) (wOf (u.2 4) 5 (u.2 4 4)) hy hey.symm (u.2 4 0 + d) (nI to) (u.2 4 3 + s)) (gCW.of ggX5_add_X2_goOn rfl ⟨by decide, by decide, by decide +kernel⟩ ⟨Nat.le_of_ble_eq_true rfl, Nat.le_of_ble_eq_true rfl⟩) (by decide +kernel) (by decide +kernel) (by decide +kernel) (by decide +kernel) He (C := RX2) (T := TX2) (N := 6) rfl rfl rfl (Nat.le_of_ble_eq_true rfl) (by first | exact Nat.le_of_ble_eq_true rfl | (dsimp only [gRm]; omega)) (by first | exact Nat.le_of_ble_eq_true rfl | (dsimp only [gRm]; omega)) dX5_add_62 (fun v9 h k9 n9 hp9 => ?_) (fun E9 h1 k1 n1 hp => by cases hp.1)
      obtain ⟨e9, N_e, hK, rfl, rfl⟩ := hp9
      cases e9
      have hy := hK _ _ hy hey.symm
      have hF := hF.st He rfl hK
      have hC := hC.free He (by decide) hK hne (Ne.symm hec)
      have He := N_e
      obtain ⟨md1, g1, hl1, -⟩ := hC.2.2.2.1 1 (by omega)
      refine gI_aload_n hB 1 dX5_add_65 rfl ?_
      refine gI_get (v := .ref (cLa Λ 1)) hB 0 hC.2.1.1 (C := RX5) (T := TX5) (N := 2) rfl (by decide +kernel) (by decide) (by decide +kernel) (fun _ h9 => h9) rfl dX5_add_66 ?_
      refine gI_pureV (n9 := 0) (As := []) (rest := []) hB (l_size X.2.1 h Λ 1 (hC.2.2.2.1 1 (by omega))) (gCW.of ggX5_add_Jx4a65c_size_8abf5 rfl ⟨by decide, by decide, by decide +kernel⟩ ⟨Nat.le_of_ble_eq_true rfl, Nat.le_of_ble_eq_true rfl⟩) (by decide +kernel) (by decide +kernel) (by decide +kernel) (by decide +kernel) hl1 (C := RJx4a65c) (T := TJx4a65c) (N := 3) rfl rfl rfl (Nat.le_of_ble_eq_true rfl) (by first | exact Nat.le_of_ble_eq_true rfl | (dsimp only [gRm]; omega)) (by first | exact Nat.le_of_ble_eq_true rfl | (dsimp only [gRm]; omega)) dX5_add_69 ?_
      refine gI_topi hB (y := nI W) (congrArg nI hC.2.2.2.2.1.2.1) ?_
      refine gI_istore hB ([(6, .int (nI W)), (5, .ref e), (0, .ref (c 1)), (1, .ref y), (2, .int (u.2 4 0 + d)), (3, .int (nI to)), (4, .int (u.2 4 3 + s))]) hnL dX5_add_72 (by decide) rfl ?_
      have lp : ∀ (r_lp : Nat) (K : Nat), K + 1 ≤ r_lp → K ≤ W → mPos (u.2 2) (u.2 4 0 + d) (nI to) W = mPos (u.2 2) (u.2 4 0 + d) (nI to) K → gW X h k n 74 [(6, .int (nI K)), (5, .ref e), (0, .ref (c 1)), (1, .ref y), (2, .int (u.2 4 0 + d)), (3, .int (nI to)), (4, .int (u.2 4 3 + s))] [] := by
        intro r_lp
        induction r_lp with
        | zero => intro K hfu hK9 hpos; exact absurd hfu (by omega)
        | succ r_lp ih_lp =>
          intro K hfu hK9 hpos
          refine gI_iload hB 0 dX5_add_74 rfl ?_
          refine gI_if_le hB 107 dX5_add_76 (by decide) (fun c76_2 => ?_) (fun c76_2 => ?_)
          · skip
            have eK : K = 0 := by
              rcases K with _ | q
              · rfl
              · exact absurd ((nI_leI (a := q + 1) (b := 0) (by omega) (by omega)).mp c76_2) (by omega)
            have hPK : mPos (u.2 2) (u.2 4 0 + d) (nI to) W = K := by rw [hpos, eK]; rfl
            refine gI_aload_n hB 2 dX5_add_107 rfl ?_
            refine gI_get (v := .ref (cLa Λ 1)) hB 0 hC.2.1.1 (C := RX5) (T := TX5) (N := 2) rfl (by decide +kernel) (by decide) (by decide +kernel) (fun _ h9 => h9) rfl dX5_add_108 ?_
            refine gI_iload hB 0 dX5_add_111 rfl ?_
            refine gI_aload hB 1 dX5_add_113 rfl ?_
            obtain ⟨md9, g9, hl9, hr9, hn9, hc9, hb9, he9⟩ := hC.2.2.2.1 1 (by omega)
            have hgc := gCap_675 hc9
            refine gI_callV (n9 := 2) (As := [.int (nI K), .ref e]) (rest := []) hB (j_addAt X.2.1 h (cLa Λ 1) (cAa Λ 1) (cLen Λ 1) (cCap Λ 1) e K md9 g9 hl9 hr9 (hC.hel (by omega) he9) ⟨5, _, _, He, rfl, by decide +kernel⟩ hn9 (by omega) (by omega) (by omega)) (gCW.of ggX5_add_Jx4a65c_add_7a177 rfl ⟨by decide, by decide, by decide +kernel⟩ ⟨Nat.le_of_ble_eq_true rfl, Nat.le_of_ble_eq_true rfl⟩) (by decide +kernel) (by decide +kernel) (by decide +kernel) (by decide +kernel) hl9 (C := RJx4a65c) (T := TJx4a65c) (N := 3) rfl rfl rfl (Nat.le_of_ble_eq_true rfl) (by first | exact Nat.le_of_ble_eq_true rfl | (dsimp only [gRm]; omega)) (by first | exact Nat.le_of_ble_eq_true rfl | (dsimp only [gRm]; omega)) dX5_add_115 (fun v9 h k9 n9 hp9 => ?_) (fun E9 h1 k1 n1 hp => by obtain ⟨a9, c9, g9, e9, -⟩ := hp; cases e9)
            obtain ⟨e9, A9, cap9, hf9, hL9, hA9, hc1, hk1, hs1, hk2, hs2, hs3⟩ := hC.added (by omega) hr9 hn9 hc9 he9 (by omega) (by omega) hp9
            cases e9
            have hk := gLf.l2 (hC.2.2.2.1 1 (by omega)) hf9
            have hF := hF.lf (hC.2.2.2.1 1 (by omega)) hf9
            have He := hk _ _ He (tgN_ne rfl) (tgN_ne rfl)
            have hy := hk _ _ hy (tgN_ne rfl) (tgN_ne rfl)
            have hC2 := hC.rngIns (K := K) (p := p) (to := nI to) (d := d) (s := s) (x := nI (W + 1)) o.ring4 (by omega) hp ep hf9 hL9 hA9 hne hec (by omega) He
            have hP1 := cPhi_1 (Λ := Λ) (A := A9) (cap := cap9) (f := eIns (cEl Λ 1) K e)
            refine gI_iconst (v := nI 1) hB dX5_add_118 (by decide) ?_
            refine gI_zret hB hE (by decide) dX5_add_119 ?_
            have es : mWait u (nI to) d s = sg (sa u 2 (mIns (u.2 2) (u.2 4) W K p (nI to) d s)) 6 (nI (W + 1)) := by unfold mWait; rw [if_neg (by rw [eW]; exact fun z9 => hWn ((nI_eq (by omega) (by omega)).mp z9)), eW, mCl (by omega), ep, mCl (by omega), hPK]
            obtain ⟨W9, ow, -⟩ := mWait_ok (to := to) (d := d) s o hd hto ep hp hdue
            refine Or.inr ⟨hWn, _, W + 1, z, rfl, by rw [es]; exact hC2, ow.at (by rw [es]; rfl) (by omega) (by rw [es]; exact ez) hz200, hy, fun k l hk hl => ?_, hsm.trans (cSame.up (Or.inl rfl)), hF, ?_, by omega, by omega, by omega⟩
            · rcases eIns_of (Λ := Λ) (i := 1) (j := K) (e := e) (by omega) hl with ⟨-, -, h3⟩ | ⟨l9, h1, h2⟩
              · rw [h3]
                exact hey
              · rw [h2]
                exact hny k l9 hk h1
            · rw [cUp_len, cUp_len_ne (show 2 ≠ 1 by omega)]
              omega
          · skip
            obtain ⟨K1, rfl⟩ : ∃ q, K = q + 1 := by
              rcases K with _ | q
              · exact absurd (show nI 0 ≤ 0 by decide) c76_2
              · exact ⟨q, rfl⟩
            refine gI_aload_n hB 2 dX5_add_79 rfl ?_
            refine gI_get (v := .ref (cLa Λ 1)) hB 0 hC.2.1.1 (C := RX5) (T := TX5) (N := 2) rfl (by decide +kernel) (by decide) (by decide +kernel) (fun _ h9 => h9) rfl dX5_add_80 ?_
            refine gI_iload hB 0 dX5_add_83 rfl ?_
            refine gI_iconst (v := nI 1) hB dX5_add_85 (by decide) ?_
            refine gI_isub hB dX5_add_86 ?_
            refine gI_topi hB (y := nI K1) (by rw [pk_sub (by omega)]; rfl) ?_
            refine gI_pureV (n9 := 1) (As := [.int (nI K1)]) (rest := []) hB (l_get X.2.1 h Λ 1 (hC.2.2.2.1 1 (by omega)) K1 (by rw [hC.2.2.2.2.1.2.1]; omega)) (gCW.of ggX5_add_Jx4a65c_get_915e3 rfl ⟨by decide, by decide, by decide +kernel⟩ ⟨Nat.le_of_ble_eq_true rfl, Nat.le_of_ble_eq_true rfl⟩) (by decide +kernel) (by decide +kernel) (by decide +kernel) (by decide +kernel) hl1 (C := RJx4a65c) (T := TJx4a65c) (N := 3) rfl rfl rfl (Nat.le_of_ble_eq_true rfl) (by first | exact Nat.le_of_ble_eq_true rfl | (dsimp only [gRm]; omega)) (by first | exact Nat.le_of_ble_eq_true rfl | (dsimp only [gRm]; omega)) dX5_add_87 ?_
            refine gI_cast hB (hC.2.2.2.2.2.2.2.1 K1 (by omega)) (C := RX2) (T := TX2) (N := 6) rfl (by decide +kernel) dX5_add_90 ?_
            refine gI_iload_n hB 4 dX5_add_93 rfl ?_
            refine gI_iload_n hB 5 dX5_add_94 rfl ?_
            refine gI_pureV (n9 := 2) (As := [.int (u.2 4 0 + d), .int (nI to)]) (rest := []) hB (k_isLater X.2.1 h (cEl Λ 1 K1) (mRow (u.2 2) (14 * K1)) (wOf (u.2 2) (14 * K1 + 5) (u.2 2 (14 * K1 + 4))) (hC.2.2.2.2.2.2.2.1 K1 (by omega)) (u.2 4 0 + d) (nI to)) (gCW.of ggX5_add_X2_isLaterThan rfl ⟨by decide, by decide, by decide +kernel⟩ ⟨Nat.le_of_ble_eq_true rfl, Nat.le_of_ble_eq_true rfl⟩) (by decide +kernel) (by decide +kernel) (by decide +kernel) (by decide +kernel) (hC.2.2.2.2.2.2.2.1 K1 (by omega)) (C := RX2) (T := TX2) (N := 6) rfl rfl rfl (Nat.le_of_ble_eq_true rfl) (by first | exact Nat.le_of_ble_eq_true rfl | (dsimp only [gRm]; omega)) (by first | exact Nat.le_of_ble_eq_true rfl | (dsimp only [gRm]; omega)) dX5_add_95 ?_
            refine gI_if_eq hB 107 dX5_add_98 (by decide) (fun c98_3 => ?_) (fun c98_3 => ?_)
            · skip
              have c98_3 := gbi_0.mp c98_3
              have hc9 : ¬ (u.2 4 0 + d < u.2 2 (14 * K1) ∨ (u.2 2 (14 * K1) = u.2 4 0 + d ∧ nI to < u.2 2 (14 * K1 + 1))) := c98_3
              have hPK : mPos (u.2 2) (u.2 4 0 + d) (nI to) W = K1 + 1 := by rw [hpos, mPos, if_neg hc9]
              refine gI_aload_n hB 2 dX5_add_107 rfl ?_
              refine gI_get (v := .ref (cLa Λ 1)) hB 0 hC.2.1.1 (C := RX5) (T := TX5) (N := 2) rfl (by decide +kernel) (by decide) (by decide +kernel) (fun _ h9 => h9) rfl dX5_add_108 ?_
              refine gI_iload hB 0 dX5_add_111 rfl ?_
              refine gI_aload hB 1 dX5_add_113 rfl ?_
              obtain ⟨md9, g9, hl9, hr9, hn9, hc9, hb9, he9⟩ := hC.2.2.2.1 1 (by omega)
              have hgc := gCap_675 hc9
              refine gI_callV (n9 := 2) (As := [.int (nI (K1 + 1)), .ref e]) (rest := []) hB (j_addAt X.2.1 h (cLa Λ 1) (cAa Λ 1) (cLen Λ 1) (cCap Λ 1) e (K1 + 1) md9 g9 hl9 hr9 (hC.hel (by omega) he9) ⟨5, _, _, He, rfl, by decide +kernel⟩ hn9 (by omega) (by omega) (by omega)) (gCW.of ggX5_add_Jx4a65c_add_7a177 rfl ⟨by decide, by decide, by decide +kernel⟩ ⟨Nat.le_of_ble_eq_true rfl, Nat.le_of_ble_eq_true rfl⟩) (by decide +kernel) (by decide +kernel) (by decide +kernel) (by decide +kernel) hl9 (C := RJx4a65c) (T := TJx4a65c) (N := 3) rfl rfl rfl (Nat.le_of_ble_eq_true rfl) (by first | exact Nat.le_of_ble_eq_true rfl | (dsimp only [gRm]; omega)) (by first | exact Nat.le_of_ble_eq_true rfl | (dsimp only [gRm]; omega)) dX5_add_115 (fun v9 h k9 n9 hp9 => ?_) (fun E9 h1 k1 n1 hp => by obtain ⟨a9, c9, g9, e9, -⟩ := hp; cases e9)
              obtain ⟨e9, A9, cap9, hf9, hL9, hA9, hc1, hk1, hs1, hk2, hs2, hs3⟩ := hC.added (by omega) hr9 hn9 hc9 he9 (by omega) (by omega) hp9
              cases e9
              have hk := gLf.l2 (hC.2.2.2.1 1 (by omega)) hf9
              have hF := hF.lf (hC.2.2.2.1 1 (by omega)) hf9
              have He := hk _ _ He (tgN_ne rfl) (tgN_ne rfl)
              have hy := hk _ _ hy (tgN_ne rfl) (tgN_ne rfl)
              have hC2 := hC.rngIns (K := (K1 + 1)) (p := p) (to := nI to) (d := d) (s := s) (x := nI (W + 1)) o.ring4 (by omega) hp ep hf9 hL9 hA9 hne hec (by omega) He
              have hP1 := cPhi_1 (Λ := Λ) (A := A9) (cap := cap9) (f := eIns (cEl Λ 1) (K1 + 1) e)
              refine gI_iconst (v := nI 1) hB dX5_add_118 (by decide) ?_
              refine gI_zret hB hE (by decide) dX5_add_119 ?_
              have es : mWait u (nI to) d s = sg (sa u 2 (mIns (u.2 2) (u.2 4) W (K1 + 1) p (nI to) d s)) 6 (nI (W + 1)) := by unfold mWait; rw [if_neg (by rw [eW]; exact fun z9 => hWn ((nI_eq (by omega) (by omega)).mp z9)), eW, mCl (by omega), ep, mCl (by omega), hPK]
              obtain ⟨W9, ow, -⟩ := mWait_ok (to := to) (d := d) s o hd hto ep hp hdue
              refine Or.inr ⟨hWn, _, W + 1, z, rfl, by rw [es]; exact hC2, ow.at (by rw [es]; rfl) (by omega) (by rw [es]; exact ez) hz200, hy, fun k l hk hl => ?_, hsm.trans (cSame.up (Or.inl rfl)), hF, ?_, by omega, by omega, by omega⟩
              · rcases eIns_of (Λ := Λ) (i := 1) (j := (K1 + 1)) (e := e) (by omega) hl with ⟨-, -, h3⟩ | ⟨l9, h1, h2⟩
                · rw [h3]
                  exact hey
                · rw [h2]
                  exact hny k l9 hk h1
              · rw [cUp_len, cUp_len_ne (show 2 ≠ 1 by omega)]
                omega
            · skip
              have c98_3 := gbi_n0 c98_3
              have hc9 : u.2 4 0 + d < u.2 2 (14 * K1) ∨ (u.2 2 (14 * K1) = u.2 4 0 + d ∧ nI to < u.2 2 (14 * K1 + 1)) := c98_3
              refine gI_iinc hB 0 ([(6, .int (nI K1)), (5, .ref e), (0, .ref (c 1)), (1, .ref y), (2, .int (u.2 4 0 + d)), (3, .int (nI to)), (4, .int (u.2 4 3 + s))]) hnL dX5_add_101 rfl (nI_dec K1) (by decide) rfl ?_
              refine gI_goto hB 74 dX5_add_104 (by decide) ?_
              refine gI_loc [0, 1, 2, 3, 4, 5, 6] rfl ?_
              exact ih_lp K1 (by omega) (by omega) (by rw [hpos, mPos, if_pos hc9])
      refine gI_loc [0, 1, 2, 3, 4, 5, 6] rfl ?_
      exact lp (W + 1) W (by omega) (by omega) rfl
    refine gI_aload_n hB 0 dX5_add_14 rfl ?_
    refine gI_get (v := .ref (cLa Λ 2)) hB 1 hC.2.1.1 (C := RX5) (T := TX5) (N := 2) rfl (by decide +kernel) (by decide) (by decide +kernel) (fun _ h9 => h9) rfl dX5_add_15 ?_
    refine gI_pureV (n9 := 0) (As := []) (rest := []) hB (l_isEmpty X.2.1 h Λ 2 (hC.2.2.2.1 2 (by omega))) (gCW.of ggX5_add_Jx4a65c_isEmpty_aae02 rfl ⟨by decide, by decide, by decide +kernel⟩ ⟨Nat.le_of_ble_eq_true rfl, Nat.le_of_ble_eq_true rfl⟩) (by decide +kernel) (by decide +kernel) (by decide +kernel) (by decide +kernel) hl2 (C := RJx4a65c) (T := TJx4a65c) (N := 3) rfl rfl rfl (Nat.le_of_ble_eq_true rfl) (by first | exact Nat.le_of_ble_eq_true rfl | (dsimp only [gRm]; omega)) (by first | exact Nat.le_of_ble_eq_true rfl | (dsimp only [gRm]; omega)) dX5_add_18 ?_
    refine gI_if_eq hB 34 dX5_add_21 (by decide) (fun c21_4 => ?_) (fun c21_4 => ?_)
    · skip
      have c21_4 := gbi_0.mp c21_4
      refine gI_aload_n hB 0 dX5_add_34 rfl ?_
      refine gI_get (v := .ref (cLa Λ 2)) hB 1 hC.2.1.1 (C := RX5) (T := TX5) (N := 2) rfl (by decide +kernel) (by decide) (by decide +kernel) (fun _ h9 => h9) rfl dX5_add_35 ?_
      refine gI_aload_n hB 0 dX5_add_38 rfl ?_
      refine gI_get (v := .ref (cLa Λ 2)) hB 1 hC.2.1.1 (C := RX5) (T := TX5) (N := 2) rfl (by decide +kernel) (by decide) (by decide +kernel) (fun _ h9 => h9) rfl dX5_add_39 ?_
      refine gI_pureV (n9 := 0) (As := []) (rest := [.ref (cLa Λ 2)]) hB (l_size X.2.1 h Λ 2 (hC.2.2.2.1 2 (by omega))) (gCW.of ggX5_add_Jx4a65c_size_8abf5 rfl ⟨by decide, by decide, by decide +kernel⟩ ⟨Nat.le_of_ble_eq_true rfl, Nat.le_of_ble_eq_true rfl⟩) (by decide +kernel) (by decide +kernel) (by decide +kernel) (by decide +kernel) hl2 (C := RJx4a65c) (T := TJx4a65c) (N := 3) rfl rfl rfl (Nat.le_of_ble_eq_true rfl) (by first | exact Nat.le_of_ble_eq_true rfl | (dsimp only [gRm]; omega)) (by first | exact Nat.le_of_ble_eq_true rfl | (dsimp only [gRm]; omega)) dX5_add_42 ?_
      refine gI_iconst (v := nI 1) hB dX5_add_45 (by decide) ?_
      refine gI_isub hB dX5_add_46 ?_
      refine gI_topi hB (y := nI (cLen Λ 2 - 1)) (pk_sub (by omega)) ?_
      obtain ⟨md9, g9, hl9, hr9, hn9, hc9, hb9, he9⟩ := hC.2.2.2.1 2 (by omega)
      have hA9 : gat h (cAa Λ 2) (.inl (gO X.2.1, cCap Λ 2, .inr (.inr (.inr (.inr g9))))) := by rcases hr9 with ⟨h0, -⟩ | ⟨-, hA⟩; exact absurd h0 (by omega); exact hA
      refine gI_callV (n9 := 1) (As := [.int (nI (cLen Λ 2 - 1))]) (rest := []) hB (j_remove X.2.1 h (cLa Λ 2) (cAa Λ 2) (cLen Λ 2) (cCap Λ 2) (cLen Λ 2 - 1) md9 g9 hl9 hA9 (hC.hel (by omega) he9) hn9 (by omega) (by omega) _ (he9 (cLen Λ 2 - 1) (by omega))) (gCW.of ggX5_add_Jx4a65c_remove_915e3 rfl ⟨by decide, by decide, by decide +kernel⟩ ⟨Nat.le_of_ble_eq_true rfl, Nat.le_of_ble_eq_true rfl⟩) (by decide +kernel) (by decide +kernel) (by decide +kernel) (by decide +kernel) hl9 (C := RJx4a65c) (T := TJx4a65c) (N := 3) rfl rfl rfl (Nat.le_of_ble_eq_true rfl) (by first | exact Nat.le_of_ble_eq_true rfl | (dsimp only [gRm]; omega)) (by first | exact Nat.le_of_ble_eq_true rfl | (dsimp only [gRm]; omega)) dX5_add_47 (fun v9 h k9 n9 hp9 => ?_) (fun E9 h1 k1 n1 hp => by obtain ⟨g9, e9, -⟩ := hp; cases e9)
      obtain ⟨g8, e9, hl8, hA8, ha1, ha2, ha3, rfl, rfl⟩ := hp9
      cases e9
      have hf9 : gLf _ h (cLa Λ 2) (cAa Λ 2) (cLen Λ 2) (cCap Λ 2) := fun q9 e9 hq9 hw9 => ha3 q9 e9 hq9 ⟨hw9.1, fun z9 => absurd (hw9.2 z9) (by omega)⟩
      have hL9 := cLst.del he9 hl8 hA8 (by omega) ha1 ha2 hn9 hc9 hb9
      have hk := gLf.l2 (hC.2.2.2.1 2 (by omega)) hf9
      have hF := hF.lf (hC.2.2.2.1 2 (by omega)) hf9
      have hy := hk _ _ hy (tgN_ne rfl) (tgN_ne rfl)
      have hny1 : ∀ k l, k < 4 + T → l < cLen (cUp Λ 2 (cAa Λ 2) (cCap Λ 2) (cLen Λ 2 - 1) (eDel (cEl Λ 2) (cLen Λ 2 - 1))) k → cEl (cUp Λ 2 (cAa Λ 2) (cCap Λ 2) (cLen Λ 2 - 1) (eDel (cEl Λ 2) (cLen Λ 2 - 1))) k l ≠ y := fun k l hk hl => by
        obtain ⟨l9, q1, q2, -⟩ := eDel_of (N := 4 + T) (i := 2) (j := cLen Λ 2 - 1) (by omega) hl
        rw [q2]
        exact hny k l9 hk q1
      have hgn := hC.2.2.2.2.2.2.2.2.2.2.1.gone (A := cAa Λ 2) (cap := cCap Λ 2) (show 2 < 4 + T by omega) (show cLen Λ 2 - 1 < cLen Λ 2 by omega)
      have hC1 := hC.sparDel (by omega) hf9 hL9
      obtain ⟨fe, we, He⟩ := hC.2.2.2.2.2.2.2.2.1 (cLen Λ 2 - 1) (by omega)
      have He := hk _ _ He (tgN_ne rfl) (tgN_ne rfl)
      have hec := hC.2.2.2.2.2.2.2.2.2.2.2.2 (cLen Λ 2 - 1) (by omega)
      have hey := hny 2 (cLen Λ 2 - 1) (by omega) (by omega)
      have hP2 := cPhi_d2 (Λ := Λ) (f := eDel (cEl Λ 2) (cLen Λ 2 - 1)) (by omega)
      refine gI_cast hB He (C := RX2) (T := TX2) (N := 6) rfl (by decide +kernel) dX5_add_50 ?_
      exact j53 h _ (cEl Λ 2 (cLen Λ 2 - 1)) fe we _ _ hC1 hy hny1 He hgn hec hey (eΛ ▸ cSame.up (Or.inr (Or.inl rfl))) hF (by rw [cUp_len, cUp_len_ne (show 1 ≠ 2 by omega)]; omega) (by rw [cUp_len, cUp_len_ne (show 1 ≠ 2 by omega)]; omega) (by rw [← eΛ]; omega) (by rw [← eΛ]; omega) (by omega) (by omega)
    · skip
      have c21_4 := gbi_n0 c21_4
      refine gC_new hB (ci := 5) (C := RX2) (T := TX2) (N := 6) [.int 0, .int 0, .int 0, .int 0, .int 0, .long 0] tyX2 tyX2_ok rfl (by decide +kernel) (by decide +kernel) (by decide +kernel) (by decide +kernel) (fun j hj => by rcases (show j = 0 ∨ j = 1 ∨ j = 2 ∨ j = 3 ∨ j = 4 ∨ j = 5 by omega) with rfl | rfl | rfl | rfl | rfl | rfl <;> rfl) (by first | exact Nat.le_of_ble_eq_true rfl | (dsimp only [gRm]; omega)) (by first | exact Nat.le_of_ble_eq_true rfl | (dsimp only [gRm]; omega)) dX5_add_24 (fun q5 h hq5 Hq5 hK => ?_)
      have ne_q5 : ∀ k l, k < 4 + T → l < cLen Λ k → cEl Λ k l ≠ q5 := fun k l hk hl z9 => hq5 (z9 ▸ hC.elMem hk hl)
      have n3_q5 : c 3 ≠ q5 := fun z9 => hq5 (by obtain ⟨-, -, ff, fw, f3⟩ := hC.2.1; exact z9 ▸ f3.1)
      have n_q5_y : y ≠ q5 := fun z9 => hq5 (z9 ▸ hy.1)
      have hy := hK _ _ hy
      have hF := hF.sa hK
      have hC := hC.fresh hK
      obtain ⟨md1, g1, hl1, -⟩ := hC.2.2.2.1 1 (by omega)
      obtain ⟨md2, g2, hl2, -⟩ := hC.2.2.2.1 2 (by omega)
      refine gI_dup hB dX5_add_27 rfl ?_
      refine gI_pureI (n9 := 0) (As := []) (rest := [.ref q5]) hB (k_rinit X.2.1 h q5 Hq5) (gCW.of ggX5_add_X2_init rfl ⟨by decide, by decide, by decide +kernel⟩ ⟨Nat.le_of_ble_eq_true rfl, Nat.le_of_ble_eq_true rfl⟩) rfl rfl (Or.inr ⟨"DoorbellChoir", by decide +kernel⟩) (by decide +kernel) (by decide +kernel) rfl rfl (Nat.le_of_ble_eq_true rfl) (by first | exact Nat.le_of_ble_eq_true rfl | (dsimp only [gRm]; omega)) (by first | exact Nat.le_of_ble_eq_true rfl | (dsimp only [gRm]; omega)) dX5_add_28 ?_
      refine gI_goto hB 53 dX5_add_31 (by decide) ?_
      exact j53 h Λ q5 (fun _ => 0) 0 _ _ hC hy hny Hq5 ne_q5 (Ne.symm n3_q5) (Ne.symm n_q5_y) (eΛ ▸ cSame.rf) hF (by omega) (by omega) (by rw [← eΛ]; omega) (by rw [← eΛ]; omega) (by omega) (by omega)
  · skip
    have c9_1 := mt (nI_ltI (by omega) (by omega)).mpr c9_1
    refine gI_iconst (v := nI 0) hB dX5_add_12 (by decide) ?_
    refine gI_zret hB hE (by decide) dX5_add_13 ?_
    exact Or.inl ⟨by omega, rfl, eh, rfl, rfl⟩

