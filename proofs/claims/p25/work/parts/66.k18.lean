/-- a note is sung, as the class's songs take it -/
def mSingC (u : MS) (x len : Int32) : MS :=
  if u.1 12 = nI 200 then sg u 10 (u.1 10 + nI 1)
  else sg (sa (sg u 10 (u.1 10 + nI 1)) 3 (va_cpy (u.2 4) (va_cpy (m6 (u.2 4 0) len x (u.2 4 1) (u.2 4 4) (u.2 4 2)) (u.2 3) 0 (15 * (u.1 12).toNatClampNeg) 6) 5 (15 * (u.1 12).toNatClampNeg + 6) 9)) 12 (nI ((u.1 12).toNatClampNeg + 1))
theorem mSing_C {w : MS} {t : Nat} {l : Int32} (h0 : w.2 4 0 = w.1 1) (et : w.2 4 1 = nI t) : mSing w t l = mSingC (sa w 0 (upd (w.2 0) (7 * t + 5) (w.2 0 (7 * t + 5) + nI 1))) (gFm ((upd (w.2 0) (7 * t + 5) (w.2 0 (7 * t + 5) + nI 1)) (7 * t + 0) + w.2 4 3) (nI 88)) l := by
  unfold mSing mSingC
  rw [← h0, ← et]
  rfl
/-- the row of a note that is sung -/
theorem sing_row {S D : Nat → Int32} {z p : Nat} {f : Nat → Int32} (hp : p ≤ 8) (ep : D 4 = nI p) (e4 : f 4 = D 4) :
    (∀ i, i < 6 → f i = va_cpy D (va_cpy f S 0 (15 * z) 6) 5 (15 * z + 6) 9 (15 * z + i)) ∧ wOf D 5 (D 4) = wOf (va_cpy D (va_cpy f S 0 (15 * z) 6) 5 (15 * z + 6) 9) (15 * z + 6) (va_cpy D (va_cpy f S 0 (15 * z) 6) 5 (15 * z + 6) 9 (15 * z + 4)) ∧
    ∀ n i, n < z → i < 15 → va_cpy D (va_cpy f S 0 (15 * z) 6) 5 (15 * z + 6) 9 (15 * n + i) = S (15 * n + i) := by
  have e1 : ∀ i, i < 6 → f i = va_cpy D (va_cpy f S 0 (15 * z) 6) 5 (15 * z + 6) 9 (15 * z + i) := fun i hi => by
    rw [pk_cpy_out (by omega), pk_cpy_in (by omega) (by omega), show 0 + (15 * z + i - 15 * z) = i by omega]
  have e2 : ∀ i, i < 9 → va_cpy D (va_cpy f S 0 (15 * z) 6) 5 (15 * z + 6) 9 (15 * z + 6 + i) = D (5 + i) := fun i hi => by
    rw [pk_cpy_in (by omega) (by omega), show 5 + (15 * z + 6 + i - (15 * z + 6)) = 5 + i by omega]
  refine ⟨e1, ?_, fun n i hn hi => by rw [pk_cpy_out (by omega), pk_cpy_out (by omega)]⟩
  rw [← e1 4 (by omega), e4]
  unfold wOf
  rw [ep, mCl (by omega)]
  have ew : ∀ q, q ≤ p → wWay D 5 q = wWay (va_cpy D (va_cpy f S 0 (15 * z) 6) 5 (15 * z + 6) 9) (15 * z + 6) q := by
    intro q
    induction q with
    | zero =>
      intro _
      show (D (5 + 0)).toInt64 = _
      rw [← e2 0 (by omega)]
      rfl
    | succ q ih =>
      intro hq
      show wWay D 5 q ||| (D (5 + (q + 1))).toInt64 <<< _ = wWay _ (15 * z + 6) q ||| (va_cpy D (va_cpy f S 0 (15 * z) 6) 5 (15 * z + 6) 9 (15 * z + 6 + (q + 1))).toInt64 <<< _
      rw [ih (by omega), e2 (q + 1) (by omega)]
  exact ew p (Nat.le_refl _)
theorem cRep.putNoteL {G : gG} {h h' : gH} {c : Nat → Nat} {Λ : CL} {u : MS} {T W z n : Nat} {a0 a1 a2 a3 a4 a5 : Int32} {w9 : Int64} (hC : cRep G h c Λ u T W z) (hn : n < cLen Λ 3) (hz : z ≤ n) (hK : gSt h h' (cEl Λ 3 n)) (hm : gat h' (cEl Λ 3 n) (.inr (4, [.int a0, .int a1, .int a2, .int a3, .int a4, .int a5, .long w9]))) : cRep G h' c Λ u T W z :=
  hC.putNote (f := m6 a0 a1 a2 a3 a4 a5) (w9 := w9) hn hz hK hm

set_option maxRecDepth 100000 in
set_option maxHeartbeats 4000000 in
theorem k_noteAtX (G : gG) (h : gH) (c : Nat → Nat) (Λ : CL) (z9 n : Nat) (x9 : Int32) (hs : gat h (c 2) (.inr (6, [.ref (cLa Λ 3), .ref (c 4), .int (nI z9), .int x9]))) (hL : cLst G h Λ 3) (hn : n < z9) (hz9 : z9 ≤ cLen Λ 3) (hz5 : z9 ≤ 200) (hl5 : cLen Λ 3 ≤ 200) (fn : Nat → Int32) (wn : Int64) (hno : gat h (cEl Λ 3 n) (.inr (4, nFS fn wn))) : gMet yX3_at wsX3_at (gRm 4 0 0) G h [.ref (c 2), .int (nI n)] (gRet h (some (.ref (cEl Λ 3 n)))) := by
  refine gMet_of (maxL := 2) (ret := (some (.object "DoorbellChoir$Note"))) (by decide) rfl (Nat.le_of_ble_eq_true rfl) ?_
  intro X hG hnL hB hE
  subst hG
  change gW X h 0 0 0 [(0, .ref (c 2)), (1, .int (nI n))] []
  obtain ⟨md3, g3, hl3, -⟩ := id hL
  refine gI_iload_n hB 1 dX3_at_0 rfl ?_
  refine gI_iconst (v := nI 0) hB dX3_at_1 (by decide) ?_
  refine gI_aload_n hB 0 dX3_at_2 rfl ?_
  refine gI_get (v := .int (nI z9)) hB 2 hs (C := RX3) (T := TX3) (N := 4) rfl (by decide +kernel) (by decide) (by decide +kernel) (fun _ h9 => h9) rfl dX3_at_3 ?_
  refine gI_iconst (v := nI 1) hB dX3_at_6 (by decide) ?_
  refine gI_isub hB dX3_at_7 ?_
  refine gI_pureS (n9 := 3) (As := [.int (nI n), .int (nI 0), .int ((nI z9) - (nI 1))]) (rest := []) hB (k_isOutside X.2.1 h (nI n) (nI 0) ((nI z9) - (nI 1))) (gCW.of ggX3_at_X6_isOutside rfl ⟨by decide, by decide, by decide +kernel⟩ ⟨Nat.le_of_ble_eq_true rfl, Nat.le_of_ble_eq_true rfl⟩) (Or.inr ⟨"DoorbellChoir", by decide +kernel⟩) (by decide +kernel) (by decide +kernel) rfl rfl (Nat.le_of_ble_eq_true rfl) (by first | exact Nat.le_of_ble_eq_true rfl | (dsimp only [gRm]; omega)) (by first | exact Nat.le_of_ble_eq_true rfl | (dsimp only [gRm]; omega)) dX3_at_8 ?_
  refine gI_if_ne hB 25 dX3_at_11 (by decide) (fun z => absurd (gbi_0.mpr (fun z9 => z9 (mIn_nI (by omega) hn))) z) (fun _ => ?_)
  refine gI_iload_n hB 1 dX3_at_14 rfl ?_
  refine gI_aload_n hB 0 dX3_at_15 rfl ?_
  refine gI_get (v := .ref (cLa Λ 3)) hB 0 hs (C := RX3) (T := TX3) (N := 4) rfl (by decide +kernel) (by decide) (by decide +kernel) (fun _ h9 => h9) rfl dX3_at_16 ?_
  refine gI_pureV (n9 := 0) (As := []) (rest := [.int (nI n)]) hB (l_size X.2.1 h Λ 3 hL) (gCW.of ggX3_at_Jx4a65c_size_8abf5 rfl ⟨by decide, by decide, by decide +kernel⟩ ⟨Nat.le_of_ble_eq_true rfl, Nat.le_of_ble_eq_true rfl⟩) (by decide +kernel) (by decide +kernel) (by decide +kernel) (by decide +kernel) hl3 (C := RJx4a65c) (T := TJx4a65c) (N := 3) rfl rfl rfl (Nat.le_of_ble_eq_true rfl) (by first | exact Nat.le_of_ble_eq_true rfl | (dsimp only [gRm]; omega)) (by first | exact Nat.le_of_ble_eq_true rfl | (dsimp only [gRm]; omega)) dX3_at_19 ?_
  refine gI_icmp_lt hB 33 dX3_at_22 (by decide) (fun _ => ?_) (fun z => absurd ((nI_ltI (by omega) (by omega)).mpr (by omega)) z)
  refine gI_aload_n hB 0 dX3_at_33 rfl ?_
  refine gI_get (v := .ref (cLa Λ 3)) hB 0 hs (C := RX3) (T := TX3) (N := 4) rfl (by decide +kernel) (by decide) (by decide +kernel) (fun _ h9 => h9) rfl dX3_at_34 ?_
  refine gI_iload_n hB 1 dX3_at_37 rfl ?_
  refine gI_pureV (n9 := 1) (As := [.int (nI n)]) (rest := []) hB (l_get X.2.1 h Λ 3 hL n (by omega)) (gCW.of ggX3_at_Jx4a65c_get_915e3 rfl ⟨by decide, by decide, by decide +kernel⟩ ⟨Nat.le_of_ble_eq_true rfl, Nat.le_of_ble_eq_true rfl⟩) (by decide +kernel) (by decide +kernel) (by decide +kernel) (by decide +kernel) hl3 (C := RJx4a65c) (T := TJx4a65c) (N := 3) rfl rfl rfl (Nat.le_of_ble_eq_true rfl) (by first | exact Nat.le_of_ble_eq_true rfl | (dsimp only [gRm]; omega)) (by first | exact Nat.le_of_ble_eq_true rfl | (dsimp only [gRm]; omega)) dX3_at_38 ?_
  refine gI_cast hB hno (C := RX1) (T := TX1) (N := 7) rfl (by decide +kernel) dX3_at_41 ?_
  refine gI_aret hB hE (Or.inl ⟨_, rfl⟩) (Or.inr ⟨_, rfl⟩) dX3_at_44 ?_
  exact gRet.rfl'

set_option maxRecDepth 100000 in
set_option maxHeartbeats 4000000 in
theorem k_sadd (G : gG) (h_0 : gH) (c : Nat → Nat) (Λ0 : CL) (u : MS) (T W z : Nat) (hC : cRep G h_0 c Λ0 u T W z) (o : mOk u T W z) (y : Nat) (D : Nat → Int32) (B : Nat) (hy : gat h_0 y (.inr (5, rFS (mRow D 0) (wOf D 5 (D 4))))) (hny : ∀ k l, k < 4 + T → l < cLen Λ0 k → cEl Λ0 k l ≠ y) (eD : u.2 4 = D) (hB6 : 60 ≤ B) (hBl : cLen Λ0 1 + cLen Λ0 2 ≤ B) (x len : Int32) (hd : mOkR D 0 T) : gMet yX3_add wsX3_add (gRm 7 2 700) G h_0 [.ref (c 2), .int x, .int len, .ref y] ((fun r h9 k n => ∃ Λ9 z9, r = .inl none ∧ cRep G h9 c Λ9 (mSingC u x len) T W z9 ∧ (mSingC u x len).1 12 = nI z9 ∧ z9 ≤ 200 ∧ gat h9 y (.inr (5, rFS (mRow D 0) (wOf D 5 (D 4)))) ∧ (∀ k l, k < 4 + T → l < cLen Λ9 k → cEl Λ9 k l ≠ y) ∧ cSame Λ0 Λ9 ∧ cFr h_0 h9 ∧ cLen Λ9 1 = cLen Λ0 1 ∧ cLen Λ9 2 = cLen Λ0 2 ∧ cPhi Λ0 ≤ cPhi Λ9 ∧ k ≤ cPhi Λ9 - cPhi Λ0 ∧ n ≤ 7 * (cPhi Λ9 - cPhi Λ0))) := by
  refine gMet_of (maxL := 5) (ret := none) (by decide) rfl (Nat.le_of_ble_eq_true rfl) ?_
  intro X hG hnL hB hE
  subst hG
  suffices go : ∀ h : gH, h = h_0 → gW X h 0 0 0 [(0, .ref (c 2)), (1, .int x), (2, .int len), (3, .ref y)] [] from go h_0 rfl
  intro h eh
  rw [← eh] at hC hy
  subst eD
  have hF : cFr h_0 h := by rw [eh]; exact cFr.rf
  obtain ⟨Λ, eΛ⟩ : ∃ Λ, Λ = Λ0 := ⟨_, rfl⟩
  rw [← eΛ] at hC hny hBl
  have hT := o.2.1
  have hW60 := o.2.2.2.1
  have hz200 := o.2.2.2.2.2.1
  have ez := o.2.2.2.2.1
  have eW := o.2.2.1
  have eT := o.1
  have hz3 : z ≤ cLen Λ 3 := hC.2.2.2.2.1.2.2.1
  have hl200 : cLen Λ 3 ≤ 200 := hC.2.2.2.2.1.2.2.2.1
  obtain ⟨md3, g3, hl3, -⟩ := hC.2.2.2.1 3 (by omega)
  refine gI_aload_n hB 0 dX3_add_0 rfl ?_
  refine gI_dup hB dX3_add_1 rfl ?_
  refine gI_get (v := .int (u.1 10)) hB 3 hC.2.2.1 (C := RX3) (T := TX3) (N := 4) rfl (by decide +kernel) (by decide) (by decide +kernel) (fun _ h9 => h9) rfl dX3_add_2 ?_
  refine gI_iconst (v := nI 1) hB dX3_add_5 (by decide) ?_
  refine gI_iadd hB dX3_add_6 ?_
  refine gC_put hB 3 tyX3 tyX3_ok nmX3 hC.2.2.1 (C := RX3) (T := TX3) (N := 4) rfl (by decide +kernel) (by decide) (by decide +kernel) (fun _ h9 => h9) rfl rfl rfl (Nat.le_of_ble_eq_true rfl) dX3_add_7 (fun h hN hK => ?_)
  have hy := hK _ _ hy (gat_ne hy hC.2.2.1 rfl)
  have hF := hF.st hC.2.2.1 rfl hK
  have hC : cRep X.2.1 h c Λ (sg u 10 ((u.1 10) + (nI 1))) T W z := hC.putSong (v := (sg u 10 ((u.1 10) + (nI 1)))) hK hN rfl rfl rfl rfl rfl rfl
  obtain ⟨md3, g3, hl3, -⟩ := hC.2.2.2.1 3 (by omega)
  refine gI_aload_n hB 0 dX3_add_10 rfl ?_
  refine gI_get (v := .int ((sg u 10 ((u.1 10) + (nI 1))).1 12)) hB 2 hC.2.2.1 (C := RX3) (T := TX3) (N := 4) rfl (by decide +kernel) (by decide) (by decide +kernel) (fun _ h9 => h9) rfl dX3_add_11 ?_
  refine gI_topi hB (y := nI z) ez ?_
  refine gI_sipush (v := nI 200) hB dX3_add_14 (by decide) ?_
  refine gI_icmp_lt hB 21 dX3_add_17 (by decide) (fun c17_1 => ?_) (fun c17_1 => ?_)
  · skip
    have c17_1 := (nI_ltI (by omega) (by omega)).mp c17_1
    have j50 : ∀ (h : gH) (Λ : CL) (k n : Nat), cRep X.2.1 h c Λ (sg u 10 ((u.1 10) + (nI 1))) T W z → gat h y (.inr (5, rFS (mRow (u.2 4) 0) (wOf (u.2 4) 5 (u.2 4 4)))) → (∀ k l, k < 4 + T → l < cLen Λ k → cEl Λ k l ≠ y) → cSame Λ0 Λ → cFr h_0 h → cLen Λ 1 = cLen Λ0 1 → cLen Λ 2 = cLen Λ0 2 → z < cLen Λ 3 → cPhi Λ0 ≤ cPhi Λ → k ≤ cPhi Λ - cPhi Λ0 → n ≤ 7 * (cPhi Λ - cPhi Λ0) → k ≤ 2 → n ≤ 460 → gW X h k n 50 [(0, .ref (c 2)), (1, .int x), (2, .int len), (3, .ref y)] [] := by
      intro h Λ k n hC hy hny hsm hF hl1 hl2 hz5 hP0 hPk hPn hkb hnb
      have hl200 : cLen Λ 3 ≤ 200 := hC.2.2.2.2.1.2.2.2.1
      obtain ⟨fn, wn, hno, -⟩ := hC.2.2.2.2.2.2.2.2.2.1 z hz5
      refine gI_aload_n hB 0 dX3_add_50 rfl ?_
      refine gI_dup hB dX3_add_51 rfl ?_
      refine gI_get (v := .int ((sg u 10 ((u.1 10) + (nI 1))).1 12)) hB 2 hC.2.2.1 (C := RX3) (T := TX3) (N := 4) rfl (by decide +kernel) (by decide) (by decide +kernel) (fun _ h9 => h9) rfl dX3_add_52 ?_
      refine gI_topi hB (y := nI z) ez ?_
      refine gI_iconst (v := nI 1) hB dX3_add_55 (by decide) ?_
      refine gI_iaddN hB dX3_add_56 ?_
      refine gC_put hB 2 tyX3 tyX3_ok nmX3 hC.2.2.1 (C := RX3) (T := TX3) (N := 4) rfl (by decide +kernel) (by decide) (by decide +kernel) (fun _ h9 => h9) rfl rfl rfl (Nat.le_of_ble_eq_true rfl) dX3_add_57 (fun h hN hK => ?_)
      have hy := hK _ _ hy (gat_ne hy hC.2.2.1 rfl)
      have hno := hK _ _ hno (gat_ne hno hC.2.2.1 rfl)
      have hF := hF.st hC.2.2.1 rfl hK
      have hC : cRep X.2.1 h c Λ (sg (sg u 10 ((u.1 10) + (nI 1))) 12 (nI (z + 1))) T W z := hC.putSong (v := (sg (sg u 10 ((u.1 10) + (nI 1))) 12 (nI (z + 1)))) hK hN rfl rfl rfl rfl rfl rfl
      refine gI_aload_n hB 0 dX3_add_60 rfl ?_
      refine gI_aload_n hB 0 dX3_add_61 rfl ?_
      refine gI_get (v := .int ((sg (sg u 10 ((u.1 10) + (nI 1))) 12 (nI (z + 1))).1 12)) hB 2 hC.2.2.1 (C := RX3) (T := TX3) (N := 4) rfl (by decide +kernel) (by decide) (by decide +kernel) (fun _ h9 => h9) rfl dX3_add_62 ?_
      refine gI_topi hB (y := nI (z + 1)) rfl ?_
      refine gI_iconst (v := nI 1) hB dX3_add_65 (by decide) ?_
      refine gI_isub hB dX3_add_66 ?_
      refine gI_topi hB (y := nI z) (nI_m1 z) ?_
      refine gI_pureV (n9 := 1) (As := [.int (nI z)]) (rest := []) hB (k_noteAtX X.2.1 h c Λ (z + 1) z _ hC.2.2.1 (hC.2.2.2.1 3 (by omega)) (by omega) (by omega) (by omega) (by omega) fn wn hno) (gCW.of ggX3_add_X3_at rfl ⟨by decide, by decide, by decide +kernel⟩ ⟨Nat.le_of_ble_eq_true rfl, Nat.le_of_ble_eq_true rfl⟩) (by decide +kernel) (by decide +kernel) (by decide +kernel) (by decide +kernel) hC.2.2.1 (C := RX3) (T := TX3) (N := 4) rfl rfl rfl (Nat.le_of_ble_eq_true rfl) (by first | exact Nat.le_of_ble_eq_true rfl | (dsimp only [gRm]; omega)) (by first | exact Nat.le_of_ble_eq_true rfl | (dsimp only [gRm]; omega)) dX3_add_67 ?_
      refine gI_astore hB ([(4, .ref (cEl Λ 3 z)), (0, .ref (c 2)), (1, .int x), (2, .int len), (3, .ref y)]) hnL dX3_add_70 (by decide) rfl ?_
      refine gI_aload hB 0 dX3_add_72 rfl ?_
      refine gI_aload_n hB 4 dX3_add_74 rfl ?_
      refine gI_get (v := .int (u.2 4 0)) hB 0 hy (C := RX2) (T := TX2) (N := 6) rfl (by decide +kernel) (by decide) (by decide +kernel) (fun _ h9 => h9) rfl dX3_add_75 ?_
      refine gC_put hB 0 tyX1 tyX1_ok nmX1 hno (C := RX1) (T := TX1) (N := 7) rfl (by decide +kernel) (by decide) (by decide +kernel) (fun _ h9 => h9) rfl rfl rfl (Nat.le_of_ble_eq_true rfl) dX3_add_78 (fun h hN hK => ?_)
      have hy := hK _ _ hy (gat_ne hy hno rfl)
      have hF := hF.st hno rfl hK
      replace hno : gat h (cEl Λ 3 z) (.inr (4, [.int (u.2 4 0), .int (fn 1), .int (fn 2), .int (fn 3), .int (fn 4), .int (fn 5), .long wn])) := hN
      have hC := hC.putNoteL hz5 (Nat.le_refl z) hK hno
      refine gI_aload hB 0 dX3_add_81 rfl ?_
      refine gI_iload_n hB 3 dX3_add_83 rfl ?_
      refine gC_put hB 1 tyX1 tyX1_ok nmX1 hno (C := RX1) (T := TX1) (N := 7) rfl (by decide +kernel) (by decide) (by decide +kernel) (fun _ h9 => h9) rfl rfl rfl (Nat.le_of_ble_eq_true rfl) dX3_add_84 (fun h hN hK => ?_)
      have hy := hK _ _ hy (gat_ne hy hno rfl)
      have hF := hF.st hno rfl hK
      replace hno : gat h (cEl Λ 3 z) (.inr (4, [.int (u.2 4 0), .int len, .int (fn 2), .int (fn 3), .int (fn 4), .int (fn 5), .long wn])) := hN
      have hC := hC.putNoteL hz5 (Nat.le_refl z) hK hno
      refine gI_aload hB 0 dX3_add_87 rfl ?_
      refine gI_iload_n hB 2 dX3_add_89 rfl ?_
      refine gC_put hB 2 tyX1 tyX1_ok nmX1 hno (C := RX1) (T := TX1) (N := 7) rfl (by decide +kernel) (by decide) (by decide +kernel) (fun _ h9 => h9) rfl rfl rfl (Nat.le_of_ble_eq_true rfl) dX3_add_90 (fun h hN hK => ?_)
      have hy := hK _ _ hy (gat_ne hy hno rfl)
      have hF := hF.st hno rfl hK
      replace hno : gat h (cEl Λ 3 z) (.inr (4, [.int (u.2 4 0), .int len, .int x, .int (fn 3), .int (fn 4), .int (fn 5), .long wn])) := hN
      have hC := hC.putNoteL hz5 (Nat.le_refl z) hK hno
      refine gI_aload hB 0 dX3_add_93 rfl ?_
      refine gI_aload_n hB 4 dX3_add_95 rfl ?_
      refine gI_get (v := .int (u.2 4 1)) hB 1 hy (C := RX2) (T := TX2) (N := 6) rfl (by decide +kernel) (by decide) (by decide +kernel) (fun _ h9 => h9) rfl dX3_add_96 ?_
      refine gC_put hB 3 tyX1 tyX1_ok nmX1 hno (C := RX1) (T := TX1) (N := 7) rfl (by decide +kernel) (by decide) (by decide +kernel) (fun _ h9 => h9) rfl rfl rfl (Nat.le_of_ble_eq_true rfl) dX3_add_99 (fun h hN hK => ?_)
      have hy := hK _ _ hy (gat_ne hy hno rfl)
      have hF := hF.st hno rfl hK
      replace hno : gat h (cEl Λ 3 z) (.inr (4, [.int (u.2 4 0), .int len, .int x, .int (u.2 4 1), .int (fn 4), .int (fn 5), .long wn])) := hN
      have hC := hC.putNoteL hz5 (Nat.le_refl z) hK hno
      refine gI_aload hB 0 dX3_add_102 rfl ?_
      refine gI_aload_n hB 4 dX3_add_104 rfl ?_
      refine gI_get (v := .int (u.2 4 4)) hB 4 hy (C := RX2) (T := TX2) (N := 6) rfl (by decide +kernel) (by decide) (by decide +kernel) (fun _ h9 => h9) rfl dX3_add_105 ?_
      refine gC_put hB 4 tyX1 tyX1_ok nmX1 hno (C := RX1) (T := TX1) (N := 7) rfl (by decide +kernel) (by decide) (by decide +kernel) (fun _ h9 => h9) rfl rfl rfl (Nat.le_of_ble_eq_true rfl) dX3_add_108 (fun h hN hK => ?_)
      have hy := hK _ _ hy (gat_ne hy hno rfl)
      have hF := hF.st hno rfl hK
      replace hno : gat h (cEl Λ 3 z) (.inr (4, [.int (u.2 4 0), .int len, .int x, .int (u.2 4 1), .int (u.2 4 4), .int (fn 5), .long wn])) := hN
      have hC := hC.putNoteL hz5 (Nat.le_refl z) hK hno
      refine gI_aload hB 0 dX3_add_111 rfl ?_
      refine gI_aload_n hB 4 dX3_add_113 rfl ?_
      refine gI_get (v := .int (u.2 4 2)) hB 2 hy (C := RX2) (T := TX2) (N := 6) rfl (by decide +kernel) (by decide) (by decide +kernel) (fun _ h9 => h9) rfl dX3_add_114 ?_
      refine gC_put hB 5 tyX1 tyX1_ok nmX1 hno (C := RX1) (T := TX1) (N := 7) rfl (by decide +kernel) (by decide) (by decide +kernel) (fun _ h9 => h9) rfl rfl rfl (Nat.le_of_ble_eq_true rfl) dX3_add_117 (fun h hN hK => ?_)
      have hy := hK _ _ hy (gat_ne hy hno rfl)
      have hF := hF.st hno rfl hK
      replace hno : gat h (cEl Λ 3 z) (.inr (4, [.int (u.2 4 0), .int len, .int x, .int (u.2 4 1), .int (u.2 4 4), .int (u.2 4 2), .long wn])) := hN
      have hC := hC.putNoteL hz5 (Nat.le_refl z) hK hno
      refine gI_aload hB 0 dX3_add_120 rfl ?_
      refine gI_aload_n hB 4 dX3_add_122 rfl ?_
      refine gI_get (v := .long (wOf (u.2 4) 5 (u.2 4 4))) hB 5 hy (C := RX2) (T := TX2) (N := 6) rfl (by decide +kernel) (by decide) (by decide +kernel) (fun _ h9 => h9) rfl dX3_add_123 ?_
      refine gC_put hB 6 tyX1 tyX1_ok nmX1 hno (C := RX1) (T := TX1) (N := 7) rfl (by decide +kernel) (by decide) (by decide +kernel) (fun _ h9 => h9) rfl rfl rfl (Nat.le_of_ble_eq_true rfl) dX3_add_126 (fun h hN hK => ?_)
      have hy := hK _ _ hy (gat_ne hy hno rfl)
      have hF := hF.st hno rfl hK
      replace hno : gat h (cEl Λ 3 z) (.inr (4, [.int (u.2 4 0), .int len, .int x, .int (u.2 4 1), .int (u.2 4 4), .int (u.2 4 2), .long (wOf (u.2 4) 5 (u.2 4 4))])) := hN
      have hC := hC.putNoteL hz5 (Nat.le_refl z) hK hno
      refine gI_vret hB hE dX3_add_129 ?_
      have es : mSingC u x len = sa (sg (sg u 10 (u.1 10 + nI 1)) 12 (nI (z + 1))) 3 (va_cpy (u.2 4) (va_cpy (m6 (u.2 4 0) len x (u.2 4 1) (u.2 4 4) (u.2 4 2)) (u.2 3) 0 (15 * z) 6) 5 (15 * z + 6) 9) := by unfold mSingC; rw [if_neg (by rw [ez]; exact fun z9 => absurd ((nI_eq (by omega) (by omega)).mp z9) (by omega)), ez, mCl (by omega)]; rfl
      obtain ⟨p, hp1, hp2, -⟩ := hd.hand
      obtain ⟨s1, s2, s3⟩ := sing_row (S := u.2 3) (z := z) (f := m6 (u.2 4 0) len x (u.2 4 1) (u.2 4 4) (u.2 4 2)) hp1 hp2 rfl
      have hC9 := hC.keepNote (x := 0) (f := m6 (u.2 4 0) len x (u.2 4 1) (u.2 4 4) (u.2 4 2)) hz5 hno s1 s2 s3 (fun n9 hn9 => by obtain ⟨-, q9, q1, q2, -⟩ := o.2.2.2.2.2.2.2.2.2 n9 hn9; exact ⟨q9, q1, q2⟩)
      exact ⟨Λ, z + 1, rfl, by rw [es]; exact hC9, by rw [es]; rfl, by omega, hy, hny, hsm, hF, hl1, hl2, hP0, hPk, hPn⟩
    refine gI_aload_n hB 0 dX3_add_21 rfl ?_
    refine gI_get (v := .int ((sg u 10 ((u.1 10) + (nI 1))).1 12)) hB 2 hC.2.2.1 (C := RX3) (T := TX3) (N := 4) rfl (by decide +kernel) (by decide) (by decide +kernel) (fun _ h9 => h9) rfl dX3_add_22 ?_
    refine gI_topi hB (y := nI z) ez ?_
    refine gI_aload_n hB 0 dX3_add_25 rfl ?_
    refine gI_get (v := .ref (cLa Λ 3)) hB 0 hC.2.2.1 (C := RX3) (T := TX3) (N := 4) rfl (by decide +kernel) (by decide) (by decide +kernel) (fun _ h9 => h9) rfl dX3_add_26 ?_
    refine gI_pureV (n9 := 0) (As := []) (rest := [.int (nI z)]) hB (l_size X.2.1 h Λ 3 (hC.2.2.2.1 3 (by omega))) (gCW.of ggX3_add_Jx4a65c_size_8abf5 rfl ⟨by decide, by decide, by decide +kernel⟩ ⟨Nat.le_of_ble_eq_true rfl, Nat.le_of_ble_eq_true rfl⟩) (by decide +kernel) (by decide +kernel) (by decide +kernel) (by decide +kernel) hl3 (C := RJx4a65c) (T := TJx4a65c) (N := 3) rfl rfl rfl (Nat.le_of_ble_eq_true rfl) (by first | exact Nat.le_of_ble_eq_true rfl | (dsimp only [gRm]; omega)) (by first | exact Nat.le_of_ble_eq_true rfl | (dsimp only [gRm]; omega)) dX3_add_29 ?_
    refine gI_icmp_lt hB 50 dX3_add_32 (by decide) (fun c32_2 => ?_) (fun c32_2 => ?_)
    · skip
      have c32_2 := (nI_ltI (by omega) (by omega)).mp c32_2
      exact j50 h Λ _ _ hC hy hny (eΛ ▸ cSame.rf) hF (by rw [eΛ]) (by rw [eΛ]) (by omega) (by rw [eΛ]; exact Nat.le_refl _) (Nat.zero_le _) (Nat.zero_le _) (by omega) (by omega)
    · skip
      have c32_2 := mt (nI_ltI (by omega) (by omega)).mpr c32_2
      refine gI_aload_n hB 0 dX3_add_35 rfl ?_
      refine gI_get (v := .ref (cLa Λ 3)) hB 0 hC.2.2.1 (C := RX3) (T := TX3) (N := 4) rfl (by decide +kernel) (by decide) (by decide +kernel) (fun _ h9 => h9) rfl dX3_add_36 ?_
      refine gC_new hB (ci := 4) (C := RX1) (T := TX1) (N := 7) [.int 0, .int 0, .int 0, .int 0, .int 0, .int 0, .long 0] tyX1 tyX1_ok rfl (by decide +kernel) (by decide +kernel) (by decide +kernel) (by decide +kernel) (fun j hj => by rcases (show j = 0 ∨ j = 1 ∨ j = 2 ∨ j = 3 ∨ j = 4 ∨ j = 5 ∨ j = 6 by omega) with rfl | rfl | rfl | rfl | rfl | rfl | rfl <;> rfl) (by first | exact Nat.le_of_ble_eq_true rfl | (dsimp only [gRm]; omega)) (by first | exact Nat.le_of_ble_eq_true rfl | (dsimp only [gRm]; omega)) dX3_add_39 (fun q3 h hq3 Hq3 hK => ?_)
      have ne_q3 : ∀ k l, k < 4 + T → l < cLen Λ k → cEl Λ k l ≠ q3 := fun k l hk hl z9 => hq3 (z9 ▸ hC.elMem hk hl)
      have n3_q3 : c 3 ≠ q3 := fun z9 => hq3 (by obtain ⟨-, -, ff, fw, f3⟩ := hC.2.1; exact z9 ▸ f3.1)
      have n_q3_y : y ≠ q3 := fun z9 => hq3 (z9 ▸ hy.1)
      have hy := hK _ _ hy
      have hF := hF.sa hK
      have hC := hC.fresh hK
      obtain ⟨md3, g3, hl3, -⟩ := hC.2.2.2.1 3 (by omega)
      refine gI_dup hB dX3_add_42 rfl ?_
      refine gI_pureI (n9 := 0) (As := []) (rest := [.ref q3, .ref (cLa Λ 3)]) hB (k_ninit X.2.1 h q3 Hq3) (gCW.of ggX3_add_X1_init rfl ⟨by decide, by decide, by decide +kernel⟩ ⟨Nat.le_of_ble_eq_true rfl, Nat.le_of_ble_eq_true rfl⟩) rfl rfl (Or.inr ⟨"DoorbellChoir", by decide +kernel⟩) (by decide +kernel) (by decide +kernel) rfl rfl (Nat.le_of_ble_eq_true rfl) (by first | exact Nat.le_of_ble_eq_true rfl | (dsimp only [gRm]; omega)) (by first | exact Nat.le_of_ble_eq_true rfl | (dsimp only [gRm]; omega)) dX3_add_43 ?_
      obtain ⟨md9, g9, hl9, hr9, hn9, hc9, hb9, he9⟩ := hC.2.2.2.1 3 (by omega)
      have hgc := gCap_675 hc9
      refine gI_callV (n9 := 1) (As := [.ref q3]) (rest := []) hB (j_add1 X.2.1 h (cLa Λ 3) (cAa Λ 3) (cLen Λ 3) (cCap Λ 3) q3 md9 g9 hl9 hr9 (hC.hel (by omega) he9) ⟨4, _, _, Hq3, rfl, by decide +kernel⟩ hn9 (by omega) (by omega)) (gCW.of ggX3_add_Jx4a65c_add_9ea2d rfl ⟨by decide, by decide, by decide +kernel⟩ ⟨Nat.le_of_ble_eq_true rfl, Nat.le_of_ble_eq_true rfl⟩) (by decide +kernel) (by decide +kernel) (by decide +kernel) (by decide +kernel) hl9 (C := RJx4a65c) (T := TJx4a65c) (N := 3) rfl rfl rfl (Nat.le_of_ble_eq_true rfl) (by first | exact Nat.le_of_ble_eq_true rfl | (dsimp only [gRm]; omega)) (by first | exact Nat.le_of_ble_eq_true rfl | (dsimp only [gRm]; omega)) dX3_add_46 (fun v9 h k9 n9 hp => ?_) (fun E9 h1 k1 n1 hp => by obtain ⟨a9, c9, g9, e9, -⟩ := hp; cases e9)
      obtain ⟨e9, A9, cap9, hf9, hL9, hA9, hc1, hk1, hs1, hk2, hs2, hs3⟩ := hC.added (by omega) hr9 hn9 hc9 he9 (by omega) (by omega) hp
      cases e9
      have hk := gLf.l2 (hC.2.2.2.1 3 (by omega)) hf9
      have hF := hF.lf (hC.2.2.2.1 3 (by omega)) hf9
      have hy := hk _ _ hy (tgN_ne rfl) (tgN_ne rfl)
      have Hq3 := hk _ _ Hq3 (tgN_ne rfl) (tgN_ne rfl)
      have hC2 := hC.noteAdd (f := fun _ => 0) (w9 := 0) hz3 (by omega) hf9 hL9 hA9 ne_q3 Hq3
      have hP3 := cPhi_3 (Λ := Λ) (A := A9) (cap := cap9) (f := eIns (cEl Λ 3) (cLen Λ 3) q3)
      have hny2 : ∀ k l, k < 4 + T → l < cLen (cUp Λ 3 A9 cap9 (cLen Λ 3 + 1) (eIns (cEl Λ 3) (cLen Λ 3) q3)) k → cEl (cUp Λ 3 A9 cap9 (cLen Λ 3 + 1) (eIns (cEl Λ 3) (cLen Λ 3) q3)) k l ≠ y := fun k l hk9 hl9 => by
        rcases eIns_of (Λ := Λ) (i := 3) (j := cLen Λ 3) (e := q3) (Nat.le_refl _) hl9 with ⟨-, -, h3⟩ | ⟨l9, h1, h2⟩
        · rw [h3]
          exact Ne.symm n_q3_y
        · rw [h2]
          exact hny k l9 hk9 h1
      refine gI_pop hB dX3_add_49 rfl ?_
      exact j50 h _ _ _ hC2 hy hny2 (eΛ ▸ cSame.up (Or.inr (Or.inr rfl))) hF (by rw [cUp_len_ne (show 1 ≠ 3 by omega), eΛ]) (by rw [cUp_len_ne (show 2 ≠ 3 by omega), eΛ]) (by rw [cUp_len]; omega) (by rw [← eΛ]; omega) (by rw [← eΛ]; omega) (by rw [← eΛ]; omega) (by omega) (by omega)
  · skip
    have c17_1 := mt (nI_ltI (by omega) (by omega)).mpr c17_1
    refine gI_vret hB hE dX3_add_20 ?_
    have es : mSingC u x len = sg u 10 (u.1 10 + nI 1) := by unfold mSingC; rw [if_pos (by rw [ez]; exact congrArg nI (by omega))]
    exact ⟨Λ, z, rfl, by rw [es]; exact hC, by rw [es]; exact ez, hz200, hy, hny, eΛ ▸ cSame.rf, hF, by rw [eΛ], by rw [eΛ], by rw [eΛ]; exact Nat.le_refl _, Nat.zero_le _, Nat.zero_le _⟩

