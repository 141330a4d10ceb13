theorem ten0_row {A : Nat → Int32} {T l : Nat} {x p : Int32} : tFS (va_cpy (mNew x p) A 0 (7 * T) 7) T l = [.int (nI T), .int x, .int p, .ref l, .int p, .int 0, .int 0, .int (-1)] := by
  have e : ∀ k, k < 7 → va_cpy (mNew x p) A 0 (7 * T) 7 (7 * T + k) = mNew x p k := fun k hk => by rw [pk_cpy_in (by omega) (by omega), show 0 + (7 * T + k - 7 * T) = k by omega]
  show [Value.int (nI T), .int (va_cpy (mNew x p) A 0 (7 * T) 7 (7 * T + 0)), .int (va_cpy (mNew x p) A 0 (7 * T) 7 (7 * T + 1)), .ref l, .int (va_cpy (mNew x p) A 0 (7 * T) 7 (7 * T + 2)), .int (va_cpy (mNew x p) A 0 (7 * T) 7 (7 * T + 4)), .int (va_cpy (mNew x p) A 0 (7 * T) 7 (7 * T + 5)), .int (va_cpy (mNew x p) A 0 (7 * T) 7 (7 * T + 6))] = _
  rw [e 0 (by omega), e 1 (by omega), e 2 (by omega), e 4 (by omega), e 5 (by omega), e 6 (by omega)]
  rfl
theorem cRep.tenCome {G : gG} {h h' : gH} {c : Nat → Nat} {Λ : CL} {u : MS} {T W z A cap e l : Nat} {md x : Int32} {f : Nat → Int32} (hC : cRep G h c Λ u T W z) (hf : gLf h h' (cLa Λ 0) (cAa Λ 0) (cLen Λ 0) (cCap Λ 0)) (hL : cLst G h' (cUp Λ 0 A cap (cLen Λ 0 + 1) (eIns (cEl Λ 0) (cLen Λ 0) e)) 0)
    (hA : ∀ k, k < 4 + T → k ≠ 0 → cap ≠ 0 → cCap Λ k ≠ 0 → A ≠ cAa Λ k) (he : ∀ k l, k < 4 + T → l < cLen Λ k → cEl Λ k l ≠ e) (hln : ∀ i, i < 4 + T → cLa Λ i ≠ l)
    (hli : gat h' l (.inr (2, [.int md, .ref (gE0 G), .int (nI 0)]))) (hh : gat h' e (.inr (7, tFS f T l))) (fA : ∀ t i, t < T → i < 7 → f (7 * t + i) = u.2 0 (7 * t + i)) (f3 : f (7 * T + 3) = nI 0) :
    ∃ Λ', cRep G h' c Λ' (sg (sa u 0 f) 3 x) (T + 1) W z ∧ cPhi Λ' = cPhi Λ := by
  have a1 : ∀ i, i < 4 + T → cLa (cNew Λ (4 + T) l (gE0 G)) i = cLa Λ i := fun i hi => va_up_ne _ _ (by omega)
  have a2 : ∀ i, i < 4 + T → cAa (cNew Λ (4 + T) l (gE0 G)) i = cAa Λ i := fun i hi => va_up_ne _ _ (by omega)
  have a3 : ∀ i, i < 4 + T → cCap (cNew Λ (4 + T) l (gE0 G)) i = cCap Λ i := fun i hi => va_up_ne _ _ (by omega)
  have a4 : ∀ i, i < 4 + T → cLen (cNew Λ (4 + T) l (gE0 G)) i = cLen Λ i := fun i hi => va_up_ne _ _ (by omega)
  have a5 : cEl (cNew Λ (4 + T) l (gE0 G)) = cEl Λ := rfl
  have b1 : cLa (cNew Λ (4 + T) l (gE0 G)) (4 + T) = l := va_up_self _ _ _
  refine ⟨_, (hC.new (l := l) (A0 := gE0 G)).addTen (A := A) (cap := cap) (e := e) (md := md) (x := x) (f := f) ?_ ?_ ?_ ?_ (va_up_self _ _ _) (va_up_self _ _ _) (va_up_self _ _ _) ?_ ?_ ?_ fA f3, ?_⟩
  · rw [a1 0 (by omega), a2 0 (by omega), a3 0 (by omega), a4 0 (by omega)]
    exact hf
  · obtain ⟨md, g, h1, h2, h3, h4, h5, h6⟩ := hL
    rw [cUp_len] at h3 h5
    rw [cUp_cap] at h3 h4
    refine ⟨md, g, ?_, ?_, ?_, ?_, ?_, fun j hj => ?_⟩
    · have e1 : cLa (cUp Λ 0 A cap (cLen Λ 0 + 1) (eIns (cEl Λ 0) (cLen Λ 0) e)) 0 = cLa (cNew Λ (4 + T) l (gE0 G)) 0 := (a1 0 (by omega)).symm
      rw [e1, cUp_aa, cUp_len] at h1
      show gat h' (cLa (cNew Λ (4 + T) l (gE0 G)) 0) (.inr (2, [.int md, .ref (cAa (cUp (cNew Λ (4 + T) l (gE0 G)) 0 A cap (cLen (cNew Λ (4 + T) l (gE0 G)) 0 + 1) (eIns (cEl (cNew Λ (4 + T) l (gE0 G)) 0) (cLen (cNew Λ (4 + T) l (gE0 G)) 0) e)) 0), .int (nI (cLen (cUp (cNew Λ (4 + T) l (gE0 G)) 0 A cap (cLen (cNew Λ (4 + T) l (gE0 G)) 0 + 1) (eIns (cEl (cNew Λ (4 + T) l (gE0 G)) 0) (cLen (cNew Λ (4 + T) l (gE0 G)) 0) e)) 0))]))
      rw [cUp_aa, cUp_len, a4 0 (by omega)]
      exact h1
    · rw [cUp_aa, cUp_cap] at h2
      rw [cUp_aa, cUp_cap]
      exact h2
    · rw [cUp_len, cUp_cap, a4 0 (by omega)]
      exact h3
    · rw [cUp_cap]
      exact h4
    · rw [cUp_len, a4 0 (by omega)]
      exact h5
    · rw [cUp_len, a4 0 (by omega)] at hj
      rw [cUp_el, a5, a4 0 (by omega)]
      have := h6 j (by rw [cUp_len]; exact hj)
      rw [cUp_el] at this
      exact this
  · exact fun k hk n1 n2 n3 => by rw [a2 k hk]; exact hA k hk n1 n2 (by rw [← a3 k hk]; exact n3)
  · exact fun k j hk hj => by rw [a5]; exact he k j hk (by rw [← a4 k hk]; exact hj)
  · exact fun i hi => by rw [b1, a1 i hi]; exact hln i hi
  · rw [b1]
    exact hli
  · rw [b1]
    exact hh
  · unfold cPhi
    rw [cUp_cap_ne (show 1 ≠ 0 by omega), cUp_cap_ne (show 2 ≠ 0 by omega), cUp_cap_ne (show 3 ≠ 0 by omega), cUp_len_ne (show 1 ≠ 0 by omega), cUp_len_ne (show 2 ≠ 0 by omega), cUp_len_ne (show 3 ≠ 0 by omega), a3 1 (by omega), a3 2 (by omega), a3 3 (by omega), a4 1 (by omega), a4 2 (by omega), a4 3 (by omega)]

set_option maxRecDepth 100000 in
set_option maxHeartbeats 4000000 in
theorem p_moveIn (G : gG) (h : gH) (c : Nat → Nat) (Λ : CL) (u : MS) (T W z : Nat) (hC : cRep G h c Λ u T W z) (o : mOk u T W z) (x p : Int32) : gMet yX6_moveIn wsX6_moveIn (gRm 7 3 720) G h [.ref (c 0), .int x, .int p] (kPo G h c (cPhi Λ) (mMoveIn u x p) "java/lang/IllegalArgumentException" "java/lang/IllegalStateException" 3 720) := by
  refine gMet_of (maxL := 4) (ret := (some .int)) (by decide) rfl (Nat.le_of_ble_eq_true rfl) ?_
  intro X hG hnL hB hE
  subst hG
  change gW X h 0 0 0 [(0, .ref (c 0)), (1, .int x), (2, .int p)] []
  have hT := o.2.1
  have hW60 := o.2.2.2.1
  have hz200 := o.2.2.2.2.2.1
  have ez := o.2.2.2.2.1
  have eW := o.2.2.1
  have eT := o.1
  have hF : cFr h h := cFr.rf
  obtain ⟨md0, g0, hl0, -⟩ := hC.2.2.2.1 0 (by omega)
  have eL0 := hC.2.2.2.2.1.1
  refine gI_iload_n hB 1 dX6_moveIn_0 rfl ?_
  refine gI_iconst (v := nI 0) hB dX6_moveIn_1 (by decide) ?_
  refine gI_bipush (v := nI 87) hB dX6_moveIn_2 (by decide) ?_
  refine gI_pureS (n9 := 3) (As := [.int x, .int (nI 0), .int (nI 87)]) (rest := []) hB (k_isOutside X.2.1 h x (nI 0) (nI 87)) (gCW.of ggX6_moveIn_X6_isOutside rfl ⟨by decide, by decide, by decide +kernel⟩ ⟨Nat.le_of_ble_eq_true rfl, Nat.le_of_ble_eq_true rfl⟩) (Or.inl (by decide +kernel)) (by decide +kernel) (by decide +kernel) rfl rfl (Nat.le_of_ble_eq_true rfl) (by first | exact Nat.le_of_ble_eq_true rfl | (dsimp only [gRm]; omega)) (by first | exact Nat.le_of_ble_eq_true rfl | (dsimp only [gRm]; omega)) dX6_moveIn_4 ?_
  refine gI_if_ne hB 20 dX6_moveIn_7 (by decide) (fun c7_1 => ?_) (fun c7_1 => ?_)
  · skip
    have c7_1 := gbi_n0 c7_1
    refine gI_throw hB hE (cls := "java/lang/IllegalArgumentException") (names := ["java/lang/RuntimeException", "java/lang/Exception"]) (ik := 45) (ic := 47) (by decide +kernel) (by decide +kernel) (by decide +kernel) (by decide +kernel) (by decide +kernel) (by decide +kernel) (by decide +kernel) dX6_moveIn_20 dX6_moveIn_23 dX6_moveIn_24 dX6_moveIn_27 (Nat.le_of_ble_eq_true rfl) (Nat.le_of_ble_eq_true rfl) (by first | exact Nat.le_of_ble_eq_true rfl | (dsimp only [gRm]; omega)) (by first | exact Nat.le_of_ble_eq_true rfl | (dsimp only [gRm]; omega)) ?_
    exact kPo.mono (by omega) (by omega) (kPo.err1 hC o (by unfold mMoveIn; rw [if_neg (fun z9 => c7_1 z9.1)]) (by omega) (by omega))
  · skip
    have c7_1 := gbi_0.mp c7_1
    refine gI_iload_n hB 2 dX6_moveIn_10 rfl ?_
    refine gI_iconst (v := nI 0) hB dX6_moveIn_11 (by decide) ?_
    refine gI_bipush (v := nI 9) hB dX6_moveIn_12 (by decide) ?_
    refine gI_pureS (n9 := 3) (As := [.int p, .int (nI 0), .int (nI 9)]) (rest := []) hB (k_isOutside X.2.1 h p (nI 0) (nI 9)) (gCW.of ggX6_moveIn_X6_isOutside rfl ⟨by decide, by decide, by decide +kernel⟩ ⟨Nat.le_of_ble_eq_true rfl, Nat.le_of_ble_eq_true rfl⟩) (Or.inl (by decide +kernel)) (by decide +kernel) (by decide +kernel) rfl rfl (Nat.le_of_ble_eq_true rfl) (by first | exact Nat.le_of_ble_eq_true rfl | (dsimp only [gRm]; omega)) (by first | exact Nat.le_of_ble_eq_true rfl | (dsimp only [gRm]; omega)) dX6_moveIn_14 ?_
    refine gI_if_eq hB 28 dX6_moveIn_17 (by decide) (fun c17_2 => ?_) (fun c17_2 => ?_)
    · skip
      have c17_2 := gbi_0.mp c17_2
      refine gI_aload_n hB 0 dX6_moveIn_28 rfl ?_
      refine gI_get (v := .ref (cLa Λ 0)) hB 0 hC.1 (C := RX6) (T := TX6) (N := 9) rfl (by decide +kernel) (by decide) (by decide +kernel) (fun _ h9 => h9) rfl dX6_moveIn_29 ?_
      refine gI_pureV (n9 := 0) (As := []) (rest := []) hB (l_size X.2.1 h Λ 0 (hC.2.2.2.1 0 (by omega))) (gCW.of ggX6_moveIn_Jx4a65c_size_8abf5 rfl ⟨by decide, by decide, by decide +kernel⟩ ⟨Nat.le_of_ble_eq_true rfl, Nat.le_of_ble_eq_true rfl⟩) (by decide +kernel) (by decide +kernel) (by decide +kernel) (by decide +kernel) hl0 (C := RJx4a65c) (T := TJx4a65c) (N := 3) rfl rfl rfl (Nat.le_of_ble_eq_true rfl) (by first | exact Nat.le_of_ble_eq_true rfl | (dsimp only [gRm]; omega)) (by first | exact Nat.le_of_ble_eq_true rfl | (dsimp only [gRm]; omega)) dX6_moveIn_32 ?_
      refine gI_topi hB (y := nI T) (congrArg nI hC.2.2.2.2.1.1) ?_
      refine gI_bipush (v := nI 16) hB dX6_moveIn_35 (by decide) ?_
      refine gI_icmp_lt hB 48 dX6_moveIn_37 (by decide) (fun c37_3 => ?_) (fun c37_3 => ?_)
      · skip
        have c37_3 := (nI_ltI (by omega) (by omega)).mp c37_3
        refine gI_aload_n hB 0 dX6_moveIn_48 rfl ?_
        refine gI_get (v := .ref (cLa Λ 0)) hB 0 hC.1 (C := RX6) (T := TX6) (N := 9) rfl (by decide +kernel) (by decide) (by decide +kernel) (fun _ h9 => h9) rfl dX6_moveIn_49 ?_
        refine gI_pureV (n9 := 0) (As := []) (rest := []) hB (l_size X.2.1 h Λ 0 (hC.2.2.2.1 0 (by omega))) (gCW.of ggX6_moveIn_Jx4a65c_size_8abf5 rfl ⟨by decide, by decide, by decide +kernel⟩ ⟨Nat.le_of_ble_eq_true rfl, Nat.le_of_ble_eq_true rfl⟩) (by decide +kernel) (by decide +kernel) (by decide +kernel) (by decide +kernel) hl0 (C := RJx4a65c) (T := TJx4a65c) (N := 3) rfl rfl rfl (Nat.le_of_ble_eq_true rfl) (by first | exact Nat.le_of_ble_eq_true rfl | (dsimp only [gRm]; omega)) (by first | exact Nat.le_of_ble_eq_true rfl | (dsimp only [gRm]; omega)) dX6_moveIn_52 ?_
        refine gI_topi hB (y := nI T) (congrArg nI hC.2.2.2.2.1.1) ?_
        refine gI_istore_n hB ([(3, .int (nI T)), (0, .ref (c 0)), (1, .int x), (2, .int p)]) hnL dX6_moveIn_55 (by decide) rfl ?_
        refine gI_aload_n hB 1 dX6_moveIn_56 rfl ?_
        refine gI_get (v := .ref (cLa Λ 0)) hB 0 hC.1 (C := RX6) (T := TX6) (N := 9) rfl (by decide +kernel) (by decide) (by decide +kernel) (fun _ h9 => h9) rfl dX6_moveIn_57 ?_
        refine gC_new hB (ci := 7) (C := RX4) (T := TX4) (N := 8) [.int 0, .int 0, .int 0, .null, .int 0, .int 0, .int 0, .int 0] tyX4 tyX4_ok rfl (by decide +kernel) (by decide +kernel) (by decide +kernel) (by decide +kernel) (fun j hj => by rcases (show j = 0 ∨ j = 1 ∨ j = 2 ∨ j = 3 ∨ j = 4 ∨ j = 5 ∨ j = 6 ∨ j = 7 by omega) with rfl | rfl | rfl | rfl | rfl | rfl | rfl | rfl <;> rfl) (by first | exact Nat.le_of_ble_eq_true rfl | (dsimp only [gRm]; omega)) (by first | exact Nat.le_of_ble_eq_true rfl | (dsimp only [gRm]; omega)) dX6_moveIn_60 (fun q4 h hq4 Hq4 hK => ?_)
        have ne_q4 : ∀ k l, k < 4 + T → l < cLen Λ k → cEl Λ k l ≠ q4 := fun k l hk hl z9 => hq4 (z9 ▸ hC.elMem hk hl)
        have n3_q4 : c 3 ≠ q4 := fun z9 => hq4 (by obtain ⟨-, -, ff, fw, f3⟩ := hC.2.1; exact z9 ▸ f3.1)
        have hF := hF.sa hK
        have hC := hC.fresh hK
        obtain ⟨md0, g0, hl0, -⟩ := hC.2.2.2.1 0 (by omega)
        refine gI_dup hB dX6_moveIn_63 rfl ?_
        refine gI_iload_n hB 0 dX6_moveIn_64 rfl ?_
        refine gI_iload_n hB 2 dX6_moveIn_65 rfl ?_
        refine gI_iload_n hB 3 dX6_moveIn_66 rfl ?_
        refine gI_callI (n9 := 3) (As := [.int (nI T), .int x, .int p]) (rest := [.ref q4, .ref (cLa Λ 0)]) hB (k_tinit X.2.1 h q4 (nI T) x p Hq4) (gCW.of ggX6_moveIn_X4_init rfl ⟨by decide, by decide, by decide +kernel⟩ ⟨Nat.le_of_ble_eq_true rfl, Nat.le_of_ble_eq_true rfl⟩) rfl rfl (Or.inl (by decide +kernel)) (by decide +kernel) (by decide +kernel) rfl rfl (Nat.le_of_ble_eq_true rfl) (by first | exact Nat.le_of_ble_eq_true rfl | (dsimp only [gRm]; omega)) (by first | exact Nat.le_of_ble_eq_true rfl | (dsimp only [gRm]; omega)) dX6_moveIn_67 (fun v9 h k9 n9 hp => ?_) (fun E9 h1 k1 n1 hp => by obtain ⟨l9, e9, -⟩ := hp; cases e9)
        obtain ⟨l9, e9, hl9n, N_q4, Hl9, hK, rfl, rfl⟩ := hp
        cases e9
        have hln9 : ∀ i, i < 4 + T → cLa Λ i ≠ l9 := fun i hi z9 => hl9n (by obtain ⟨md, g, x9, -⟩ := hC.2.2.2.1 i hi; exact z9 ▸ x9.1)
        have hF := hF.st Hq4 rfl hK
        have hC := hC.free Hq4 (by decide) hK ne_q4 n3_q4
        replace Hq4 := N_q4
        obtain ⟨md0, g0, hl0, -⟩ := hC.2.2.2.1 0 (by omega)
        obtain ⟨md9, g9, hl9, hr9, hn9, hc9, hb9, he9⟩ := hC.2.2.2.1 0 (by omega)
        have hgc := gCap_675 hc9
        refine gI_callV (n9 := 1) (As := [.ref q4]) (rest := []) hB (j_add1 X.2.1 h (cLa Λ 0) (cAa Λ 0) (cLen Λ 0) (cCap Λ 0) q4 md9 g9 hl9 hr9 (hC.hel (by omega) he9) ⟨7, _, _, Hq4, rfl, by decide +kernel⟩ hn9 (by omega) (by omega)) (gCW.of ggX6_moveIn_Jx4a65c_add_9ea2d rfl ⟨by decide, by decide, by decide +kernel⟩ ⟨Nat.le_of_ble_eq_true rfl, Nat.le_of_ble_eq_true rfl⟩) (by decide +kernel) (by decide +kernel) (by decide +kernel) (by decide +kernel) hl9 (C := RJx4a65c) (T := TJx4a65c) (N := 3) rfl rfl rfl (Nat.le_of_ble_eq_true rfl) (by first | exact Nat.le_of_ble_eq_true rfl | (dsimp only [gRm]; omega)) (by first | exact Nat.le_of_ble_eq_true rfl | (dsimp only [gRm]; omega)) dX6_moveIn_70 (fun v9 h k9 n9 hp => ?_) (fun E9 h1 k1 n1 hp => by obtain ⟨a9, c9, g9, e9, -⟩ := hp; cases e9)
        obtain ⟨e9, A9, cap9, hf9, hL9, hA9, hc1, hk1, hs1, hk2, hs2, hs3⟩ := hC.added (by omega) hr9 hn9 hc9 he9 (by omega) (by omega) hp
        cases e9
        have hk := gLf.l2 (hC.2.2.2.1 0 (by omega)) hf9
        have hF := hF.lf (hC.2.2.2.1 0 (by omega)) hf9
        have Hq4 := hk _ _ Hq4 (tgN_ne rfl) (tgN_ne rfl)
        have Hl9 := hf9 _ _ Hl9 ⟨Ne.symm (hln9 0 (by omega)), fun z9 => by rcases hr9 with ⟨h0, -⟩ | ⟨-, hA⟩; exact h0; exact absurd z9 (gat_ne Hl9 hA rfl)⟩
        obtain ⟨Λ2, hC2, hP2⟩ := hC.tenCome (x := nI (T + 1)) (f := va_cpy (mNew x p) (u.2 0) 0 (7 * T) 7) hf9 hL9 hA9 ne_q4 hln9 Hl9 (by rw [ten0_row]; exact Hq4) (fun t9 i9 h9 h8 => pk_cpy_out (by omega)) (by rw [pk_cpy_in (by omega) (by omega), show 0 + (7 * T + 3 - 7 * T) = 3 by omega]; rfl)
        refine gI_pop hB dX6_moveIn_73 rfl ?_
        refine gI_iload_n hB 0 dX6_moveIn_74 rfl ?_
        refine gI_iret hB hE dX6_moveIn_75 ?_
        have es : mMoveIn u x p = (sg (sa (sg u 0 (nI 0)) 0 (va_cpy (mNew x p) (u.2 0) 0 (7 * T) 7)) 3 (nI (T + 1)), nI T) := by
          unfold mMoveIn; rw [if_pos ⟨Decidable.not_not.mp c7_1, Decidable.not_not.mp c17_2⟩, if_neg (by rw [eT]; exact fun z9 => absurd ((nI_eq (by omega) (by omega)).mp z9) (by omega)), eT, mCl (by omega)]
        rw [es]
        exact ⟨_, ⟨Λ2, T + 1, W, z, hC2.cg rfl rfl rfl rfl rfl rfl rfl (fun _ _ _ _ => rfl) (fun _ _ => rfl) rfl (fun _ _ _ _ => rfl) rfl o.ring4, mMoveIn_ok o (Decidable.not_not.mp c17_2) (by omega), hP2⟩, hF, Nat.le_refl _, by omega, by omega, Or.inl ⟨rfl, rfl⟩⟩
      · skip
        have c37_3 := mt (nI_ltI (by omega) (by omega)).mpr c37_3
        refine gI_throw hB hE (cls := "java/lang/IllegalStateException") (names := ["java/lang/RuntimeException", "java/lang/Exception"]) (ik := 52) (ic := 54) (by decide +kernel) (by decide +kernel) (by decide +kernel) (by decide +kernel) (by decide +kernel) (by decide +kernel) (by decide +kernel) dX6_moveIn_40 dX6_moveIn_43 dX6_moveIn_44 dX6_moveIn_47 (Nat.le_of_ble_eq_true rfl) (Nat.le_of_ble_eq_true rfl) (by first | exact Nat.le_of_ble_eq_true rfl | (dsimp only [gRm]; omega)) (by first | exact Nat.le_of_ble_eq_true rfl | (dsimp only [gRm]; omega)) ?_
        exact kPo.mono (by omega) (by omega) (kPo.err2 hC o (by unfold mMoveIn; rw [if_pos ⟨Decidable.not_not.mp c7_1, Decidable.not_not.mp c17_2⟩, if_pos (by rw [eT]; exact congrArg nI (by omega))]) (by omega) (by omega))
    · skip
      have c17_2 := gbi_n0 c17_2
      refine gI_throw hB hE (cls := "java/lang/IllegalArgumentException") (names := ["java/lang/RuntimeException", "java/lang/Exception"]) (ik := 45) (ic := 47) (by decide +kernel) (by decide +kernel) (by decide +kernel) (by decide +kernel) (by decide +kernel) (by decide +kernel) (by decide +kernel) dX6_moveIn_20 dX6_moveIn_23 dX6_moveIn_24 dX6_moveIn_27 (Nat.le_of_ble_eq_true rfl) (Nat.le_of_ble_eq_true rfl) (by first | exact Nat.le_of_ble_eq_true rfl | (dsimp only [gRm]; omega)) (by first | exact Nat.le_of_ble_eq_true rfl | (dsimp only [gRm]; omega)) ?_
      exact kPo.mono (by omega) (by omega) (kPo.err1 hC o (by unfold mMoveIn; rw [if_neg (fun z9 => c17_2 z9.2)]) (by omega) (by omega))

