/-- a ring goes on to a set of tenants -/
def mRgL (a d s : Int32) : Nat → Nat → MS → MS
  | 0, _, u => u
  | r + 1, to, u => mRgL a d s r (to + 1) (if mIsIn a to then mWait u (nI to) d s else u)
theorem mRgL_0 {d s : Int32} : ∀ r to u, to + r ≤ 16 → mRgL 0 d s r to u = u
  | 0, _, _, _ => rfl
  | r + 1, to, u, h => by
    have e : ¬ mIsIn 0 to := fun z9 => by
      have := (mIsIn_bt (by omega)).mp z9
      rw [bt_0] at this
      cases this
    unfold mRgL
    rw [if_neg e]
    exact mRgL_0 r (to + 1) u (by omega)
theorem bt_half {t i : Nat} (ht : t < 16) (hi : i < 16) : bt (mBit (nI t) >>> (nI 1 &&& 31)) i = decide (i + 1 = t) := by
  have key : ∀ t : Fin 16, ∀ i : Fin 16, bt (mBit (nI t.val) >>> (nI 1 &&& 31)) i.val = decide (i.val + 1 = t.val) := by
    unfold mBit
    decide +kernel
  exact key ⟨t, ht⟩ ⟨i, hi⟩
theorem bt_not {t i : Nat} (ht : t < 16) (hi : i < 16) : bt (mBit (nI t) ^^^ -1) i = !decide (i = t) := by
  have key : ∀ t : Fin 16, ∀ i : Fin 16, bt (mBit (nI t.val) ^^^ -1) i.val = !decide (i.val = t.val) := by
    unfold mBit
    decide +kernel
  exact key ⟨t, ht⟩ ⟨i, hi⟩
/-- at whom a habit that rings does ring -/
theorem mRung_meant {H : Nat → Int32} {J T t i x y : Nat} (hT : T ≤ 16) (ht : t < T) (hi : i < T) (hx : x < 6) (h2 : 2 ≤ x) (ex : H (J + 4) = nI x) (hy : y < T) (ey : H (J + 5) = nI y) : mIsIn (mRung H J T t) i ↔ mMeant H J t i := by
  have ne : ∀ b, b < 100 → x ≠ b → ¬ H (J + 4) = nI b := fun b hb h => by rw [ex]; exact nI_neq (by omega) hb h
  rw [mIsIn_bt (by omega)]
  unfold mRung mMeant
  by_cases c1 : x = 2 ∨ x = 4
  · have e : H (J + 4) = nI 2 ∨ H (J + 4) = nI 4 := by
      rcases c1 with c | c
      · exact Or.inl (by rw [ex, c])
      · exact Or.inr (by rw [ex, c])
    rw [if_pos e, ey, bt_bit (by omega) (by omega)]
    have e3 := ne 3 (by omega) (by omega)
    have e5 := ne 5 (by omega) (by omega)
    constructor
    · intro h
      have := of_decide_eq_true h
      exact Or.inr (Or.inr ⟨e3, e5, by rw [this]⟩)
    · rintro (⟨h, -⟩ | ⟨-, h, -⟩ | ⟨-, -, h⟩)
      · exact absurd h e3
      · exact absurd h e5
      · exact decide_eq_true ((nI_eq (by omega) (by omega)).mp h)
  · have n24 : ¬ (H (J + 4) = nI 2 ∨ H (J + 4) = nI 4) := fun z9 => z9.elim (ne 2 (by omega) (by omega)) (ne 4 (by omega) (by omega))
    rw [if_neg n24]
    by_cases c3 : x = 3
    · have e3 : H (J + 4) = nI 3 := by rw [ex, c3]
      rw [if_pos e3, bt_and, bt_or, bt_bit (by omega) (by omega), bt_half (by omega) (by omega), bt_all (by omega) (by omega), Bool.and_eq_true, Bool.or_eq_true]
      constructor
      · rintro ⟨h | h, -⟩
        · have := of_decide_eq_true h
          exact Or.inl ⟨e3, Or.inr (by omega)⟩
        · have := of_decide_eq_true h
          exact Or.inl ⟨e3, Or.inl (by omega)⟩
      · rintro (⟨-, h | h⟩ | ⟨h, -⟩ | ⟨h, -⟩)
        · exact ⟨Or.inr (decide_eq_true h), decide_eq_true hi⟩
        · exact ⟨Or.inl (decide_eq_true (by omega)), decide_eq_true hi⟩
        · exact absurd e3 h
        · exact absurd e3 h
    · have e5 : H (J + 4) = nI 5 := by rw [ex, show x = 5 by omega]
      have n3 : ¬ H (J + 4) = nI 3 := ne 3 (by omega) c3
      rw [if_neg n3, if_pos e5, bt_and, bt_all (by omega) (by omega), bt_not (by omega) (by omega), Bool.and_eq_true]
      constructor
      · rintro ⟨-, h⟩
        have hne : i ≠ t := fun z9 => by
          rw [decide_eq_true z9] at h
          cases h
        exact Or.inr (Or.inl ⟨n3, e5, hne⟩)
      · rintro (⟨h, -⟩ | ⟨-, -, h⟩ | ⟨-, h, -⟩)
        · exact absurd h n3
        · exact ⟨decide_eq_true hi, by rw [decide_eq_false h]; rfl⟩
        · exact absurd e5 h
theorem mFolL_rg {H : Nat → Int32} {J T t x y : Nat} (hT : T ≤ 16) (ht : t < T) (hx : x < 6) (h2 : 2 ≤ x) (ex : H (J + 4) = nI x) (hy : y < T) (ey : H (J + 5) = nI y) : ∀ r to u, to + r ≤ T → mRgL (mRung H J T t) (H (J + 6)) (H (J + 7)) r to u = mFolL H J t r to u
  | 0, _, _, _ => rfl
  | r + 1, to, u, h => by
    unfold mRgL mFolL
    have e := mRung_meant (i := to) hT ht (by omega) hx h2 ex hy ey
    by_cases c : mMeant H J t to
    · rw [if_pos c, if_pos (e.mpr c)]
      exact mFolL_rg hT ht hx h2 ex hy ey r (to + 1) _ (by omega)
    · rw [if_neg c, if_neg (fun z9 => c (e.mp z9))]
      exact mFolL_rg hT ht hx h2 ex hy ey r (to + 1) u (by omega)
theorem mRung_0 {H : Nat → Int32} {J T t x : Nat} (h2 : x < 2) (ex : H (J + 4) = nI x) : mRung H J T t = 0 := by
  have ne : ∀ b, b < 100 → x ≠ b → ¬ H (J + 4) = nI b := fun b hb h => by rw [ex]; exact nI_neq (by omega) hb h
  unfold mRung
  rw [if_neg (fun z9 => z9.elim (ne 2 (by omega) (by omega)) (ne 4 (by omega) (by omega))), if_neg (ne 3 (by omega) (by omega)), if_neg (ne 5 (by omega) (by omega))]

set_option maxRecDepth 100000 in
set_option maxHeartbeats 4000000 in
theorem k_ringOn (G : gG) (h_0 : gH) (c : Nat → Nat) (Λ0 : CL) (u : MS) (T W z : Nat) (hC : cRep G h_0 c Λ0 u T W z) (o : mOk u T W z) (y : Nat) (D : Nat → Int32) (B : Nat) (hy : gat h_0 y (.inr (5, rFS (mRow D 0) (wOf D 5 (D 4))))) (hny : ∀ k l, k < 4 + T → l < cLen Λ0 k → cEl Λ0 k l ≠ y) (eD : u.2 4 = D) (hB6 : 60 ≤ B) (hBl : cLen Λ0 1 + cLen Λ0 2 ≤ B) (t j p : Nat) (ht : t < T) (hj : j < cLen Λ0 (4 + t)) (ep : D 4 = nI p) (hp : p ≤ 7) (hd : mOkR D 0 T) (h0 : D 0 = u.1 1) : gMet yX6_ringOn wsX6_ringOn (gRm 7 2000 13000) G h_0 [.ref (c 0), .ref (cEl Λ0 (4 + t) j), .ref (cEl Λ0 0 t), .ref y] (kRg G h_0 c Λ0 (mRgL (mRung (u.2 1) (9 * (8 * t + j)) T t) (u.2 1 ((9 * (8 * t + j)) + 6)) (u.2 1 ((9 * (8 * t + j)) + 7)) T 0 u) T y D B none) := by
  refine gMet_of (maxL := 6) (ret := none) (by decide) rfl (Nat.le_of_ble_eq_true rfl) ?_
  intro X hG hnL hB hE
  subst hG
  suffices go : ∀ h : gH, h = h_0 → gW X h 0 0 0 [(0, .ref (c 0)), (1, .ref (cEl Λ0 (4 + t) j)), (2, .ref (cEl Λ0 0 t)), (3, .ref y)] [] from go h_0 rfl
  intro h eh
  rw [← eh] at hC hy
  subst eD
  have hF : cFr h_0 h := by rw [eh]; exact cFr.rf
  have hT := o.2.1
  have hW60 := o.2.2.2.1
  have hz200 := o.2.2.2.2.2.1
  have ez := o.2.2.2.2.1
  have eW := o.2.2.1
  have eT := o.1
  obtain ⟨m9, m1, m2, -, -, -, hok⟩ := o.2.2.2.2.2.2.2.1 t ht
  have hm9 := hC.many o ht
  obtain ⟨-, -, dd, hd1, hd2, ed⟩ := hok j (by have := mMany_of m1 m2; omega)
  refine gI_aload_n hB 0 dX6_ringOn_0 rfl ?_
  refine gI_aload_n hB 1 dX6_ringOn_1 rfl ?_
  refine gI_aload_n hB 2 dX6_ringOn_2 rfl ?_
  refine gI_get (v := .int (nI t)) hB 0 (hC.2.2.2.2.2.1 t ht) (C := RX4) (T := TX4) (N := 8) rfl (by decide +kernel) (by decide) (by decide +kernel) (fun _ h9 => h9) rfl dX6_ringOn_3 ?_
  refine gI_pureV (n9 := 2) (As := [.ref (cEl Λ0 (4 + t) j), .int (nI t)]) (rest := []) hB (k_rungByHabit X.2.1 h c Λ0 u T W z hC o t j ht hj) (gCW.of ggX6_ringOn_X6_rungByHabit rfl ⟨by decide, by decide, by decide +kernel⟩ ⟨Nat.le_of_ble_eq_true rfl, Nat.le_of_ble_eq_true rfl⟩) (by decide +kernel) (by decide +kernel) (by decide +kernel) (by decide +kernel) hC.1 (C := RX6) (T := TX6) (N := 9) rfl rfl rfl (Nat.le_of_ble_eq_true rfl) (by first | exact Nat.le_of_ble_eq_true rfl | (dsimp only [gRm]; omega)) (by first | exact Nat.le_of_ble_eq_true rfl | (dsimp only [gRm]; omega)) dX6_ringOn_6 ?_
  refine gI_istore hB ([(4, .int (mRung (u.2 1) (9 * (8 * t + j)) T t)), (0, .ref (c 0)), (1, .ref (cEl Λ0 (4 + t) j)), (2, .ref (cEl Λ0 0 t)), (3, .ref y)]) hnL dX6_ringOn_9 (by decide) rfl ?_
  refine gI_iconst (v := nI 0) hB dX6_ringOn_11 (by decide) ?_
  refine gI_istore hB ([(5, .int (nI 0)), (4, .int (mRung (u.2 1) (9 * (8 * t + j)) T t)), (0, .ref (c 0)), (1, .ref (cEl Λ0 (4 + t) j)), (2, .ref (cEl Λ0 0 t)), (3, .ref y)]) hnL dX6_ringOn_12 (by decide) rfl ?_
  have lp : ∀ (r_lp : Nat) (h : gH) (Λ : CL) (v : MS) (V z5 i k n : Nat), T + 1 ≤ i + r_lp → i ≤ T → cRep X.2.1 h c Λ v T V z5 → mOk v T V z5 → gat h y (.inr (5, rFS (mRow (u.2 4) 0) (wOf (u.2 4) 5 (u.2 4 4)))) → (∀ k l, k < 4 + T → l < cLen Λ k → cEl Λ k l ≠ y) → cSame Λ0 Λ → cFr h_0 h → cLen Λ 1 + cLen Λ 2 ≤ B → cPhi Λ0 ≤ cPhi Λ → k ≤ cPhi Λ - cPhi Λ0 → n ≤ 7 * (cPhi Λ - cPhi Λ0) → v.2 1 = u.2 1 → v.2 4 = u.2 4 → v.1 1 = u.1 1 → mRgL (mRung (u.2 1) (9 * (8 * t + j)) T t) (u.2 1 ((9 * (8 * t + j)) + 6)) (u.2 1 ((9 * (8 * t + j)) + 7)) (T - i) i v = mRgL (mRung (u.2 1) (9 * (8 * t + j)) T t) (u.2 1 ((9 * (8 * t + j)) + 6)) (u.2 1 ((9 * (8 * t + j)) + 7)) T 0 u → gW X h k n 14 [(5, .int (nI i)), (4, .int (mRung (u.2 1) (9 * (8 * t + j)) T t)), (0, .ref (c 0)), (1, .ref (cEl Λ0 (4 + t) j)), (2, .ref (cEl Λ0 0 t)), (3, .ref y)] [] := by
    intro r_lp
    induction r_lp with
    | zero => intro h Λ v V z5 i k n hfu hi hC oV hy hny hsm hF hlB hP0 hPk hPn ev1 ev4 ev0 ev; exact absurd hfu (by omega)
    | succ r_lp ih_lp =>
      intro h Λ v V z5 i k n hfu hi hC oV hy hny hsm hF hlB hP0 hPk hPn ev1 ev4 ev0 ev
      have hPl := cPhi_le hC
      obtain ⟨md0, g0, hl0, -⟩ := hC.2.2.2.1 0 (by omega)
      have hL0 : cLen Λ 0 = T := hC.2.2.2.2.1.1
      have hhb : gat h (cEl Λ0 (4 + t) j) (.inr (3, hFS (mRow (u.2 1) (9 * (8 * t + j))))) := by
        have h9 := hC.2.2.2.2.2.2.1 t j ht (by rw [(hsm (4 + t) (by omega) (by omega) (by omega)).1]; exact hj)
        rw [(hsm (4 + t) (by omega) (by omega) (by omega)).2, ev1] at h9
        exact h9
      refine gI_iload hB 0 dX6_ringOn_14 rfl ?_
      refine gI_aload_n hB 2 dX6_ringOn_16 rfl ?_
      refine gI_get (v := .ref (cLa Λ 0)) hB 0 hC.1 (C := RX6) (T := TX6) (N := 9) rfl (by decide +kernel) (by decide) (by decide +kernel) (fun _ h9 => h9) rfl dX6_ringOn_17 ?_
      refine gI_pureV (n9 := 0) (As := []) (rest := [.int (nI i)]) hB (l_size X.2.1 h Λ 0 (hC.2.2.2.1 0 (by omega))) (gCW.of ggX6_ringOn_Jx4a65c_size_8abf5 rfl ⟨by decide, by decide, by decide +kernel⟩ ⟨Nat.le_of_ble_eq_true rfl, Nat.le_of_ble_eq_true rfl⟩) (by decide +kernel) (by decide +kernel) (by decide +kernel) (by decide +kernel) hl0 (C := RJx4a65c) (T := TJx4a65c) (N := 3) rfl rfl rfl (Nat.le_of_ble_eq_true rfl) (by first | exact Nat.le_of_ble_eq_true rfl | (dsimp only [gRm]; omega)) (by first | exact Nat.le_of_ble_eq_true rfl | (dsimp only [gRm]; omega)) dX6_ringOn_20 ?_
      refine gI_topi hB (y := nI T) (congrArg nI hC.2.2.2.2.1.1) ?_
      refine gI_icmp_ge hB 83 dX6_ringOn_23 (by decide) (fun c23_1 => ?_) (fun c23_1 => ?_)
      · skip
        have c23_1 := (nI_leI (by omega) (by omega)).mp c23_1
        refine gI_vret hB hE dX6_ringOn_83 ?_
        refine ⟨Λ, V, z5, rfl, ?_, ?_, hy, hny, hsm, hF, hlB, hP0, hPk, hPn⟩
        · rw [← ev, show T - i = 0 by omega]
          exact hC
        · rw [← ev, show T - i = 0 by omega]
          exact oV
      · skip
        have c23_1 := mt (nI_leI (by omega) (by omega)).mpr c23_1
        refine gI_iload hB 1 dX6_ringOn_26 rfl ?_
        refine gI_iload hB 0 dX6_ringOn_28 rfl ?_
        refine gI_pureS (n9 := 2) (As := [.int (mRung (u.2 1) (9 * (8 * t + j)) T t), .int (nI i)]) (rest := []) hB (k_contains X.2.1 h (mRung (u.2 1) (9 * (8 * t + j)) T t) (nI i)) (gCW.of ggX6_ringOn_X6_contains rfl ⟨by decide, by decide, by decide +kernel⟩ ⟨Nat.le_of_ble_eq_true rfl, Nat.le_of_ble_eq_true rfl⟩) (Or.inl (by decide +kernel)) (by decide +kernel) (by decide +kernel) rfl rfl (Nat.le_of_ble_eq_true rfl) (by first | exact Nat.le_of_ble_eq_true rfl | (dsimp only [gRm]; omega)) (by first | exact Nat.le_of_ble_eq_true rfl | (dsimp only [gRm]; omega)) dX6_ringOn_30 ?_
        refine gI_if_eq hB 77 dX6_ringOn_33 (by decide) (fun c33_2 => ?_) (fun c33_2 => ?_)
        · skip
          have c33_2 := gbi_0.mp c33_2
          have ev : mRgL (mRung (u.2 1) (9 * (8 * t + j)) T t) (u.2 1 ((9 * (8 * t + j)) + 6)) (u.2 1 ((9 * (8 * t + j)) + 7)) (T - (i + 1)) (i + 1) v = mRgL (mRung (u.2 1) (9 * (8 * t + j)) T t) (u.2 1 ((9 * (8 * t + j)) + 6)) (u.2 1 ((9 * (8 * t + j)) + 7)) T 0 u := by rw [show T - i = (T - (i + 1)) + 1 by omega, mRgL, if_neg c33_2] at ev; exact ev
          refine gI_iinc hB 0 ([(5, .int (nI (i + 1))), (4, .int (mRung (u.2 1) (9 * (8 * t + j)) T t)), (0, .ref (c 0)), (1, .ref (cEl Λ0 (4 + t) j)), (2, .ref (cEl Λ0 0 t)), (3, .ref y)]) hnL dX6_ringOn_77 rfl (nI_1 (i)) (by decide) rfl ?_
          refine gI_goto hB 14 dX6_ringOn_80 (by decide) ?_
          refine gI_loc [0, 1, 2, 3, 4, 5] rfl ?_
          exact ih_lp h Λ v V z5 (i + 1) _ _ (by omega) (by omega) hC oV hy hny hsm hF hlB hP0 hPk hPn ev1 ev4 ev0 ev
        · skip
          have c33_2 := gbi_n0 c33_2
          refine gI_aload_n hB 2 dX6_ringOn_36 rfl ?_
          refine gI_get (v := .ref (c 1)) hB 1 hC.1 (C := RX6) (T := TX6) (N := 9) rfl (by decide +kernel) (by decide) (by decide +kernel) (fun _ h9 => h9) rfl dX6_ringOn_37 ?_
          refine gI_aload_n hB 5 dX6_ringOn_40 rfl ?_
          refine gI_aload_n hB 2 dX6_ringOn_41 rfl ?_
          refine gI_get (v := .int (v.1 1)) hB 5 hC.1 (C := RX6) (T := TX6) (N := 9) rfl (by decide +kernel) (by decide) (by decide +kernel) (fun _ h9 => h9) rfl dX6_ringOn_42 ?_
          refine gI_aload_n hB 3 dX6_ringOn_45 rfl ?_
          refine gI_get (v := .int (u.2 1 ((9 * (8 * t + j)) + 6))) hB 6 hhb (C := RX0) (T := TX0) (N := 9) rfl (by decide +kernel) (by decide) (by decide +kernel) (fun _ h9 => h9) rfl dX6_ringOn_46 ?_
          refine gI_iadd hB dX6_ringOn_49 ?_
          refine gI_topi hB (y := u.2 4 0 + u.2 1 ((9 * (8 * t + j)) + 6)) (by rw [ev0, ← h0]) ?_
          refine gI_iload hB 0 dX6_ringOn_50 rfl ?_
          refine gI_aload_n hB 5 dX6_ringOn_52 rfl ?_
          refine gI_get (v := .int (u.2 4 3)) hB 3 hy (C := RX2) (T := TX2) (N := 6) rfl (by decide +kernel) (by decide) (by decide +kernel) (fun _ h9 => h9) rfl dX6_ringOn_53 ?_
          refine gI_aload_n hB 3 dX6_ringOn_56 rfl ?_
          refine gI_get (v := .int (u.2 1 ((9 * (8 * t + j)) + 7))) hB 7 hhb (C := RX0) (T := TX0) (N := 9) rfl (by decide +kernel) (by decide) (by decide +kernel) (fun _ h9 => h9) rfl dX6_ringOn_57 ?_
          refine gI_iadd hB dX6_ringOn_60 ?_
          refine gI_callV (n9 := 4) (As := [.ref y, .int (u.2 4 0 + u.2 1 ((9 * (8 * t + j)) + 6)), .int (nI i), .int ((u.2 4 3) + (u.2 1 ((9 * (8 * t + j)) + 7)))]) (rest := []) hB (k_wadd X.2.1 h c Λ v T V z5 hC oV y (u.2 4) B hy hny ev4 hB6 hlB p i (by omega) (u.2 1 ((9 * (8 * t + j)) + 6)) (u.2 1 ((9 * (8 * t + j)) + 7)) ep hp hd (by rw [ed, ev0, ← h0]; exact nI_addne hd1 hd2)) (gCW.of ggX6_ringOn_X5_add rfl ⟨by decide, by decide, by decide +kernel⟩ ⟨Nat.le_of_ble_eq_true rfl, Nat.le_of_ble_eq_true rfl⟩) (by decide +kernel) (by decide +kernel) (by decide +kernel) (by decide +kernel) hC.2.1.1 (C := RX5) (T := TX5) (N := 2) rfl rfl rfl (Nat.le_of_ble_eq_true rfl) (by first | exact Nat.le_of_ble_eq_true rfl | (dsimp only [gRm]; omega)) (by first | exact Nat.le_of_ble_eq_true rfl | (dsimp only [gRm]; omega)) dX6_ringOn_61 (fun v9 h k9 n9 hp9 => ?_) (fun E9 h1 k1 n1 hp9 => by rcases hp9 with ⟨-, e9, -⟩ | ⟨-, Λ9, W9, z9, e9, -⟩ <;> cases e9)
          rcases hp9 with ⟨eW6, e9, rfl, rfl, rfl⟩ | ⟨nW6, Λ1, W9, z9, e9, hC1, oV1, hy1, hny1, hsm1, hF1, hlB1, hQ0, hQk, hQn⟩
          · skip
            cases e9
            have ew : mWait v (nI i) (u.2 1 ((9 * (8 * t + j)) + 6)) (u.2 1 ((9 * (8 * t + j)) + 7)) = sg v 9 (v.1 9 + nI 1) := by unfold mWait; rw [if_pos (by rw [oV.2.2.1, eW6])]
            refine gI_if_ne hB 77 dX6_ringOn_64 (by decide) (fun z => absurd z ((by decide))) (fun _ => ?_)
            refine gI_aload_n hB 2 dX6_ringOn_67 rfl ?_
            refine gI_dup hB dX6_ringOn_68 rfl ?_
            refine gI_get (v := .int (v.1 9)) hB 7 hC.1 (C := RX6) (T := TX6) (N := 9) rfl (by decide +kernel) (by decide) (by decide +kernel) (fun _ h9 => h9) rfl dX6_ringOn_69 ?_
            refine gI_iconst (v := nI 1) hB dX6_ringOn_72 (by decide) ?_
            refine gI_iadd hB dX6_ringOn_73 ?_
            refine gC_put hB 7 tyX6 tyX6_ok nmX6 hC.1 (C := RX6) (T := TX6) (N := 9) rfl (by decide +kernel) (by decide) (by decide +kernel) (fun _ h9 => h9) rfl rfl rfl (Nat.le_of_ble_eq_true rfl) dX6_ringOn_74 (fun h hN hK => ?_)
            have hy := hK _ _ hy (gat_ne hy hC.1 rfl)
            have hF := hF.st hC.1 rfl hK
            have hC : cRep X.2.1 h c Λ (sg v 9 ((v.1 9) + (nI 1))) T V z5 := hC.putMain (v := (sg v 9 ((v.1 9) + (nI 1)))) hK hN rfl rfl rfl
            have hC : cRep X.2.1 h c Λ (mWait v (nI i) (u.2 1 ((9 * (8 * t + j)) + 6)) (u.2 1 ((9 * (8 * t + j)) + 7))) T V z5 := by rw [ew]; exact hC
            have oV : mOk (mWait v (nI i) (u.2 1 ((9 * (8 * t + j)) + 6)) (u.2 1 ((9 * (8 * t + j)) + 7))) T V z5 := by rw [ew]; exact oV.tab rfl rfl rfl rfl (fun _ _ ot => ot) rfl rfl
            have ev : mRgL (mRung (u.2 1) (9 * (8 * t + j)) T t) (u.2 1 ((9 * (8 * t + j)) + 6)) (u.2 1 ((9 * (8 * t + j)) + 7)) (T - (i + 1)) (i + 1) (mWait v (nI i) (u.2 1 ((9 * (8 * t + j)) + 6)) (u.2 1 ((9 * (8 * t + j)) + 7))) = mRgL (mRung (u.2 1) (9 * (8 * t + j)) T t) (u.2 1 ((9 * (8 * t + j)) + 6)) (u.2 1 ((9 * (8 * t + j)) + 7)) T 0 u := by rw [show T - i = (T - (i + 1)) + 1 by omega, mRgL, if_pos c33_2] at ev; exact ev
            have ev1 : (mWait v (nI i) (u.2 1 ((9 * (8 * t + j)) + 6)) (u.2 1 ((9 * (8 * t + j)) + 7))).2 1 = u.2 1 := by rw [ew]; exact ev1
            have ev4 : (mWait v (nI i) (u.2 1 ((9 * (8 * t + j)) + 6)) (u.2 1 ((9 * (8 * t + j)) + 7))).2 4 = u.2 4 := by rw [ew]; exact ev4
            have ev0 : (mWait v (nI i) (u.2 1 ((9 * (8 * t + j)) + 6)) (u.2 1 ((9 * (8 * t + j)) + 7))).1 1 = u.1 1 := by rw [ew]; exact ev0
            have hPk : k + 0 ≤ cPhi Λ - cPhi Λ0 := hPk
            have hPn : n + 0 ≤ 7 * (cPhi Λ - cPhi Λ0) := hPn
            refine gI_iinc hB 0 ([(5, .int (nI (i + 1))), (4, .int (mRung (u.2 1) (9 * (8 * t + j)) T t)), (0, .ref (c 0)), (1, .ref (cEl Λ0 (4 + t) j)), (2, .ref (cEl Λ0 0 t)), (3, .ref y)]) hnL dX6_ringOn_77 rfl (nI_1 (i)) (by decide) rfl ?_
            refine gI_goto hB 14 dX6_ringOn_80 (by decide) ?_
            refine gI_loc [0, 1, 2, 3, 4, 5] rfl ?_
            exact ih_lp h Λ (mWait v (nI i) (u.2 1 ((9 * (8 * t + j)) + 6)) (u.2 1 ((9 * (8 * t + j)) + 7))) V z5 (i + 1) _ _ (by omega) (by omega) hC oV hy hny hsm hF hlB hP0 hPk hPn ev1 ev4 ev0 ev
          · skip
            cases e9
            have kw := mWait_keep v (nI i) (u.2 1 ((9 * (8 * t + j)) + 6)) (u.2 1 ((9 * (8 * t + j)) + 7))
            have kw2 := mWait_keep2 v (nI i) (u.2 1 ((9 * (8 * t + j)) + 6)) (u.2 1 ((9 * (8 * t + j)) + 7))
            refine gI_if_ne hB 77 dX6_ringOn_64 (by decide) (fun _ => ?_) (fun z => absurd z (by decide))
            have ev : mRgL (mRung (u.2 1) (9 * (8 * t + j)) T t) (u.2 1 ((9 * (8 * t + j)) + 6)) (u.2 1 ((9 * (8 * t + j)) + 7)) (T - (i + 1)) (i + 1) (mWait v (nI i) (u.2 1 ((9 * (8 * t + j)) + 6)) (u.2 1 ((9 * (8 * t + j)) + 7))) = mRgL (mRung (u.2 1) (9 * (8 * t + j)) T t) (u.2 1 ((9 * (8 * t + j)) + 6)) (u.2 1 ((9 * (8 * t + j)) + 7)) T 0 u := by rw [show T - i = (T - (i + 1)) + 1 by omega, mRgL, if_pos c33_2] at ev; exact ev
            have ev1 : (mWait v (nI i) (u.2 1 ((9 * (8 * t + j)) + 6)) (u.2 1 ((9 * (8 * t + j)) + 7))).2 1 = u.2 1 := kw.2.2.2.1.trans ev1
            have ev4 : (mWait v (nI i) (u.2 1 ((9 * (8 * t + j)) + 6)) (u.2 1 ((9 * (8 * t + j)) + 7))).2 4 = u.2 4 := kw.2.2.1.trans ev4
            have ev0 : (mWait v (nI i) (u.2 1 ((9 * (8 * t + j)) + 6)) (u.2 1 ((9 * (8 * t + j)) + 7))).1 1 = u.1 1 := kw2.trans ev0
            have hPk : k + k9 ≤ cPhi Λ1 - cPhi Λ0 := by omega
            have hPn : n + n9 ≤ 7 * (cPhi Λ1 - cPhi Λ0) := by omega
            have hP0 : cPhi Λ0 ≤ cPhi Λ1 := by omega
            refine gI_iinc hB 0 ([(5, .int (nI (i + 1))), (4, .int (mRung (u.2 1) (9 * (8 * t + j)) T t)), (0, .ref (c 0)), (1, .ref (cEl Λ0 (4 + t) j)), (2, .ref (cEl Λ0 0 t)), (3, .ref y)]) hnL dX6_ringOn_77 rfl (nI_1 (i)) (by decide) rfl ?_
            refine gI_goto hB 14 dX6_ringOn_80 (by decide) ?_
            refine gI_loc [0, 1, 2, 3, 4, 5] rfl ?_
            exact ih_lp h Λ1 (mWait v (nI i) (u.2 1 ((9 * (8 * t + j)) + 6)) (u.2 1 ((9 * (8 * t + j)) + 7))) W9 z9 (i + 1) _ _ (by omega) (by omega) hC1 oV1 hy1 hny1 (hsm.trans hsm1) (hF.trans hF1) hlB1 hP0 hPk hPn ev1 ev4 ev0 ev
  refine gI_loc [0, 1, 2, 3, 4, 5] rfl ?_
  exact lp (T + 1) h Λ0 u W z 0 0 0 (by omega) (by omega) hC o hy hny cSame.rf hF hBl (Nat.le_refl _) (Nat.zero_le _) (Nat.zero_le _) rfl rfl rfl rfl

