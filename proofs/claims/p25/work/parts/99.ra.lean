/-! the notes -/
set_option maxRecDepth 100000 in
set_option maxHeartbeats 4000000 in
theorem l_nC {X : gX} {b y : Nat} {c : Nat → Nat} {u : MS} {T W zn τ L j x yy B : Nat} {M : Nat → Int32} {a bb : Nat → Nat} {g : Nat → Nat → Nat} {lo he : Int32} (hB : gB X room_1 cL_law wsL_law RL) (hnL : gnL X = 18) (o : mOk u T W zn) (qq : pQ u T M (τ + 1) τ L) (qc : pC u T τ 0 0 0 a bb g) (hτ : τ < 100000) (hj : j < zn) (x1 : x ≤ τ) (ex : u.2 3 (15 * j) = nI x) (y1 : yy < 88) (ey : u.2 3 (15 * j + 2) = nI yy)
    (kk : ∀ (h : gH) (k n F : Nat), cW X.2.1 h c u F → pBud k n F B → gW X h k n 593 [(6, .int (nI (j + 1))), (5, .int lo), (4, .int he), (3, .int (nI T)), (2, .ref y), (1, .ref (c 0)), (0, .ref b)] []) {h : gH} {k n F : Nat} (hW : cW X.2.1 h c u F) (bd : pBud k n F (B + 10)) : gW X h k n 773 [(6, .int (nI j)), (5, .int lo), (4, .int he), (3, .int (nI T)), (2, .ref y), (1, .ref (c 0)), (0, .ref b)] [] := by
  have e0 : u.1 0 = nI 0 := qc.2.2.2.2.2
  have hz := o.2.2.2.2.2.1
  have hs : mSnd u j (nI x) := by rw [← ex]; exact f_snd o qq hj
  obtain ⟨⟨xb, hxb, exb⟩, i2, i3⟩ := f_best o qq (by omega) zn (Nat.le_refl _) (by omega)
  have i4 := i3 j hj
  rw [i2, exb, ex] at i4
  have hm1 := snM_pos hs zn hj
  have hm2 := mSnM_le u (nI x) zn
  refine gI_aload_n hB 5 dL_law_773 rfl ?_
  refine gI_iload hB 0 dL_law_774 rfl ?_
  refine gI_iconst (v := nI 0) hB dL_law_776 (by decide) ?_
  refine gI_cl (n9 := 2) (As := [.int (nI j), .int (nI 0)]) (rest := []) hB (B + 9) (r_sung hW e0 ((v_sung o e0 hj (by omega)).trans (congrArg (Prod.mk u) ex))) (gCW.of ggL_law_X6_sung rfl ⟨by decide, by decide, by decide +kernel⟩ ⟨Nat.le_of_ble_eq_true rfl, Nat.le_of_ble_eq_true rfl⟩) (by decide +kernel) (by decide +kernel) (by decide +kernel) (by decide +kernel) hW rfl rfl (Nat.le_of_ble_eq_true rfl) ⟨Nat.le_of_ble_eq_true rfl, Nat.le_of_ble_eq_true rfl⟩ ⟨Nat.le_of_ble_eq_true rfl, Nat.le_of_ble_eq_true rfl⟩ dL_law_777 (bd.to (by omega)) (fun h k n F hW bd => ?_)
  refine gI_istore hB ([(8, .int (nI x)), (6, .int (nI j)), (5, .int lo), (4, .int he), (3, .int (nI T)), (2, .ref y), (1, .ref (c 0)), (0, .ref b)]) hnL dL_law_780 (by decide) rfl ?_
  refine gI_aload_n hB 6 dL_law_782 rfl ?_
  refine gI_iload hB 0 dL_law_783 rfl ?_
  refine gI_iconst (v := nI 0) hB dL_law_785 (by decide) ?_
  refine gI_cl (n9 := 2) (As := [.int (nI x), .int (nI 0)]) (rest := []) hB (B + 8) (r_sounds hW e0 (v_snd0 o e0 (x := x) (by omega))) (gCW.of ggL_law_X6_sounds rfl ⟨by decide, by decide, by decide +kernel⟩ ⟨Nat.le_of_ble_eq_true rfl, Nat.le_of_ble_eq_true rfl⟩) (by decide +kernel) (by decide +kernel) (by decide +kernel) (by decide +kernel) hW rfl rfl (Nat.le_of_ble_eq_true rfl) ⟨Nat.le_of_ble_eq_true rfl, Nat.le_of_ble_eq_true rfl⟩ ⟨Nat.le_of_ble_eq_true rfl, Nat.le_of_ble_eq_true rfl⟩ dL_law_786 (bd.to (by omega)) (fun h k n F hW bd => ?_)
  refine gI_iconst (v := nI 1) hB dL_law_789 (by decide) ?_
  refine gI_icmp_lt hB 846 dL_law_790 (by decide) (fun z => absurd z (Int32.not_lt.mpr (nI_le (a := 1) (b := mSnM u (nI x) zn) (by omega) (by omega)))) (fun _ => ?_)
  refine gI_aload_n hB 6 dL_law_793 rfl ?_
  refine gI_iload hB 0 dL_law_794 rfl ?_
  refine gI_iconst (v := nI 1) hB dL_law_796 (by decide) ?_
  refine gI_cl (n9 := 2) (As := [.int (nI x), .int (nI 1)]) (rest := []) hB (B + 7) (r_sounds hW e0 (v_snd1 o e0 (x := x) (by omega))) (gCW.of ggL_law_X6_sounds rfl ⟨by decide, by decide, by decide +kernel⟩ ⟨Nat.le_of_ble_eq_true rfl, Nat.le_of_ble_eq_true rfl⟩) (by decide +kernel) (by decide +kernel) (by decide +kernel) (by decide +kernel) hW rfl rfl (Nat.le_of_ble_eq_true rfl) ⟨Nat.le_of_ble_eq_true rfl, Nat.le_of_ble_eq_true rfl⟩ ⟨Nat.le_of_ble_eq_true rfl, Nat.le_of_ble_eq_true rfl⟩ dL_law_797 (bd.to (by omega)) (fun h k n F hW bd => ?_)
  refine gI_aload_n hB 6 dL_law_800 rfl ?_
  refine gI_iload hB 1 dL_law_801 rfl ?_
  refine gI_iconst (v := nI 2) hB dL_law_803 (by decide) ?_
  refine gI_cl (n9 := 2) (As := [.int (nI j), .int (nI 2)]) (rest := [.int (mSnL u (nI x) zn)]) hB (B + 6) (r_sung hW e0 ((v_sung o e0 hj (by omega)).trans (congrArg (Prod.mk u) ey))) (gCW.of ggL_law_X6_sung rfl ⟨by decide, by decide, by decide +kernel⟩ ⟨Nat.le_of_ble_eq_true rfl, Nat.le_of_ble_eq_true rfl⟩) (by decide +kernel) (by decide +kernel) (by decide +kernel) (by decide +kernel) hW rfl rfl (Nat.le_of_ble_eq_true rfl) ⟨Nat.le_of_ble_eq_true rfl, Nat.le_of_ble_eq_true rfl⟩ ⟨Nat.le_of_ble_eq_true rfl, Nat.le_of_ble_eq_true rfl⟩ dL_law_804 (bd.to (by omega)) (fun h k n F hW bd => ?_)
  refine gI_icmp_gt hB 846 dL_law_807 (by decide) (fun z => absurd z (Int32.not_lt.mpr (by rw [← ey]; exact snL_le hs zn hj))) (fun _ => ?_)
  refine gI_aload_n hB 6 dL_law_810 rfl ?_
  refine gI_iload hB 0 dL_law_811 rfl ?_
  refine gI_iconst (v := nI 2) hB dL_law_813 (by decide) ?_
  refine gI_cl (n9 := 2) (As := [.int (nI x), .int (nI 2)]) (rest := []) hB (B + 5) (r_sounds hW e0 (v_snd2 o e0 (x := x) (by omega))) (gCW.of ggL_law_X6_sounds rfl ⟨by decide, by decide, by decide +kernel⟩ ⟨Nat.le_of_ble_eq_true rfl, Nat.le_of_ble_eq_true rfl⟩) (by decide +kernel) (by decide +kernel) (by decide +kernel) (by decide +kernel) hW rfl rfl (Nat.le_of_ble_eq_true rfl) ⟨Nat.le_of_ble_eq_true rfl, Nat.le_of_ble_eq_true rfl⟩ ⟨Nat.le_of_ble_eq_true rfl, Nat.le_of_ble_eq_true rfl⟩ dL_law_814 (bd.to (by omega)) (fun h k n F hW bd => ?_)
  refine gI_aload_n hB 6 dL_law_817 rfl ?_
  refine gI_iload hB 1 dL_law_818 rfl ?_
  refine gI_iconst (v := nI 2) hB dL_law_820 (by decide) ?_
  refine gI_cl (n9 := 2) (As := [.int (nI j), .int (nI 2)]) (rest := [.int (mSnG u (nI x) zn)]) hB (B + 4) (r_sung hW e0 ((v_sung o e0 hj (by omega)).trans (congrArg (Prod.mk u) ey))) (gCW.of ggL_law_X6_sung rfl ⟨by decide, by decide, by decide +kernel⟩ ⟨Nat.le_of_ble_eq_true rfl, Nat.le_of_ble_eq_true rfl⟩) (by decide +kernel) (by decide +kernel) (by decide +kernel) (by decide +kernel) hW rfl rfl (Nat.le_of_ble_eq_true rfl) ⟨Nat.le_of_ble_eq_true rfl, Nat.le_of_ble_eq_true rfl⟩ ⟨Nat.le_of_ble_eq_true rfl, Nat.le_of_ble_eq_true rfl⟩ dL_law_821 (bd.to (by omega)) (fun h k n F hW bd => ?_)
  refine gI_icmp_lt hB 846 dL_law_824 (by decide) (fun z => absurd z (Int32.not_lt.mpr (by rw [← ey]; exact snG_ge hs zn hj))) (fun _ => ?_)
  refine gI_aload_n hB 6 dL_law_827 rfl ?_
  refine gI_iload hB 0 dL_law_828 rfl ?_
  refine gI_iconst (v := nI 3) hB dL_law_830 (by decide) ?_
  refine gI_cl (n9 := 2) (As := [.int (nI x), .int (nI 3)]) (rest := []) hB (B + 3) (r_sounds hW e0 (v_snd3 o e0 (x := x) (by omega))) (gCW.of ggL_law_X6_sounds rfl ⟨by decide, by decide, by decide +kernel⟩ ⟨Nat.le_of_ble_eq_true rfl, Nat.le_of_ble_eq_true rfl⟩) (by decide +kernel) (by decide +kernel) (by decide +kernel) (by decide +kernel) hW rfl rfl (Nat.le_of_ble_eq_true rfl) ⟨Nat.le_of_ble_eq_true rfl, Nat.le_of_ble_eq_true rfl⟩ ⟨Nat.le_of_ble_eq_true rfl, Nat.le_of_ble_eq_true rfl⟩ dL_law_831 (bd.to (by omega)) (fun h k n F hW bd => ?_)
  refine gI_aload_n hB 6 dL_law_834 rfl ?_
  refine gI_aload_n hB 6 dL_law_835 rfl ?_
  refine gI_cl (n9 := 0) (As := []) (rest := [.ref (c 0), .int (mHarA u (nI x) zn)]) hB (B + 2) (r_best hW e0 ((v_best o e0).trans (congrArg (Prod.mk u) exb))) (gCW.of ggL_law_X6_best rfl ⟨by decide, by decide, by decide +kernel⟩ ⟨Nat.le_of_ble_eq_true rfl, Nat.le_of_ble_eq_true rfl⟩) (by decide +kernel) (by decide +kernel) (by decide +kernel) (by decide +kernel) hW rfl rfl (Nat.le_of_ble_eq_true rfl) ⟨Nat.le_of_ble_eq_true rfl, Nat.le_of_ble_eq_true rfl⟩ ⟨Nat.le_of_ble_eq_true rfl, Nat.le_of_ble_eq_true rfl⟩ dL_law_836 (bd.to (by omega)) (fun h k n F hW bd => ?_)
  refine gI_iconst (v := nI 3) hB dL_law_839 (by decide) ?_
  refine gI_cl (n9 := 2) (As := [.int (nI xb), .int (nI 3)]) (rest := [.int (mHarA u (nI x) zn)]) hB (B + 1) (r_sounds hW e0 (v_snd3 o e0 (x := xb) (by omega))) (gCW.of ggL_law_X6_sounds rfl ⟨by decide, by decide, by decide +kernel⟩ ⟨Nat.le_of_ble_eq_true rfl, Nat.le_of_ble_eq_true rfl⟩) (by decide +kernel) (by decide +kernel) (by decide +kernel) (by decide +kernel) hW rfl rfl (Nat.le_of_ble_eq_true rfl) ⟨Nat.le_of_ble_eq_true rfl, Nat.le_of_ble_eq_true rfl⟩ ⟨Nat.le_of_ble_eq_true rfl, Nat.le_of_ble_eq_true rfl⟩ dL_law_840 (bd.to (by omega)) (fun h k n F hW bd => ?_)
  refine gI_icmp_le hB 848 dL_law_843 (by decide) (fun _ => ?_) (fun z => absurd (i4) z)
  refine gI_iinc hB 1 ([(6, .int (nI (j + 1))), (8, .int (nI x)), (5, .int lo), (4, .int he), (3, .int (nI T)), (2, .ref y), (1, .ref (c 0)), (0, .ref b)]) hnL dL_law_848 rfl (nI_1 (j)) (by decide) rfl ?_
  refine gI_goto hB 593 dL_law_851 (by decide) ?_
  refine gI_loc [0, 2, 3, 4, 5, 6, 7] rfl ?_
  exact kk h k n F hW (bd.to (by omega))

set_option maxRecDepth 100000 in
set_option maxHeartbeats 4000000 in
theorem l_hop {X : gX} {b y : Nat} {c : Nat → Nat} {u : MS} {T W zn j p B : Nat} {v : Nat → Nat} {lo he : Int32} (hB : gB X room_1 cL_law wsL_law RL) (hnL : gnL X = 18) (o : mOk u T W zn) (e0 : u.1 0 = nI 0) (hj : j < zn) (hp : p ≤ 8) (ep : u.2 3 (15 * j + 4) = nI p) (hv : ∀ i, i ≤ p → v i < T ∧ u.2 3 (15 * j + 6 + i) = nI (v i)) (hE : ∀ i, i < p → mIsIn (mNext u T (v i)) (v (i + 1)))
    (kk : ∀ (h : gH) (k n F : Nat), cW X.2.1 h c u F → pBud k n F B → gW X h k n 773 [(6, .int (nI j)), (5, .int lo), (4, .int he), (3, .int (nI T)), (2, .ref y), (1, .ref (c 0)), (0, .ref b)] []) : ∀ (r i : Nat) (h : gH) (k n F : Nat), i + r = p → cW X.2.1 h c u F → pBud k n F (B + 3 * r) → gW X h k n 732 [(8, .int (nI i)), (7, .int (nI p)), (6, .int (nI j)), (5, .int lo), (4, .int he), (3, .int (nI T)), (2, .ref y), (1, .ref (c 0)), (0, .ref b)] [] := by
  have hT := o.2.1
  intro r
  induction r with
  | zero =>
    intro i h k n F e hW bd
    obtain rfl : i = p := by omega
    refine gI_iload hB 0 dL_law_732 rfl ?_
    refine gI_iload hB 1 dL_law_734 rfl ?_
    refine gI_icmp_ge hB 773 dL_law_736 (by decide) (fun _ => ?_) (fun z => absurd (Int32.le_refl _) z)
    refine gI_loc [2, 3, 4, 5, 6, 7, 8] rfl ?_
    exact kk h k n F hW (bd.to (by omega))
  | succ r ih =>
    intro i h k n F e hW bd
    obtain ⟨hv1, ev1⟩ := hv i (by omega)
    obtain ⟨hv2, ev2⟩ := hv (i + 1) (by omega)
    refine gI_iload hB 0 dL_law_732 rfl ?_
    refine gI_iload hB 1 dL_law_734 rfl ?_
    refine gI_icmp_ge hB 773 dL_law_736 (by decide) (fun z => absurd z (Int32.not_le.mpr (nI_lt (a := i) (b := p) (by omega) (by omega)))) (fun _ => ?_)
    refine gI_aload_n hB 7 dL_law_739 rfl ?_
    refine gI_aload_n hB 7 dL_law_740 rfl ?_
    refine gI_iload hB 2 dL_law_741 rfl ?_
    refine gI_iload hB 0 dL_law_743 rfl ?_
    refine gI_cl (n9 := 2) (As := [.int (nI j), .int (nI i)]) (rest := [.ref (c 0)]) hB (B + 3 * r + 2) (r_through hW e0 ((v_through o e0 hj ep hp (show i ≤ p by omega)).trans (congrArg (Prod.mk u) ev1))) (gCW.of ggL_law_X6_through rfl ⟨by decide, by decide, by decide +kernel⟩ ⟨Nat.le_of_ble_eq_true rfl, Nat.le_of_ble_eq_true rfl⟩) (by decide +kernel) (by decide +kernel) (by decide +kernel) (by decide +kernel) hW rfl rfl (Nat.le_of_ble_eq_true rfl) ⟨Nat.le_of_ble_eq_true rfl, Nat.le_of_ble_eq_true rfl⟩ ⟨Nat.le_of_ble_eq_true rfl, Nat.le_of_ble_eq_true rfl⟩ dL_law_745 (bd.to (by omega)) (fun h k n F hW bd => ?_)
    refine gI_aload_n hB 7 dL_law_748 rfl ?_
    refine gI_iload hB 2 dL_law_749 rfl ?_
    refine gI_iload hB 0 dL_law_751 rfl ?_
    refine gI_iconst (v := nI 1) hB dL_law_753 (by decide) ?_
    refine gI_iaddN hB dL_law_754 ?_
    refine gI_cl (n9 := 2) (As := [.int (nI j), .int (nI (i + 1))]) (rest := [.int (nI (v i)), .ref (c 0)]) hB (B + 3 * r + 1) (r_through hW e0 ((v_through o e0 hj ep hp (show i + 1 ≤ p by omega)).trans (congrArg (Prod.mk u) ev2))) (gCW.of ggL_law_X6_through rfl ⟨by decide, by decide, by decide +kernel⟩ ⟨Nat.le_of_ble_eq_true rfl, Nat.le_of_ble_eq_true rfl⟩) (by decide +kernel) (by decide +kernel) (by decide +kernel) (by decide +kernel) hW rfl rfl (Nat.le_of_ble_eq_true rfl) ⟨Nat.le_of_ble_eq_true rfl, Nat.le_of_ble_eq_true rfl⟩ ⟨Nat.le_of_ble_eq_true rfl, Nat.le_of_ble_eq_true rfl⟩ dL_law_755 (bd.to (by omega)) (fun h k n F hW bd => ?_)
    refine gI_cl (n9 := 2) (As := [.int (nI (v i)), .int (nI (v (i + 1)))]) (rest := []) hB (B + 3 * r + 0) (r_hops hW e0 ((v_hops o e0 hv1 hv2).trans (congrArg (Prod.mk u) (mHop_one (by omega) (hE i (by omega)))))) (gCW.of ggL_law_X6_hops rfl ⟨by decide, by decide, by decide +kernel⟩ ⟨Nat.le_of_ble_eq_true rfl, Nat.le_of_ble_eq_true rfl⟩) (by decide +kernel) (by decide +kernel) (by decide +kernel) (by decide +kernel) hW rfl rfl (Nat.le_of_ble_eq_true rfl) ⟨Nat.le_of_ble_eq_true rfl, Nat.le_of_ble_eq_true rfl⟩ ⟨Nat.le_of_ble_eq_true rfl, Nat.le_of_ble_eq_true rfl⟩ dL_law_758 (bd.to (by omega)) (fun h k n F hW bd => ?_)
    refine gI_iconst (v := nI 1) hB dL_law_761 (by decide) ?_
    refine gI_icmp_eq hB 767 dL_law_762 (by decide) (fun _ => ?_) (fun z => absurd (rfl) z)
    refine gI_iinc hB 0 ([(8, .int (nI (i + 1))), (7, .int (nI p)), (6, .int (nI j)), (5, .int lo), (4, .int he), (3, .int (nI T)), (2, .ref y), (1, .ref (c 0)), (0, .ref b)]) hnL dL_law_767 rfl (nI_1 (i)) (by decide) rfl ?_
    refine gI_goto hB 732 dL_law_770 (by decide) ?_
    exact ih (i + 1) h k n F (by omega) hW (bd.to (by omega))

set_option maxRecDepth 100000 in
set_option maxHeartbeats 4000000 in
theorem l_nB {X : gX} {b y : Nat} {c : Nat → Nat} {u : MS} {T W zn τ L j x p yy B : Nat} {M : Nat → Int32} {a bb : Nat → Nat} {g : Nat → Nat → Nat} {v : Nat → Nat} {lo he : Int32} (hB : gB X room_1 cL_law wsL_law RL) (hnL : gnL X = 18) (o : mOk u T W zn) (qq : pQ u T M (τ + 1) τ L) (qc : pC u T τ 0 0 0 a bb g) (hτ : τ < 100000) (hj : j < zn) (x1 : x ≤ τ) (ex : u.2 3 (15 * j) = nI x) (y1 : yy < 88) (ey : u.2 3 (15 * j + 2) = nI yy) (hp : p ≤ 8) (ep : u.2 3 (15 * j + 4) = nI p) (hv : ∀ i, i ≤ p → v i < T ∧ u.2 3 (15 * j + 6 + i) = nI (v i)) (hE : ∀ i, i < p → mIsIn (mNext u T (v i)) (v (i + 1)))
    (kk : ∀ (h : gH) (k n F : Nat), cW X.2.1 h c u F → pBud k n F B → gW X h k n 593 [(6, .int (nI (j + 1))), (5, .int lo), (4, .int he), (3, .int (nI T)), (2, .ref y), (1, .ref (c 0)), (0, .ref b)] []) {h : gH} {k n F : Nat} (hW : cW X.2.1 h c u F) (bd : pBud k n F (B + 40)) : gW X h k n 690 [(7, .int (nI p)), (6, .int (nI j)), (5, .int lo), (4, .int he), (3, .int (nI T)), (2, .ref y), (1, .ref (c 0)), (0, .ref b)] [] := by
  have e0 : u.1 0 = nI 0 := qc.2.2.2.2.2
  have hT := o.2.1
  refine gI_aload_n hB 6 dL_law_690 rfl ?_
  refine gI_iload hB 1 dL_law_691 rfl ?_
  refine gI_iconst (v := nI 0) hB dL_law_693 (by decide) ?_
  refine gI_cl (n9 := 2) (As := [.int (nI j), .int (nI 0)]) (rest := []) hB (B + 39) (r_sung hW e0 ((v_sung o e0 hj (by omega)).trans (congrArg (Prod.mk u) ex))) (gCW.of ggL_law_X6_sung rfl ⟨by decide, by decide, by decide +kernel⟩ ⟨Nat.le_of_ble_eq_true rfl, Nat.le_of_ble_eq_true rfl⟩) (by decide +kernel) (by decide +kernel) (by decide +kernel) (by decide +kernel) hW rfl rfl (Nat.le_of_ble_eq_true rfl) ⟨Nat.le_of_ble_eq_true rfl, Nat.le_of_ble_eq_true rfl⟩ ⟨Nat.le_of_ble_eq_true rfl, Nat.le_of_ble_eq_true rfl⟩ dL_law_694 (bd.to (by omega)) (fun h k n F hW bd => ?_)
  refine gI_aload_n hB 6 dL_law_697 rfl ?_
  refine gI_iconst (v := nI 0) hB dL_law_698 (by decide) ?_
  refine gI_cl (n9 := 1) (As := [.int (nI 0)]) (rest := [.int (nI x)]) hB (B + 38) (r_count hW e0 ((v_count e0 (w := 0) (by omega)).trans (congrArg (Prod.mk u) (qq.rings o).2.2.2.1))) (gCW.of ggL_law_X6_count rfl ⟨by decide, by decide, by decide +kernel⟩ ⟨Nat.le_of_ble_eq_true rfl, Nat.le_of_ble_eq_true rfl⟩) (by decide +kernel) (by decide +kernel) (by decide +kernel) (by decide +kernel) hW rfl rfl (Nat.le_of_ble_eq_true rfl) ⟨Nat.le_of_ble_eq_true rfl, Nat.le_of_ble_eq_true rfl⟩ ⟨Nat.le_of_ble_eq_true rfl, Nat.le_of_ble_eq_true rfl⟩ dL_law_699 (bd.to (by omega)) (fun h k n F hW bd => ?_)
  refine gI_icmp_gt hB 727 dL_law_702 (by decide) (fun z => absurd z (Int32.not_lt.mpr (nI_le x1 (by omega)))) (fun _ => ?_)
  refine gI_aload_n hB 6 dL_law_705 rfl ?_
  refine gI_iload hB 1 dL_law_706 rfl ?_
  refine gI_iconst (v := nI 2) hB dL_law_708 (by decide) ?_
  refine gI_cl (n9 := 2) (As := [.int (nI j), .int (nI 2)]) (rest := []) hB (B + 37) (r_sung hW e0 ((v_sung o e0 hj (by omega)).trans (congrArg (Prod.mk u) ey))) (gCW.of ggL_law_X6_sung rfl ⟨by decide, by decide, by decide +kernel⟩ ⟨Nat.le_of_ble_eq_true rfl, Nat.le_of_ble_eq_true rfl⟩) (by decide +kernel) (by decide +kernel) (by decide +kernel) (by decide +kernel) hW rfl rfl (Nat.le_of_ble_eq_true rfl) ⟨Nat.le_of_ble_eq_true rfl, Nat.le_of_ble_eq_true rfl⟩ ⟨Nat.le_of_ble_eq_true rfl, Nat.le_of_ble_eq_true rfl⟩ dL_law_709 (bd.to (by omega)) (fun h k n F hW bd => ?_)
  refine gI_if_lt hB 727 dL_law_712 (by decide) (fun z => absurd z (nI_pos (by omega))) (fun _ => ?_)
  refine gI_aload_n hB 6 dL_law_715 rfl ?_
  refine gI_iload hB 1 dL_law_716 rfl ?_
  refine gI_iconst (v := nI 2) hB dL_law_718 (by decide) ?_
  refine gI_cl (n9 := 2) (As := [.int (nI j), .int (nI 2)]) (rest := []) hB (B + 36) (r_sung hW e0 ((v_sung o e0 hj (by omega)).trans (congrArg (Prod.mk u) ey))) (gCW.of ggL_law_X6_sung rfl ⟨by decide, by decide, by decide +kernel⟩ ⟨Nat.le_of_ble_eq_true rfl, Nat.le_of_ble_eq_true rfl⟩) (by decide +kernel) (by decide +kernel) (by decide +kernel) (by decide +kernel) hW rfl rfl (Nat.le_of_ble_eq_true rfl) ⟨Nat.le_of_ble_eq_true rfl, Nat.le_of_ble_eq_true rfl⟩ ⟨Nat.le_of_ble_eq_true rfl, Nat.le_of_ble_eq_true rfl⟩ dL_law_719 (bd.to (by omega)) (fun h k n F hW bd => ?_)
  refine gI_bipush (v := nI 87) hB dL_law_722 (by decide) ?_
  refine gI_icmp_le hB 729 dL_law_724 (by decide) (fun _ => ?_) (fun z => absurd (nI_le (a := yy) (b := 87) (by omega) (by omega)) z)
  refine gI_iconst (v := nI 0) hB dL_law_729 (by decide) ?_
  refine gI_istore hB ([(8, .int (nI 0)), (7, .int (nI p)), (6, .int (nI j)), (5, .int lo), (4, .int he), (3, .int (nI T)), (2, .ref y), (1, .ref (c 0)), (0, .ref b)]) hnL dL_law_730 (by decide) rfl ?_
  exact l_hop (B := B + 10) hB hnL o e0 hj hp ep hv hE (fun h k n F hW bd => l_nC hB hnL o qq qc hτ hj x1 ex y1 ey kk hW bd) p 0 h k n F (by omega) hW (bd.to (by omega))

set_option maxRecDepth 100000 in
set_option maxHeartbeats 4000000 in
theorem l_note {X : gX} {b y : Nat} {c : Nat → Nat} {u : MS} {T W zn τ L B : Nat} {M : Nat → Int32} {a bb : Nat → Nat} {g : Nat → Nat → Nat} {lo he : Int32} (hB : gB X room_1 cL_law wsL_law RL) (hnL : gnL X = 18) (o : mOk u T W zn) (qq : pQ u T M (τ + 1) τ L) (qc : pC u T τ 0 0 0 a bb g) (hτ : τ < 100000)
    (kk : ∀ (h : gH) (k n F : Nat), cW X.2.1 h c u F → pBud k n F B → gW X h k n 854 [(6, .int (nI zn)), (5, .int lo), (4, .int he), (3, .int (nI T)), (2, .ref y), (1, .ref (c 0)), (0, .ref b)] []) : ∀ (r j : Nat) (h : gH) (k n F : Nat), j + r = zn → cW X.2.1 h c u F → pBud k n F (B + (60 * r + 1)) → gW X h k n 593 [(6, .int (nI j)), (5, .int lo), (4, .int he), (3, .int (nI T)), (2, .ref y), (1, .ref (c 0)), (0, .ref b)] [] := by
  have e0 : u.1 0 = nI 0 := qc.2.2.2.2.2
  have hT := o.2.1
  have hz := o.2.2.2.2.2.1
  have hbb : pS bb T ≤ (τ + 1) * T := pS_le T (fun i hi => by obtain ⟨-, -, c54, ca, -⟩ := qc.1 i hi; rcases ca with z9 | z9 <;> omega)
  have hb9 : pS bb T ≤ 100001 * 16 := Nat.le_trans hbb (Nat.mul_le_mul (by omega) hT)
  have ez : zn = min 200 (pS bb T) := (nI_eq (by omega) (by omega)).mp (o.2.2.2.2.1.symm.trans qc.2.2.2.2.1)
  have emin : (if nI (pS bb T) < nI 200 then nI (pS bb T) else nI 200) = nI zn := by
    by_cases c9 : pS bb T < 200
    · rw [if_pos (nI_lt c9 (by omega))]
      exact congrArg nI (by omega)
    · rw [if_neg (fun z9 => c9 ((nI_ltI (by omega) (by omega)).mp z9))]
      exact congrArg nI (by omega)
  intro r
  induction r with
  | zero =>
    intro j h k n F e hW bd
    have ejz : j = zn := by omega
    refine gI_iload hB 0 dL_law_593 rfl ?_
    refine gI_sipush (v := nI 200) hB dL_law_595 (by decide) ?_
    refine gI_aload_n hB 5 dL_law_598 rfl ?_
    refine gI_bipush (v := nI 6) hB dL_law_599 (by decide) ?_
    refine gI_cl (n9 := 1) (As := [.int (nI 6)]) (rest := [.int (nI 200), .int (nI j)]) hB (B + 0) (r_count hW e0 ((v_count e0 (w := 6) (by omega)).trans (congrArg (Prod.mk u) qc.2.2.1))) (gCW.of ggL_law_X6_count rfl ⟨by decide, by decide, by decide +kernel⟩ ⟨Nat.le_of_ble_eq_true rfl, Nat.le_of_ble_eq_true rfl⟩) (by decide +kernel) (by decide +kernel) (by decide +kernel) (by decide +kernel) hW rfl rfl (Nat.le_of_ble_eq_true rfl) ⟨Nat.le_of_ble_eq_true rfl, Nat.le_of_ble_eq_true rfl⟩ ⟨Nat.le_of_ble_eq_true rfl, Nat.le_of_ble_eq_true rfl⟩ dL_law_601 (bd.to (by omega)) (fun h k n F hW bd => ?_)
    refine gI_mmin hB (by decide +kernel) (by decide +kernel) (by decide +kernel) (by decide +kernel) (Nat.le_of_ble_eq_true rfl) (Nat.le_of_ble_eq_true rfl) (by obtain ⟨b1, b2, b3⟩ := bd; show _ ≤ 600074; first | omega | (dsimp only [gRm]; omega)) (by obtain ⟨b1, b2, b3⟩ := bd; show _ ≤ 7301550; first | omega | (dsimp only [gRm]; omega)) dL_law_604 ?_
    refine gI_topi hB (y := nI zn) emin ?_
    refine gI_icmp_ge hB 854 dL_law_607 (by decide) (fun _ => ?_) (fun z => absurd (nI_le (a := zn) (b := j) (by omega) (by omega)) z)
    rw [ejz]
    exact kk h k n F hW (bd.to (by omega))
  | succ r ih =>
    intro j h k n F e hW bd
    have hj : j < zn := by omega
    obtain ⟨x, d, p, yy, v, x1, ex, d0, d1, ed, y1, ey, hp, ep, hv, es, hE, eb0, eb1⟩ := f_note o qq hj
    refine gI_iload hB 0 dL_law_593 rfl ?_
    refine gI_sipush (v := nI 200) hB dL_law_595 (by decide) ?_
    refine gI_aload_n hB 5 dL_law_598 rfl ?_
    refine gI_bipush (v := nI 6) hB dL_law_599 (by decide) ?_
    refine gI_cl (n9 := 1) (As := [.int (nI 6)]) (rest := [.int (nI 200), .int (nI j)]) hB (B + 60 * r + 60) (r_count hW e0 ((v_count e0 (w := 6) (by omega)).trans (congrArg (Prod.mk u) qc.2.2.1))) (gCW.of ggL_law_X6_count rfl ⟨by decide, by decide, by decide +kernel⟩ ⟨Nat.le_of_ble_eq_true rfl, Nat.le_of_ble_eq_true rfl⟩) (by decide +kernel) (by decide +kernel) (by decide +kernel) (by decide +kernel) hW rfl rfl (Nat.le_of_ble_eq_true rfl) ⟨Nat.le_of_ble_eq_true rfl, Nat.le_of_ble_eq_true rfl⟩ ⟨Nat.le_of_ble_eq_true rfl, Nat.le_of_ble_eq_true rfl⟩ dL_law_601 (bd.to (by omega)) (fun h k n F hW bd => ?_)
    refine gI_mmin hB (by decide +kernel) (by decide +kernel) (by decide +kernel) (by decide +kernel) (Nat.le_of_ble_eq_true rfl) (Nat.le_of_ble_eq_true rfl) (by obtain ⟨b1, b2, b3⟩ := bd; show _ ≤ 600074; first | omega | (dsimp only [gRm]; omega)) (by obtain ⟨b1, b2, b3⟩ := bd; show _ ≤ 7301550; first | omega | (dsimp only [gRm]; omega)) dL_law_604 ?_
    refine gI_topi hB (y := nI zn) emin ?_
    refine gI_icmp_ge hB 854 dL_law_607 (by decide) (fun z => absurd z (Int32.not_le.mpr (nI_lt (a := j) (b := zn) (by omega) (by omega)))) (fun _ => ?_)
    refine gI_aload_n hB 5 dL_law_610 rfl ?_
    refine gI_iload hB 0 dL_law_611 rfl ?_
    refine gI_iconst (v := nI 4) hB dL_law_613 (by decide) ?_
    refine gI_cl (n9 := 2) (As := [.int (nI j), .int (nI 4)]) (rest := []) hB (B + 60 * r + 59) (r_sung hW e0 ((v_sung o e0 hj (by omega)).trans (congrArg (Prod.mk u) ep))) (gCW.of ggL_law_X6_sung rfl ⟨by decide, by decide, by decide +kernel⟩ ⟨Nat.le_of_ble_eq_true rfl, Nat.le_of_ble_eq_true rfl⟩) (by decide +kernel) (by decide +kernel) (by decide +kernel) (by decide +kernel) hW rfl rfl (Nat.le_of_ble_eq_true rfl) ⟨Nat.le_of_ble_eq_true rfl, Nat.le_of_ble_eq_true rfl⟩ ⟨Nat.le_of_ble_eq_true rfl, Nat.le_of_ble_eq_true rfl⟩ dL_law_614 (bd.to (by omega)) (fun h k n F hW bd => ?_)
    refine gI_istore hB ([(7, .int (nI p)), (6, .int (nI j)), (5, .int lo), (4, .int he), (3, .int (nI T)), (2, .ref y), (1, .ref (c 0)), (0, .ref b)]) hnL dL_law_617 (by decide) rfl ?_
    refine gI_aload_n hB 6 dL_law_619 rfl ?_
    refine gI_iload hB 1 dL_law_620 rfl ?_
    refine gI_iload hB 0 dL_law_622 rfl ?_
    refine gI_cl (n9 := 2) (As := [.int (nI j), .int (nI p)]) (rest := []) hB (B + 60 * r + 58) (r_through hW e0 ((v_through o e0 hj ep hp (Nat.le_refl p)).trans (congrArg (Prod.mk u) (hv p (Nat.le_refl p)).2))) (gCW.of ggL_law_X6_through rfl ⟨by decide, by decide, by decide +kernel⟩ ⟨Nat.le_of_ble_eq_true rfl, Nat.le_of_ble_eq_true rfl⟩) (by decide +kernel) (by decide +kernel) (by decide +kernel) (by decide +kernel) hW rfl rfl (Nat.le_of_ble_eq_true rfl) ⟨Nat.le_of_ble_eq_true rfl, Nat.le_of_ble_eq_true rfl⟩ ⟨Nat.le_of_ble_eq_true rfl, Nat.le_of_ble_eq_true rfl⟩ dL_law_624 (bd.to (by omega)) (fun h k n F hW bd => ?_)
    refine gI_aload_n hB 6 dL_law_627 rfl ?_
    refine gI_iload hB 1 dL_law_628 rfl ?_
    refine gI_iconst (v := nI 3) hB dL_law_630 (by decide) ?_
    refine gI_cl (n9 := 2) (As := [.int (nI j), .int (nI 3)]) (rest := [.int (nI (v p))]) hB (B + 60 * r + 57) (r_sung hW e0 ((v_sung o e0 hj (by omega)).trans (congrArg (Prod.mk u) es))) (gCW.of ggL_law_X6_sung rfl ⟨by decide, by decide, by decide +kernel⟩ ⟨Nat.le_of_ble_eq_true rfl, Nat.le_of_ble_eq_true rfl⟩) (by decide +kernel) (by decide +kernel) (by decide +kernel) (by decide +kernel) hW rfl rfl (Nat.le_of_ble_eq_true rfl) ⟨Nat.le_of_ble_eq_true rfl, Nat.le_of_ble_eq_true rfl⟩ ⟨Nat.le_of_ble_eq_true rfl, Nat.le_of_ble_eq_true rfl⟩ dL_law_631 (bd.to (by omega)) (fun h k n F hW bd => ?_)
    refine gI_icmp_ne hB 727 dL_law_634 (by decide) (fun z => absurd z (fun z8 => z8 rfl)) (fun _ => ?_)
    rcases Nat.eq_zero_or_pos p with hp0 | hp0
    · skip
      have eb := eb0 hp0
      refine gI_aload_n hB 6 dL_law_637 rfl ?_
      refine gI_iload hB 1 dL_law_638 rfl ?_
      refine gI_iconst (v := nI 5) hB dL_law_640 (by decide) ?_
      refine gI_cl (n9 := 2) (As := [.int (nI j), .int (nI 5)]) (rest := []) hB (B + 60 * r + 56) (r_sung hW e0 ((v_sung o e0 hj (by omega)).trans (congrArg (Prod.mk u) eb))) (gCW.of ggL_law_X6_sung rfl ⟨by decide, by decide, by decide +kernel⟩ ⟨Nat.le_of_ble_eq_true rfl, Nat.le_of_ble_eq_true rfl⟩) (by decide +kernel) (by decide +kernel) (by decide +kernel) (by decide +kernel) hW rfl rfl (Nat.le_of_ble_eq_true rfl) ⟨Nat.le_of_ble_eq_true rfl, Nat.le_of_ble_eq_true rfl⟩ ⟨Nat.le_of_ble_eq_true rfl, Nat.le_of_ble_eq_true rfl⟩ dL_law_641 (bd.to (by omega)) (fun h k n F hW bd => ?_)
      refine gI_iload hB 0 dL_law_644 rfl ?_
      refine gI_if_ne hB 653 dL_law_646 (by decide) (fun z => absurd z (fun z8 => z8 (congrArg nI hp0))) (fun _ => ?_)
      refine gI_iconst (v := (-1)) hB dL_law_649 (by decide) ?_
      refine gI_goto hB 663 dL_law_650 (by decide) ?_
      refine gI_icmp_ne hB 727 dL_law_663 (by decide) (fun z => absurd z (fun z8 => z8 rfl)) (fun _ => ?_)
      rcases Nat.eq_zero_or_pos j with hj0 | hj0
      · skip
        refine gI_iload hB 1 dL_law_666 rfl ?_
        refine gI_if_le hB 690 dL_law_668 (by decide) (fun _ => ?_) (fun z => absurd ((by rw [hj0]; exact Int32.le_refl _)) z)
        exact l_nB (B := B + (60 * r + 1)) hB hnL o qq qc hτ hj x1 ex y1 ey hp ep hv hE (fun h k n F hW bd => ih (j + 1) h k n F (by omega) hW bd) hW (bd.to (by omega))
      · skip
        obtain ⟨j9, ej9⟩ : ∃ j9, j = j9 + 1 := ⟨j - 1, by omega⟩
        obtain ⟨x0, d9, p9_, y9, v9, g1, ex0, -⟩ := f_note o qq (show j9 < zn by omega)
        have hasc := f_asc o qq (show j9 + 1 < zn by omega)
        rw [ex0, ← ej9, ex] at hasc
        refine gI_iload hB 1 dL_law_666 rfl ?_
        refine gI_if_le hB 690 dL_law_668 (by decide) (fun z => absurd z (Int32.not_le.mpr (nI_lt (a := 0) (b := j) (by omega) (by omega)))) (fun _ => ?_)
        refine gI_aload_n hB 6 dL_law_671 rfl ?_
        refine gI_iload hB 1 dL_law_672 rfl ?_
        refine gI_iconst (v := nI 0) hB dL_law_674 (by decide) ?_
        refine gI_cl (n9 := 2) (As := [.int (nI j), .int (nI 0)]) (rest := []) hB (B + 60 * r + 55) (r_sung hW e0 ((v_sung o e0 hj (by omega)).trans (congrArg (Prod.mk u) ex))) (gCW.of ggL_law_X6_sung rfl ⟨by decide, by decide, by decide +kernel⟩ ⟨Nat.le_of_ble_eq_true rfl, Nat.le_of_ble_eq_true rfl⟩) (by decide +kernel) (by decide +kernel) (by decide +kernel) (by decide +kernel) hW rfl rfl (Nat.le_of_ble_eq_true rfl) ⟨Nat.le_of_ble_eq_true rfl, Nat.le_of_ble_eq_true rfl⟩ ⟨Nat.le_of_ble_eq_true rfl, Nat.le_of_ble_eq_true rfl⟩ dL_law_675 (bd.to (by omega)) (fun h k n F hW bd => ?_)
        refine gI_aload_n hB 6 dL_law_678 rfl ?_
        refine gI_iload hB 1 dL_law_679 rfl ?_
        refine gI_iconst (v := nI 1) hB dL_law_681 (by decide) ?_
        refine gI_isub hB dL_law_682 ?_
        refine gI_topi hB (y := nI j9) (by rw [ej9]; exact nI_m1 j9) ?_
        refine gI_iconst (v := nI 0) hB dL_law_683 (by decide) ?_
        refine gI_cl (n9 := 2) (As := [.int (nI j9), .int (nI 0)]) (rest := [.int (nI x)]) hB (B + 60 * r + 54) (r_sung hW e0 ((v_sung o e0 (show j9 < zn by omega) (by omega)).trans (congrArg (Prod.mk u) ex0))) (gCW.of ggL_law_X6_sung rfl ⟨by decide, by decide, by decide +kernel⟩ ⟨Nat.le_of_ble_eq_true rfl, Nat.le_of_ble_eq_true rfl⟩) (by decide +kernel) (by decide +kernel) (by decide +kernel) (by decide +kernel) hW rfl rfl (Nat.le_of_ble_eq_true rfl) ⟨Nat.le_of_ble_eq_true rfl, Nat.le_of_ble_eq_true rfl⟩ ⟨Nat.le_of_ble_eq_true rfl, Nat.le_of_ble_eq_true rfl⟩ dL_law_684 (bd.to (by omega)) (fun h k n F hW bd => ?_)
        refine gI_icmp_lt hB 727 dL_law_687 (by decide) (fun z => absurd z (Int32.not_lt.mpr hasc)) (fun _ => ?_)
        exact l_nB (B := B + (60 * r + 1)) hB hnL o qq qc hτ hj x1 ex y1 ey hp ep hv hE (fun h k n F hW bd => ih (j + 1) h k n F (by omega) hW bd) hW (bd.to (by omega))
    · skip
      obtain ⟨p9, ep9⟩ : ∃ p9, p = p9 + 1 := ⟨p - 1, by omega⟩
      have eb := eb1 p9 ep9
      refine gI_aload_n hB 6 dL_law_637 rfl ?_
      refine gI_iload hB 1 dL_law_638 rfl ?_
      refine gI_iconst (v := nI 5) hB dL_law_640 (by decide) ?_
      refine gI_cl (n9 := 2) (As := [.int (nI j), .int (nI 5)]) (rest := []) hB (B + 60 * r + 56) (r_sung hW e0 ((v_sung o e0 hj (by omega)).trans (congrArg (Prod.mk u) eb))) (gCW.of ggL_law_X6_sung rfl ⟨by decide, by decide, by decide +kernel⟩ ⟨Nat.le_of_ble_eq_true rfl, Nat.le_of_ble_eq_true rfl⟩) (by decide +kernel) (by decide +kernel) (by decide +kernel) (by decide +kernel) hW rfl rfl (Nat.le_of_ble_eq_true rfl) ⟨Nat.le_of_ble_eq_true rfl, Nat.le_of_ble_eq_true rfl⟩ ⟨Nat.le_of_ble_eq_true rfl, Nat.le_of_ble_eq_true rfl⟩ dL_law_641 (bd.to (by omega)) (fun h k n F hW bd => ?_)
      refine gI_iload hB 0 dL_law_644 rfl ?_
      refine gI_if_ne hB 653 dL_law_646 (by decide) (fun _ => ?_) (fun z => absurd ((nI_eq (a := p) (b := 0) (by omega) (by omega)).mp z) (by omega))
      refine gI_aload_n hB 6 dL_law_653 rfl ?_
      refine gI_iload hB 1 dL_law_654 rfl ?_
      refine gI_iload hB 0 dL_law_656 rfl ?_
      refine gI_iconst (v := nI 1) hB dL_law_658 (by decide) ?_
      refine gI_isub hB dL_law_659 ?_
      refine gI_topi hB (y := nI p9) (by rw [ep9]; exact nI_m1 p9) ?_
      refine gI_cl (n9 := 2) (As := [.int (nI j), .int (nI p9)]) (rest := [.int (nI (v p9))]) hB (B + 60 * r + 55) (r_through hW e0 ((v_through o e0 hj ep hp (show p9 ≤ p by omega)).trans (congrArg (Prod.mk u) (hv p9 (by omega)).2))) (gCW.of ggL_law_X6_through rfl ⟨by decide, by decide, by decide +kernel⟩ ⟨Nat.le_of_ble_eq_true rfl, Nat.le_of_ble_eq_true rfl⟩) (by decide +kernel) (by decide +kernel) (by decide +kernel) (by decide +kernel) hW rfl rfl (Nat.le_of_ble_eq_true rfl) ⟨Nat.le_of_ble_eq_true rfl, Nat.le_of_ble_eq_true rfl⟩ ⟨Nat.le_of_ble_eq_true rfl, Nat.le_of_ble_eq_true rfl⟩ dL_law_660 (bd.to (by omega)) (fun h k n F hW bd => ?_)
      refine gI_icmp_ne hB 727 dL_law_663 (by decide) (fun z => absurd z (fun z8 => z8 rfl)) (fun _ => ?_)
      rcases Nat.eq_zero_or_pos j with hj0 | hj0
      · skip
        refine gI_iload hB 1 dL_law_666 rfl ?_
        refine gI_if_le hB 690 dL_law_668 (by decide) (fun _ => ?_) (fun z => absurd ((by rw [hj0]; exact Int32.le_refl _)) z)
        exact l_nB (B := B + (60 * r + 1)) hB hnL o qq qc hτ hj x1 ex y1 ey hp ep hv hE (fun h k n F hW bd => ih (j + 1) h k n F (by omega) hW bd) hW (bd.to (by omega))
      · skip
        obtain ⟨j9, ej9⟩ : ∃ j9, j = j9 + 1 := ⟨j - 1, by omega⟩
        obtain ⟨x0, d9, p9_, y9, v9, g1, ex0, -⟩ := f_note o qq (show j9 < zn by omega)
        have hasc := f_asc o qq (show j9 + 1 < zn by omega)
        rw [ex0, ← ej9, ex] at hasc
        refine gI_iload hB 1 dL_law_666 rfl ?_
        refine gI_if_le hB 690 dL_law_668 (by decide) (fun z => absurd z (Int32.not_le.mpr (nI_lt (a := 0) (b := j) (by omega) (by omega)))) (fun _ => ?_)
        refine gI_aload_n hB 6 dL_law_671 rfl ?_
        refine gI_iload hB 1 dL_law_672 rfl ?_
        refine gI_iconst (v := nI 0) hB dL_law_674 (by decide) ?_
        refine gI_cl (n9 := 2) (As := [.int (nI j), .int (nI 0)]) (rest := []) hB (B + 60 * r + 54) (r_sung hW e0 ((v_sung o e0 hj (by omega)).trans (congrArg (Prod.mk u) ex))) (gCW.of ggL_law_X6_sung rfl ⟨by decide, by decide, by decide +kernel⟩ ⟨Nat.le_of_ble_eq_true rfl, Nat.le_of_ble_eq_true rfl⟩) (by decide +kernel) (by decide +kernel) (by decide +kernel) (by decide +kernel) hW rfl rfl (Nat.le_of_ble_eq_true rfl) ⟨Nat.le_of_ble_eq_true rfl, Nat.le_of_ble_eq_true rfl⟩ ⟨Nat.le_of_ble_eq_true rfl, Nat.le_of_ble_eq_true rfl⟩ dL_law_675 (bd.to (by omega)) (fun h k n F hW bd => ?_)
        refine gI_aload_n hB 6 dL_law_678 rfl ?_
        refine gI_iload hB 1 dL_law_679 rfl ?_
        refine gI_iconst (v := nI 1) hB dL_law_681 (by decide) ?_
        refine gI_isub hB dL_law_682 ?_
        refine gI_topi hB (y := nI j9) (by rw [ej9]; exact nI_m1 j9) ?_
        refine gI_iconst (v := nI 0) hB dL_law_683 (by decide) ?_
        refine gI_cl (n9 := 2) (As := [.int (nI j9), .int (nI 0)]) (rest := [.int (nI x)]) hB (B + 60 * r + 53) (r_sung hW e0 ((v_sung o e0 (show j9 < zn by omega) (by omega)).trans (congrArg (Prod.mk u) ex0))) (gCW.of ggL_law_X6_sung rfl ⟨by decide, by decide, by decide +kernel⟩ ⟨Nat.le_of_ble_eq_true rfl, Nat.le_of_ble_eq_true rfl⟩) (by decide +kernel) (by decide +kernel) (by decide +kernel) (by decide +kernel) hW rfl rfl (Nat.le_of_ble_eq_true rfl) ⟨Nat.le_of_ble_eq_true rfl, Nat.le_of_ble_eq_true rfl⟩ ⟨Nat.le_of_ble_eq_true rfl, Nat.le_of_ble_eq_true rfl⟩ dL_law_684 (bd.to (by omega)) (fun h k n F hW bd => ?_)
        refine gI_icmp_lt hB 727 dL_law_687 (by decide) (fun z => absurd z (Int32.not_lt.mpr hasc)) (fun _ => ?_)
        exact l_nB (B := B + (60 * r + 1)) hB hnL o qq qc hτ hj x1 ex y1 ey hp ep hv hE (fun h k n F hW bd => ih (j + 1) h k n F (by omega) hW bd) hW (bd.to (by omega))
