set_option maxRecDepth 100000 in
set_option maxHeartbeats 4000000 in
theorem b_ten {X : gX} {b y : Nat} {c : Nat → Nat} {N L9 B : Nat} {xs : Nat → Int32} {ten : Nat → Nat} (hB : gB X (gRm 8 110000 1100000) cL_build wsL_build RL) (hnL : gnL X = 11) (hS9 : gScr X b L9 xs) (hL : L9 ≤ 260) (hN : N ≤ 8)
    (kk : ∀ (h hC : gH) (u : MS) (len : Nat → Nat) (k n F : Nat), pB u N len → sSim X.2.1 h hC y N ten len → gSub hC h → hC.1.Nodup → cW X.2.1 hC c u F → pBud k n F B → gW X h k n 470 [(5, .int (nI N)), (4, .int (nI N)), (3, .ref y), (2, .int (nI 8)), (1, .ref b), (0, .ref (c 0))] []) : ∀ (r t : Nat) (h hC : gH) (u : MS) (len : Nat → Nat) (k n F : Nat), t + r = N → pB u N len → (∀ x, x < N → len x ≤ 8) → (∀ x, x < N → t ≤ x → len x = 0) → sSim X.2.1 h hC y N ten len → gSub hC h → hC.1.Nodup → cW X.2.1 hC c u F → pBud k n F (B + 1050 * r) → gW X h k n 142 [(5, .int (nI t)), (4, .int (nI N)), (3, .ref y), (2, .int (nI 8)), (1, .ref b), (0, .ref (c 0))] [] := by
  intro r
  induction r with
  | zero =>
    intro t h hC u len k n F e hu hl8 hl0 hS hs hnd hW bd
    obtain rfl : t = N := by omega
    refine gI_iload hB 0 dL_build_142 rfl ?_
    refine gI_iload hB 1 dL_build_144 rfl ?_
    refine gI_icmp_ge hB 470 dL_build_146 (by decide) (fun _ => ?_) (fun z => absurd (Int32.le_refl _) z)
    exact kk h hC u len k n F hu hS hs hnd hW (bd.to (by omega))
  | succ r ih =>
    intro t h hC u len k n F e hu hl8 hl0 hS hs hnd hW bd
    refine gI_iload hB 0 dL_build_142 rfl ?_
    refine gI_iload hB 1 dL_build_144 rfl ?_
    refine gI_icmp_ge hB 470 dL_build_146 (by decide) (fun z => absurd z (Int32.not_le.mpr (nI_lt (a := t) (b := N) (by omega) (by omega)))) (fun _ => ?_)
    refine gI_aload_n hB 4 dL_build_149 rfl ?_
    refine gI_bipush (v := nI 9) hB dL_build_150 (by decide) ?_
    refine gI_callSS (n9 := 2) (As := [.ref b, .int (nI 9)]) (rest := []) hB hS9 (s_cell X.2.1 h hL 9 (by omega)) (gCW.of ggL_build_L_cell rfl ⟨by decide, by decide, by decide +kernel⟩ ⟨Nat.le_of_ble_eq_true rfl, Nat.le_of_ble_eq_true rfl⟩) (by decide +kernel) (by decide +kernel) (by decide +kernel) rfl rfl (Nat.le_of_ble_eq_true rfl) (by obtain ⟨b1, b2, b3⟩ := bd; dsimp only [gRm]; omega) (by obtain ⟨b1, b2, b3⟩ := bd; dsimp only [gRm]; omega) dL_build_152 (fun v9 h1 k1 n1 hp => ?_) (fun E9 h1 k1 n1 hp => by obtain ⟨-, -, -, x9, e9⟩ := hp; cases e9)
    obtain ⟨rfl, rfl, rfl, x1, e9⟩ := hp
    cases e9
    refine gI_iconst (v := nI 4) hB dL_build_155 (by decide) ?_
    refine gI_callS (n9 := 2) (As := [.int x1, .int (nI 4)]) (rest := []) hB (s_below X.2.1 h x1 (N := 4) (by omega) (by omega)) (gCW.of ggL_build_L_below rfl ⟨by decide, by decide, by decide +kernel⟩ ⟨Nat.le_of_ble_eq_true rfl, Nat.le_of_ble_eq_true rfl⟩) (Or.inl (by decide +kernel)) (by decide +kernel) (by decide +kernel) rfl rfl (Nat.le_of_ble_eq_true rfl) (by obtain ⟨b1, b2, b3⟩ := bd; dsimp only [gRm]; omega) (by obtain ⟨b1, b2, b3⟩ := bd; dsimp only [gRm]; omega) dL_build_156 (fun v9 h1 k1 n1 hp => ?_) (fun E9 h1 k1 n1 hp => by obtain ⟨-, -, -, x9, -, e9⟩ := hp; cases e9)
    obtain ⟨rfl, rfl, rfl, y2, hy2, e9⟩ := hp
    cases e9
    refine gI_iload hB 0 dL_build_159 rfl ?_
    refine gI_iconst (v := nI 2) hB dL_build_161 (by decide) ?_
    refine gI_irem hB dL_build_162 (by decide) ?_
    refine gI_topi hB (y := nI (t % 2)) (pk_rem (by omega) (by omega) (by omega)) ?_
    refine gI_iaddN hB dL_build_163 ?_
    refine gI_istore hB ([(6, .int (nI (y2 + (t % 2)))), (5, .int (nI t)), (4, .int (nI N)), (3, .ref y), (2, .int (nI 8)), (1, .ref b), (0, .ref (c 0))]) hnL dL_build_164 (by decide) rfl ?_
    refine gI_iconst (v := nI 0) hB dL_build_166 (by decide) ?_
    refine gI_istore hB ([(7, .int (nI 0)), (6, .int (nI (y2 + (t % 2)))), (5, .int (nI t)), (4, .int (nI N)), (3, .ref y), (2, .int (nI 8)), (1, .ref b), (0, .ref (c 0))]) hnL dL_build_167 (by decide) rfl ?_
    have hm2 : t % 2 < 2 := Nat.mod_lt _ (by omega)
    refine b_hab (B := B + 1050 * r) (mm := (y2 + (t % 2))) hB hnL hS9 hL hN (show t < N by omega) (by omega) (fun h hC u len k n F hu hl8 hl0 hS hs hnd hW bd => ?_) (y2 + (t % 2)) 0 h hC u len k n F (by omega) hu (hl0 t (by omega) (Nat.le_refl t)) hl8 (fun x hx hx9 => hl0 x hx (by omega)) hS hs hnd hW (bd.to (by omega))
    refine gI_iinc hB 0 ([(5, .int (nI (t + 1))), (4, .int (nI N)), (3, .ref y), (2, .int (nI 8)), (1, .ref b), (0, .ref (c 0))]) hnL dL_build_464 rfl (nI_1 (t)) (by decide) rfl ?_
    refine gI_goto hB 142 dL_build_467 (by decide) ?_
    exact ih (t + 1) h hC u len k n F (by omega) hu hl8 (fun x hx hx9 => hl0 x hx (by omega)) hS hs hnd hW bd

set_option maxRecDepth 100000 in
set_option maxHeartbeats 4000000 in
theorem b_move {X : gX} {b y : Nat} {c : Nat → Nat} {N L9 B : Nat} {xs : Nat → Int32} (hB : gB X (gRm 8 110000 1100000) cL_build wsL_build RL) (hnL : gnL X = 11) (hS9 : gScr X b L9 xs) (hL : L9 ≤ 260) (hN : N ≤ 8)
    (kk : ∀ (h hC : gH) (u : MS) (ten : Nat → Nat) (k n F : Nat), pB u N (fun _ => 0) → sSim X.2.1 h hC y N ten (fun _ => 0) → gSub hC h → hC.1.Nodup → cW X.2.1 hC c u F → pBud k n F B → gW X h k n 139 [(4, .int (nI N)), (3, .ref y), (2, .int (nI 8)), (1, .ref b), (0, .ref (c 0))] []) : ∀ (r t : Nat) (h hC : gH) (u : MS) (ten : Nat → Nat) (k n F : Nat), t + r = N → pB u t (fun _ => 0) → sSim X.2.1 h hC y t ten (fun _ => 0) → gSub hC h → hC.1.Nodup → cW X.2.1 hC c u F → pBud k n F (B + 140 * r) → gW X h k n 57 [(5, .int (nI t)), (4, .int (nI N)), (3, .ref y), (2, .int (nI 8)), (1, .ref b), (0, .ref (c 0))] [] := by
  intro r
  induction r with
  | zero =>
    intro t h hC u ten k n F e hu hS hs hnd hW bd
    obtain rfl : t = N := by omega
    refine gI_iload hB 0 dL_build_57 rfl ?_
    refine gI_iload hB 1 dL_build_59 rfl ?_
    refine gI_icmp_ge hB 139 dL_build_61 (by decide) (fun _ => ?_) (fun z => absurd (Int32.le_refl _) z)
    refine gI_loc [1, 2, 3, 4, 5] rfl ?_
    exact kk h hC u ten k n F hu hS hs hnd hW (bd.to (by omega))
  | succ r ih =>
    intro t h hC u ten k n F e hu hS hs hnd hW bd
    refine gI_iload hB 0 dL_build_57 rfl ?_
    refine gI_iload hB 1 dL_build_59 rfl ?_
    refine gI_icmp_ge hB 139 dL_build_61 (by decide) (fun z => absurd z (Int32.not_le.mpr (nI_lt (a := t) (b := N) (by omega) (by omega)))) (fun _ => ?_)
    refine gI_aload_n hB 4 dL_build_64 rfl ?_
    refine gI_iconst (v := nI 1) hB dL_build_65 (by decide) ?_
    refine gI_iload hB 0 dL_build_66 rfl ?_
    refine gI_bipush (v := nI 8) hB dL_build_68 (by decide) ?_
    refine gI_irem hB dL_build_70 (by decide) ?_
    refine gI_topi hB (y := nI (t % 8)) (pk_rem (by omega) (by omega) (by omega)) ?_
    refine gI_iaddN hB dL_build_71 ?_
    refine gI_callSS (n9 := 2) (As := [.ref b, .int (nI (1 + (t % 8)))]) (rest := []) hB hS9 (s_cell X.2.1 h hL (1 + (t % 8)) (by omega)) (gCW.of ggL_build_L_cell rfl ⟨by decide, by decide, by decide +kernel⟩ ⟨Nat.le_of_ble_eq_true rfl, Nat.le_of_ble_eq_true rfl⟩) (by decide +kernel) (by decide +kernel) (by decide +kernel) rfl rfl (Nat.le_of_ble_eq_true rfl) (by obtain ⟨b1, b2, b3⟩ := bd; dsimp only [gRm]; omega) (by obtain ⟨b1, b2, b3⟩ := bd; dsimp only [gRm]; omega) dL_build_72 (fun v9 h1 k1 n1 hp => ?_) (fun E9 h1 k1 n1 hp => by obtain ⟨-, -, -, x9, e9⟩ := hp; cases e9)
    obtain ⟨rfl, rfl, rfl, x1, e9⟩ := hp
    cases e9
    refine gI_istore hB ([(6, .int x1), (5, .int (nI t)), (4, .int (nI N)), (3, .ref y), (2, .int (nI 8)), (1, .ref b), (0, .ref (c 0))]) hnL dL_build_75 (by decide) rfl ?_
    refine gI_aload_n hB 6 dL_build_77 rfl ?_
    refine gI_iload hB 0 dL_build_78 rfl ?_
    refine gI_iload hB 1 dL_build_80 rfl ?_
    refine gI_ishr hB dL_build_82 ?_
    refine gI_bipush (v := nI 88) hB dL_build_83 (by decide) ?_
    refine gI_callS (n9 := 2) (As := [.int (x1 >>> ((nI t) &&& 31)), .int (nI 88)]) (rest := [.ref (c 0)]) hB (s_below X.2.1 h (x1 >>> ((nI t) &&& 31)) (N := 88) (by omega) (by omega)) (gCW.of ggL_build_L_below rfl ⟨by decide, by decide, by decide +kernel⟩ ⟨Nat.le_of_ble_eq_true rfl, Nat.le_of_ble_eq_true rfl⟩) (Or.inl (by decide +kernel)) (by decide +kernel) (by decide +kernel) rfl rfl (Nat.le_of_ble_eq_true rfl) (by obtain ⟨b1, b2, b3⟩ := bd; dsimp only [gRm]; omega) (by obtain ⟨b1, b2, b3⟩ := bd; dsimp only [gRm]; omega) dL_build_85 (fun v9 h1 k1 n1 hp => ?_) (fun E9 h1 k1 n1 hp => by obtain ⟨-, -, -, x9, -, e9⟩ := hp; cases e9)
    obtain ⟨rfl, rfl, rfl, y2, hy2, e9⟩ := hp
    cases e9
    refine gI_iload hB 0 dL_build_88 rfl ?_
    refine gI_bipush (v := nI 7) hB dL_build_90 (by decide) ?_
    refine gI_ishr hB dL_build_92 ?_
    refine gI_bipush (v := nI 10) hB dL_build_93 (by decide) ?_
    refine gI_callS (n9 := 2) (As := [.int (x1 >>> ((nI 7) &&& 31)), .int (nI 10)]) (rest := [.int (nI y2), .ref (c 0)]) hB (s_below X.2.1 h (x1 >>> ((nI 7) &&& 31)) (N := 10) (by omega) (by omega)) (gCW.of ggL_build_L_below rfl ⟨by decide, by decide, by decide +kernel⟩ ⟨Nat.le_of_ble_eq_true rfl, Nat.le_of_ble_eq_true rfl⟩) (Or.inl (by decide +kernel)) (by decide +kernel) (by decide +kernel) rfl rfl (Nat.le_of_ble_eq_true rfl) (by obtain ⟨b1, b2, b3⟩ := bd; dsimp only [gRm]; omega) (by obtain ⟨b1, b2, b3⟩ := bd; dsimp only [gRm]; omega) dL_build_95 (fun v9 h1 k1 n1 hp => ?_) (fun E9 h1 k1 n1 hp => by obtain ⟨-, -, -, x9, -, e9⟩ := hp; cases e9)
    obtain ⟨rfl, rfl, rfl, y3, hy3, e9⟩ := hp
    cases e9
    obtain ⟨u1, eM, hu1⟩ := hu.move (by omega) (x := y2) (p := y3) (by omega) (by omega)
    refine gI_clK (n9 := 2) (As := [.int (nI y2), .int (nI y3)]) (rest := []) hB (B + 140 * r + 20) (r_moveIn hW eM hu1.2.1) hs hnd (gCW.of ggL_build_X6_moveIn rfl ⟨by decide, by decide, by decide +kernel⟩ ⟨Nat.le_of_ble_eq_true rfl, Nat.le_of_ble_eq_true rfl⟩) (by decide +kernel) (by decide +kernel) (by decide +kernel) (by decide +kernel) hW rfl rfl (Nat.le_of_ble_eq_true rfl) ⟨Nat.le_of_ble_eq_true rfl, Nat.le_of_ble_eq_true rfl⟩ ⟨Nat.le_of_ble_eq_true rfl, Nat.le_of_ble_eq_true rfl⟩ dL_build_98 (bd.to (by omega)) (fun h hC k n F hW hs hr hnd bd => ?_)
    replace hS := hS.rest hr
    refine gI_iload hB 1 dL_build_101 rfl ?_
    refine gI_icmp_eq hB 108 dL_build_103 (by decide) (fun _ => ?_) (fun z => absurd (rfl) z)
    obtain ⟨⟨i0, i1, tn, rn, sn, b1, b2, b3, b4, ft, hy, oy, htn, otn, hft⟩, hTen, hinj⟩ := id hS
    refine gI_aload_n hB 3 dL_build_108 rfl ?_
    refine gI_iload hB 0 dL_build_109 rfl ?_
    refine gI_iload hB 1 dL_build_111 rfl ?_
    refine gI_ishr hB dL_build_113 ?_
    refine gI_bipush (v := nI 88) hB dL_build_114 (by decide) ?_
    refine gI_callS (n9 := 2) (As := [.int (x1 >>> ((nI t) &&& 31)), .int (nI 88)]) (rest := [.ref y]) hB (s_below X.2.1 h (x1 >>> ((nI t) &&& 31)) (N := 88) (by omega) (by omega)) (gCW.of ggL_build_L_below rfl ⟨by decide, by decide, by decide +kernel⟩ ⟨Nat.le_of_ble_eq_true rfl, Nat.le_of_ble_eq_true rfl⟩) (Or.inl (by decide +kernel)) (by decide +kernel) (by decide +kernel) rfl rfl (Nat.le_of_ble_eq_true rfl) (by obtain ⟨b1, b2, b3⟩ := bd; dsimp only [gRm]; omega) (by obtain ⟨b1, b2, b3⟩ := bd; dsimp only [gRm]; omega) dL_build_116 (fun v9 h1 k1 n1 hp => ?_) (fun E9 h1 k1 n1 hp => by obtain ⟨-, -, -, x9, -, e9⟩ := hp; cases e9)
    obtain ⟨rfl, rfl, rfl, y4, hy4, e9⟩ := hp
    cases e9
    refine gI_iload hB 0 dL_build_119 rfl ?_
    refine gI_bipush (v := nI 7) hB dL_build_121 (by decide) ?_
    refine gI_ishr hB dL_build_123 ?_
    refine gI_bipush (v := nI 10) hB dL_build_124 (by decide) ?_
    refine gI_callS (n9 := 2) (As := [.int (x1 >>> ((nI 7) &&& 31)), .int (nI 10)]) (rest := [.int (nI y4), .ref y]) hB (s_below X.2.1 h (x1 >>> ((nI 7) &&& 31)) (N := 10) (by omega) (by omega)) (gCW.of ggL_build_L_below rfl ⟨by decide, by decide, by decide +kernel⟩ ⟨Nat.le_of_ble_eq_true rfl, Nat.le_of_ble_eq_true rfl⟩) (Or.inl (by decide +kernel)) (by decide +kernel) (by decide +kernel) rfl rfl (Nat.le_of_ble_eq_true rfl) (by obtain ⟨b1, b2, b3⟩ := bd; dsimp only [gRm]; omega) (by obtain ⟨b1, b2, b3⟩ := bd; dsimp only [gRm]; omega) dL_build_126 (fun v9 h1 k1 n1 hp => ?_) (fun E9 h1 k1 n1 hp => by obtain ⟨-, -, -, x9, -, e9⟩ := hp; cases e9)
    obtain ⟨rfl, rfl, rfl, y5, hy5, e9⟩ := hp
    cases e9
    refine gI_callV (n9 := 2) (As := [.int (nI y4), .int (nI y5)]) (rest := []) hB (s_move X.2.1 h y tn rn sn t i0 i1 b1 b2 b3 b4 (nI y4) (nI y5) ft (by omega) hy htn (fun j9 hj9 => by obtain ⟨a0, c1, c2, c3, c4, c5, c6, g0, k1, -⟩ := hTen j9 hj9; exact ⟨_, _, hft j9 hj9, k1⟩)) (gCW.of ggL_build_X7_moveIn rfl ⟨by decide, by decide, by decide +kernel⟩ ⟨Nat.le_of_ble_eq_true rfl, Nat.le_of_ble_eq_true rfl⟩) (by decide +kernel) (by decide +kernel) (by decide +kernel) (by decide +kernel) hy (C := RX7) (T := TX7) (N := 9) rfl rfl rfl (Nat.le_of_ble_eq_true rfl) (by obtain ⟨b1, b2, b3⟩ := bd; dsimp only [gRm]; omega) (by obtain ⟨b1, b2, b3⟩ := bd; dsimp only [gRm]; omega) dL_build_129 (fun v9 h1 k1 n1 hp => ?_) (fun E9 h1 k1 n1 hp => by obtain ⟨t9, hb, al, fl, e9, -⟩ := hp; cases e9)
    obtain ⟨t9, hb, al, fl, e8, n1, n2, n3, Hy, Hal, hf1, hf2, Ht9, Hhb, hK, hk1, hn1⟩ := hp
    cases e8
    obtain ⟨hS2, hs2⟩ := hS.move hs hy oy hft n1 n2 n3 Hy Hal hf1 hf2 Ht9 Hhb hK
    refine gI_pop hB dL_build_132 rfl ?_
    refine gI_iinc hB 1 ([(5, .int (nI (t + 1))), (6, .int x1), (4, .int (nI N)), (3, .ref y), (2, .int (nI 8)), (1, .ref b), (0, .ref (c 0))]) hnL dL_build_133 rfl (nI_1 t) (by decide) rfl ?_
    refine gI_goto hB 57 dL_build_136 (by decide) ?_
    refine gI_loc [0, 2, 3, 4, 5, 6] rfl ?_
    exact ih (t + 1) _ hC u1 (pUp ten t t9) _ _ F (by omega) hu1 hS2 hs2 hnd hW (bd.pay (z := 10) (by omega) (by omega) (by omega))

/-- what build leaves: the law's courtyard, and the class's, in which nothing has happened yet -/
def dPo (G : gG) (c : Nat → Nat) : gPo := fun r h' k n => ∃ y u T F i0 i1 tn rn sn b1 b2 b3 b4 f, r = .inl (some (.ref y)) ∧ gat h' y (.inr (0, [.int i0, .int i1, .ref tn, .ref rn, .ref sn, .int b1, .int b2, .int b3, .int b4])) ∧ gat h' tn (.inl (gTn G, T, .inr (.inr (.inr (.inr f))))) ∧ cW G h' c u F ∧ 1 ≤ T ∧ T ≤ 8 ∧ pI u T (fun t => mNext u T t) 0 0 (fun _ => 0) (fun _ => 0) (fun _ _ => 0) ∧ k ≤ 20000 + F ∧ n ≤ 520000 + 7 * F

set_option maxRecDepth 100000 in
set_option maxHeartbeats 4000000 in
theorem s_build (G : gG) (h : gH) {b L9 : Nat} {xs : Nat → Int32} (hL : L9 ≤ 260) (c : Nat → Nat) (F : Nat) (hW : cW G h c mU0 F) : gMetS b L9 xs yL_build wsL_build (gRm 8 110000 1100000) G h [.ref (c 0), .ref b, .int (nI 8)] (dPo G c) := by
  refine gMetS_of (maxL := 11) (ret := (some (.object "DoorbellChoirLaw$Sim"))) (by decide) rfl (Nat.le_of_ble_eq_true rfl) ?_
  intro X hG hnL hB hE hS9
  subst hG
  change gW X h 0 0 0 [(0, .ref (c 0)), (1, .ref b), (2, .int (nI 8))] []
  refine gI_nd (fun hnd => ?_)
  have bd : pBud 0 0 F (0 + 100000) := ⟨by omega, by omega, hW.le⟩
  obtain ⟨hC, ehC⟩ : ∃ hC, hC = h := ⟨_, rfl⟩
  rw [← ehC] at hnd hW
  have hs : gSub hC h := fun q e hq => by rw [← ehC]; exact hq
  refine gC_new hB (ci := 0) (C := RX7) (T := TX7) (N := 9) [.int 0, .int 0, .null, .null, .null, .int 0, .int 0, .int 0, .int 0] tyX7 tyX7_ok rfl (by decide +kernel) (by decide +kernel) (by decide +kernel) (by decide +kernel) (fun j hj => by rcases (show j = 0 ∨ j = 1 ∨ j = 2 ∨ j = 3 ∨ j = 4 ∨ j = 5 ∨ j = 6 ∨ j = 7 ∨ j = 8 by omega) with rfl | rfl | rfl | rfl | rfl | rfl | rfl | rfl | rfl <;> rfl) (by obtain ⟨b1, b2, b3⟩ := bd; dsimp only [gRm]; omega) (by obtain ⟨b1, b2, b3⟩ := bd; dsimp only [gRm]; omega) dL_build_0 (fun q1 h hq1 Hq1 hK => ?_)
  have oq1 := hs.fresh hq1
  have hs := hs.sa hK
  have bd := bd.pay (B := 0 + 99998) (z := 2) (k1 := 1) (n1 := 9) (by omega) (by omega) (by omega)
  refine gI_dup hB dL_build_3 rfl ?_
  refine gI_callI (n9 := 0) (As := []) (rest := [.ref q1]) hB (s_sinit X.2.1 h q1 Hq1) (gCW.of ggL_build_X7_init rfl ⟨by decide, by decide, by decide +kernel⟩ ⟨Nat.le_of_ble_eq_true rfl, Nat.le_of_ble_eq_true rfl⟩) rfl rfl (Or.inr ⟨"DoorbellChoirLaw", by decide +kernel⟩) (by decide +kernel) (by decide +kernel) rfl rfl (Nat.le_of_ble_eq_true rfl) (by obtain ⟨b1, b2, b3⟩ := bd; dsimp only [gRm]; omega) (by obtain ⟨b1, b2, b3⟩ := bd; dsimp only [gRm]; omega) dL_build_4 (fun v9 h k1 n1 hp => ?_) (fun E9 h1 k1 n1 hp => by obtain ⟨l1, l2, l3, e9, -⟩ := hp; cases e9)
  obtain ⟨tn, rn, sn, e9, n1, n2, n3, Hq1, Htn, hK2, rfl, rfl⟩ := hp
  cases e9
  have otn := hs.fresh n1
  have hs := hs.st oq1 hK2
  have bd := bd.pay (B := 0 + 99995) (z := 3) (k1 := 3) (n1 := 0) (by omega) (by omega) (by omega)
  refine gI_astore_n hB ([(3, .ref q1), (0, .ref (c 0)), (1, .ref b), (2, .int (nI 8))]) hnL dL_build_7 (by decide) rfl ?_
  refine gI_iconst (v := nI 1) hB dL_build_8 (by decide) ?_
  refine gI_aload_n hB 2 dL_build_9 rfl ?_
  refine gI_iconst (v := nI 0) hB dL_build_10 (by decide) ?_
  refine gI_callSS (n9 := 2) (As := [.ref b, .int (nI 0)]) (rest := [.int (nI 1)]) hB hS9 (s_cell X.2.1 h hL 0 (by omega)) (gCW.of ggL_build_L_cell rfl ⟨by decide, by decide, by decide +kernel⟩ ⟨Nat.le_of_ble_eq_true rfl, Nat.le_of_ble_eq_true rfl⟩) (by decide +kernel) (by decide +kernel) (by decide +kernel) rfl rfl (Nat.le_of_ble_eq_true rfl) (by obtain ⟨b1, b2, b3⟩ := bd; dsimp only [gRm]; omega) (by obtain ⟨b1, b2, b3⟩ := bd; dsimp only [gRm]; omega) dL_build_11 (fun v9 h1 k1 n1 hp => ?_) (fun E9 h1 k1 n1 hp => by obtain ⟨-, -, -, x9, e9⟩ := hp; cases e9)
  obtain ⟨rfl, rfl, rfl, x2, e9⟩ := hp
  cases e9
  refine gI_iload_n hB 3 dL_build_14 rfl ?_
  refine gI_callS (n9 := 2) (As := [.int x2, .int (nI 8)]) (rest := [.int (nI 1)]) hB (s_below X.2.1 h x2 (N := 8) (by omega) (by omega)) (gCW.of ggL_build_L_below rfl ⟨by decide, by decide, by decide +kernel⟩ ⟨Nat.le_of_ble_eq_true rfl, Nat.le_of_ble_eq_true rfl⟩) (Or.inl (by decide +kernel)) (by decide +kernel) (by decide +kernel) rfl rfl (Nat.le_of_ble_eq_true rfl) (by obtain ⟨b1, b2, b3⟩ := bd; dsimp only [gRm]; omega) (by obtain ⟨b1, b2, b3⟩ := bd; dsimp only [gRm]; omega) dL_build_15 (fun v9 h1 k1 n1 hp => ?_) (fun E9 h1 k1 n1 hp => by obtain ⟨-, -, -, x9, -, e9⟩ := hp; cases e9)
  obtain ⟨rfl, rfl, rfl, y3, hy3, e9⟩ := hp
  cases e9
  refine gI_iaddN hB dL_build_18 ?_
  refine gI_istore hB ([(4, .int (nI (1 + y3))), (3, .ref q1), (0, .ref (c 0)), (1, .ref b), (2, .int (nI 8))]) hnL dL_build_19 (by decide) rfl ?_
  refine gI_aload_n hB 1 dL_build_21 rfl ?_
  refine gI_iconst (v := nI 5) hB dL_build_22 (by decide) ?_
  refine gI_aload_n hB 3 dL_build_23 rfl ?_
  refine gI_iconst (v := nI 0) hB dL_build_24 (by decide) ?_
  refine gI_callSS (n9 := 2) (As := [.ref b, .int (nI 0)]) (rest := [.int (nI 5), .ref q1]) hB hS9 (s_cell X.2.1 h hL 0 (by omega)) (gCW.of ggL_build_L_cell rfl ⟨by decide, by decide, by decide +kernel⟩ ⟨Nat.le_of_ble_eq_true rfl, Nat.le_of_ble_eq_true rfl⟩) (by decide +kernel) (by decide +kernel) (by decide +kernel) rfl rfl (Nat.le_of_ble_eq_true rfl) (by obtain ⟨b1, b2, b3⟩ := bd; dsimp only [gRm]; omega) (by obtain ⟨b1, b2, b3⟩ := bd; dsimp only [gRm]; omega) dL_build_25 (fun v9 h1 k1 n1 hp => ?_) (fun E9 h1 k1 n1 hp => by obtain ⟨-, -, -, x9, e9⟩ := hp; cases e9)
  obtain ⟨rfl, rfl, rfl, x4, e9⟩ := hp
  cases e9
  refine gI_iconst (v := nI 4) hB dL_build_28 (by decide) ?_
  refine gI_ishr hB dL_build_29 ?_
  refine gI_bipush (v := nI 40) hB dL_build_30 (by decide) ?_
  refine gI_callS (n9 := 2) (As := [.int (x4 >>> ((nI 4) &&& 31)), .int (nI 40)]) (rest := [.int (nI 5), .ref q1]) hB (s_below X.2.1 h (x4 >>> ((nI 4) &&& 31)) (N := 40) (by omega) (by omega)) (gCW.of ggL_build_L_below rfl ⟨by decide, by decide, by decide +kernel⟩ ⟨Nat.le_of_ble_eq_true rfl, Nat.le_of_ble_eq_true rfl⟩) (Or.inl (by decide +kernel)) (by decide +kernel) (by decide +kernel) rfl rfl (Nat.le_of_ble_eq_true rfl) (by obtain ⟨b1, b2, b3⟩ := bd; dsimp only [gRm]; omega) (by obtain ⟨b1, b2, b3⟩ := bd; dsimp only [gRm]; omega) dL_build_32 (fun v9 h1 k1 n1 hp => ?_) (fun E9 h1 k1 n1 hp => by obtain ⟨-, -, -, x9, -, e9⟩ := hp; cases e9)
  obtain ⟨rfl, rfl, rfl, y5, hy5, e9⟩ := hp
  cases e9
  refine gI_iaddN hB dL_build_35 ?_
  refine gC_put hB 1 tyX7 tyX7_ok nmX7 Hq1 (C := RX7) (T := TX7) (N := 9) rfl (by decide +kernel) (by decide) (by decide +kernel) (fun _ h9 => h9) rfl rfl rfl (Nat.le_of_ble_eq_true rfl) dL_build_36 (fun h Nq1 hK => ?_)
  have Htn := hK _ _ Htn (gat_ne Htn Hq1 rfl)
  have hs := hs.st oq1 hK
  replace Hq1 : gat h q1 (.inr (0, [.int 0, .int (nI (5 + y5)), .ref tn, .ref rn, .ref sn, .int 0, .int 0, .int 0, .int 0])) := Nq1
  refine gI_aload_n hB 2 dL_build_39 rfl ?_
  refine gI_aload_n hB 1 dL_build_40 rfl ?_
  refine gI_get (v := .int (nI (5 + y5))) hB 1 Hq1 (C := RX7) (T := TX7) (N := 9) rfl (by decide +kernel) (by decide) (by decide +kernel) (fun _ h9 => h9) rfl dL_build_41 ?_
  obtain ⟨u1, eM, hu1⟩ := pB.hour (x := (5 + y5)) (by omega) (by omega)
  refine gI_clK (n9 := 1) (As := [.int (nI (5 + y5))]) (rest := []) hB (0 + 99994) (r_setHour hW eM hu1.2.1) hs hnd (gCW.of ggL_build_X6_setHour rfl ⟨by decide, by decide, by decide +kernel⟩ ⟨Nat.le_of_ble_eq_true rfl, Nat.le_of_ble_eq_true rfl⟩) (by decide +kernel) (by decide +kernel) (by decide +kernel) (by decide +kernel) hW rfl rfl (Nat.le_of_ble_eq_true rfl) ⟨Nat.le_of_ble_eq_true rfl, Nat.le_of_ble_eq_true rfl⟩ ⟨Nat.le_of_ble_eq_true rfl, Nat.le_of_ble_eq_true rfl⟩ dL_build_44 (bd.to (by omega)) (fun h hC k n F hW hs hr hnd bd => ?_)
  obtain ⟨Hq1, oq1⟩ := hr _ _ Hq1 oq1
  obtain ⟨Htn, otn⟩ := hr _ _ Htn otn
  refine gI_bipush (v := nI 60) hB dL_build_47 (by decide) ?_
  refine gI_icmp_eq hB 54 dL_build_49 (by decide) (fun _ => ?_) (fun z => absurd (rfl) z)
  refine gI_iconst (v := nI 0) hB dL_build_54 (by decide) ?_
  refine gI_istore hB ([(5, .int (nI 0)), (4, .int (nI (1 + y3))), (3, .ref q1), (0, .ref (c 0)), (1, .ref b), (2, .int (nI 8))]) hnL dL_build_55 (by decide) rfl ?_
  refine gI_loc [0, 1, 2, 5, 4, 3] rfl ?_
  have hS : sSim X.2.1 h hC q1 0 (fun _ => 0) (fun _ => 0) := ⟨⟨_, _, tn, rn, sn, _, _, _, _, _, Hq1, oq1, Htn, otn, fun j hj => absurd hj (Nat.not_lt_zero j)⟩, fun j hj => absurd hj (Nat.not_lt_zero j), fun i j hi => absurd hi (Nat.not_lt_zero i)⟩
  refine b_move (B := 90000) hB hnL hS9 hL (N := (1 + y3)) (by omega) (fun h hC u ten k n F hu hS hs hnd hW bd => ?_) (1 + y3) 0 h hC u1 _ k n F (by omega) hu1 hS hs hnd hW (bd.to (by omega))
  refine gI_iconst (v := nI 0) hB dL_build_139 (by decide) ?_
  refine gI_istore hB ([(5, .int (nI 0)), (4, .int (nI (1 + y3))), (3, .ref q1), (2, .int (nI 8)), (1, .ref b), (0, .ref (c 0))]) hnL dL_build_140 (by decide) rfl ?_
  refine b_ten (B := 81000) hB hnL hS9 hL (N := (1 + y3)) (by omega) (fun h hC u len k n F hu hS hs hnd hW bd => ?_) ((1 + y3)) 0 h hC u (fun _ => 0) k n F (by omega) hu (fun _ _ => by omega) (fun _ _ _ => rfl) hS hs hnd hW (bd.to (by omega))
  refine gI_aload_n hB 2 dL_build_470 rfl ?_
  refine gI_aret hB hE (Or.inl ⟨_, rfl⟩) (Or.inr ⟨_, rfl⟩) dL_build_471 ?_
  obtain ⟨W9, z9, o9⟩ := hW.ok hu.1 (by omega)
  obtain ⟨b1, b2, b3⟩ := bd
  obtain ⟨⟨i0, i1, tn, rn, sn, b1, b2, b3, b4, ft, hy, oy, htn, otn, hft⟩, hTen, hinj⟩ := id hS
  exact ⟨q1, u, _, F, i0, i1, tn, rn, sn, b1, b2, b3, b4, ft, rfl, hy, htn, hW.up hs, by omega, by omega, hu.pI o9, by omega, by omega⟩
