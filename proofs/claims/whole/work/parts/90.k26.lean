/-! the law's loop -/
section LawTab
variable {X : gX} {R : Room} {cc : ByteArray} {Ts : List Cond} {own : String} {h : gH} {k n pc : Nat} {lc : List (Nat × Value)} {st : List Value}
theorem gI_tabOut (hB : gB X R cc Ts own) (tgt : Nat) {dflt lo hi : Int} {offs : Array Int} {len : Nat} {x : Int32} (hd : decode cc pc = .ok (.tableswitch dflt lo hi offs, len)) (h9 : x.toInt < lo ∨ hi < x.toInt) (ht : (pc : Int) + dflt = (tgt : Int)) (kk : gW X h k n tgt lc st) : gW X h k n pc lc (.int x :: st) := by
  obtain ⟨⟨p, l, e, R0, s, m, args, below, meth, c⟩, ⟨G, A, nL, Q⟩⟩ := X
  obtain ⟨⟨hx, hb, hml, hown, hts⟩, hK, hZ, hA, hlk, hlt, hR⟩ := hB
  intro H locs ls hP hD hS hls
  exact lv_tableOut hx hb hd h9 ht (kk H locs ls hP hD hS hls)
theorem gI_tabIn (hB : gB X R cc Ts own) (tgt : Nat) {dflt lo hi off : Int} {offs : Array Int} {len : Nat} {x : Int32} (hd : decode cc pc = .ok (.tableswitch dflt lo hi offs, len)) (h1 : ¬ x.toInt < lo) (h2 : ¬ hi < x.toInt) (ho : offs[(x.toInt - lo).toNat]? = some off) (ht : (pc : Int) + off = (tgt : Int)) (kk : gW X h k n tgt lc st) : gW X h k n pc lc (.int x :: st) := by
  obtain ⟨⟨p, l, e, R0, s, m, args, below, meth, c⟩, ⟨G, A, nL, Q⟩⟩ := X
  obtain ⟨⟨hx, hb, hml, hown, hts⟩, hK, hZ, hA, hlk, hlt, hR⟩ := hB
  intro H locs ls hP hD hS hls
  exact lv_tableIn hx hb hd h1 h2 ho ht (kk H locs ls hP hD hS hls)
end LawTab
theorem l_gt {L j : Nat} (hL : L ≤ 3584) (hj : 7 * j ≤ L) (hx : L < 7 * j + 7) : nI L - nI 7 < nI (7 * j) := by
  rw [Int32.lt_iff_toInt_lt, pk_sub_toInt (by omega) (by omega), nI_toInt (by omega)]
  omega
abbrev lEnd (X : gX) : Prop := ∀ (h : gH) (k n : Nat) (lc : List (Nat × Value)), k ≤ 601024 → n ≤ 7293033 → gW X h k n 1507 lc []

set_option maxRecDepth 100000 in
set_option maxHeartbeats 4000000 in
theorem l_loop {X : gX} {b L : Nat} {xs : Nat → Int32} {c a : Nat → Nat} {ob : Nat} (hB : gB X room_1 cL_law wsL_law RL) (hNx : gNx X.1.2.2.2.2.1) (hnL : gnL X = 9) (hS9 : gScr X b L xs) (hL : L ≤ 3584) (hend : lEnd X) : ∀ (r j : Nat), L < 7 * (j + r) + 7 → 7 * j ≤ L → ∀ (h : gH) (u : MS) (F k n : Nat), lSt X h c a ob u F → k ≤ 20 + 210 * j + F → n ≤ 6000 + 2000 * j + 7 * F → gW X h k n 23 (lLC b c a ob j) [] := by
  intro r
  induction r with
  | zero =>
    intro j h1 h2 h u F k n hs hk hn
    have hF := hs.1.le
    refine gI_iload hB 0 dL_law_23 rfl ?_
    refine gI_aload_n hB 4 dL_law_25 rfl ?_
    refine gI_slen hB hS9 dL_law_26 ?_
    refine gI_bipush (v := nI 7) hB dL_law_27 (by decide) ?_
    refine gI_isub hB dL_law_29 ?_
    exact gI_icmp_gt hB 1507 dL_law_30 (by decide) (fun _ => hend _ _ _ _ (by omega) (by omega)) (fun c9 => absurd (l_gt hL h2 (by omega)) c9)
  | succ r ih =>
    intro j h1 h2 h u F k n hs hk hn
    have hF := hs.1.le
    refine gI_iload hB 0 dL_law_23 rfl ?_
    refine gI_aload_n hB 4 dL_law_25 rfl ?_
    refine gI_slen hB hS9 dL_law_26 ?_
    refine gI_bipush (v := nI 7) hB dL_law_27 (by decide) ?_
    refine gI_isub hB dL_law_29 ?_
    refine gI_icmp_gt hB 1507 dL_law_30 (by decide) (fun _ => hend _ _ _ _ (by omega) (by omega)) (fun c9 => ?_)
    have hj : 7 * j + 7 ≤ L := Nat.le_of_not_lt (fun z9 => c9 (l_gt hL h2 z9))
    have hk9 : k + 9000 ≤ 601024 := by omega
    have hn9 : n + 60000 ≤ 7293033 := by omega
    refine gI_aload_n hB 4 dL_law_33 rfl ?_
    refine gI_iload hB 0 dL_law_34 rfl ?_
    refine gI_sld hB hS9 (7 * j) (by omega) hL dL_law_36 ?_
    refine gI_bipush (v := nI 31) hB dL_law_37 (by decide) ?_
    refine gI_iand hB dL_law_39 ?_
    obtain ⟨y, hy, ey⟩ := pk_andE (xs (7 * j)) (m := nI 31) 5 (by decide)
    rw [ey]
    have next : lK X b c a ob j F k n := fun h1 u1 F1 k1 n1 hs1 hF1 hk1 hn1 => by
      refine gI_iinc hB 0 (v := nI (7 * (j + 1))) (lLC b c a ob (j + 1)) hnL dL_law_1501 rfl (by rw [show Int32.ofInt 7 = nI 7 from by decide, nI_add]; exact congrArg nI (by omega)) (by decide) rfl ?_
      refine gI_goto hB 23 dL_law_1504 (by decide) ?_
      exact ih (j + 1) (by omega) (by omega) h1 u1 F1 k1 n1 hs1 (by omega) (by omega)
    rcases (show y = 0 ∨ y = 1 ∨ y = 2 ∨ y = 3 ∨ y = 4 ∨ y = 5 ∨ y = 6 ∨ y = 7 ∨ y = 8 ∨ y = 9 ∨ y = 10 ∨ y = 11 ∨ y = 12 ∨ y = 13 ∨ y = 14 ∨ y = 15 ∨ y = 16 ∨ y = 17 ∨ y = 18 ∨ y = 19 ∨ y = 20 ∨ y = 21 ∨ 22 ≤ y by omega) with rfl | rfl | rfl | rfl | rfl | rfl | rfl | rfl | rfl | rfl | rfl | rfl | rfl | rfl | rfl | rfl | rfl | rfl | rfl | rfl | rfl | rfl | hy9
    · exact gI_tabIn hB (off := 104) 144 dL_law_40 (by decide) (by decide) (by decide +kernel) (by decide) (l_moveIn hB hNx hnL hS9 hL hj hs hk9 hn9 next)
    · exact gI_tabIn hB (off := 172) 212 dL_law_40 (by decide) (by decide) (by decide +kernel) (by decide) (l_setHour hB hNx hnL hS9 hL hj hs hk9 hn9 next)
    · exact gI_tabIn hB (off := 228) 268 dL_law_40 (by decide) (by decide) (by decide +kernel) (by decide) (l_addHabit hB hNx hnL hS9 hL hj hs hk9 hn9 next)
    · exact gI_tabIn hB (off := 284) 324 dL_law_40 (by decide) (by decide) (by decide +kernel) (by decide) (l_setWhen hB hNx hnL hS9 hL hj hs hk9 hn9 next)
    · exact gI_tabIn hB (off := 402) 442 dL_law_40 (by decide) (by decide) (by decide +kernel) (by decide) (l_setWhat hB hNx hnL hS9 hL hj hs hk9 hn9 next)
    · exact gI_tabIn hB (off := 520) 560 dL_law_40 (by decide) (by decide) (by decide +kernel) (by decide) (l_dropHabit hB hNx hnL hS9 hL hj hs hk9 hn9 next)
    · exact gI_tabIn hB (off := 588) 628 dL_law_40 (by decide) (by decide) (by decide +kernel) (by decide) (l_tenant hB hNx hnL hS9 hL hj hs hk9 hn9 next)
    · exact gI_tabIn hB (off := 656) 696 dL_law_40 (by decide) (by decide) (by decide +kernel) (by decide) (l_habit hB hNx hnL hS9 hL hj hs hk9 hn9 next)
    · exact gI_tabIn hB (off := 736) 776 dL_law_40 (by decide) (by decide) (by decide +kernel) (by decide) (l_ring hB hNx hnL hS9 hL hj hs hk9 hn9 next)
    · exact gI_tabIn hB (off := 792) 832 dL_law_40 (by decide) (by decide) (by decide +kernel) (by decide) (l_pass hB hNx hnL hS9 hL hj hs hk9 hn9 next)
    · exact gI_tabIn hB (off := 848) 888 dL_law_40 (by decide) (by decide) (by decide +kernel) (by decide) (l_count hB hNx hnL hS9 hL hj hs hk9 hn9 next)
    · exact gI_tabIn hB (off := 904) 944 dL_law_40 (by decide) (by decide) (by decide +kernel) (by decide) (l_waiting hB hNx hnL hS9 hL hj hs hk9 hn9 next)
    · exact gI_tabIn hB (off := 972) 1012 dL_law_40 (by decide) (by decide) (by decide +kernel) (by decide) (l_fits hB hNx hnL hS9 hL hj hs hk9 hn9 next)
    · exact gI_tabIn hB (off := 1052) 1092 dL_law_40 (by decide) (by decide) (by decide +kernel) (by decide) (l_sung hB hNx hnL hS9 hL hj hs hk9 hn9 next)
    · exact gI_tabIn hB (off := 1120) 1160 dL_law_40 (by decide) (by decide) (by decide +kernel) (by decide) (l_through hB hNx hnL hS9 hL hj hs hk9 hn9 next)
    · exact gI_tabIn hB (off := 1188) 1228 dL_law_40 (by decide) (by decide) (by decide +kernel) (by decide) (l_sounds hB hNx hnL hS9 hL hj hs hk9 hn9 next)
    · exact gI_tabIn hB (off := 1256) 1296 dL_law_40 (by decide) (by decide) (by decide +kernel) (by decide) (l_best hB hNx hnL hS9 hL hj hs hk9 hn9 next)
    · exact gI_tabIn hB (off := 1269) 1309 dL_law_40 (by decide) (by decide) (by decide +kernel) (by decide) (l_emptySongs hB hNx hnL hS9 hL hj hs hk9 hn9 next)
    · exact gI_tabIn hB (off := 1282) 1322 dL_law_40 (by decide) (by decide) (by decide +kernel) (by decide) (l_reach hB hNx hnL hS9 hL hj hs hk9 hn9 next)
    · exact gI_tabIn hB (off := 1338) 1378 dL_law_40 (by decide) (by decide) (by decide +kernel) (by decide) (l_hops hB hNx hnL hS9 hL hj hs hk9 hn9 next)
    · exact gI_tabIn hB (off := 1406) 1446 dL_law_40 (by decide) (by decide) (by decide +kernel) (by decide) (l_patience hB hNx hnL hS9 hL hj hs hk9 hn9 next)
    · exact gI_tabIn hB (off := 1447) 1487 dL_law_40 (by decide) (by decide) (by decide +kernel) (by decide) (l_digest hB hNx hnL hS9 hL hj hs hk9 hn9 next)
    · have hy8 : y < 32 := hy
      exact gI_tabOut hB 1501 dL_law_40 (Or.inr (by rw [nI_toInt (by omega)]; omega)) (by decide) (next _ _ _ _ _ hs (Nat.le_refl _) (by omega) (by omega))
set_option maxRecDepth 100000 in
set_option maxHeartbeats 4000000 in
theorem l_start {X : gX} {b L : Nat} {xs : Nat → Int32} (hB : gB X room_1 cL_law wsL_law RL) (hNx : gNx X.1.2.2.2.2.1) (hnL : gnL X = 9) (hS9 : gScr X b L xs) (hL : L ≤ 3584) (hend : lEnd X) (h_0 : gH) : gW X h_0 0 0 0 [(0, .ref b)] [] := by
  refine gC_new hB (ci := 9) (C := RX6) (T := TX6) (N := 9) [.null, .null, .null, .null, .int 0, .int 0, .int 0, .int 0, .int 0] tyX6 tyX6_ok rfl (by decide +kernel) (by decide +kernel) (by decide +kernel) (by decide +kernel) (fun j hj => by rcases (show j = 0 ∨ j = 1 ∨ j = 2 ∨ j = 3 ∨ j = 4 ∨ j = 5 ∨ j = 6 ∨ j = 7 ∨ j = 8 by omega) with rfl | rfl | rfl | rfl | rfl | rfl | rfl | rfl | rfl <;> rfl) (by show 0 + 1 ≤ 601024; omega) (by show 0 + 9 ≤ 7293033; omega) dL_law_0 (fun x h hnx Hx hK => ?_)
  refine gI_dup hB dL_law_3 rfl ?_
  refine gI_callI (n9 := 0) (As := []) (rest := [.ref x]) hB (k_xinit X.2.1 h x Hx) (gCW.of ggL_law_X6_init rfl ⟨by decide, by decide, by decide +kernel⟩ ⟨Nat.le_of_ble_eq_true rfl, Nat.le_of_ble_eq_true rfl⟩) rfl rfl (Or.inl (by decide +kernel)) (by decide +kernel) (by decide +kernel) rfl rfl (Nat.le_of_ble_eq_true rfl) (by show 0 + 1 + 10 ≤ 601024; omega) (by show 0 + 9 + 60 ≤ 7293033; omega) dL_law_4 (fun v9 h1 k1 n1 hp => ?_) (fun E9 h1 k1 n1 hp => by obtain ⟨c, Λ, e9, -⟩ := hp; cases e9)
  obtain ⟨c, Λ, e9, ec, hC, eF, hst, hk1, hn1⟩ := hp
  cases e9
  refine gI_astore_n hB ([(1, .ref x), (0, .ref b)]) hnL dL_law_7 (by decide) rfl ?_
  refine gC_new hB (ci := 10) (C := RX7) (T := TX7) (N := 15) [.int 0, .int 0, .int 0, .int 0, .null, .null, .int 0, .null, .int 0, .int 0, .int 0, .int 0, .int 0, .null, .null] tyX7 tyX7_ok rfl (by decide +kernel) (by decide +kernel) (by decide +kernel) (by decide +kernel) (fun j hj => by rcases (show j = 0 ∨ j = 1 ∨ j = 2 ∨ j = 3 ∨ j = 4 ∨ j = 5 ∨ j = 6 ∨ j = 7 ∨ j = 8 ∨ j = 9 ∨ j = 10 ∨ j = 11 ∨ j = 12 ∨ j = 13 ∨ j = 14 by omega) with rfl | rfl | rfl | rfl | rfl | rfl | rfl | rfl | rfl | rfl | rfl | rfl | rfl | rfl | rfl <;> rfl) (by show 0 + 1 + k1 + 1 ≤ 601024; omega) (by show 0 + 9 + n1 + 15 ≤ 7293033; omega) dL_law_8 (fun m h hnm Hm hK => ?_)
  have hC := hC.fresh hK
  refine gI_dup hB dL_law_11 rfl ?_
  refine gI_callI (n9 := 0) (As := []) (rest := [.ref m]) hB (c_minit X.2.1 h m Hm) (gCW.of ggL_law_X7_init rfl ⟨by decide, by decide, by decide +kernel⟩ ⟨Nat.le_of_ble_eq_true rfl, Nat.le_of_ble_eq_true rfl⟩) rfl rfl (Or.inl (by decide +kernel)) (by decide +kernel) (by decide +kernel) rfl rfl (Nat.le_of_ble_eq_true rfl) (by show 0 + 1 + k1 + 1 + 5 ≤ 601024; omega) (by show 0 + 9 + n1 + 15 + 5118 ≤ 7293033; omega) dL_law_12 (fun v9 h2 k2 n2 hp => ?_) (fun E9 h2 k2 n2 hp => by obtain ⟨a, e9, -⟩ := hp; cases e9)
  obtain ⟨a, e9, ea, hM, hst2, rfl, rfl⟩ := hp
  cases e9
  have hC := hC.mfr (h' := h2) (fun q e hq hk => hst2 q e hq (fun z9 => by
    subst z9
    rw [gat_inj hq Hm] at hk
    cases hk))
  refine gI_astore_n hB ([(2, .ref m), (1, .ref x), (0, .ref b)]) hnL dL_law_15 (by decide) rfl ?_
  refine gI_iconst (v := nI 1) hB dL_law_16 (by decide) ?_
  refine gC_newJ hB (by decide +kernel) (by show 0 + 1 + k1 + 1 + 5 + 1 ≤ 601024; omega) (by show 0 + 9 + n1 + 15 + 5118 + 1 ≤ 7293033; omega) dL_law_17 (fun ob h3 hob9 Hob hK3 => ?_)
  refine gI_astore_n hB ([(3, .ref ob), (2, .ref m), (1, .ref x), (0, .ref b)]) hnL dL_law_19 (by decide) rfl ?_
  refine gI_iconst (v := nI 0) hB dL_law_20 (by decide) ?_
  refine gI_istore hB ([(4, .int (nI 0)), (3, .ref ob), (2, .ref m), (1, .ref x), (0, .ref b)]) hnL dL_law_21 (by decide) rfl ?_
  rw [← ec, ← ea]
  exact l_loop hB hNx hnL hS9 hL hend L 0 (by omega) (by omega) h3 mU0 0 _ _ ⟨⟨Λ, 0, 0, 0, hC.fresh hK3, mU0_ok, eF⟩, ⟨hK3 _ _ hM.1, fun j hj => hK3 _ _ (hM.2 j hj)⟩, _, Hob⟩ (by omega) (by omega)
