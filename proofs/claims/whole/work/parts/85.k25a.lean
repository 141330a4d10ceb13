/-! the law's cases -/
/-- the state at the head of a case: the class and the reference say the same -/
def lSt (X : gX) (h : gH) (c a : Nat → Nat) (ob : Nat) (u : MS) (F : Nat) : Prop := cW X.2.1 h c u F ∧ mRep X.2.1 h a u ∧ ∃ fo, gat h ob (.inl (gJ X.2.1, 1, .inr (.inl fo)))
abbrev lLC (b : Nat) (c a : Nat → Nat) (ob j : Nat) : List (Nat × Value) := [(4, .int (nI (7 * j))), (3, .ref ob), (2, .ref (a 0)), (1, .ref (c 0)), (0, .ref b)]
abbrev lK (X : gX) (b : Nat) (c a : Nat → Nat) (ob j F k n : Nat) : Prop := ∀ (h1 : gH) (u1 : MS) (F1 k1 n1 : Nat), lSt X h1 c a ob u1 F1 → F ≤ F1 → k1 ≤ k + 210 + (F1 - F) → n1 ≤ n + 2000 + 7 * (F1 - F) → gW X h1 k1 n1 1501 (lLC b c a ob j) []
theorem cW.le {G : gG} {h : gH} {c : Nat → Nat} {u : MS} {F : Nat} (hW : cW G h c u F) : F ≤ 1611 := by
  obtain ⟨Λ, T, W, z, hC, o, rfl⟩ := hW
  exact cPhi_le hC

set_option maxRecDepth 100000 in
set_option maxHeartbeats 4000000 in
theorem l_moveIn {X : gX} {h : gH} {k n b L j : Nat} {xs : Nat → Int32} {c a : Nat → Nat} {ob F : Nat} {u : MS} (hB : gB X room_1 cL_law wsL_law RL) (hNx : gNx X.1.2.2.2.2.1) (hnL : gnL X = 9) (hS9 : gScr X b L xs) (hL : L ≤ 3584) (hj : 7 * j + 7 ≤ L) (hs : lSt X h c a ob u F) (hk : k + 9000 ≤ 601024) (hn : n + 60000 ≤ 7293033) (kk : lK X b c a ob j F k n) : gW X h k n 144 (lLC b c a ob j) [] := by
  obtain ⟨⟨Λ, T, W, z, hC, o, rfl⟩, hM, fo, hob⟩ := hs
  refine gI_aload_n hB 3 dL_law_144 rfl ?_
  refine gI_aload_n hB 4 dL_law_145 rfl ?_
  refine gI_iload hB 0 dL_law_146 rfl ?_
  refine gI_iconst (v := nI 1) hB dL_law_148 (by decide) ?_
  refine gI_iaddN hB dL_law_149 ?_
  refine gI_sld hB hS9 (7 * j + 1) (by omega) hL dL_law_150 ?_
  refine gI_aload_n hB 4 dL_law_151 rfl ?_
  refine gI_iload hB 0 dL_law_152 rfl ?_
  refine gI_iconst (v := nI 2) hB dL_law_154 (by decide) ?_
  refine gI_iaddN hB dL_law_155 ?_
  refine gI_sld hB hS9 (7 * j + 2) (by omega) hL dL_law_156 ?_
  refine gI_aload_n hB 1 dL_law_157 rfl ?_
  refine gI_callSN (n9 := 4) (As := [.ref (c 0), .int (xs (7 * j + 1)), .int (xs (7 * j + 2)), .ref ob]) (rest := []) hB hNx (w_moveIn X.2.1 h c Λ u T W z hC o (xs (7 * j + 1)) (xs (7 * j + 2)) ob fo hob) (gCW.ofW ggL_law_L_moveIn rfl ⟨by decide, by decide, by decide +kernel⟩ ⟨Nat.le_of_ble_eq_true rfl, Nat.le_of_ble_eq_true rfl⟩) (by decide +kernel) (by decide +kernel) (by decide +kernel) rfl rfl (Nat.le_of_ble_eq_true rfl) (by show k + 3 ≤ 601024; omega) (by show n + 720 ≤ 7293033; omega) dL_law_158 (fun v9 h1 k1 n1 hp => ?_) (fun E9 h1 k1 n1 hp => by obtain ⟨F9, f9, e9, -⟩ := hp; cases e9)
  obtain ⟨F', fo', e9, hW1, hob1, ho, hf, hle, hk1, hn1⟩ := hp
  cases e9
  have hF1 := hW1.le
  have hM1 := hM.keepO hob hf
  refine gI_istore hB ([(5, .int ((mMoveIn u (xs (7 * j + 1)) (xs (7 * j + 2))).1.1 0)), (4, .int (nI (7 * j))), (3, .ref ob), (2, .ref (a 0)), (1, .ref (c 0)), (0, .ref b)]) hnL dL_law_161 (by decide) rfl ?_
  refine gI_aload_n hB 3 dL_law_163 rfl ?_
  refine gI_aload_n hB 5 dL_law_164 rfl ?_
  refine gI_iload hB 1 dL_law_165 rfl ?_
  refine gI_iconst (v := nI 1) hB dL_law_167 (by decide) ?_
  refine gI_iaddN hB dL_law_168 ?_
  refine gI_sld hB hS9 (7 * j + 1) (by omega) hL dL_law_169 ?_
  refine gI_aload_n hB 5 dL_law_170 rfl ?_
  refine gI_iload hB 1 dL_law_171 rfl ?_
  refine gI_iconst (v := nI 2) hB dL_law_173 (by decide) ?_
  refine gI_iaddN hB dL_law_174 ?_
  refine gI_sld hB hS9 (7 * j + 2) (by omega) hL dL_law_175 ?_
  refine gM_call (n9 := 2) (As := [.int (xs (7 * j + 1)), .int (xs (7 * j + 2))]) (rest := []) hB hM1 (mFr.rf (h := h1)) (c_moveIn X.2.1 h1 a u T hM1 o.W (xs (7 * j + 1)) (xs (7 * j + 2))) (gCW.of ggL_law_X7_moveIn rfl ⟨by decide, by decide, by decide +kernel⟩ ⟨Nat.le_of_ble_eq_true rfl, Nat.le_of_ble_eq_true rfl⟩) (by decide +kernel) (by decide +kernel) (by decide +kernel) (by decide +kernel) rfl rfl (Nat.le_of_ble_eq_true rfl) (by show k + k1 + 1 ≤ 601024; omega) (by show n + n1 + 7 ≤ 7293033; omega) (fun _ _ _ _ h9 => by cases h9.1) dL_law_176 (fun v9 h2 u2 k2 n2 hM2 hFr hp => ?_)
  obtain ⟨e9, rfl, hk2, hn2⟩ := hp
  cases e9
  have hW2 := hW1.mfr hFr
  have hob2 := hFr _ _ hob1 rfl
  refine gI_istore hB ([(6, .int (mMoveIn u (xs (7 * j + 1)) (xs (7 * j + 2))).2), (5, .int ((mMoveIn u (xs (7 * j + 1)) (xs (7 * j + 2))).1.1 0)), (4, .int (nI (7 * j))), (3, .ref ob), (2, .ref (a 0)), (1, .ref (c 0)), (0, .ref b)]) hnL dL_law_179 (by decide) rfl ?_
  refine gI_aload_n hB 4 dL_law_181 rfl ?_
  refine gI_pureV (n9 := 0) (As := []) (rest := []) hB (c_thrown X.2.1 h2 a (mMoveIn u (xs (7 * j + 1)) (xs (7 * j + 2))).1 hM2) (gCW.of ggL_law_X7_thrown rfl ⟨by decide, by decide, by decide +kernel⟩ ⟨Nat.le_of_ble_eq_true rfl, Nat.le_of_ble_eq_true rfl⟩) (by decide +kernel) (by decide +kernel) (by decide +kernel) (by decide +kernel) hM2.1 (C := RX7) (T := TX7) (N := 15) rfl rfl rfl (Nat.le_of_ble_eq_true rfl) (by show k + k1 + k2 + 0 ≤ 601024; omega) (by show n + n1 + n2 + 0 ≤ 7293033; omega) dL_law_182 ?_
  refine gI_iload hB 1 dL_law_185 rfl ?_
  refine gI_icmp_eq hB 192 dL_law_187 (by decide) (fun c9 => ?_) (fun c9 => absurd rfl c9)
  refine gI_iload hB 1 dL_law_192 rfl ?_
  have fin : gW X h2 (k + k1 + k2) (n + n1 + n2) 209 [(6, .int (mMoveIn u (xs (7 * j + 1)) (xs (7 * j + 2))).2), (5, .int ((mMoveIn u (xs (7 * j + 1)) (xs (7 * j + 2))).1.1 0)), (4, .int (nI (7 * j))), (3, .ref ob), (2, .ref (a 0)), (1, .ref (c 0)), (0, .ref b)] [] := by
    refine gI_goto hB 1501 dL_law_209 (by decide) ?_
    refine gI_loc [2, 3, 4, 5, 6] rfl ?_
    exact kk _ _ F' _ _ ⟨hW2, hM2, fo', hob2⟩ hle (by omega) (by omega)
  refine gI_if_ne hB 209 dL_law_194 (by decide) (fun c8 => fin) (fun c8 => ?_)
  refine gI_aload_n hB 3 dL_law_197 rfl ?_
  refine gI_iconst (v := nI 0) hB dL_law_198 (by decide) ?_
  refine gC_lald hB hob2 dL_law_199 ?_
  refine gI_iload hB 0 dL_law_200 rfl ?_
  refine gI_i2l hB dL_law_202 ?_
  refine gI_lcmp hB dL_law_203 ?_
  have e8 := ho (c8.trans (by decide))
  rw [e8, lg_cmp_self]
  exact gI_if_eq hB 209 dL_law_204 (by decide) (fun _ => fin) (fun c7 => absurd rfl c7)
