theorem mWait_keep (u : MS) (to d s : Int32) : (mWait u to d s).1 3 = u.1 3 ∧ (mWait u to d s).1 12 = u.1 12 ∧ (mWait u to d s).2 4 = u.2 4 ∧ (mWait u to d s).2 1 = u.2 1 ∧ (mWait u to d s).2 0 = u.2 0 ∧ (mWait u to d s).2 3 = u.2 3 := by
  unfold mWait
  split <;> exact ⟨rfl, rfl, rfl, rfl, rfl, rfl⟩
theorem mWait_W {u : MS} {W : Nat} (e : u.1 6 = nI W) (hW : W ≤ 60) (to d s : Int32) : ∃ W', W' ≤ 60 ∧ (mWait u to d s).1 6 = nI W' := by
  unfold mWait
  by_cases c : u.1 6 = nI 60
  · rw [if_pos c]
    exact ⟨W, hW, e⟩
  · rw [if_neg c]
    refine ⟨W + 1, ?_, ?_⟩
    · have : W ≠ 60 := fun z => c (by rw [e, z])
      omega
    · show nI ((u.1 6).toNatClampNeg + 1) = nI (W + 1)
      rw [e, mCl (by omega)]
theorem mSing_keep (u : MS) (t : Nat) (l : Int32) : (mSing u t l).1 3 = u.1 3 ∧ (mSing u t l).1 6 = u.1 6 ∧ (mSing u t l).2 4 = u.2 4 ∧ (mSing u t l).2 1 = u.2 1 ∧ (mSing u t l).2 2 = u.2 2 := by
  unfold mSing mSing0
  split <;> exact ⟨rfl, rfl, rfl, rfl, rfl⟩
theorem mSing_z {u : MS} {z : Nat} (e : u.1 12 = nI z) (hz : z ≤ 200) (t : Nat) (l : Int32) : ∃ z', z' ≤ 200 ∧ (mSing u t l).1 12 = nI z' := by
  unfold mSing
  by_cases c : u.1 12 = nI 200
  · rw [if_pos c]
    exact ⟨z, hz, e⟩
  · rw [if_neg c]
    refine ⟨z + 1, ?_, ?_⟩
    · have : z ≠ 200 := fun q => c (by rw [e, q])
      omega
    · show nI ((u.1 12).toNatClampNeg + 1) = nI (z + 1)
      rw [e, mCl (by omega)]
/-- is the tenant 'to' rung at by the habit at J of the tenant t -/
abbrev mMeant (H : Nat → Int32) (J t to : Nat) : Prop :=
  (H (J + 4) = nI 3 ∧ (to + 1 = t ∨ t + 1 = to)) ∨ (H (J + 4) ≠ nI 3 ∧ H (J + 4) = nI 5 ∧ to ≠ t) ∨ (H (J + 4) ≠ nI 3 ∧ H (J + 4) ≠ nI 5 ∧ nI to = H (J + 5))
def mFolL (H : Nat → Int32) (J t : Nat) : Nat → Nat → MS → MS
  | 0, _, u => u
  | r + 1, to, u => mFolL H J t r (to + 1) (if mMeant H J t to then mWait u (nI to) (H (J + 6)) (H (J + 7)) else u)
def mFol1 (u : MS) (J : Nat) : MS := sa u 1 (upd (u.2 1) (J + 8) (u.2 1 (J + 8) + nI 1))
def mFol2 (u : MS) (J t : Nat) : MS := if u.2 1 (J + 4) = nI 0 ∨ u.2 1 (J + 4) = nI 4 then mSing (mFol1 u J) t (u.2 1 (J + 6)) else mFol1 u J
def mFollow (u : MS) (J t T : Nat) : MS :=
  if u.2 1 (J + 4) < nI 2 ∨ u.2 4 4 = nI 8 then mFol2 u J t else mFolL (mFol1 u J |>.2 1) J t T 0 (mFol2 u J t)
theorem abs1 {x y : Nat} (hx : x < 100) (hy : y < 100) : (if 0 ≤ nI x - nI y then nI x - nI y else 0 - (nI x - nI y)) = nI 1 ↔ (x + 1 = y ∨ y + 1 = x) := by
  have key : ∀ x : Fin 100, ∀ y : Fin 100, ((if 0 ≤ nI x.val - nI y.val then nI x.val - nI y.val else 0 - (nI x.val - nI y.val)) = nI 1 ↔ (x.val + 1 = y.val ∨ y.val + 1 = x.val)) := by decide +kernel
  exact key ⟨x, hx⟩ ⟨y, hy⟩

theorem mFol2_keep (u : MS) (J t : Nat) : (mFol2 u J t).1 3 = u.1 3 ∧ (mFol2 u J t).1 6 = u.1 6 ∧ (mFol2 u J t).2 4 = u.2 4 ∧ (mFol2 u J t).2 1 = (mFol1 u J).2 1 := by
  unfold mFol2
  split
  · obtain ⟨h1, h2, h3, h4, -⟩ := mSing_keep (mFol1 u J) t (u.2 1 (J + 6))
    exact ⟨h1, h2, h3, h4⟩
  · exact ⟨rfl, rfl, rfl, rfl⟩
/-- one song costs one row at most -/
theorem mFol2_z {u : MS} {J t z : Nat} (ez : u.1 12 = nI z) (hz : z ≤ 200) : ∃ z', z' ≤ 200 ∧ z' ≤ z + 1 ∧ (mFol2 u J t).1 12 = nI z' := by
  unfold mFol2
  split
  · unfold mSing
    by_cases c : (mFol1 u J).1 12 = nI 200
    · rw [if_pos c]
      exact ⟨z, hz, by omega, ez⟩
    · rw [if_neg c]
      have ez' : (mFol1 u J).1 12 = nI z := ez
      have : z ≠ 200 := fun q => c (by rw [ez', q])
      refine ⟨z + 1, by omega, Nat.le_refl _, ?_⟩
      show nI (((mFol1 u J).1 12).toNatClampNeg + 1) = nI (z + 1)
      rw [ez', mCl (by omega)]
  · exact ⟨z, hz, by omega, ez⟩
theorem mC.small {u u' : MS} {k n z : Nat} (h : ∃ z', z' ≤ 200 ∧ z' ≤ z + 1 ∧ u'.1 12 = nI z') (hc : mC u u' (0 + k) (0 + n)) (ez : u.1 12 = nI z := by assumption) (hz : z ≤ 200 := by assumption) : k ≤ 1 ∧ n ≤ 6 := by
  obtain ⟨z', h1, h2, h3⟩ := h
  obtain ⟨y, y', e1, e2, l1, l2, c1, c2⟩ := hc
  have a1 : y = z := (nI_eq (by omega) (by omega)).mp (e1.symm.trans ez)
  have a2 : y' = z' := (nI_eq (by omega) (by omega)).mp (e2.symm.trans h3)
  subst a1 a2
  omega

theorem mFol1_at {u : MS} {J i : Nat} (h : i ≠ J + 8) : (mFol1 u J).2 1 i = u.2 1 i := pk_un h

theorem mC.to {u v w : MS} {k n : Nat} (h : mC u v k n) (e : w.1 12 = v.1 12) : mC u w k n := by
  obtain ⟨z, z', e1, e2, r⟩ := h
  exact ⟨z, z', e1, e.trans e2, r⟩

set_option maxRecDepth 100000 in
set_option maxHeartbeats 4000000 in
theorem c_follow (G : gG) (h : gH) (a : Nat → Nat) (u : MS) (hM : mRep G h a u) (J t T p W z : Nat) (et : u.2 4 1 = nI t) (ht : t < T) (hT : T ≤ 16) (eT : u.1 3 = nI T) (ep : u.2 4 4 = nI p) (hp8 : p ≤ 8) (eW : u.1 6 = nI W) (hW : W ≤ 60) (ez : u.1 12 = nI z) (hz : z ≤ 200) (hJ : J + 9 ≤ 1152) : gMet yX7_follow wsX7_follow (gRm 3 1 6) G h [.ref (a 0), .ref (a 5), .int (nI J)] (mPo G h a (mStC none u (mFollow u J t T))) := by
  refine gMet_of (maxL := 9) (ret := none) (by decide) rfl (Nat.le_of_ble_eq_true rfl) ?_
  intro X hG hnL hB hE
  subst hG
  change gW X h 0 0 0 [(0, .ref (a 0)), (1, .ref (a 5)), (2, .int (nI J))] []
  obtain ⟨h_0, eh0⟩ : ∃ z, z = h := ⟨_, rfl⟩
  have hF : mFr h_0 h := by rw [eh0]; exact mFr.rf
  refine gI_aload_n hB 1 dX7_follow_0 rfl ?_
  refine gI_iconst (v := nI 1) hB dX7_follow_1 (by decide) ?_
  refine gM_ald hB hM 4 (by decide) 1 rfl (show 1 < 14 by omega) dX7_follow_2 ?_
  refine gI_topi hB (y := nI t) et ?_
  refine gI_istore_n hB ([(3, .int (nI t)), (0, .ref (a 0)), (1, .ref (a 5)), (2, .int (nI J))]) hnL dX7_follow_3 (by decide) rfl ?_
  refine gI_aload_n hB 1 dX7_follow_4 rfl ?_
  refine gM_get hB hM 5 (v := .ref (a 2)) (by decide +kernel) (by decide) (by decide +kernel) rfl rfl dX7_follow_5 ?_
  refine gI_iload_n hB 3 dX7_follow_8 rfl ?_
  refine gI_iconst (v := nI 4) hB dX7_follow_9 (by decide) ?_
  refine gI_iaddN hB dX7_follow_10 ?_
  refine gM_ald hB hM 1 (by decide) (J + 4) rfl (show J + 4 < 1152 by omega) dX7_follow_11 ?_
  refine gI_istore hB ([(4, .int (u.2 1 (J + 4))), (3, .int (nI t)), (0, .ref (a 0)), (1, .ref (a 5)), (2, .int (nI J))]) hnL dX7_follow_12 (by decide) rfl ?_
  refine gI_aload_n hB 2 dX7_follow_14 rfl ?_
  refine gM_get hB hM 5 (v := .ref (a 2)) (by decide +kernel) (by decide) (by decide +kernel) rfl rfl dX7_follow_15 ?_
  refine gI_iload_n hB 4 dX7_follow_18 rfl ?_
  refine gI_bipush (v := nI 6) hB dX7_follow_19 (by decide) ?_
  refine gI_iaddN hB dX7_follow_21 ?_
  refine gM_ald hB hM 1 (by decide) (J + 6) rfl (show J + 6 < 1152 by omega) dX7_follow_22 ?_
  refine gI_istore hB ([(5, .int (u.2 1 (J + 6))), (4, .int (u.2 1 (J + 4))), (3, .int (nI t)), (0, .ref (a 0)), (1, .ref (a 5)), (2, .int (nI J))]) hnL dX7_follow_23 (by decide) rfl ?_
  refine gI_aload_n hB 3 dX7_follow_25 rfl ?_
  refine gM_get hB hM 5 (v := .ref (a 2)) (by decide +kernel) (by decide) (by decide +kernel) rfl rfl dX7_follow_26 ?_
  refine gI_iload_n hB 5 dX7_follow_29 rfl ?_
  refine gI_bipush (v := nI 7) hB dX7_follow_30 (by decide) ?_
  refine gI_iaddN hB dX7_follow_32 ?_
  refine gM_ald hB hM 1 (by decide) (J + 7) rfl (show J + 7 < 1152 by omega) dX7_follow_33 ?_
  refine gI_istore hB ([(6, .int (u.2 1 (J + 7))), (5, .int (u.2 1 (J + 6))), (4, .int (u.2 1 (J + 4))), (3, .int (nI t)), (0, .ref (a 0)), (1, .ref (a 5)), (2, .int (nI J))]) hnL dX7_follow_34 (by decide) rfl ?_
  have tl : ∀ (h : gH) (k9 n9 : Nat), mRep X.2.1 h a (mFol2 u J t) → mFr h_0 h → mC u (mFol2 u J t) (0 + k9) (0 + n9) → k9 ≤ 1 ∧ n9 ≤ 6 → gW X h (0 + k9) (0 + n9) 67 [(3, .int (nI t)), (4, .int (u.2 1 (J + 4))), (5, .int (u.2 1 (J + 6))), (6, .int (u.2 1 (J + 7))), (0, .ref (a 0)), (1, .ref (a 5)), (2, .int (nI J))] [] := by
    intro h k9 n9 hM hF hc hkn
    have kp := mFol2_keep u J t
    refine gI_iload hB 1 dX7_follow_67 rfl ?_
    refine gI_iconst (v := nI 2) hB dX7_follow_69 (by decide) ?_
    refine gI_icmp_lt hB 81 dX7_follow_70 (by decide) (fun c70_1 => ?_) (fun c70_1 => ?_)
    · skip
      refine gI_vret hB hE dX7_follow_81 ?_
      have ef : mFollow u J t T = mFol2 u J t := by
        unfold mFollow; rw [if_pos (Or.inl c70_1)]
      refine ⟨_, hM, (eh0 ▸ hF), rfl, ef.symm, ?_⟩
      rw [ef]; exact hc
    · skip
      refine gI_aload_n hB 5 dX7_follow_73 rfl ?_
      refine gI_iconst (v := nI 4) hB dX7_follow_74 (by decide) ?_
      refine gM_ald hB hM 4 (by decide) 4 rfl (show 4 < 14 by omega) dX7_follow_75 ?_
      refine gI_topi hB (y := nI p) ((congrFun kp.2.2.1 4).trans ep) ?_
      refine gI_bipush (v := nI 8) hB dX7_follow_76 (by decide) ?_
      refine gI_icmp_ne hB 82 dX7_follow_78 (by decide) (fun c78_2 => ?_) (fun c78_2 => ?_)
      · skip
        have c78_2 := mt (nI_eq (by omega) (by omega)).mpr c78_2
        have ncond : ¬ (u.2 1 (J + 4) < nI 2 ∨ u.2 4 4 = nI 8) := fun z9 => z9.elim (fun y => c70_1 y) (fun y => c78_2 ((nI_eq (by omega) (by omega)).mp (ep.symm.trans y)))
        have hp7 : p ≤ 7 := by omega
        refine gI_iconst (v := nI 0) hB dX7_follow_82 (by decide) ?_
        refine gI_istore hB ([(7, .int (nI 0)), (3, .int (nI t)), (4, .int (u.2 1 (J + 4))), (5, .int (u.2 1 (J + 6))), (6, .int (u.2 1 (J + 7))), (0, .ref (a 0)), (1, .ref (a 5)), (2, .int (nI J))]) hnL dX7_follow_83 (by decide) rfl ?_
        have lp : ∀ (r_lp : Nat) (h : gH) (to : Nat) (v : MS), T + 1 ≤ to + r_lp → to ≤ T → mRep X.2.1 h a v → mFr h_0 h → mFolL (mFol1 u J |>.2 1) J t (T - to) to v = mFolL (mFol1 u J |>.2 1) J t T 0 (mFol2 u J t) → (v.1 3 = u.1 3 ∧ v.2 4 = u.2 4 ∧ v.2 1 = (mFol1 u J).2 1 ∧ v.1 12 = (mFol2 u J t).1 12) → (∃ W9, W9 ≤ 60 ∧ v.1 6 = nI W9) → gW X h (0 + k9) (0 + n9) 85 [(7, .int (nI to)), (3, .int (nI t)), (4, .int (u.2 1 (J + 4))), (5, .int (u.2 1 (J + 6))), (6, .int (u.2 1 (J + 7))), (0, .ref (a 0)), (1, .ref (a 5)), (2, .int (nI J))] [] := by
          intro r_lp
          induction r_lp with
          | zero => intro h to v hfu hto hM hF hinv ⟨g1, g2, g3, g4⟩ ⟨W9, hW9, eW9⟩; exact absurd hfu (by omega)
          | succ r_lp ih_lp =>
            intro h to v hfu hto hM hF hinv ⟨g1, g2, g3, g4⟩ ⟨W9, hW9, eW9⟩
            refine gI_iload hB 0 dX7_follow_85 rfl ?_
            refine gI_aload_n hB 5 dX7_follow_87 rfl ?_
            refine gM_get hB hM 3 (v := .int (v.1 3)) (by decide +kernel) (by decide) (by decide +kernel) rfl rfl dX7_follow_88 ?_
            refine gI_topi hB (y := nI T) (g1.trans eT) ?_
            refine gI_icmp_ge hB 181 dX7_follow_91 (by decide) (fun c91_3 => ?_) (fun c91_3 => ?_)
            · skip
              have c91_3 := (nI_leI (by omega) (by omega)).mp c91_3
              refine gI_vret hB hE dX7_follow_181 ?_
              have ef : mFollow u J t T = v := by
                unfold mFollow; rw [if_neg ncond, ← hinv, show T - to = 0 by omega]; rfl
              refine ⟨_, hM, (eh0 ▸ hF), rfl, ef.symm, ?_⟩
              rw [ef]; exact hc.to g4
            · skip
              have c91_3 := mt (nI_leI (by omega) (by omega)).mpr c91_3
              refine gI_iload hB 2 dX7_follow_94 rfl ?_
              refine gI_iconst (v := nI 3) hB dX7_follow_96 (by decide) ?_
              refine gI_icmp_ne hB 119 dX7_follow_97 (by decide) (fun c97_4 => ?_) (fun c97_4 => ?_)
              · skip
                refine gI_iload hB 2 dX7_follow_119 rfl ?_
                refine gI_iconst (v := nI 5) hB dX7_follow_121 (by decide) ?_
                refine gI_icmp_ne hB 139 dX7_follow_122 (by decide) (fun c122_5 => ?_) (fun c122_5 => ?_)
                · skip
                  refine gI_iload hB 0 dX7_follow_139 rfl ?_
                  refine gI_aload_n hB 5 dX7_follow_141 rfl ?_
                  refine gM_get hB hM 5 (v := .ref (a 2)) (by decide +kernel) (by decide) (by decide +kernel) rfl rfl dX7_follow_142 ?_
                  refine gI_iload_n hB 7 dX7_follow_145 rfl ?_
                  refine gI_iconst (v := nI 5) hB dX7_follow_146 (by decide) ?_
                  refine gI_iaddN hB dX7_follow_147 ?_
                  refine gM_ald hB hM 1 (by decide) (J + 5) rfl (show J + 5 < 1152 by omega) dX7_follow_148 ?_
                  refine gI_topi hB (y := u.2 1 (J + 5)) ((congrFun g3 (J + 5)).trans (mFol1_at (by omega))) ?_
                  refine gI_icmp_ne hB 156 dX7_follow_149 (by decide) (fun c149_6 => ?_) (fun c149_6 => ?_)
                  · skip
                    refine gI_iconst (v := nI 0) hB dX7_follow_156 (by decide) ?_
                    have hm9 : ¬ mMeant (mFol1 u J |>.2 1) J t to := (fun z9 => z9.elim (fun y => c97_4 ((show (mFol1 u J).2 1 (J + 4) = u.2 1 (J + 4) from mFol1_at (by omega)).symm.trans y.1)) (fun y => y.elim (fun x => c122_5 ((show (mFol1 u J).2 1 (J + 4) = u.2 1 (J + 4) from mFol1_at (by omega)).symm.trans x.2.1)) (fun x => c149_6 (x.2.2.trans (show (mFol1 u J).2 1 (J + 5) = u.2 1 (J + 5) from mFol1_at (by omega))))))
                    refine gI_istore hB ([(8, .int (nI 0)), (7, .int (nI to)), (3, .int (nI t)), (4, .int (u.2 1 (J + 4))), (5, .int (u.2 1 (J + 6))), (6, .int (u.2 1 (J + 7))), (0, .ref (a 0)), (1, .ref (a 5)), (2, .int (nI J))]) hnL dX7_follow_157 (by decide) rfl ?_
                    refine gI_iload hB 0 dX7_follow_159 rfl ?_
                    refine gI_if_eq hB 175 dX7_follow_161 (by decide) (fun _ => ?_) (fun z => absurd ((rfl : nI 0 = 0)) z)
                    refine gI_iinc hB 1 ([(7, .int (nI (to + 1))), (8, .int (nI 0)), (3, .int (nI t)), (4, .int (u.2 1 (J + 4))), (5, .int (u.2 1 (J + 6))), (6, .int (u.2 1 (J + 7))), (0, .ref (a 0)), (1, .ref (a 5)), (2, .int (nI J))]) hnL dX7_follow_175 rfl (nI_1 (to)) (by decide) rfl ?_
                    refine gI_goto hB 85 dX7_follow_178 (by decide) ?_
                    refine gI_loc [0, 2, 3, 4, 5, 6, 7, 8] rfl ?_
                    exact ih_lp h (to + 1) v (by omega) (by omega) hM hF (by rw [show T - to = (T - (to + 1)) + 1 by omega, mFolL, if_neg hm9] at hinv; exact hinv) ⟨g1, g2, g3, g4⟩ ⟨W9, hW9, eW9⟩
                  · skip
                    refine gI_iconst (v := nI 1) hB dX7_follow_152 (by decide) ?_
                    refine gI_goto hB 157 dX7_follow_153 (by decide) ?_
                    have hm9 : mMeant (mFol1 u J |>.2 1) J t to := (Or.inr (Or.inr ⟨fun y => c97_4 ((show (mFol1 u J).2 1 (J + 4) = u.2 1 (J + 4) from mFol1_at (by omega)).symm.trans y), fun y => c122_5 ((show (mFol1 u J).2 1 (J + 4) = u.2 1 (J + 4) from mFol1_at (by omega)).symm.trans y), c149_6.trans (show (mFol1 u J).2 1 (J + 5) = u.2 1 (J + 5) from mFol1_at (by omega)).symm⟩))
                    refine gI_istore hB ([(8, .int (nI 1)), (7, .int (nI to)), (3, .int (nI t)), (4, .int (u.2 1 (J + 4))), (5, .int (u.2 1 (J + 6))), (6, .int (u.2 1 (J + 7))), (0, .ref (a 0)), (1, .ref (a 5)), (2, .int (nI J))]) hnL dX7_follow_157 (by decide) rfl ?_
                    refine gI_iload hB 0 dX7_follow_159 rfl ?_
                    refine gI_if_eq hB 175 dX7_follow_161 (by decide) (fun z => absurd z ((by decide : ¬ nI 1 = 0))) (fun _ => ?_)
                    refine gI_aload_n hB 6 dX7_follow_164 rfl ?_
                    refine gI_aload_n hB 7 dX7_follow_165 rfl ?_
                    refine gI_iload hB 1 dX7_follow_166 rfl ?_
                    refine gI_iload hB 4 dX7_follow_168 rfl ?_
                    refine gI_iload hB 5 dX7_follow_170 rfl ?_
                    refine gM_call (n9 := 4) (As := [.ref (a 5), .int (nI to), .int (u.2 1 (J + 6)), .int (u.2 1 (J + 7))]) (rest := []) hB hM hF (c_comeToWait X.2.1 h a v hM W9 p (nI to) (u.2 1 (J + 6)) (u.2 1 (J + 7)) eW9 hW9 ((congrFun g2 4).trans ep) (by omega)) (gCW.of ggX7_follow_X7_comeToWait rfl ⟨by decide, by decide, by decide +kernel⟩ ⟨Nat.le_of_ble_eq_true rfl, Nat.le_of_ble_eq_true rfl⟩) (by decide +kernel) (by decide +kernel) (by decide +kernel) (by decide +kernel) rfl rfl (Nat.le_of_ble_eq_true rfl) (by first | exact Nat.le_of_ble_eq_true rfl | (dsimp only [gRm]; omega)) (by first | exact Nat.le_of_ble_eq_true rfl | (dsimp only [gRm]; omega)) mSt.no dX7_follow_172 (fun v9 h u9 k9 n9 hM hF hp => ?_)
                    obtain ⟨e9, rfl, rfl, rfl⟩ := hp
                    cases e9
                    change gW X h (0 + k9) (0 + n9) _ [(8, .int (nI 1)), (7, .int (nI to)), (3, .int (nI t)), (4, .int (u.2 1 (J + 4))), (5, .int (u.2 1 (J + 6))), (6, .int (u.2 1 (J + 7))), (0, .ref (a 0)), (1, .ref (a 5)), (2, .int (nI J))] []
                    refine gI_iinc hB 1 ([(7, .int (nI (to + 1))), (8, .int (nI 1)), (3, .int (nI t)), (4, .int (u.2 1 (J + 4))), (5, .int (u.2 1 (J + 6))), (6, .int (u.2 1 (J + 7))), (0, .ref (a 0)), (1, .ref (a 5)), (2, .int (nI J))]) hnL dX7_follow_175 rfl (nI_1 (to)) (by decide) rfl ?_
                    refine gI_goto hB 85 dX7_follow_178 (by decide) ?_
                    refine gI_loc [0, 2, 3, 4, 5, 6, 7, 8] rfl ?_
                    exact ih_lp h (to + 1) (mWait v (nI to) (u.2 1 (J + 6)) (u.2 1 (J + 7))) (by omega) (by omega) hM hF (by rw [show T - to = (T - (to + 1)) + 1 by omega, mFolL, if_pos hm9, mFol1_at (by omega), mFol1_at (by omega)] at hinv; exact hinv) ⟨(mWait_keep _ _ _ _).1.trans g1, (mWait_keep _ _ _ _).2.2.1.trans g2, (mWait_keep _ _ _ _).2.2.2.1.trans g3, (mWait_keep _ _ _ _).2.1.trans g4⟩ (mWait_W eW9 hW9 _ _ _)
                · skip
                  refine gI_iload hB 0 dX7_follow_125 rfl ?_
                  refine gI_iload_n hB 1 dX7_follow_127 rfl ?_
                  refine gI_icmp_eq hB 135 dX7_follow_128 (by decide) (fun c128_7 => ?_) (fun c128_7 => ?_)
                  · skip
                    have c128_7 := (nI_eq (by omega) (by omega)).mp c128_7
                    refine gI_iconst (v := nI 0) hB dX7_follow_135 (by decide) ?_
                    refine gI_goto hB 157 dX7_follow_136 (by decide) ?_
                    have hm9 : ¬ mMeant (mFol1 u J |>.2 1) J t to := (fun z9 => z9.elim (fun y => c97_4 ((show (mFol1 u J).2 1 (J + 4) = u.2 1 (J + 4) from mFol1_at (by omega)).symm.trans y.1)) (fun y => y.elim (fun x => x.2.2 c128_7) (fun x => x.2.1 ((show (mFol1 u J).2 1 (J + 4) = u.2 1 (J + 4) from mFol1_at (by omega)).trans c122_5))))
                    refine gI_istore hB ([(8, .int (nI 0)), (7, .int (nI to)), (3, .int (nI t)), (4, .int (u.2 1 (J + 4))), (5, .int (u.2 1 (J + 6))), (6, .int (u.2 1 (J + 7))), (0, .ref (a 0)), (1, .ref (a 5)), (2, .int (nI J))]) hnL dX7_follow_157 (by decide) rfl ?_
                    refine gI_iload hB 0 dX7_follow_159 rfl ?_
                    refine gI_if_eq hB 175 dX7_follow_161 (by decide) (fun _ => ?_) (fun z => absurd ((rfl : nI 0 = 0)) z)
                    refine gI_iinc hB 1 ([(7, .int (nI (to + 1))), (8, .int (nI 0)), (3, .int (nI t)), (4, .int (u.2 1 (J + 4))), (5, .int (u.2 1 (J + 6))), (6, .int (u.2 1 (J + 7))), (0, .ref (a 0)), (1, .ref (a 5)), (2, .int (nI J))]) hnL dX7_follow_175 rfl (nI_1 (to)) (by decide) rfl ?_
                    refine gI_goto hB 85 dX7_follow_178 (by decide) ?_
                    refine gI_loc [0, 2, 3, 4, 5, 6, 7, 8] rfl ?_
                    exact ih_lp h (to + 1) v (by omega) (by omega) hM hF (by rw [show T - to = (T - (to + 1)) + 1 by omega, mFolL, if_neg hm9] at hinv; exact hinv) ⟨g1, g2, g3, g4⟩ ⟨W9, hW9, eW9⟩
                  · skip
                    have c128_7 := mt (nI_eq (by omega) (by omega)).mpr c128_7
                    refine gI_iconst (v := nI 1) hB dX7_follow_131 (by decide) ?_
                    refine gI_goto hB 157 dX7_follow_132 (by decide) ?_
                    have hm9 : mMeant (mFol1 u J |>.2 1) J t to := (Or.inr (Or.inl ⟨fun y => c97_4 ((show (mFol1 u J).2 1 (J + 4) = u.2 1 (J + 4) from mFol1_at (by omega)).symm.trans y), (show (mFol1 u J).2 1 (J + 4) = u.2 1 (J + 4) from mFol1_at (by omega)).trans c122_5, c128_7⟩))
                    refine gI_istore hB ([(8, .int (nI 1)), (7, .int (nI to)), (3, .int (nI t)), (4, .int (u.2 1 (J + 4))), (5, .int (u.2 1 (J + 6))), (6, .int (u.2 1 (J + 7))), (0, .ref (a 0)), (1, .ref (a 5)), (2, .int (nI J))]) hnL dX7_follow_157 (by decide) rfl ?_
                    refine gI_iload hB 0 dX7_follow_159 rfl ?_
                    refine gI_if_eq hB 175 dX7_follow_161 (by decide) (fun z => absurd z ((by decide : ¬ nI 1 = 0))) (fun _ => ?_)
                    refine gI_aload_n hB 6 dX7_follow_164 rfl ?_
                    refine gI_aload_n hB 7 dX7_follow_165 rfl ?_
                    refine gI_iload hB 1 dX7_follow_166 rfl ?_
                    refine gI_iload hB 4 dX7_follow_168 rfl ?_
                    refine gI_iload hB 5 dX7_follow_170 rfl ?_
                    refine gM_call (n9 := 4) (As := [.ref (a 5), .int (nI to), .int (u.2 1 (J + 6)), .int (u.2 1 (J + 7))]) (rest := []) hB hM hF (c_comeToWait X.2.1 h a v hM W9 p (nI to) (u.2 1 (J + 6)) (u.2 1 (J + 7)) eW9 hW9 ((congrFun g2 4).trans ep) (by omega)) (gCW.of ggX7_follow_X7_comeToWait rfl ⟨by decide, by decide, by decide +kernel⟩ ⟨Nat.le_of_ble_eq_true rfl, Nat.le_of_ble_eq_true rfl⟩) (by decide +kernel) (by decide +kernel) (by decide +kernel) (by decide +kernel) rfl rfl (Nat.le_of_ble_eq_true rfl) (by first | exact Nat.le_of_ble_eq_true rfl | (dsimp only [gRm]; omega)) (by first | exact Nat.le_of_ble_eq_true rfl | (dsimp only [gRm]; omega)) mSt.no dX7_follow_172 (fun v9 h u9 k9 n9 hM hF hp => ?_)
                    obtain ⟨e9, rfl, rfl, rfl⟩ := hp
                    cases e9
                    change gW X h (0 + k9) (0 + n9) _ [(8, .int (nI 1)), (7, .int (nI to)), (3, .int (nI t)), (4, .int (u.2 1 (J + 4))), (5, .int (u.2 1 (J + 6))), (6, .int (u.2 1 (J + 7))), (0, .ref (a 0)), (1, .ref (a 5)), (2, .int (nI J))] []
                    refine gI_iinc hB 1 ([(7, .int (nI (to + 1))), (8, .int (nI 1)), (3, .int (nI t)), (4, .int (u.2 1 (J + 4))), (5, .int (u.2 1 (J + 6))), (6, .int (u.2 1 (J + 7))), (0, .ref (a 0)), (1, .ref (a 5)), (2, .int (nI J))]) hnL dX7_follow_175 rfl (nI_1 (to)) (by decide) rfl ?_
                    refine gI_goto hB 85 dX7_follow_178 (by decide) ?_
                    refine gI_loc [0, 2, 3, 4, 5, 6, 7, 8] rfl ?_
                    exact ih_lp h (to + 1) (mWait v (nI to) (u.2 1 (J + 6)) (u.2 1 (J + 7))) (by omega) (by omega) hM hF (by rw [show T - to = (T - (to + 1)) + 1 by omega, mFolL, if_pos hm9, mFol1_at (by omega), mFol1_at (by omega)] at hinv; exact hinv) ⟨(mWait_keep _ _ _ _).1.trans g1, (mWait_keep _ _ _ _).2.2.1.trans g2, (mWait_keep _ _ _ _).2.2.2.1.trans g3, (mWait_keep _ _ _ _).2.1.trans g4⟩ (mWait_W eW9 hW9 _ _ _)
              · skip
                refine gI_iload hB 0 dX7_follow_100 rfl ?_
                refine gI_iload_n hB 1 dX7_follow_102 rfl ?_
                refine gI_isub hB dX7_follow_103 ?_
                refine gI_mabs hB (by decide +kernel) (by decide +kernel) (by decide +kernel) (by decide +kernel) (Nat.le_of_ble_eq_true rfl) (Nat.le_of_ble_eq_true rfl) (by first | exact Nat.le_of_ble_eq_true rfl | (dsimp only [gRm]; omega)) (by first | exact Nat.le_of_ble_eq_true rfl | (dsimp only [gRm]; omega)) dX7_follow_104 ?_
                refine gI_iconst (v := nI 1) hB dX7_follow_107 (by decide) ?_
                refine gI_icmp_ne hB 115 dX7_follow_108 (by decide) (fun c108_8 => ?_) (fun c108_8 => ?_)
                · skip
                  refine gI_iconst (v := nI 0) hB dX7_follow_115 (by decide) ?_
                  refine gI_goto hB 157 dX7_follow_116 (by decide) ?_
                  have hm9 : ¬ mMeant (mFol1 u J |>.2 1) J t to := (fun z9 => z9.elim (fun y => c108_8 ((abs1 (by omega) (by omega)).mpr y.2)) (fun y => y.elim (fun x => x.1 ((show (mFol1 u J).2 1 (J + 4) = u.2 1 (J + 4) from mFol1_at (by omega)).trans c97_4)) (fun x => x.1 ((show (mFol1 u J).2 1 (J + 4) = u.2 1 (J + 4) from mFol1_at (by omega)).trans c97_4))))
                  refine gI_istore hB ([(8, .int (nI 0)), (7, .int (nI to)), (3, .int (nI t)), (4, .int (u.2 1 (J + 4))), (5, .int (u.2 1 (J + 6))), (6, .int (u.2 1 (J + 7))), (0, .ref (a 0)), (1, .ref (a 5)), (2, .int (nI J))]) hnL dX7_follow_157 (by decide) rfl ?_
                  refine gI_iload hB 0 dX7_follow_159 rfl ?_
                  refine gI_if_eq hB 175 dX7_follow_161 (by decide) (fun _ => ?_) (fun z => absurd ((rfl : nI 0 = 0)) z)
                  refine gI_iinc hB 1 ([(7, .int (nI (to + 1))), (8, .int (nI 0)), (3, .int (nI t)), (4, .int (u.2 1 (J + 4))), (5, .int (u.2 1 (J + 6))), (6, .int (u.2 1 (J + 7))), (0, .ref (a 0)), (1, .ref (a 5)), (2, .int (nI J))]) hnL dX7_follow_175 rfl (nI_1 (to)) (by decide) rfl ?_
                  refine gI_goto hB 85 dX7_follow_178 (by decide) ?_
                  refine gI_loc [0, 2, 3, 4, 5, 6, 7, 8] rfl ?_
                  exact ih_lp h (to + 1) v (by omega) (by omega) hM hF (by rw [show T - to = (T - (to + 1)) + 1 by omega, mFolL, if_neg hm9] at hinv; exact hinv) ⟨g1, g2, g3, g4⟩ ⟨W9, hW9, eW9⟩
                · skip
                  refine gI_iconst (v := nI 1) hB dX7_follow_111 (by decide) ?_
                  refine gI_goto hB 157 dX7_follow_112 (by decide) ?_
                  have hm9 : mMeant (mFol1 u J |>.2 1) J t to := (Or.inl ⟨(show (mFol1 u J).2 1 (J + 4) = u.2 1 (J + 4) from mFol1_at (by omega)).trans c97_4, (abs1 (by omega) (by omega)).mp c108_8⟩)
                  refine gI_istore hB ([(8, .int (nI 1)), (7, .int (nI to)), (3, .int (nI t)), (4, .int (u.2 1 (J + 4))), (5, .int (u.2 1 (J + 6))), (6, .int (u.2 1 (J + 7))), (0, .ref (a 0)), (1, .ref (a 5)), (2, .int (nI J))]) hnL dX7_follow_157 (by decide) rfl ?_
                  refine gI_iload hB 0 dX7_follow_159 rfl ?_
                  refine gI_if_eq hB 175 dX7_follow_161 (by decide) (fun z => absurd z ((by decide : ¬ nI 1 = 0))) (fun _ => ?_)
                  refine gI_aload_n hB 6 dX7_follow_164 rfl ?_
                  refine gI_aload_n hB 7 dX7_follow_165 rfl ?_
                  refine gI_iload hB 1 dX7_follow_166 rfl ?_
                  refine gI_iload hB 4 dX7_follow_168 rfl ?_
                  refine gI_iload hB 5 dX7_follow_170 rfl ?_
                  refine gM_call (n9 := 4) (As := [.ref (a 5), .int (nI to), .int (u.2 1 (J + 6)), .int (u.2 1 (J + 7))]) (rest := []) hB hM hF (c_comeToWait X.2.1 h a v hM W9 p (nI to) (u.2 1 (J + 6)) (u.2 1 (J + 7)) eW9 hW9 ((congrFun g2 4).trans ep) (by omega)) (gCW.of ggX7_follow_X7_comeToWait rfl ⟨by decide, by decide, by decide +kernel⟩ ⟨Nat.le_of_ble_eq_true rfl, Nat.le_of_ble_eq_true rfl⟩) (by decide +kernel) (by decide +kernel) (by decide +kernel) (by decide +kernel) rfl rfl (Nat.le_of_ble_eq_true rfl) (by first | exact Nat.le_of_ble_eq_true rfl | (dsimp only [gRm]; omega)) (by first | exact Nat.le_of_ble_eq_true rfl | (dsimp only [gRm]; omega)) mSt.no dX7_follow_172 (fun v9 h u9 k9 n9 hM hF hp => ?_)
                  obtain ⟨e9, rfl, rfl, rfl⟩ := hp
                  cases e9
                  change gW X h (0 + k9) (0 + n9) _ [(8, .int (nI 1)), (7, .int (nI to)), (3, .int (nI t)), (4, .int (u.2 1 (J + 4))), (5, .int (u.2 1 (J + 6))), (6, .int (u.2 1 (J + 7))), (0, .ref (a 0)), (1, .ref (a 5)), (2, .int (nI J))] []
                  refine gI_iinc hB 1 ([(7, .int (nI (to + 1))), (8, .int (nI 1)), (3, .int (nI t)), (4, .int (u.2 1 (J + 4))), (5, .int (u.2 1 (J + 6))), (6, .int (u.2 1 (J + 7))), (0, .ref (a 0)), (1, .ref (a 5)), (2, .int (nI J))]) hnL dX7_follow_175 rfl (nI_1 (to)) (by decide) rfl ?_
                  refine gI_goto hB 85 dX7_follow_178 (by decide) ?_
                  refine gI_loc [0, 2, 3, 4, 5, 6, 7, 8] rfl ?_
                  exact ih_lp h (to + 1) (mWait v (nI to) (u.2 1 (J + 6)) (u.2 1 (J + 7))) (by omega) (by omega) hM hF (by rw [show T - to = (T - (to + 1)) + 1 by omega, mFolL, if_pos hm9, mFol1_at (by omega), mFol1_at (by omega)] at hinv; exact hinv) ⟨(mWait_keep _ _ _ _).1.trans g1, (mWait_keep _ _ _ _).2.2.1.trans g2, (mWait_keep _ _ _ _).2.2.2.1.trans g3, (mWait_keep _ _ _ _).2.1.trans g4⟩ (mWait_W eW9 hW9 _ _ _)
        refine gI_loc [0, 1, 2, 3, 4, 5, 6, 7] rfl ?_
        exact lp (T + 1) h 0 (mFol2 u J t) (by omega) (by omega) hM hF rfl ⟨kp.1, kp.2.2.1, kp.2.2.2, rfl⟩ ⟨W, hW, kp.2.1.trans eW⟩
      · skip
        have c78_2 := (nI_eq (by omega) (by omega)).mp c78_2
        refine gI_vret hB hE dX7_follow_81 ?_
        have ef : mFollow u J t T = mFol2 u J t := by
          unfold mFollow; rw [if_pos (Or.inr (ep.trans (congrArg nI c78_2)))]
        refine ⟨_, hM, (eh0 ▸ hF), rfl, ef.symm, ?_⟩
        rw [ef]; exact hc
  refine gI_aload_n hB 4 dX7_follow_36 rfl ?_
  refine gM_get hB hM 5 (v := .ref (a 2)) (by decide +kernel) (by decide) (by decide +kernel) rfl rfl dX7_follow_37 ?_
  refine gI_iload_n hB 6 dX7_follow_40 rfl ?_
  refine gI_bipush (v := nI 8) hB dX7_follow_41 (by decide) ?_
  refine gI_iaddN hB dX7_follow_43 ?_
  refine gI_dup2_11 hB dX7_follow_44 rfl rfl ?_
  refine gM_ald hB hM 1 (by decide) (J + 8) rfl (show J + 8 < 1152 by omega) dX7_follow_45 ?_
  refine gI_iconst (v := nI 1) hB dX7_follow_46 (by decide) ?_
  refine gI_iadd hB dX7_follow_47 ?_
  refine gM_ast hB hM hF 1 (by decide) (J + 8) rfl (show J + 8 < 1152 by omega) dX7_follow_48 (fun h hM hF => ?_)
  refine gI_iload hB 2 dX7_follow_49 rfl ?_
  refine gI_if_eq hB 60 dX7_follow_51 (by decide) (fun c51_9 => ?_) (fun c51_9 => ?_)
  · skip
    refine gI_aload_n hB 4 dX7_follow_60 rfl ?_
    refine gI_aload_n hB 5 dX7_follow_61 rfl ?_
    refine gI_iload hB 1 dX7_follow_62 rfl ?_
    refine gM_call (n9 := 2) (As := [.ref (a 5), .int (u.2 1 (J + 6))]) (rest := []) hB hM hF (c_sing X.2.1 h a (sa u 1 (upd (u.2 1) (J + 8) ((u.2 1 (J + 8)) + (nI 1)))) hM t z (u.2 1 (J + 6)) et (by omega) ez hz) (gCW.of ggX7_follow_X7_sing rfl ⟨by decide, by decide, by decide +kernel⟩ ⟨Nat.le_of_ble_eq_true rfl, Nat.le_of_ble_eq_true rfl⟩) (by decide +kernel) (by decide +kernel) (by decide +kernel) (by decide +kernel) rfl rfl (Nat.le_of_ble_eq_true rfl) (by first | exact Nat.le_of_ble_eq_true rfl | (dsimp only [gRm]; omega)) (by first | exact Nat.le_of_ble_eq_true rfl | (dsimp only [gRm]; omega)) mStC.no dX7_follow_64 (fun v9 h u9 k9 n9 hM hF hp => ?_)
    obtain ⟨e9, rfl, hc9⟩ := hp
    cases e9
    refine gI_loc [3, 2, 1, 0, 4, 5, 6] rfl ?_
    have e2 : mSing (mFol1 u J) t (u.2 1 (J + 6)) = mFol2 u J t := by unfold mFol2; rw [if_pos (Or.inl (show u.2 1 (J + 4) = nI 0 from c51_9))]
    have hM : mRep X.2.1 h a (mFol2 u J t) := e2 ▸ hM
    have hc : mC u (mFol2 u J t) (0 + k9) (0 + n9) := by rw [← e2, Nat.zero_add, Nat.zero_add]; exact hc9
    have kp : (mFol2 u J t).1 3 = u.1 3 ∧ (mFol2 u J t).1 6 = u.1 6 ∧ (mFol2 u J t).2 4 = u.2 4 ∧ (mFol2 u J t).2 1 = (mFol1 u J).2 1 := mFol2_keep u J t
    have hkn : k9 ≤ 1 ∧ n9 ≤ 6 := mC.small (mFol2_z ez hz) hc
    exact tl h k9 n9 hM hF hc hkn
  · skip
    refine gI_iload hB 2 dX7_follow_54 rfl ?_
    refine gI_iconst (v := nI 4) hB dX7_follow_56 (by decide) ?_
    refine gI_icmp_ne hB 67 dX7_follow_57 (by decide) (fun c57_10 => ?_) (fun c57_10 => ?_)
    · skip
      refine gI_loc [3, 2, 1, 0, 4, 5, 6] rfl ?_
      have e2 : mFol1 u J = mFol2 u J t := by unfold mFol2; rw [if_neg (fun z9 => z9.elim (fun y => c51_9 y) (fun y => c57_10 y))]
      have hM : mRep X.2.1 h a (mFol2 u J t) := e2 ▸ hM
      have hc : mC u (mFol2 u J t) 0 0 := by rw [← e2]; exact mC.rf ez hz rfl
      obtain ⟨k9, ek9⟩ : ∃ k9, k9 = 0 := ⟨_, rfl⟩
      obtain ⟨n9, en9⟩ : ∃ n9, n9 = 0 := ⟨_, rfl⟩
      have hc : mC u (mFol2 u J t) (0 + k9) (0 + n9) := by rw [ek9, en9]; exact hc
      rw [show gW X h 0 0 = gW X h (0 + k9) (0 + n9) by rw [ek9, en9]]
      have kp : (mFol2 u J t).1 3 = u.1 3 ∧ (mFol2 u J t).1 6 = u.1 6 ∧ (mFol2 u J t).2 4 = u.2 4 ∧ (mFol2 u J t).2 1 = (mFol1 u J).2 1 := mFol2_keep u J t
      have hkn : k9 ≤ 1 ∧ n9 ≤ 6 := mC.small (mFol2_z ez hz) hc
      exact tl h k9 n9 hM hF hc hkn
    · skip
      refine gI_aload_n hB 4 dX7_follow_60 rfl ?_
      refine gI_aload_n hB 5 dX7_follow_61 rfl ?_
      refine gI_iload hB 1 dX7_follow_62 rfl ?_
      refine gM_call (n9 := 2) (As := [.ref (a 5), .int (u.2 1 (J + 6))]) (rest := []) hB hM hF (c_sing X.2.1 h a (sa u 1 (upd (u.2 1) (J + 8) ((u.2 1 (J + 8)) + (nI 1)))) hM t z (u.2 1 (J + 6)) et (by omega) ez hz) (gCW.of ggX7_follow_X7_sing rfl ⟨by decide, by decide, by decide +kernel⟩ ⟨Nat.le_of_ble_eq_true rfl, Nat.le_of_ble_eq_true rfl⟩) (by decide +kernel) (by decide +kernel) (by decide +kernel) (by decide +kernel) rfl rfl (Nat.le_of_ble_eq_true rfl) (by first | exact Nat.le_of_ble_eq_true rfl | (dsimp only [gRm]; omega)) (by first | exact Nat.le_of_ble_eq_true rfl | (dsimp only [gRm]; omega)) mStC.no dX7_follow_64 (fun v9 h u9 k9 n9 hM hF hp => ?_)
      obtain ⟨e9, rfl, hc9⟩ := hp
      cases e9
      refine gI_loc [3, 2, 1, 0, 4, 5, 6] rfl ?_
      have e2 : mSing (mFol1 u J) t (u.2 1 (J + 6)) = mFol2 u J t := by unfold mFol2; rw [if_pos (Or.inr c57_10)]
      have hM : mRep X.2.1 h a (mFol2 u J t) := e2 ▸ hM
      have hc : mC u (mFol2 u J t) (0 + k9) (0 + n9) := by rw [← e2, Nat.zero_add, Nat.zero_add]; exact hc9
      have kp : (mFol2 u J t).1 3 = u.1 3 ∧ (mFol2 u J t).1 6 = u.1 6 ∧ (mFol2 u J t).2 4 = u.2 4 ∧ (mFol2 u J t).2 1 = (mFol1 u J).2 1 := mFol2_keep u J t
      have hkn : k9 ≤ 1 ∧ n9 ≤ 6 := mC.small (mFol2_z ez hz) hc
      exact tl h k9 n9 hM hF hc hkn
