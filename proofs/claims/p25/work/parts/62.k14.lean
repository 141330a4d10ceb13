theorem gat_tg {h : gH} {a b : Nat} {ea eb : va_E} (ha : gat h a ea) (hb : gat h b eb) (n : Nat.beq (tg2 ea) (tg2 eb) = false) : a ≠ b := fun z9 => by
  subst z9
  rw [gat_inj ha hb, Nat.beq_refl] at n
  cases n
section CStp
variable {G : gG} {h h' : gH} {c : Nat → Nat} {Λ : CL} {u : MS} {T W z : Nat}
/-- the steps are written -/
theorem cRep.stp {f f0 : Nat → Int32} (hC : cRep G h c Λ u T W z) (hs : gat h (c 4) (.inl (gI G, 12, .inl f0))) (hK : gSt h h' (c 4)) (hm : gat h' (c 4) (.inl (gI G, 12, .inl f))) : cRep G h' c Λ u T W z := by
  have k : ∀ q e, gat h q e → Nat.beq (tg2 e) 98 = false → gat h' q e := fun q e hq n => hK q e hq (gat_tg hq hs n)
  obtain ⟨o1, ⟨f1, f2, ff, fw, f3⟩, o3, o4, o5, o6, o7, o8, o9, o10, o11⟩ := hC
  refine ⟨k _ _ o1 rfl, ⟨k _ _ f1 rfl, ⟨f, hm⟩, ff, fw, k _ _ f3 rfl⟩, k _ _ o3 rfl, fun i hi => ?_, o5, fun t ht => k _ _ (o6 t ht) rfl, fun t j ht hj => k _ _ (o7 t j ht hj) rfl, fun w hw => k _ _ (o8 w hw) rfl, fun w hw => ?_, fun w hw => ?_, o11⟩
  · obtain ⟨md, g, h1, h2, h3⟩ := o4 i hi
    refine ⟨md, g, k _ _ h1 rfl, ?_, h3⟩
    rcases h2 with h2 | ⟨h0, hA⟩
    · exact Or.inl h2
    · exact Or.inr ⟨h0, k _ _ hA rfl⟩
  · obtain ⟨f9, x, y⟩ := o9 w hw
    exact ⟨f9, x, k _ _ y rfl⟩
  · obtain ⟨f9, x, y, r⟩ := o10 w hw
    exact ⟨f9, x, k _ _ y rfl, r⟩
end CStp
theorem iZ_neg (n : Nat) : -nI n = iZ (-(n : Int)) := by
  rw [iZ_nI]
  exact (Int32.ofInt_neg _).symm
theorem hrow {C : Nat → Int} {s : Int32} {l k a b : Nat} {P : Int} (es : s = iZ (P + hI C l k)) (ea : C l = (a : Int)) (eb : C (l + 1 + k) = (b : Int)) : (gd (k + 1) = 1 → s + nI (a * b) = iZ (P + hI C l (k + 1))) ∧ (gd (k + 1) = -1 → s + -nI (a * b) = iZ (P + hI C l (k + 1))) := by
  have e : hI C l (k + 1) = hI C l k + gd (k + 1) * ((a : Int) * (b : Int)) := by
    show hI C l k + gd (k + 1) * (C l * C (l + 1 + k)) = _
    rw [ea, eb]
  refine ⟨fun g => ?_, fun g => ?_⟩
  · rw [e, g, es, iZ_nI, iZ_add, Int.natCast_mul, Int.one_mul, Int.add_assoc]
  · rw [e, g, es, iZ_neg, iZ_add, Int.natCast_mul, Int.neg_mul, Int.one_mul, Int.add_assoc]

set_option maxRecDepth 100000 in
set_option maxHeartbeats 4000000 in
theorem k_harmony (G : gG) (h_0 : gH) (c : Nat → Nat) (Λ : CL) (u : MS) (T W z : Nat) (hC : cRep G h_0 c Λ u T W z) (o : mOk u T W z) (x : Int32) : gMet yX3_harmonyAt wsX3_harmonyAt (gRm 5 0 0) G h_0 [.ref (c 2), .int x] ((fun r h9 k n => r = .inl (some (.int (mHarA u x z))) ∧ cRep G h9 c Λ u T W z ∧ cFr h_0 h9 ∧ k = 0 ∧ n = 0)) := by
  refine gMet_of (maxL := 6) (ret := (some .int)) (by decide) rfl (Nat.le_of_ble_eq_true rfl) ?_
  intro X hG hnL hB hE
  subst hG
  suffices go : ∀ h : gH, h = h_0 → gW X h 0 0 0 [(0, .ref (c 2)), (1, .int x)] [] from go h_0 rfl
  intro h eh
  rw [← eh] at hC
  have hT := o.2.1
  have hW60 := o.2.2.2.1
  have hz200 := o.2.2.2.2.2.1
  have ez := o.2.2.2.2.1
  have eW := o.2.2.1
  have eT := o.1
  have hz3 : z ≤ cLen Λ 3 := hC.2.2.2.2.1.2.2.1
  have hl200 : cLen Λ 3 ≤ 200 := hC.2.2.2.2.1.2.2.2.1
  have hF : cFr h_0 h := by rw [eh]; exact cFr.rf
  obtain ⟨st0, hst⟩ := hC.2.1.2.1
  refine gI_aload_n hB 0 dX3_harmonyAt_0 rfl ?_
  refine gI_get (v := .ref (c 4)) hB 1 hC.2.2.1 (C := RX3) (T := TX3) (N := 4) rfl (by decide +kernel) (by decide) (by decide +kernel) (fun _ h9 => h9) rfl dX3_harmonyAt_1 ?_
  refine gI_iconst (v := nI 0) hB dX3_harmonyAt_4 (by decide) ?_
  refine gI_callS (n9 := 2) (As := [.ref (c 4), .int (nI 0)]) (rest := []) hB (j_fill X.2.1 h (c 4) 12 st0 (nI 0) hst (by omega)) (gCW.of ggX3_harmonyAt_J7_fill_53178 rfl ⟨by decide, by decide, by decide +kernel⟩ ⟨Nat.le_of_ble_eq_true rfl, Nat.le_of_ble_eq_true rfl⟩) (Or.inl (by decide +kernel)) (by decide +kernel) (by decide +kernel) rfl rfl (Nat.le_of_ble_eq_true rfl) (by first | exact Nat.le_of_ble_eq_true rfl | (dsimp only [gRm]; omega)) (by first | exact Nat.le_of_ble_eq_true rfl | (dsimp only [gRm]; omega)) dX3_harmonyAt_5 (fun v9 h k9 n9 hp => ?_) (fun E9 h1 k1 n1 hp => by obtain ⟨f9, e9, -⟩ := hp; cases e9)
  obtain ⟨f0, e9, Nst, hf0, hK, rfl, rfl⟩ := hp
  cases e9
  have hF := hF.st hst rfl hK
  have hC := hC.stp hst hK Nst
  have hst := Nst
  refine gI_iconst (v := nI 0) hB dX3_harmonyAt_8 (by decide) ?_
  refine gI_istore_n hB ([(2, .int (nI 0)), (0, .ref (c 2)), (1, .int x)]) hnL dX3_harmonyAt_9 (by decide) rfl ?_
  have lp : ∀ (r_lp : Nat) (h : gH) (i : Nat) (f : Nat → Int32), z + 1 ≤ i + r_lp → i ≤ z → cRep X.2.1 h c Λ u T W z → gat h (c 4) (.inl (gI X.2.1, 12, .inl f)) → (∀ j, j < 12 → f j = nI (mStp u x i j)) → cFr h_0 h → gW X h 0 0 10 [(2, .int (nI i)), (0, .ref (c 2)), (1, .int x)] [] := by
    intro r_lp
    induction r_lp with
    | zero => intro h i f hfu hi hC hst hf hF; exact absurd hfu (by omega)
    | succ r_lp ih_lp =>
      intro h i f hfu hi hC hst hf hF
      refine gI_iload_n hB 0 dX3_harmonyAt_10 rfl ?_
      refine gI_aload_n hB 1 dX3_harmonyAt_11 rfl ?_
      refine gI_get (v := .int (u.1 12)) hB 2 hC.2.2.1 (C := RX3) (T := TX3) (N := 4) rfl (by decide +kernel) (by decide) (by decide +kernel) (fun _ h9 => h9) rfl dX3_harmonyAt_12 ?_
      refine gI_topi hB (y := nI z) ez ?_
      refine gI_icmp_ge hB 56 dX3_harmonyAt_15 (by decide) (fun c15_1 => ?_) (fun c15_1 => ?_)
      · skip
        have c15_1 := (nI_leI (by omega) (by omega)).mp c15_1
        have hf : ∀ j, j < 12 → f j = nI (mStp u x z j) := fun j hj => by rw [hf j hj, show i = z by omega]
        refine gI_iconst (v := nI 0) hB dX3_harmonyAt_56 (by decide) ?_
        refine gI_istore_n hB ([(2, .int (nI 0)), (0, .ref (c 2)), (1, .int x)]) hnL dX3_harmonyAt_57 (by decide) rfl ?_
        refine gI_iconst (v := nI 0) hB dX3_harmonyAt_58 (by decide) ?_
        refine gI_istore_n hB ([(3, .int (nI 0)), (2, .int (nI 0)), (0, .ref (c 2)), (1, .int x)]) hnL dX3_harmonyAt_59 (by decide) rfl ?_
        have lq : ∀ (r_lq : Nat) (l : Nat) (sm : Int32), 13 ≤ l + r_lq → l ≤ 12 → sm = iZ (hP (mSt12 u x z) l) → gW X h 0 0 60 [(3, .int (nI l)), (2, .int sm), (0, .ref (c 2)), (1, .int x)] [] := by
          intro r_lq
          induction r_lq with
          | zero => intro l sm hfu hl esm; exact absurd hfu (by omega)
          | succ r_lq ih_lq =>
            intro l sm hfu hl esm
            refine gI_iload_n hB 0 dX3_harmonyAt_60 rfl ?_
            refine gI_bipush (v := nI 12) hB dX3_harmonyAt_61 (by decide) ?_
            refine gI_icmp_ge hB 150 dX3_harmonyAt_63 (by decide) (fun c63_2 => ?_) (fun c63_2 => ?_)
            · skip
              have c63_2 := (nI_leI (by omega) (by omega)).mp c63_2
              refine gI_iload_n hB 1 dX3_harmonyAt_150 rfl ?_
              refine gI_iret hB hE dX3_harmonyAt_151 ?_
              exact ⟨by rw [esm, show l = 12 by omega, ← mHarA_eq o x z (Nat.le_refl z)], hC, hF, rfl, rfl⟩
            · skip
              have c63_2 := mt (nI_leI (by omega) (by omega)).mpr c63_2
              refine gI_iload_n hB 1 dX3_harmonyAt_66 rfl ?_
              refine gI_aload_n hB 2 dX3_harmonyAt_67 rfl ?_
              refine gI_get (v := .ref (c 4)) hB 1 hC.2.2.1 (C := RX3) (T := TX3) (N := 4) rfl (by decide +kernel) (by decide) (by decide +kernel) (fun _ h9 => h9) rfl dX3_harmonyAt_68 ?_
              refine gI_iload_n hB 0 dX3_harmonyAt_71 rfl ?_
              refine gC_iald hB l hst rfl (by omega) (by omega) dX3_harmonyAt_72 ?_
              refine gI_topi hB (y := nI (mStp u x z l)) (hf l (by omega)) ?_
              refine gI_aload_n hB 2 dX3_harmonyAt_73 rfl ?_
              refine gI_get (v := .ref (c 4)) hB 1 hC.2.2.1 (C := RX3) (T := TX3) (N := 4) rfl (by decide +kernel) (by decide) (by decide +kernel) (fun _ h9 => h9) rfl dX3_harmonyAt_74 ?_
              refine gI_iload_n hB 0 dX3_harmonyAt_77 rfl ?_
              refine gC_iald hB l hst rfl (by omega) (by omega) dX3_harmonyAt_78 ?_
              refine gI_topi hB (y := nI (mStp u x z l)) (hf l (by omega)) ?_
              refine gI_iconst (v := nI 1) hB dX3_harmonyAt_79 (by decide) ?_
              refine gI_isub hB dX3_harmonyAt_80 ?_
              refine gI_imul hB dX3_harmonyAt_81 ?_
              refine gI_iconst (v := nI 2) hB dX3_harmonyAt_82 (by decide) ?_
              refine gI_idiv hB dX3_harmonyAt_83 (by decide) ?_
              refine gI_topi hB (y := iZ (hTri ((mStp u x z l : Nat) : Int))) (tri_row ⟨mStp u x z l, by have := mStp_le u x l z; omega⟩) ?_
              refine gI_iadd hB dX3_harmonyAt_84 ?_
              refine gI_istore_n hB ([(2, .int (sm + (iZ (hTri ((mStp u x z l : Nat) : Int))))), (3, .int (nI l)), (0, .ref (c 2)), (1, .int x)]) hnL dX3_harmonyAt_85 (by decide) rfl ?_
              refine gI_iload_n hB 1 dX3_harmonyAt_86 rfl ?_
              refine gI_iconst (v := nI 1) hB dX3_harmonyAt_87 (by decide) ?_
              refine gI_iaddN hB dX3_harmonyAt_88 ?_
              refine gI_istore hB ([(4, .int (nI (l + 1))), (2, .int (sm + (iZ (hTri ((mStp u x z l : Nat) : Int))))), (3, .int (nI l)), (0, .ref (c 2)), (1, .int x)]) hnL dX3_harmonyAt_89 (by decide) rfl ?_
              have lr : ∀ (r_lr : Nat) (k9 : Nat) (s2 : Int32), 13 ≤ l + 1 + k9 + r_lr → l + 1 + k9 ≤ 12 → s2 = iZ (hP (mSt12 u x z) l + hTri (mSt12 u x z l) + hI (mSt12 u x z) l k9) → gW X h 0 0 91 [(4, .int (nI (l + 1 + k9))), (2, .int s2), (3, .int (nI l)), (0, .ref (c 2)), (1, .int x)] [] := by
                intro r_lr
                induction r_lr with
                | zero => intro k9 s2 hfu hk9 es2; exact absurd hfu (by omega)
                | succ r_lr ih_lr =>
                  intro k9 s2 hfu hk9 es2
                  refine gI_iload hB 0 dX3_harmonyAt_91 rfl ?_
                  refine gI_bipush (v := nI 12) hB dX3_harmonyAt_93 (by decide) ?_
                  refine gI_icmp_ge hB 144 dX3_harmonyAt_95 (by decide) (fun c95_3 => ?_) (fun c95_3 => ?_)
                  · skip
                    have c95_3 := (nI_leI (by omega) (by omega)).mp c95_3
                    refine gI_iinc hB 2 ([(3, .int (nI (l + 1))), (4, .int (nI (l + 1 + k9))), (2, .int s2), (0, .ref (c 2)), (1, .int x)]) hnL dX3_harmonyAt_144 rfl (nI_1 (l)) (by decide) rfl ?_
                    refine gI_goto hB 60 dX3_harmonyAt_147 (by decide) ?_
                    refine gI_loc [0, 2, 3, 4] rfl ?_
                    exact ih_lq (l + 1) s2 (by omega) (by omega) (by rw [es2, show k9 = 11 - l by omega]; rfl)
                  · skip
                    have c95_3 := mt (nI_leI (by omega) (by omega)).mpr c95_3
                    refine gI_aload_n hB 3 dX3_harmonyAt_98 rfl ?_
                    refine gI_get (v := .ref (c 4)) hB 1 hC.2.2.1 (C := RX3) (T := TX3) (N := 4) rfl (by decide +kernel) (by decide) (by decide +kernel) (fun _ h9 => h9) rfl dX3_harmonyAt_99 ?_
                    refine gI_iload_n hB 2 dX3_harmonyAt_102 rfl ?_
                    refine gC_iald hB l hst rfl (by omega) (by omega) dX3_harmonyAt_103 ?_
                    refine gI_topi hB (y := nI (mStp u x z l)) (hf l (by omega)) ?_
                    refine gI_aload_n hB 3 dX3_harmonyAt_104 rfl ?_
                    refine gI_get (v := .ref (c 4)) hB 1 hC.2.2.1 (C := RX3) (T := TX3) (N := 4) rfl (by decide +kernel) (by decide) (by decide +kernel) (fun _ h9 => h9) rfl dX3_harmonyAt_105 ?_
                    refine gI_iload hB 0 dX3_harmonyAt_108 rfl ?_
                    refine gC_iald hB (l + 1 + k9) hst rfl (by omega) (by omega) dX3_harmonyAt_110 ?_
                    refine gI_topi hB (y := nI (mStp u x z (l + 1 + k9))) (hf (l + 1 + k9) (by omega)) ?_
                    refine gI_imulN hB dX3_harmonyAt_111 ?_
                    refine gI_istore hB ([(5, .int (nI ((mStp u x z l) * (mStp u x z (l + 1 + k9))))), (4, .int (nI (l + 1 + k9))), (2, .int s2), (3, .int (nI l)), (0, .ref (c 2)), (1, .int x)]) hnL dX3_harmonyAt_112 (by decide) rfl ?_
                    refine gI_iload_n hB 2 dX3_harmonyAt_114 rfl ?_
                    refine gI_sipush (v := nI 953) hB dX3_harmonyAt_115 (by decide) ?_
                    refine gI_iload hB 1 dX3_harmonyAt_118 rfl ?_
                    refine gI_iload_n hB 3 dX3_harmonyAt_120 rfl ?_
                    refine gI_isub hB dX3_harmonyAt_121 ?_
                    refine gI_topi hB (y := nI (k9 + 1)) (by rw [pk_sub (by omega)]; exact congrArg nI (by omega)) ?_
                    refine gI_pureS (n9 := 2) (As := [.int (nI 953), .int (nI (k9 + 1))]) (rest := [.int s2]) hB (k_contains X.2.1 h (nI 953) (nI (k9 + 1))) (gCW.of ggX3_harmonyAt_X6_contains rfl ⟨by decide, by decide, by decide +kernel⟩ ⟨Nat.le_of_ble_eq_true rfl, Nat.le_of_ble_eq_true rfl⟩) (Or.inr ⟨"DoorbellChoir", by decide +kernel⟩) (by decide +kernel) (by decide +kernel) rfl rfl (Nat.le_of_ble_eq_true rfl) (by first | exact Nat.le_of_ble_eq_true rfl | (dsimp only [gRm]; omega)) (by first | exact Nat.le_of_ble_eq_true rfl | (dsimp only [gRm]; omega)) dX3_harmonyAt_122 ?_
                    refine gI_if_eq hB 133 dX3_harmonyAt_125 (by decide) (fun c125_4 => ?_) (fun c125_4 => ?_)
                    · skip
                      have c125_4 := gbi_0.mp c125_4
                      have hg := (gd_or (k9 + 1)).resolve_left (fun z9 => c125_4 ((good_row ⟨k9 + 1, by omega⟩).mpr z9))
                      refine gI_iload hB 0 dX3_harmonyAt_133 rfl ?_
                      refine gI_ineg hB dX3_harmonyAt_135 ?_
                      refine gI_iadd hB dX3_harmonyAt_136 ?_
                      refine gI_istore_n hB ([(2, .int (s2 + (-(nI ((mStp u x z l) * (mStp u x z (l + 1 + k9))))))), (5, .int (nI ((mStp u x z l) * (mStp u x z (l + 1 + k9))))), (4, .int (nI (l + 1 + k9))), (3, .int (nI l)), (0, .ref (c 2)), (1, .int x)]) hnL dX3_harmonyAt_137 (by decide) rfl ?_
                      refine gI_iinc hB 2 ([(4, .int (nI (l + 1 + k9 + 1))), (2, .int (s2 + (-(nI ((mStp u x z l) * (mStp u x z (l + 1 + k9))))))), (5, .int (nI ((mStp u x z l) * (mStp u x z (l + 1 + k9))))), (3, .int (nI l)), (0, .ref (c 2)), (1, .int x)]) hnL dX3_harmonyAt_138 rfl (nI_1 (l + 1 + k9)) (by decide) rfl ?_
                      refine gI_goto hB 91 dX3_harmonyAt_141 (by decide) ?_
                      refine gI_loc [0, 1, 3, 4, 5] rfl ?_
                      exact ih_lr (k9 + 1) (s2 + (-(nI ((mStp u x z l) * (mStp u x z (l + 1 + k9)))))) (by omega) (by omega) ((hrow es2 rfl rfl).2 hg)
                    · skip
                      have c125_4 := gbi_n0 c125_4
                      have hg := (good_row ⟨k9 + 1, by omega⟩).mp c125_4
                      refine gI_iload hB 0 dX3_harmonyAt_128 rfl ?_
                      refine gI_goto hB 136 dX3_harmonyAt_130 (by decide) ?_
                      refine gI_iadd hB dX3_harmonyAt_136 ?_
                      refine gI_istore_n hB ([(2, .int (s2 + (nI ((mStp u x z l) * (mStp u x z (l + 1 + k9)))))), (5, .int (nI ((mStp u x z l) * (mStp u x z (l + 1 + k9))))), (4, .int (nI (l + 1 + k9))), (3, .int (nI l)), (0, .ref (c 2)), (1, .int x)]) hnL dX3_harmonyAt_137 (by decide) rfl ?_
                      refine gI_iinc hB 2 ([(4, .int (nI (l + 1 + k9 + 1))), (2, .int (s2 + (nI ((mStp u x z l) * (mStp u x z (l + 1 + k9)))))), (5, .int (nI ((mStp u x z l) * (mStp u x z (l + 1 + k9))))), (3, .int (nI l)), (0, .ref (c 2)), (1, .int x)]) hnL dX3_harmonyAt_138 rfl (nI_1 (l + 1 + k9)) (by decide) rfl ?_
                      refine gI_goto hB 91 dX3_harmonyAt_141 (by decide) ?_
                      refine gI_loc [0, 1, 3, 4, 5] rfl ?_
                      exact ih_lr (k9 + 1) (s2 + (nI ((mStp u x z l) * (mStp u x z (l + 1 + k9))))) (by omega) (by omega) ((hrow es2 rfl rfl).1 hg)
              refine gI_loc [0, 1, 2, 3, 4] rfl ?_
              exact lr 13 0 (sm + (iZ (hTri ((mStp u x z l : Nat) : Int)))) (by omega) (by omega) (by rw [esm, iZ_add]; exact congrArg iZ (Int.add_zero _).symm)
        refine gI_loc [0, 1, 2, 3] rfl ?_
        exact lq 13 0 (nI 0) (by omega) (by omega) rfl
      · skip
        have c15_1 := mt (nI_leI (by omega) (by omega)).mpr c15_1
        obtain ⟨fn, wn, hno, hno0⟩ := hC.2.2.2.2.2.2.2.2.2.1 i (by omega)
        obtain ⟨hno1, hno2⟩ := hno0 (by omega)
        refine gI_aload_n hB 1 dX3_harmonyAt_18 rfl ?_
        refine gI_iload_n hB 0 dX3_harmonyAt_19 rfl ?_
        refine gI_pureV (n9 := 1) (As := [.int (nI i)]) (rest := []) hB (k_noteAt X.2.1 h c Λ u T W z hC o i (by omega)) (gCW.of ggX3_harmonyAt_X3_at rfl ⟨by decide, by decide, by decide +kernel⟩ ⟨Nat.le_of_ble_eq_true rfl, Nat.le_of_ble_eq_true rfl⟩) (by decide +kernel) (by decide +kernel) (by decide +kernel) (by decide +kernel) hC.2.2.1 (C := RX3) (T := TX3) (N := 4) rfl rfl rfl (Nat.le_of_ble_eq_true rfl) (by first | exact Nat.le_of_ble_eq_true rfl | (dsimp only [gRm]; omega)) (by first | exact Nat.le_of_ble_eq_true rfl | (dsimp only [gRm]; omega)) dX3_harmonyAt_20 ?_
        refine gI_astore_n hB ([(3, .ref (cEl Λ 3 i)), (2, .int (nI i)), (0, .ref (c 2)), (1, .int x)]) hnL dX3_harmonyAt_23 (by decide) rfl ?_
        refine gI_aload_n hB 0 dX3_harmonyAt_24 rfl ?_
        refine gI_iload_n hB 3 dX3_harmonyAt_25 rfl ?_
        refine gI_pureV (n9 := 1) (As := [.int x]) (rest := []) hB (k_soundsAt X.2.1 h (cEl Λ 3 i) fn wn hno x) (gCW.of ggX3_harmonyAt_X1_soundsAt rfl ⟨by decide, by decide, by decide +kernel⟩ ⟨Nat.le_of_ble_eq_true rfl, Nat.le_of_ble_eq_true rfl⟩) (by decide +kernel) (by decide +kernel) (by decide +kernel) (by decide +kernel) hno (C := RX1) (T := TX1) (N := 7) rfl rfl rfl (Nat.le_of_ble_eq_true rfl) (by first | exact Nat.le_of_ble_eq_true rfl | (dsimp only [gRm]; omega)) (by first | exact Nat.le_of_ble_eq_true rfl | (dsimp only [gRm]; omega)) dX3_harmonyAt_26 ?_
        refine gI_topi hB (y := gbi (mSnd u i x)) (by rw [hno1 0 (by omega), hno1 1 (by omega)]; rfl) ?_
        refine gI_if_eq hB 50 dX3_harmonyAt_29 (by decide) (fun c29_5 => ?_) (fun c29_5 => ?_)
        · skip
          have c29_5 := gbi_0.mp c29_5
          have hf2 : ∀ j, j < 12 → f j = nI (mStp u x (i + 1) j) := fun j hj => by
            rw [hf j hj]
            show _ = nI (mStp u x i j + if _ then 1 else 0)
            rw [if_neg (fun z9 => c29_5 z9.1), Nat.add_zero]
          refine gI_iinc hB 1 ([(2, .int (nI (i + 1))), (3, .ref (cEl Λ 3 i)), (0, .ref (c 2)), (1, .int x)]) hnL dX3_harmonyAt_50 rfl (nI_1 (i)) (by decide) rfl ?_
          refine gI_goto hB 10 dX3_harmonyAt_53 (by decide) ?_
          refine gI_loc [0, 2, 3] rfl ?_
          exact ih_lp h (i + 1) f (by omega) (by omega) hC hst hf2 hF
        · skip
          have c29_5 := gbi_n0 c29_5
          have hsn : mSnd u i x := c29_5
          obtain ⟨⟨y, y1, y2⟩, -⟩ := o.2.2.2.2.2.2.2.2.2 i (by omega)
          have hre : mRes u i = y % 12 := by unfold mRes; rw [y2, mCl (by omega)]
          refine gI_aload_n hB 2 dX3_harmonyAt_32 rfl ?_
          refine gI_get (v := .ref (c 4)) hB 1 hC.2.2.1 (C := RX3) (T := TX3) (N := 4) rfl (by decide +kernel) (by decide) (by decide +kernel) (fun _ h9 => h9) rfl dX3_harmonyAt_33 ?_
          refine gI_aload_n hB 0 dX3_harmonyAt_36 rfl ?_
          refine gI_get (v := .int (fn 2)) hB 2 hno (C := RX1) (T := TX1) (N := 7) rfl (by decide +kernel) (by decide) (by decide +kernel) (fun _ h9 => h9) rfl dX3_harmonyAt_37 ?_
          refine gI_topi hB (y := u.2 3 (15 * i + 2)) (hno1 2 (by omega)) ?_
          refine gI_topi hB (y := nI y) y2 ?_
          refine gI_bipush (v := nI 12) hB dX3_harmonyAt_40 (by decide) ?_
          refine gI_pureS (n9 := 2) (As := [.int (nI y), .int (nI 12)]) (rest := [.ref (c 4)]) hB (c_floorMod X.2.1 h (nI y) (nI 12) (by decide)) (gCW.of ggX3_harmonyAt_J9_floorMod_7cf53 rfl ⟨by decide, by decide, by decide +kernel⟩ ⟨Nat.le_of_ble_eq_true rfl, Nat.le_of_ble_eq_true rfl⟩) (Or.inl (by decide +kernel)) (by decide +kernel) (by decide +kernel) rfl rfl (Nat.le_of_ble_eq_true rfl) (by first | exact Nat.le_of_ble_eq_true rfl | (dsimp only [gRm]; omega)) (by first | exact Nat.le_of_ble_eq_true rfl | (dsimp only [gRm]; omega)) dX3_harmonyAt_42 ?_
          refine gI_topi hB (y := nI (y % 12)) (res_row ⟨y, y1⟩) ?_
          refine gI_dup2_11 hB dX3_harmonyAt_45 rfl rfl ?_
          refine gC_iald hB (y % 12) hst rfl (by omega) (by omega) dX3_harmonyAt_46 ?_
          refine gI_topi hB (y := nI (mStp u x i (y % 12))) (hf (y % 12) (by omega)) ?_
          refine gI_iconst (v := nI 1) hB dX3_harmonyAt_47 (by decide) ?_
          refine gI_iaddN hB dX3_harmonyAt_48 ?_
          refine gC_iast hB (y % 12) hst rfl (by omega) (by omega) dX3_harmonyAt_49 (fun h Nst hK => ?_)
          have hF := hF.st hst rfl hK
          have hC := hC.stp hst hK Nst
          have hst := Nst
          have hf2 : ∀ j, j < 12 → upd f (y % 12) (nI ((mStp u x i (y % 12)) + 1)) j = nI (mStp u x (i + 1) j) := fun j hj => by
            show _ = nI (mStp u x i j + if _ then 1 else 0)
            by_cases ej : j = y % 12
            · rw [ej, pk_us, if_pos ⟨hsn, hre.symm⟩]
            · rw [pk_un ej, hf j hj, if_neg (fun z9 => ej (z9.2.trans hre)), Nat.add_zero]
          refine gI_iinc hB 1 ([(2, .int (nI (i + 1))), (3, .ref (cEl Λ 3 i)), (0, .ref (c 2)), (1, .int x)]) hnL dX3_harmonyAt_50 rfl (nI_1 (i)) (by decide) rfl ?_
          refine gI_goto hB 10 dX3_harmonyAt_53 (by decide) ?_
          refine gI_loc [0, 2, 3] rfl ?_
          exact ih_lp h (i + 1) (upd f (y % 12) (nI ((mStp u x i (y % 12)) + 1))) (by omega) (by omega) hC hst hf2 hF
  refine gI_loc [0, 1, 2] rfl ?_
  exact lp (z + 1) h 0 f0 (by omega) (by omega) hC hst hf0 hF

set_option maxRecDepth 100000 in
set_option maxHeartbeats 4000000 in
theorem k_bestTick (G : gG) (h_0 : gH) (c : Nat → Nat) (Λ : CL) (u : MS) (T W z : Nat) (hC : cRep G h_0 c Λ u T W z) (o : mOk u T W z) : gMet yX3_bestTick wsX3_bestTick (gRm 6 0 0) G h_0 [.ref (c 2)] ((fun r h9 k n => r = .inl (some (.int (mBestL u z).1)) ∧ cRep G h9 c Λ u T W z ∧ cFr h_0 h9 ∧ k = 0 ∧ n = 0)) := by
  refine gMet_of (maxL := 6) (ret := (some .int)) (by decide) rfl (Nat.le_of_ble_eq_true rfl) ?_
  intro X hG hnL hB hE
  subst hG
  suffices go : ∀ h : gH, h = h_0 → gW X h 0 0 0 [(0, .ref (c 2))] [] from go h_0 rfl
  intro h eh
  rw [← eh] at hC
  have hT := o.2.1
  have hW60 := o.2.2.2.1
  have hz200 := o.2.2.2.2.2.1
  have ez := o.2.2.2.2.1
  have eW := o.2.2.1
  have eT := o.1
  have hz3 : z ≤ cLen Λ 3 := hC.2.2.2.2.1.2.2.1
  have hl200 : cLen Λ 3 ≤ 200 := hC.2.2.2.2.1.2.2.2.1
  have hF : cFr h_0 h := by rw [eh]; exact cFr.rf
  have hkz : mKept u = z := by unfold mKept; rw [ez, mCl (by omega)]
  refine gI_iconst (v := (-1)) hB dX3_bestTick_0 (by decide) ?_
  refine gI_istore_n hB ([(1, .int (-1)), (0, .ref (c 2))]) hnL dX3_bestTick_1 (by decide) rfl ?_
  refine gI_iconst (v := nI 0) hB dX3_bestTick_2 (by decide) ?_
  refine gI_istore_n hB ([(2, .int (nI 0)), (1, .int (-1)), (0, .ref (c 2))]) hnL dX3_bestTick_3 (by decide) rfl ?_
  refine gI_iconst (v := nI 0) hB dX3_bestTick_4 (by decide) ?_
  refine gI_istore_n hB ([(3, .int (nI 0)), (2, .int (nI 0)), (1, .int (-1)), (0, .ref (c 2))]) hnL dX3_bestTick_5 (by decide) rfl ?_
  have lp : ∀ (r_lp : Nat) (h : gH) (i : Nat) (b bh : Int32), z + 1 ≤ i + r_lp → i ≤ z → cRep X.2.1 h c Λ u T W z → cFr h_0 h → b = (kBest u i).1 → bh = (kBest u i).2 → gW X h 0 0 6 [(3, .int (nI i)), (1, .int b), (2, .int bh), (0, .ref (c 2))] [] := by
    intro r_lp
    induction r_lp with
    | zero => intro h i b bh hfu hi hC hF eb ebh; exact absurd hfu (by omega)
    | succ r_lp ih_lp =>
      intro h i b bh hfu hi hC hF eb ebh
      refine gI_iload_n hB 0 dX3_bestTick_6 rfl ?_
      refine gI_aload_n hB 3 dX3_bestTick_7 rfl ?_
      refine gI_get (v := .int (u.1 12)) hB 2 hC.2.2.1 (C := RX3) (T := TX3) (N := 4) rfl (by decide +kernel) (by decide) (by decide +kernel) (fun _ h9 => h9) rfl dX3_bestTick_8 ?_
      refine gI_topi hB (y := nI z) ez ?_
      refine gI_icmp_ge hB 55 dX3_bestTick_11 (by decide) (fun c11_1 => ?_) (fun c11_1 => ?_)
      · skip
        have c11_1 := (nI_leI (by omega) (by omega)).mp c11_1
        refine gI_iload_n hB 1 dX3_bestTick_55 rfl ?_
        refine gI_iret hB hE dX3_bestTick_56 ?_
        exact ⟨by rw [eb, (kBest_eq u i).1, show i = z by omega], hC, hF, rfl, rfl⟩
      · skip
        have c11_1 := mt (nI_leI (by omega) (by omega)).mpr c11_1
        obtain ⟨fn, wn, hno, hno0⟩ := hC.2.2.2.2.2.2.2.2.2.1 i (by omega)
        obtain ⟨hno1, hno2⟩ := hno0 (by omega)
        refine gI_aload_n hB 3 dX3_bestTick_14 rfl ?_
        refine gI_iload_n hB 0 dX3_bestTick_15 rfl ?_
        refine gI_pureV (n9 := 1) (As := [.int (nI i)]) (rest := []) hB (k_noteAt X.2.1 h c Λ u T W z hC o i (by omega)) (gCW.of ggX3_bestTick_X3_at rfl ⟨by decide, by decide, by decide +kernel⟩ ⟨Nat.le_of_ble_eq_true rfl, Nat.le_of_ble_eq_true rfl⟩) (by decide +kernel) (by decide +kernel) (by decide +kernel) (by decide +kernel) hC.2.2.1 (C := RX3) (T := TX3) (N := 4) rfl rfl rfl (Nat.le_of_ble_eq_true rfl) (by first | exact Nat.le_of_ble_eq_true rfl | (dsimp only [gRm]; omega)) (by first | exact Nat.le_of_ble_eq_true rfl | (dsimp only [gRm]; omega)) dX3_bestTick_16 ?_
        refine gI_get (v := .int (fn 0)) hB 0 hno (C := RX1) (T := TX1) (N := 7) rfl (by decide +kernel) (by decide) (by decide +kernel) (fun _ h9 => h9) rfl dX3_bestTick_19 ?_
        refine gI_topi hB (y := u.2 3 (15 * i + 0)) (hno1 0 (by omega)) ?_
        refine gI_topi hB (y := u.2 3 (15 * i)) rfl ?_
        refine gI_istore hB ([(4, .int (u.2 3 (15 * i))), (3, .int (nI i)), (1, .int b), (2, .int bh), (0, .ref (c 2))]) hnL dX3_bestTick_22 (by decide) rfl ?_
        refine gI_aload_n hB 4 dX3_bestTick_24 rfl ?_
        refine gI_iload hB 0 dX3_bestTick_25 rfl ?_
        refine gI_callV (n9 := 1) (As := [.int (u.2 3 (15 * i))]) (rest := []) hB (k_harmony X.2.1 h c Λ u T W z hC o (u.2 3 (15 * i))) (gCW.of ggX3_bestTick_X3_harmonyAt rfl ⟨by decide, by decide, by decide +kernel⟩ ⟨Nat.le_of_ble_eq_true rfl, Nat.le_of_ble_eq_true rfl⟩) (by decide +kernel) (by decide +kernel) (by decide +kernel) (by decide +kernel) hC.2.2.1 (C := RX3) (T := TX3) (N := 4) rfl rfl rfl (Nat.le_of_ble_eq_true rfl) (by first | exact Nat.le_of_ble_eq_true rfl | (dsimp only [gRm]; omega)) (by first | exact Nat.le_of_ble_eq_true rfl | (dsimp only [gRm]; omega)) dX3_bestTick_27 (fun v9 h k9 n9 hp => ?_) (fun E9 h1 k1 n1 hp => by cases hp.1)
        obtain ⟨e9, hC, hF9, rfl, rfl⟩ := hp
        cases e9
        have hF := hF.trans hF9
        refine gI_istore hB ([(5, .int (mHarA u (u.2 3 (15 * i)) z)), (4, .int (u.2 3 (15 * i))), (3, .int (nI i)), (1, .int b), (2, .int bh), (0, .ref (c 2))]) hnL dX3_bestTick_30 (by decide) rfl ?_
        refine gI_iload_n hB 3 dX3_bestTick_32 rfl ?_
        refine gI_iconst (v := (-1)) hB dX3_bestTick_33 (by decide) ?_
        refine gI_icmp_eq hB 43 dX3_bestTick_34 (by decide) (fun c34_2 => ?_) (fun c34_2 => ?_)
        · skip
          have hk9 : (kBest u i).1 = -1 ∨ (kBest u i).2 < mHarA u (u.2 3 (15 * i)) z := Or.inl (eb.symm.trans c34_2)
          refine gI_iload hB 1 dX3_bestTick_43 rfl ?_
          refine gI_istore_n hB ([(1, .int (u.2 3 (15 * i))), (5, .int (mHarA u (u.2 3 (15 * i)) z)), (4, .int (u.2 3 (15 * i))), (3, .int (nI i)), (2, .int bh), (0, .ref (c 2))]) hnL dX3_bestTick_45 (by decide) rfl ?_
          refine gI_iload hB 1 dX3_bestTick_46 rfl ?_
          refine gI_istore_n hB ([(2, .int (mHarA u (u.2 3 (15 * i)) z)), (1, .int (u.2 3 (15 * i))), (5, .int (mHarA u (u.2 3 (15 * i)) z)), (4, .int (u.2 3 (15 * i))), (3, .int (nI i)), (0, .ref (c 2))]) hnL dX3_bestTick_48 (by decide) rfl ?_
          refine gI_iinc hB 4 ([(3, .int (nI (i + 1))), (2, .int (mHarA u (u.2 3 (15 * i)) z)), (1, .int (u.2 3 (15 * i))), (5, .int (mHarA u (u.2 3 (15 * i)) z)), (4, .int (u.2 3 (15 * i))), (0, .ref (c 2))]) hnL dX3_bestTick_49 rfl (nI_1 (i)) (by decide) rfl ?_
          refine gI_goto hB 6 dX3_bestTick_52 (by decide) ?_
          refine gI_loc [0, 2, 1, 5] rfl ?_
          exact ih_lp h (i + 1) (u.2 3 (15 * i)) (mHarA u (u.2 3 (15 * i)) z) (by omega) (by omega) hC hF (by unfold kBest; rw [hkz, if_pos hk9]) (by unfold kBest; rw [hkz, if_pos hk9])
        · skip
          refine gI_iload hB 0 dX3_bestTick_37 rfl ?_
          refine gI_iload_n hB 4 dX3_bestTick_39 rfl ?_
          refine gI_icmp_le hB 49 dX3_bestTick_40 (by decide) (fun c40_3 => ?_) (fun c40_3 => ?_)
          · skip
            have hk9 : ¬ ((kBest u i).1 = -1 ∨ (kBest u i).2 < mHarA u (u.2 3 (15 * i)) z) := fun z9 => z9.elim (fun y9 => c34_2 (eb.trans y9)) (fun y9 => absurd (by rw [← ebh] at y9; exact y9) (Int32.not_lt.mpr c40_3))
            refine gI_iinc hB 2 ([(3, .int (nI (i + 1))), (5, .int (mHarA u (u.2 3 (15 * i)) z)), (4, .int (u.2 3 (15 * i))), (1, .int b), (2, .int bh), (0, .ref (c 2))]) hnL dX3_bestTick_49 rfl (nI_1 (i)) (by decide) rfl ?_
            refine gI_goto hB 6 dX3_bestTick_52 (by decide) ?_
            refine gI_loc [0, 3, 4, 5] rfl ?_
            exact ih_lp h (i + 1) b bh (by omega) (by omega) hC hF (by unfold kBest; rw [hkz, if_neg hk9]; exact eb) (by unfold kBest; rw [hkz, if_neg hk9]; exact ebh)
          · skip
            have hk9 : (kBest u i).1 = -1 ∨ (kBest u i).2 < mHarA u (u.2 3 (15 * i)) z := Or.inr (by rw [← ebh]; exact Int32.not_le.mp c40_3)
            refine gI_iload hB 1 dX3_bestTick_43 rfl ?_
            refine gI_istore_n hB ([(1, .int (u.2 3 (15 * i))), (5, .int (mHarA u (u.2 3 (15 * i)) z)), (4, .int (u.2 3 (15 * i))), (3, .int (nI i)), (2, .int bh), (0, .ref (c 2))]) hnL dX3_bestTick_45 (by decide) rfl ?_
            refine gI_iload hB 1 dX3_bestTick_46 rfl ?_
            refine gI_istore_n hB ([(2, .int (mHarA u (u.2 3 (15 * i)) z)), (1, .int (u.2 3 (15 * i))), (5, .int (mHarA u (u.2 3 (15 * i)) z)), (4, .int (u.2 3 (15 * i))), (3, .int (nI i)), (0, .ref (c 2))]) hnL dX3_bestTick_48 (by decide) rfl ?_
            refine gI_iinc hB 4 ([(3, .int (nI (i + 1))), (2, .int (mHarA u (u.2 3 (15 * i)) z)), (1, .int (u.2 3 (15 * i))), (5, .int (mHarA u (u.2 3 (15 * i)) z)), (4, .int (u.2 3 (15 * i))), (0, .ref (c 2))]) hnL dX3_bestTick_49 rfl (nI_1 (i)) (by decide) rfl ?_
            refine gI_goto hB 6 dX3_bestTick_52 (by decide) ?_
            refine gI_loc [0, 2, 1, 5] rfl ?_
            exact ih_lp h (i + 1) (u.2 3 (15 * i)) (mHarA u (u.2 3 (15 * i)) z) (by omega) (by omega) hC hF (by unfold kBest; rw [hkz, if_pos hk9]) (by unfold kBest; rw [hkz, if_pos hk9])
  refine gI_loc [0, 2, 1, 3] rfl ?_
  exact lp (z + 1) h 0 (-1) (nI 0) (by omega) (by omega) hC hF rfl rfl

set_option maxRecDepth 100000 in
set_option maxHeartbeats 4000000 in
theorem p_best (G : gG) (h_0 : gH) (c : Nat → Nat) (Λ : CL) (u : MS) (T W z : Nat) (hC : cRep G h_0 c Λ u T W z) (o : mOk u T W z) : gMet yX6_best wsX6_best (gRm 7 1 6) G h_0 [.ref (c 0)] (kPo G h_0 c (cPhi Λ) (mBest u) "java/lang/IndexOutOfBoundsException" "java/lang/IndexOutOfBoundsException" 1 6) := by
  refine gMet_of (maxL := 1) (ret := (some .int)) (by decide) rfl (Nat.le_of_ble_eq_true rfl) ?_
  intro X hG hnL hB hE
  subst hG
  suffices go : ∀ h : gH, h = h_0 → gW X h 0 0 0 [(0, .ref (c 0))] [] from go h_0 rfl
  intro h eh
  rw [← eh] at hC
  have hT := o.2.1
  have hW60 := o.2.2.2.1
  have hz200 := o.2.2.2.2.2.1
  have ez := o.2.2.2.2.1
  have eW := o.2.2.1
  have eT := o.1
  have hz3 : z ≤ cLen Λ 3 := hC.2.2.2.2.1.2.2.1
  have hl200 : cLen Λ 3 ≤ 200 := hC.2.2.2.2.1.2.2.2.1
  have hF : cFr h_0 h := by rw [eh]; exact cFr.rf
  have hkz : mKept u = z := by unfold mKept; rw [ez, mCl (by omega)]
  refine gI_aload_n hB 0 dX6_best_0 rfl ?_
  refine gI_get (v := .ref (c 2)) hB 2 hC.1 (C := RX6) (T := TX6) (N := 9) rfl (by decide +kernel) (by decide) (by decide +kernel) (fun _ h9 => h9) rfl dX6_best_1 ?_
  refine gI_callV (n9 := 0) (As := []) (rest := []) hB (k_bestTick X.2.1 h c Λ u T W z hC o) (gCW.of ggX6_best_X3_bestTick rfl ⟨by decide, by decide, by decide +kernel⟩ ⟨Nat.le_of_ble_eq_true rfl, Nat.le_of_ble_eq_true rfl⟩) (by decide +kernel) (by decide +kernel) (by decide +kernel) (by decide +kernel) hC.2.2.1 (C := RX3) (T := TX3) (N := 4) rfl rfl rfl (Nat.le_of_ble_eq_true rfl) (by first | exact Nat.le_of_ble_eq_true rfl | (dsimp only [gRm]; omega)) (by first | exact Nat.le_of_ble_eq_true rfl | (dsimp only [gRm]; omega)) dX6_best_4 (fun v9 h k9 n9 hp => ?_) (fun E9 h1 k1 n1 hp => by cases hp.1)
  obtain ⟨e9, hC, hF9, rfl, rfl⟩ := hp
  cases e9
  have hF := hF.trans hF9
  refine gI_iret hB hE dX6_best_7 ?_
  have es : mBest u = (sg u 0 (nI 0), (mBestL u z).1) := by unfold mBest; rw [hkz]
  exact kPo.wr hC hF (by rw [es]) (by rw [es]; exact o.tab rfl rfl rfl rfl (fun _ _ ot => ot) rfl rfl) (by rw [es]; rfl) (fun q9 => by rw [es]; exact q9.cg rfl rfl rfl rfl rfl rfl rfl (fun _ _ _ _ => rfl) (fun _ _ => rfl) rfl (fun _ _ _ _ => rfl) rfl o.ring4) rfl (by omega) (by omega)

set_option maxRecDepth 100000 in
set_option maxHeartbeats 4000000 in
theorem p_sounds (G : gG) (h_0 : gH) (c : Nat → Nat) (Λ : CL) (u : MS) (T W z : Nat) (hC : cRep G h_0 c Λ u T W z) (o : mOk u T W z) (x q : Int32) : gMet yX6_sounds wsX6_sounds (gRm 6 1 6) G h_0 [.ref (c 0), .int x, .int q] (kPo G h_0 c (cPhi Λ) (mSounds u x q) "java/lang/IllegalArgumentException" "java/lang/IndexOutOfBoundsException" 1 6) := by
  refine gMet_of (maxL := 3) (ret := (some .int)) (by decide) rfl (Nat.le_of_ble_eq_true rfl) ?_
  intro X hG hnL hB hE
  subst hG
  suffices go : ∀ h : gH, h = h_0 → gW X h 0 0 0 [(0, .ref (c 0)), (1, .int x), (2, .int q)] [] from go h_0 rfl
  intro h eh
  rw [← eh] at hC
  have hT := o.2.1
  have hW60 := o.2.2.2.1
  have hz200 := o.2.2.2.2.2.1
  have ez := o.2.2.2.2.1
  have eW := o.2.2.1
  have eT := o.1
  have hz3 : z ≤ cLen Λ 3 := hC.2.2.2.2.1.2.2.1
  have hl200 : cLen Λ 3 ≤ 200 := hC.2.2.2.2.1.2.2.2.1
  have hF : cFr h_0 h := by rw [eh]; exact cFr.rf
  have hkz : mKept u = z := by unfold mKept; rw [ez, mCl (by omega)]
  refine gI_iload_n hB 1 dX6_sounds_0 rfl ?_
  refine gI_if_ge hB 12 dX6_sounds_1 (by decide) (fun c1_1 => ?_) (fun c1_1 => ?_)
  · skip
    have hx9 : ¬ x < 0 := Int32.not_lt.mpr c1_1
    refine gI_iload_n hB 2 dX6_sounds_12 rfl ?_
    refine gI_iconst (v := nI 0) hB dX6_sounds_13 (by decide) ?_
    refine gI_iconst (v := nI 3) hB dX6_sounds_14 (by decide) ?_
    refine gI_pureS (n9 := 3) (As := [.int q, .int (nI 0), .int (nI 3)]) (rest := []) hB (k_isOutside X.2.1 h q (nI 0) (nI 3)) (gCW.of ggX6_sounds_X6_isOutside rfl ⟨by decide, by decide, by decide +kernel⟩ ⟨Nat.le_of_ble_eq_true rfl, Nat.le_of_ble_eq_true rfl⟩) (Or.inl (by decide +kernel)) (by decide +kernel) (by decide +kernel) rfl rfl (Nat.le_of_ble_eq_true rfl) (by first | exact Nat.le_of_ble_eq_true rfl | (dsimp only [gRm]; omega)) (by first | exact Nat.le_of_ble_eq_true rfl | (dsimp only [gRm]; omega)) dX6_sounds_15 ?_
    refine gI_if_eq hB 29 dX6_sounds_18 (by decide) (fun c18_2 => ?_) (fun c18_2 => ?_)
    · skip
      have c18_2 := gbi_0.mp c18_2
      have hl9 := c18_2
      have hl9 := Decidable.not_not.mp hl9
      obtain ⟨i, hi, ei⟩ := mIn_lit (by omega) hl9
      subst ei
      refine gI_iload_n hB 2 dX6_sounds_29 rfl ?_
      rcases (show i = 0 ∨ i = 1 ∨ i = 2 ∨ i = 3 by omega) with rfl | rfl | rfl | rfl
      · skip
        refine gI_tableIn hB 56 dX6_sounds_30 (by decide) (by decide) rfl (by decide) ?_
        refine gI_aload_n hB 0 dX6_sounds_56 rfl ?_
        refine gI_get (v := .ref (c 2)) hB 2 hC.1 (C := RX6) (T := TX6) (N := 9) rfl (by decide +kernel) (by decide) (by decide +kernel) (fun _ h9 => h9) rfl dX6_sounds_57 ?_
        refine gI_iload_n hB 1 dX6_sounds_60 rfl ?_
        refine gI_pureV (n9 := 1) (As := [.int x]) (rest := []) hB (k_sounding X.2.1 h c Λ u T W z hC o x) (gCW.of ggX6_sounds_X3_soundingAt rfl ⟨by decide, by decide, by decide +kernel⟩ ⟨Nat.le_of_ble_eq_true rfl, Nat.le_of_ble_eq_true rfl⟩) (by decide +kernel) (by decide +kernel) (by decide +kernel) (by decide +kernel) hC.2.2.1 (C := RX3) (T := TX3) (N := 4) rfl rfl rfl (Nat.le_of_ble_eq_true rfl) (by first | exact Nat.le_of_ble_eq_true rfl | (dsimp only [gRm]; omega)) (by first | exact Nat.le_of_ble_eq_true rfl | (dsimp only [gRm]; omega)) dX6_sounds_61 ?_
        refine gI_iret hB hE dX6_sounds_64 ?_
        have es : mSounds u x (nI 0) = (sg u 0 (nI 0), (nI (mSnM u x z))) := by unfold mSounds; rw [if_neg hx9, if_pos hl9, hkz, if_neg (nI_neq (a := 0) (b := 3) (by omega) (by omega) (by omega)), if_pos (show nI 0 = 0 from rfl)]
        exact kPo.wr hC hF (by rw [es]) (by rw [es]; exact o.tab rfl rfl rfl rfl (fun _ _ ot => ot) rfl rfl) (by rw [es]; rfl) (fun q9 => by rw [es]; exact q9.cg rfl rfl rfl rfl rfl rfl rfl (fun _ _ _ _ => rfl) (fun _ _ => rfl) rfl (fun _ _ _ _ => rfl) rfl o.ring4) rfl (by omega) (by omega)
      · skip
        refine gI_tableIn hB 65 dX6_sounds_30 (by decide) (by decide) rfl (by decide) ?_
        refine gI_aload_n hB 0 dX6_sounds_65 rfl ?_
        refine gI_get (v := .ref (c 2)) hB 2 hC.1 (C := RX6) (T := TX6) (N := 9) rfl (by decide +kernel) (by decide) (by decide +kernel) (fun _ h9 => h9) rfl dX6_sounds_66 ?_
        refine gI_iload_n hB 1 dX6_sounds_69 rfl ?_
        refine gI_pureV (n9 := 1) (As := [.int x]) (rest := []) hB (k_least X.2.1 h c Λ u T W z hC o x) (gCW.of ggX6_sounds_X3_leastNoteAt rfl ⟨by decide, by decide, by decide +kernel⟩ ⟨Nat.le_of_ble_eq_true rfl, Nat.le_of_ble_eq_true rfl⟩) (by decide +kernel) (by decide +kernel) (by decide +kernel) (by decide +kernel) hC.2.2.1 (C := RX3) (T := TX3) (N := 4) rfl rfl rfl (Nat.le_of_ble_eq_true rfl) (by first | exact Nat.le_of_ble_eq_true rfl | (dsimp only [gRm]; omega)) (by first | exact Nat.le_of_ble_eq_true rfl | (dsimp only [gRm]; omega)) dX6_sounds_70 ?_
        refine gI_iret hB hE dX6_sounds_73 ?_
        have es : mSounds u x (nI 1) = (sg u 0 (nI 0), (mSnL u x z)) := by unfold mSounds; rw [if_neg hx9, if_pos hl9, hkz, if_neg (nI_neq (a := 1) (b := 3) (by omega) (by omega) (by omega)), if_neg (show ¬ nI 1 = 0 from (nI_neq (a := 1) (b := 0) (by omega) (by omega) (by omega))), if_pos rfl]
        exact kPo.wr hC hF (by rw [es]) (by rw [es]; exact o.tab rfl rfl rfl rfl (fun _ _ ot => ot) rfl rfl) (by rw [es]; rfl) (fun q9 => by rw [es]; exact q9.cg rfl rfl rfl rfl rfl rfl rfl (fun _ _ _ _ => rfl) (fun _ _ => rfl) rfl (fun _ _ _ _ => rfl) rfl o.ring4) rfl (by omega) (by omega)
      · skip
        refine gI_tableIn hB 74 dX6_sounds_30 (by decide) (by decide) rfl (by decide) ?_
        refine gI_aload_n hB 0 dX6_sounds_74 rfl ?_
        refine gI_get (v := .ref (c 2)) hB 2 hC.1 (C := RX6) (T := TX6) (N := 9) rfl (by decide +kernel) (by decide) (by decide +kernel) (fun _ h9 => h9) rfl dX6_sounds_75 ?_
        refine gI_iload_n hB 1 dX6_sounds_78 rfl ?_
        refine gI_pureV (n9 := 1) (As := [.int x]) (rest := []) hB (k_greatest X.2.1 h c Λ u T W z hC o x) (gCW.of ggX6_sounds_X3_greatestNoteAt rfl ⟨by decide, by decide, by decide +kernel⟩ ⟨Nat.le_of_ble_eq_true rfl, Nat.le_of_ble_eq_true rfl⟩) (by decide +kernel) (by decide +kernel) (by decide +kernel) (by decide +kernel) hC.2.2.1 (C := RX3) (T := TX3) (N := 4) rfl rfl rfl (Nat.le_of_ble_eq_true rfl) (by first | exact Nat.le_of_ble_eq_true rfl | (dsimp only [gRm]; omega)) (by first | exact Nat.le_of_ble_eq_true rfl | (dsimp only [gRm]; omega)) dX6_sounds_79 ?_
        refine gI_iret hB hE dX6_sounds_82 ?_
        have es : mSounds u x (nI 2) = (sg u 0 (nI 0), (mSnG u x z)) := by unfold mSounds; rw [if_neg hx9, if_pos hl9, hkz, if_neg (nI_neq (a := 2) (b := 3) (by omega) (by omega) (by omega)), if_neg (show ¬ nI 2 = 0 from (nI_neq (a := 2) (b := 0) (by omega) (by omega) (by omega))), if_neg (nI_neq (a := 2) (b := 1) (by omega) (by omega) (by omega))]
        exact kPo.wr hC hF (by rw [es]) (by rw [es]; exact o.tab rfl rfl rfl rfl (fun _ _ ot => ot) rfl rfl) (by rw [es]; rfl) (fun q9 => by rw [es]; exact q9.cg rfl rfl rfl rfl rfl rfl rfl (fun _ _ _ _ => rfl) (fun _ _ => rfl) rfl (fun _ _ _ _ => rfl) rfl o.ring4) rfl (by omega) (by omega)
      · skip
        refine gI_tableOut hB 83 dX6_sounds_30 (by decide) (by decide) ?_
        refine gI_aload_n hB 0 dX6_sounds_83 rfl ?_
        refine gI_get (v := .ref (c 2)) hB 2 hC.1 (C := RX6) (T := TX6) (N := 9) rfl (by decide +kernel) (by decide) (by decide +kernel) (fun _ h9 => h9) rfl dX6_sounds_84 ?_
        refine gI_iload_n hB 1 dX6_sounds_87 rfl ?_
        refine gI_callV (n9 := 1) (As := [.int x]) (rest := []) hB (k_harmony X.2.1 h c Λ u T W z hC o x) (gCW.of ggX6_sounds_X3_harmonyAt rfl ⟨by decide, by decide, by decide +kernel⟩ ⟨Nat.le_of_ble_eq_true rfl, Nat.le_of_ble_eq_true rfl⟩) (by decide +kernel) (by decide +kernel) (by decide +kernel) (by decide +kernel) hC.2.2.1 (C := RX3) (T := TX3) (N := 4) rfl rfl rfl (Nat.le_of_ble_eq_true rfl) (by first | exact Nat.le_of_ble_eq_true rfl | (dsimp only [gRm]; omega)) (by first | exact Nat.le_of_ble_eq_true rfl | (dsimp only [gRm]; omega)) dX6_sounds_88 (fun v9 h k9 n9 hp => ?_) (fun E9 h1 k1 n1 hp => by cases hp.1)
        obtain ⟨e9, hC, hF9, rfl, rfl⟩ := hp
        cases e9
        have hF := hF.trans hF9
        refine gI_iret hB hE dX6_sounds_91 ?_
        have es : mSounds u x (nI 3) = (sg u 0 (nI 0), (mHarA u x z)) := by unfold mSounds; rw [if_neg hx9, if_pos hl9, hkz, if_pos rfl]
        exact kPo.wr hC hF (by rw [es]) (by rw [es]; exact o.tab rfl rfl rfl rfl (fun _ _ ot => ot) rfl rfl) (by rw [es]; rfl) (fun q9 => by rw [es]; exact q9.cg rfl rfl rfl rfl rfl rfl rfl (fun _ _ _ _ => rfl) (fun _ _ => rfl) rfl (fun _ _ _ _ => rfl) rfl o.ring4) rfl (by omega) (by omega)
    · skip
      have c18_2 := gbi_n0 c18_2
      refine gI_throw hB hE (cls := "java/lang/IndexOutOfBoundsException") (names := ["java/lang/RuntimeException", "java/lang/Exception"]) (ik := 92) (ic := 94) (by decide +kernel) (by decide +kernel) (by decide +kernel) (by decide +kernel) (by decide +kernel) (by decide +kernel) (by decide +kernel) dX6_sounds_21 dX6_sounds_24 dX6_sounds_25 dX6_sounds_28 (Nat.le_of_ble_eq_true rfl) (Nat.le_of_ble_eq_true rfl) (by first | exact Nat.le_of_ble_eq_true rfl | (dsimp only [gRm]; omega)) (by first | exact Nat.le_of_ble_eq_true rfl | (dsimp only [gRm]; omega)) ?_
      exact eh ▸ kPo.err2 hC o (by unfold mSounds; rw [if_neg hx9, if_neg c18_2]) (by omega) (by omega)
  · skip
    refine gI_throw hB hE (cls := "java/lang/IllegalArgumentException") (names := ["java/lang/RuntimeException", "java/lang/Exception"]) (ik := 45) (ic := 47) (by decide +kernel) (by decide +kernel) (by decide +kernel) (by decide +kernel) (by decide +kernel) (by decide +kernel) (by decide +kernel) dX6_sounds_4 dX6_sounds_7 dX6_sounds_8 dX6_sounds_11 (Nat.le_of_ble_eq_true rfl) (Nat.le_of_ble_eq_true rfl) (by first | exact Nat.le_of_ble_eq_true rfl | (dsimp only [gRm]; omega)) (by first | exact Nat.le_of_ble_eq_true rfl | (dsimp only [gRm]; omega)) ?_
    exact eh ▸ kPo.err1 hC o (by unfold mSounds; rw [if_pos (Int32.not_le.mp c1_1)]) (by omega) (by omega)

