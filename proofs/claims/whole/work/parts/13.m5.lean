section GMath
variable {X : gX} {R : Room} {cc : ByteArray} {Ts : List Cond} {own : String} {h : gH} {k n pc : Nat} {lc : List (Nat × Value)} {st : List Value}
theorem gI_mmax (hB : gB X R cc Ts own) {index : Nat} {x y : Int32} (hlink : Cond.methodLink own index Lib.Math.max.name ∈ Ts) (hstat : Cond.static Lib.Math.max.name ∈ Ts) (hini : Cond.initialized "java/lang/Math" ∈ Ts) (hcode : Cond.code Lib.Math.max.name Lib.Math.max.code 2 (some .int) ∈ Ts)
    (hf : 1 ≤ R.frames) (hlo : (st.map fun v => v.category).sum + 13 ≤ R.locals) (hk : k ≤ R.cells) (hn : n ≤ R.slots) (hd : decode cc pc = .ok (.invokestatic index, 3))
    (kk : gW X h k n (pc + 3) lc (.int (if x < y then y else x) :: st)) : gW X h k n pc lc (.int y :: .int x :: st) := by
  obtain ⟨⟨p, l, e, R0, s, m, args, below, meth, c⟩, ⟨G, A, nL, Q⟩⟩ := X
  obtain ⟨⟨hx, hb, hml, hown, hts⟩, hK, hZ, hA, hlk, hlt, hR⟩ := hB
  subst hR
  intro H locs ls hP hD hS hls
  exact va_mmax hx hb (hml.trans hls.1.symm) hown (hts _ hlink) (hts _ hstat) (hts _ hini) (hts _ hcode) hf hlo hk hn hd (kk H locs ls hP hD hS hls)
theorem gI_mmin (hB : gB X R cc Ts own) {index : Nat} {x y : Int32} (hlink : Cond.methodLink own index Lib.Math.min.name ∈ Ts) (hstat : Cond.static Lib.Math.min.name ∈ Ts) (hini : Cond.initialized "java/lang/Math" ∈ Ts) (hcode : Cond.code Lib.Math.min.name Lib.Math.min.code 2 (some .int) ∈ Ts)
    (hf : 1 ≤ R.frames) (hlo : (st.map fun v => v.category).sum + 13 ≤ R.locals) (hk : k ≤ R.cells) (hn : n ≤ R.slots) (hd : decode cc pc = .ok (.invokestatic index, 3))
    (kk : gW X h k n (pc + 3) lc (.int (if y < x then y else x) :: st)) : gW X h k n pc lc (.int y :: .int x :: st) := by
  obtain ⟨⟨p, l, e, R0, s, m, args, below, meth, c⟩, ⟨G, A, nL, Q⟩⟩ := X
  obtain ⟨⟨hx, hb, hml, hown, hts⟩, hK, hZ, hA, hlk, hlt, hR⟩ := hB
  subst hR
  intro H locs ls hP hD hS hls
  exact va_mmin hx hb (hml.trans hls.1.symm) hown (hts _ hlink) (hts _ hstat) (hts _ hini) (hts _ hcode) hf hlo hk hn hd (kk H locs ls hP hD hS hls)
theorem gI_mabs (hB : gB X R cc Ts own) {index : Nat} {x : Int32} (hlink : Cond.methodLink own index Lib.Math.abs.name ∈ Ts) (hstat : Cond.static Lib.Math.abs.name ∈ Ts) (hini : Cond.initialized "java/lang/Math" ∈ Ts) (hcode : Cond.code Lib.Math.abs.name Lib.Math.abs.code 1 (some .int) ∈ Ts)
    (hf : 1 ≤ R.frames) (hlo : (st.map fun v => v.category).sum + 13 ≤ R.locals) (hk : k ≤ R.cells) (hn : n ≤ R.slots) (hd : decode cc pc = .ok (.invokestatic index, 3))
    (kk : gW X h k n (pc + 3) lc (.int (if 0 ≤ x then x else 0 - x) :: st)) : gW X h k n pc lc (.int x :: st) := by
  obtain ⟨⟨p, l, e, R0, s, m, args, below, meth, c⟩, ⟨G, A, nL, Q⟩⟩ := X
  obtain ⟨⟨hx, hb, hml, hown, hts⟩, hK, hZ, hA, hlk, hlt, hR⟩ := hB
  subst hR
  intro H locs ls hP hD hS hls
  exact va_mabs hx hb (hml.trans hls.1.symm) hown (hts _ hlink) (hts _ hstat) (hts _ hini) (hts _ hcode) hf hlo hk hn hd (kk H locs ls hP hD hS hls)
end GMath
/-- as gMet_of, for a member of a class that the machine has entries for -/
theorem gMet_ofF {y : MethodName} {ws ws' : List Cond} {rm : Room} {G : gG} {h : gH} {av : List Value} {Po : gPo} {cc : ByteArray} {maxL : Nat} {ret : Option FieldType}
    (hy : plainFor y = true) (hw : ws = Cond.code y cc maxL ret :: ws') (hlen : (lg_sl av).length ≤ maxL)
    (body : ∀ X : gX, X.2.1 = G → gnL X = maxL → gB X rm cc ws y.cls → gE X Po ret [] y.name → gW X h 0 0 0 (lv_args 0 av) []) : gMet y ws rm G h av Po := by
  intro l hl sz
  refine MetFree.of_bodySF (code := cc) (maxLocals := maxL) (ret := ret) hy ?_ ?_
  · intro args s m h hn
    obtain ⟨meth, c, h1, h2, h3, h4, h5, h6, -, -⟩ := Cond.code_spec hn (atoms_spec (ws := ws) h _ (by rw [hw]; exact List.mem_cons_self))
    exact ⟨meth, c, h1, h2, h3, h4, h5, h6⟩
  · intro p e s m args below meth c s₁ B hml hP _
    obtain ⟨rfl, hsz, hPw, hDw, hK, hZ⟩ := hP
    subst hsz
    have hh0 : s₁.heap = s.heap := by rw [B.state]; rfl
    have ht : c.exceptionTable.toList = [] := by
      obtain ⟨meth9, c9, h1, h2, -, -, -, -, h7, -⟩ := Cond.code_spec B.named (atoms_spec (ws := ws) B.pre _ (by rw [hw]; exact List.mem_cons_self))
      cases Option.some.inj (h1.symm.trans B.method)
      cases Option.some.inj (h2.symm.trans (Stand.of_body B).code)
      rw [Array.isEmpty_iff.mp h7]
    have hts := atoms_spec (ws := ws) B.pre
    have hown : s.vm.findClass y.cls = some m.cls := findClass_of_methodNamed B.named
    have hnm : meth.name = y.name := (name_of_methodNamed B.named B.method).1
    have hb := body ((p, l, e, (headSpec ws rm).room, s, m, av.toArray, below, meth, c), (G, va_A (gw h) s.heap.size, maxL, gMQ below G (va_A (gw h) s.heap.size) Po s)) rfl rfl
      ⟨⟨B.exec, B.bytes, hml, hown, hts⟩, hK, hZ, fun q hq => Or.inr hq, B.notSynchronized, hl, rfl⟩ ⟨rfl, B.returns, ht, hnm⟩
    have hls := lv_entry av (n := maxL) hlen
    have h9 := hb s.heap [] _ hPw hDw.self va_S.rf hls
    rw [← lg_entry_eq (m := m)] at h9
    obtain ⟨t, a1, o, b1, b2, b3⟩ := h9 s₁ hh0 (Stand.of_body B)
    exact ⟨t, o, a1, b1, b2, b3⟩
/-- Math.floorMod -/
def gFm (x y : Int32) : Int32 := if 0 ≤ x ^^^ y then x - x / y * y else if x - x / y * y = 0 then x - x / y * y else x - x / y * y + y

set_option maxRecDepth 100000 in
set_option maxHeartbeats 4000000 in
theorem c_floorMod (G : gG) (h : gH) (x y : Int32) (hy : ¬ y = 0) : gMet yJ9_floorMod_7cf53 wsJ9_floorMod_7cf53 (gRm 1 0 0) G h [.int x, .int y] (gRet h (some (.int (gFm x y)))) := by
  refine gMet_ofF (maxL := 3) (ret := (some .int)) (by decide +kernel) rfl (Nat.le_of_ble_eq_true rfl) ?_
  intro X hG hnL hB hE
  subst hG
  change gW X h 0 0 0 [(0, .int x), (1, .int y)] []
  refine gI_iload_n hB 0 dJ9_floorMod_7cf53_0 rfl ?_
  refine gI_iload_n hB 1 dJ9_floorMod_7cf53_1 rfl ?_
  refine gI_irem hB dJ9_floorMod_7cf53_2 hy ?_
  refine gI_istore_n hB ([(2, .int (x - x / y * y)), (0, .int x), (1, .int y)]) hnL dJ9_floorMod_7cf53_3 (by decide) rfl ?_
  refine gI_iload_n hB 1 dJ9_floorMod_7cf53_4 rfl ?_
  refine gI_iload_n hB 2 dJ9_floorMod_7cf53_5 rfl ?_
  refine gI_ixor hB dJ9_floorMod_7cf53_6 ?_
  refine gI_if_ge hB 18 dJ9_floorMod_7cf53_7 (by decide) (fun c7_1 => ?_) (fun c7_1 => ?_)
  · skip
    refine gI_iload_n hB 0 dJ9_floorMod_7cf53_18 rfl ?_
    refine gI_iret hB hE dJ9_floorMod_7cf53_19 ?_
    exact ⟨by unfold gFm; rw [if_pos c7_1], rfl, rfl, rfl⟩
  · skip
    refine gI_iload_n hB 0 dJ9_floorMod_7cf53_10 rfl ?_
    refine gI_if_eq hB 18 dJ9_floorMod_7cf53_11 (by decide) (fun c11_2 => ?_) (fun c11_2 => ?_)
    · skip
      refine gI_iload_n hB 0 dJ9_floorMod_7cf53_18 rfl ?_
      refine gI_iret hB hE dJ9_floorMod_7cf53_19 ?_
      exact ⟨by unfold gFm; rw [if_neg c7_1, if_pos c11_2], rfl, rfl, rfl⟩
    · skip
      refine gI_iload_n hB 0 dJ9_floorMod_7cf53_14 rfl ?_
      refine gI_iload_n hB 2 dJ9_floorMod_7cf53_15 rfl ?_
      refine gI_iadd hB dJ9_floorMod_7cf53_16 ?_
      refine gI_iret hB hE dJ9_floorMod_7cf53_17 ?_
      exact ⟨by unfold gFm; rw [if_neg c7_1, if_neg c11_2], rfl, rfl, rfl⟩

/-- what a run of the reference may have cost, by the notes that it kept -/
def mC (u u' : MS) (k n : Nat) : Prop := ∃ z z', u.1 12 = nI z ∧ u'.1 12 = nI z' ∧ z ≤ z' ∧ z' ≤ 200 ∧ k ≤ z' - z ∧ n ≤ 6 * (z' - z)
theorem mC.rf {u u' : MS} {z : Nat} (e : u.1 12 = nI z) (hz : z ≤ 200) (e' : u'.1 12 = u.1 12) : mC u u' 0 0 := ⟨z, z, e, e'.trans e, Nat.le_refl _, hz, Nat.zero_le _, Nat.zero_le _⟩
theorem mC.trans {u1 u2 u3 : MS} {k n k' n' : Nat} (a : mC u1 u2 k n) (b : mC u2 u3 k' n') : mC u1 u3 (k + k') (n + n') := by
  obtain ⟨z1, z2, e1, e2, l1, l2, c1, c2⟩ := a
  obtain ⟨y2, z3, f2, f3, m1, m2, d1, d2⟩ := b
  have : z2 = y2 := (nI_eq (by omega) (by omega)).mp (e2.symm.trans f2)
  subst this
  exact ⟨z1, z3, e1, f3, by omega, m2, by omega, by omega⟩
def mStC (ov : Option Value) (u0 u1 : MS) : gR → MS → Nat → Nat → Prop := fun r u' k n => r = .inl ov ∧ u' = u1 ∧ mC u0 u1 k n
theorem mStC.no {ov : Option Value} {u0 u1 : MS} : ∀ E u' k n, ¬ mStC ov u0 u1 (.inr E) u' k n := fun _ _ _ _ h => by cases h.1
def m6 (x0 x1 x2 x3 x4 x5 : Int32) : Nat → Int32 := upd (upd (upd (upd (upd (upd (fun _ => 0) 0 x0) 1 x1) 2 x2) 3 x3) 4 x4) 5 x5
def mSing0 (u : MS) (t : Nat) : MS := sa (sg u 10 (u.1 10 + nI 1)) 0 (upd (u.2 0) (7 * t + 5) (u.2 0 (7 * t + 5) + nI 1))
/-- the tenant at whom the ring in hand is sings -/
def mSing (u : MS) (t : Nat) (len : Int32) : MS :=
  if u.1 12 = nI 200 then mSing0 u t
  else sg (sa (mSing0 u t) 3 (va_cpy (u.2 4) (va_cpy (m6 (u.1 1) len (gFm ((mSing0 u t).2 0 (7 * t + 0) + u.2 4 3) (nI 88)) (nI t) (u.2 4 4) (u.2 4 2)) (u.2 3) 0 (15 * (u.1 12).toNatClampNeg) 6) 5 (15 * (u.1 12).toNatClampNeg + 6) 9)) 12 (nI ((u.1 12).toNatClampNeg + 1))

set_option maxRecDepth 100000 in
set_option maxHeartbeats 4000000 in
theorem c_sing (G : gG) (h : gH) (a : Nat → Nat) (u : MS) (hM : mRep G h a u) (t z : Nat) (len : Int32) (et : u.2 4 1 = nI t) (ht : t < 16) (ez : u.1 12 = nI z) (hz : z ≤ 200) : gMet yX7_sing wsX7_sing (gRm 2 1 6) G h [.ref (a 0), .ref (a 5), .int len] (mPo G h a (mStC none u (mSing u t len))) := by
  refine gMet_of (maxL := 5) (ret := none) (by decide) rfl (Nat.le_of_ble_eq_true rfl) ?_
  intro X hG hnL hB hE
  subst hG
  change gW X h 0 0 0 [(0, .ref (a 0)), (1, .ref (a 5)), (2, .int len)] []
  have hF : mFr h h := mFr.rf
  refine gI_aload_n hB 1 dX7_sing_0 rfl ?_
  refine gI_iconst (v := nI 1) hB dX7_sing_1 (by decide) ?_
  refine gM_ald hB hM 4 (by decide) 1 rfl (show 1 < 14 by omega) dX7_sing_2 ?_
  refine gI_topi hB (y := nI t) et ?_
  refine gI_istore_n hB ([(3, .int (nI t)), (0, .ref (a 0)), (1, .ref (a 5)), (2, .int len)]) hnL dX7_sing_3 (by decide) rfl ?_
  refine gI_aload_n hB 1 dX7_sing_4 rfl ?_
  refine gI_dup hB dX7_sing_5 rfl ?_
  refine gM_get hB hM 10 (v := .int (u.1 10)) (by decide +kernel) (by decide) (by decide +kernel) rfl rfl dX7_sing_6 ?_
  refine gI_iconst (v := nI 1) hB dX7_sing_9 (by decide) ?_
  refine gI_iadd hB dX7_sing_10 ?_
  refine gM_put hB hM hF 10 (sg u 10 ((u.1 10) + (nI 1))) (by decide +kernel) (by decide) (by decide +kernel) rfl rfl rfl rfl rfl rfl dX7_sing_11 (fun h hM hF => ?_)
  refine gI_aload_n hB 1 dX7_sing_14 rfl ?_
  refine gI_iload_n hB 0 dX7_sing_15 rfl ?_
  refine gI_iconst (v := nI 5) hB dX7_sing_16 (by decide) ?_
  refine gI_aload_n hB 1 dX7_sing_17 rfl ?_
  refine gI_iload_n hB 0 dX7_sing_18 rfl ?_
  refine gI_iconst (v := nI 5) hB dX7_sing_19 (by decide) ?_
  refine gM_pure (n9 := 2) (As := [.int (nI t), .int (nI 5)]) (rest := [.int (nI 5), .int (nI t), .ref (a 0)]) hB hM (c_get X.2.1 h a (sg u 10 ((u.1 10) + (nI 1))) hM t 5 (by omega) (by omega)) (gCW.of ggX7_sing_X7_get rfl ⟨by decide, by decide, by decide +kernel⟩ ⟨Nat.le_of_ble_eq_true rfl, Nat.le_of_ble_eq_true rfl⟩) (by decide +kernel) (by decide +kernel) (by decide +kernel) (by decide +kernel) rfl rfl (Nat.le_of_ble_eq_true rfl) (by first | exact Nat.le_of_ble_eq_true rfl | (dsimp only [gRm]; omega)) (by first | exact Nat.le_of_ble_eq_true rfl | (dsimp only [gRm]; omega)) dX7_sing_20 ?_
  refine gI_iconst (v := nI 1) hB dX7_sing_23 (by decide) ?_
  refine gI_iadd hB dX7_sing_24 ?_
  refine gM_call (n9 := 3) (As := [.int (nI t), .int (nI 5), .int ((u.2 0 (7 * t + 5)) + (nI 1))]) (rest := []) hB hM hF (c_set X.2.1 h a (sg u 10 ((u.1 10) + (nI 1))) hM t 5 ((u.2 0 (7 * t + 5)) + (nI 1)) (by omega) (by omega)) (gCW.of ggX7_sing_X7_set rfl ⟨by decide, by decide, by decide +kernel⟩ ⟨Nat.le_of_ble_eq_true rfl, Nat.le_of_ble_eq_true rfl⟩) (by decide +kernel) (by decide +kernel) (by decide +kernel) (by decide +kernel) rfl rfl (Nat.le_of_ble_eq_true rfl) (by first | exact Nat.le_of_ble_eq_true rfl | (dsimp only [gRm]; omega)) (by first | exact Nat.le_of_ble_eq_true rfl | (dsimp only [gRm]; omega)) mSt.no dX7_sing_25 (fun v9 h u9 k9 n9 hM hF hp => ?_)
  obtain ⟨e9, rfl, rfl, rfl⟩ := hp
  cases e9
  change gW X h (0) (0) _ [(3, .int (nI t)), (0, .ref (a 0)), (1, .ref (a 5)), (2, .int len)] []
  refine gI_aload_n hB 1 dX7_sing_28 rfl ?_
  refine gM_get hB hM 12 (v := .int (u.1 12)) (by decide +kernel) (by decide) (by decide +kernel) rfl rfl dX7_sing_29 ?_
  refine gI_topi hB (y := nI z) ez ?_
  refine gI_sipush (v := nI 200) hB dX7_sing_32 (by decide) ?_
  refine gI_icmp_ne hB 39 dX7_sing_35 (by decide) (fun c35_1 => ?_) (fun c35_1 => ?_)
  · skip
    have c35_1 := mt (nI_eq (by omega) (by omega)).mpr c35_1
    refine gI_bipush (v := nI 6) hB dX7_sing_39 (by decide) ?_
    refine gM_new hB hM hF 6 rfl (by decide) (by decide +kernel) (by first | exact Nat.le_of_ble_eq_true rfl | (dsimp only [gRm]; omega)) (by first | exact Nat.le_of_ble_eq_true rfl | (dsimp only [gRm]; omega)) dX7_sing_41 (fun q2 h hM hF hq2 => ?_)
    refine gI_dup hB dX7_sing_43 rfl ?_
    refine gI_iconst (v := nI 0) hB dX7_sing_44 (by decide) ?_
    refine gI_aload_n hB 1 dX7_sing_45 rfl ?_
    refine gM_get hB hM 1 (v := .int (u.1 1)) (by decide +kernel) (by decide) (by decide +kernel) rfl rfl dX7_sing_46 ?_
    refine gM_tast hB hM hF hq2 (by decide) 0 rfl (by decide) dX7_sing_49 (fun h hM hF hq2 => ?_)
    refine gI_dup hB dX7_sing_50 rfl ?_
    refine gI_iconst (v := nI 1) hB dX7_sing_51 (by decide) ?_
    refine gI_iload_n hB 3 dX7_sing_52 rfl ?_
    refine gM_tast hB hM hF hq2 (by decide) 1 rfl (by decide) dX7_sing_53 (fun h hM hF hq2 => ?_)
    refine gI_dup hB dX7_sing_54 rfl ?_
    refine gI_iconst (v := nI 2) hB dX7_sing_55 (by decide) ?_
    refine gI_aload_n hB 1 dX7_sing_56 rfl ?_
    refine gI_iload_n hB 0 dX7_sing_57 rfl ?_
    refine gI_iconst (v := nI 0) hB dX7_sing_58 (by decide) ?_
    refine gM_pure (n9 := 2) (As := [.int (nI t), .int (nI 0)]) (rest := [.int (nI 2), .ref q2, .ref q2]) hB hM (c_get X.2.1 h a (sa (sg u 10 ((u.1 10) + (nI 1))) 0 (upd (u.2 0) (7 * t + 5) ((u.2 0 (7 * t + 5)) + (nI 1)))) hM t 0 (by omega) (by omega)) (gCW.of ggX7_sing_X7_get rfl ⟨by decide, by decide, by decide +kernel⟩ ⟨Nat.le_of_ble_eq_true rfl, Nat.le_of_ble_eq_true rfl⟩) (by decide +kernel) (by decide +kernel) (by decide +kernel) (by decide +kernel) rfl rfl (Nat.le_of_ble_eq_true rfl) (by first | exact Nat.le_of_ble_eq_true rfl | (dsimp only [gRm]; omega)) (by first | exact Nat.le_of_ble_eq_true rfl | (dsimp only [gRm]; omega)) dX7_sing_59 ?_
    refine gI_aload_n hB 2 dX7_sing_62 rfl ?_
    refine gI_iconst (v := nI 3) hB dX7_sing_63 (by decide) ?_
    refine gM_ald hB hM 4 (by decide) 3 rfl (show 3 < 14 by omega) dX7_sing_64 ?_
    refine gI_iadd hB dX7_sing_65 ?_
    refine gI_bipush (v := nI 88) hB dX7_sing_66 (by decide) ?_
    refine gI_pureS (n9 := 2) (As := [.int (((upd (u.2 0) (7 * t + 5) ((u.2 0 (7 * t + 5)) + (nI 1))) (7 * t + 0)) + (u.2 4 3)), .int (nI 88)]) (rest := [.int (nI 2), .ref q2, .ref q2]) hB (c_floorMod X.2.1 h (((upd (u.2 0) (7 * t + 5) ((u.2 0 (7 * t + 5)) + (nI 1))) (7 * t + 0)) + (u.2 4 3)) (nI 88) (by decide)) (gCW.of ggX7_sing_J9_floorMod_7cf53 rfl ⟨by decide, by decide, by decide +kernel⟩ ⟨Nat.le_of_ble_eq_true rfl, Nat.le_of_ble_eq_true rfl⟩) (Or.inl (by decide +kernel)) (by decide +kernel) (by decide +kernel) rfl rfl (Nat.le_of_ble_eq_true rfl) (by first | exact Nat.le_of_ble_eq_true rfl | (dsimp only [gRm]; omega)) (by first | exact Nat.le_of_ble_eq_true rfl | (dsimp only [gRm]; omega)) dX7_sing_68 ?_
    refine gM_tast hB hM hF hq2 (by decide) 2 rfl (by decide) dX7_sing_71 (fun h hM hF hq2 => ?_)
    refine gI_dup hB dX7_sing_72 rfl ?_
    refine gI_iconst (v := nI 3) hB dX7_sing_73 (by decide) ?_
    refine gI_iload_n hB 0 dX7_sing_74 rfl ?_
    refine gM_tast hB hM hF hq2 (by decide) 3 rfl (by decide) dX7_sing_75 (fun h hM hF hq2 => ?_)
    refine gI_dup hB dX7_sing_76 rfl ?_
    refine gI_iconst (v := nI 4) hB dX7_sing_77 (by decide) ?_
    refine gI_aload_n hB 2 dX7_sing_78 rfl ?_
    refine gI_iconst (v := nI 4) hB dX7_sing_79 (by decide) ?_
    refine gM_ald hB hM 4 (by decide) 4 rfl (show 4 < 14 by omega) dX7_sing_80 ?_
    refine gM_tast hB hM hF hq2 (by decide) 4 rfl (by decide) dX7_sing_81 (fun h hM hF hq2 => ?_)
    refine gI_dup hB dX7_sing_82 rfl ?_
    refine gI_iconst (v := nI 5) hB dX7_sing_83 (by decide) ?_
    refine gI_aload_n hB 2 dX7_sing_84 rfl ?_
    refine gI_iconst (v := nI 2) hB dX7_sing_85 (by decide) ?_
    refine gM_ald hB hM 4 (by decide) 2 rfl (show 2 < 14 by omega) dX7_sing_86 ?_
    refine gM_tast hB hM hF hq2 (by decide) 5 rfl (by decide) dX7_sing_87 (fun h hM hF hq2 => ?_)
    refine gI_astore hB ([(4, .ref q2), (3, .int (nI t)), (0, .ref (a 0)), (1, .ref (a 5)), (2, .int len)]) hnL dX7_sing_88 (by decide) rfl ?_
    refine gI_aload hB 0 dX7_sing_90 rfl ?_
    refine gI_iconst (v := nI 0) hB dX7_sing_92 (by decide) ?_
    refine gI_aload_n hB 2 dX7_sing_93 rfl ?_
    refine gM_get hB hM 13 (v := .ref (a 4)) (by decide +kernel) (by decide) (by decide +kernel) rfl rfl dX7_sing_94 ?_
    refine gI_bipush (v := nI 15) hB dX7_sing_97 (by decide) ?_
    refine gI_aload_n hB 2 dX7_sing_99 rfl ?_
    refine gM_get hB hM 12 (v := .int (u.1 12)) (by decide +kernel) (by decide) (by decide +kernel) rfl rfl dX7_sing_100 ?_
    refine gI_topi hB (y := nI z) ez ?_
    refine gI_imulN hB dX7_sing_103 ?_
    refine gI_bipush (v := nI 6) hB dX7_sing_104 (by decide) ?_
    refine gM_copyT hB hM hF 3 (by decide) hq2 (by decide) 0 (15 * z) 6 rfl rfl rfl (by decide +kernel) (by decide +kernel) (by decide +kernel) (by decide +kernel) (show 0 + 6 ≤ 6 by omega) (show (15 * z) + 6 ≤ 3000 by omega) (Nat.le_of_ble_eq_true rfl) (Nat.le_of_ble_eq_true rfl) dX7_sing_106 (fun h hM hF => ?_)
    refine gI_aload_n hB 3 dX7_sing_109 rfl ?_
    refine gI_iconst (v := nI 5) hB dX7_sing_110 (by decide) ?_
    refine gI_aload_n hB 2 dX7_sing_111 rfl ?_
    refine gM_get hB hM 13 (v := .ref (a 4)) (by decide +kernel) (by decide) (by decide +kernel) rfl rfl dX7_sing_112 ?_
    refine gI_bipush (v := nI 15) hB dX7_sing_115 (by decide) ?_
    refine gI_aload_n hB 2 dX7_sing_117 rfl ?_
    refine gM_get hB hM 12 (v := .int (u.1 12)) (by decide +kernel) (by decide) (by decide +kernel) rfl rfl dX7_sing_118 ?_
    refine gI_topi hB (y := nI z) ez ?_
    refine gI_imulN hB dX7_sing_121 ?_
    refine gI_bipush (v := nI 6) hB dX7_sing_122 (by decide) ?_
    refine gI_iaddN hB dX7_sing_124 ?_
    refine gI_bipush (v := nI 9) hB dX7_sing_125 (by decide) ?_
    refine gM_copyA hB hM hF 4 3 (by decide) (by decide) 5 ((15 * z) + 6) 9 rfl rfl rfl (by decide +kernel) (by decide +kernel) (by decide +kernel) (by decide +kernel) (show 5 + 9 ≤ 14 by omega) (show ((15 * z) + 6) + 9 ≤ 3000 by omega) (Nat.le_of_ble_eq_true rfl) (Nat.le_of_ble_eq_true rfl) dX7_sing_127 (fun h hM hF => ?_)
    refine gI_aload_n hB 2 dX7_sing_130 rfl ?_
    refine gI_dup hB dX7_sing_131 rfl ?_
    refine gM_get hB hM 12 (v := .int (u.1 12)) (by decide +kernel) (by decide) (by decide +kernel) rfl rfl dX7_sing_132 ?_
    refine gI_topi hB (y := nI z) ez ?_
    refine gI_iconst (v := nI 1) hB dX7_sing_135 (by decide) ?_
    refine gI_iaddN hB dX7_sing_136 ?_
    refine gM_put hB hM hF 12 (sg (sa (sa (sa (sg u 10 ((u.1 10) + (nI 1))) 0 (upd (u.2 0) (7 * t + 5) ((u.2 0 (7 * t + 5)) + (nI 1)))) 3 (va_cpy (upd (upd (upd (upd (upd (upd (fun _ => 0) 0 (u.1 1)) 1 len) 2 (gFm (((upd (u.2 0) (7 * t + 5) ((u.2 0 (7 * t + 5)) + (nI 1))) (7 * t + 0)) + (u.2 4 3)) (nI 88))) 3 (nI t)) 4 (u.2 4 4)) 5 (u.2 4 2)) (u.2 3) 0 (15 * z) 6)) 3 (va_cpy (u.2 4) (va_cpy (upd (upd (upd (upd (upd (upd (fun _ => 0) 0 (u.1 1)) 1 len) 2 (gFm (((upd (u.2 0) (7 * t + 5) ((u.2 0 (7 * t + 5)) + (nI 1))) (7 * t + 0)) + (u.2 4 3)) (nI 88))) 3 (nI t)) 4 (u.2 4 4)) 5 (u.2 4 2)) (u.2 3) 0 (15 * z) 6) 5 ((15 * z) + 6) 9)) 12 (nI (z + 1))) (by decide +kernel) (by decide) (by decide +kernel) rfl rfl rfl rfl rfl rfl dX7_sing_137 (fun h hM hF => ?_)
    refine gI_vret hB hE dX7_sing_140 ?_
    refine ⟨_, hM, hF, rfl, ?_, ?_⟩
    · unfold mSing; rw [if_neg (by rw [ez]; exact fun z9 => c35_1 ((nI_eq (by omega) (by omega)).mp z9)), ez, mCl (by omega)]; simp only [sa_sa]; rfl
    · refine ⟨z, z + 1, ez, ?_, by omega, by omega, by omega, by omega⟩
      unfold mSing; rw [if_neg (by rw [ez]; exact fun z9 => c35_1 ((nI_eq (by omega) (by omega)).mp z9)), ez, mCl (by omega)]; rfl
  · skip
    have c35_1 := (nI_eq (by omega) (by omega)).mp c35_1
    refine gI_vret hB hE dX7_sing_38 ?_
    refine ⟨_, hM, hF, rfl, ?_, ?_⟩
    · unfold mSing; rw [if_pos (ez.trans (congrArg nI c35_1))]; rfl
    · refine mC.rf ez hz ?_
      unfold mSing; rw [if_pos (ez.trans (congrArg nI c35_1))]; rfl
