section GMath
variable {X : gX} {R : Room} {cc : ByteArray} {Ts : List Cond} {own : String} {h : gH} {k n pc : Nat} {lc : List (Nat × Value)} {st : List Value}
theorem gI_mmax (hB : gB X R cc Ts own) {index : Nat} {x y : Int32} (hlink : Cond.methodLink own index Lib.Math.max.name ∈ Ts) (hstat : Cond.static Lib.Math.max.name ∈ Ts) (hini : Cond.initialized "java/lang/Math" ∈ Ts) (hcode : Cond.code Lib.Math.max.name Lib.Math.max.code 2 (some .int) ∈ Ts)
    (hf : 1 ≤ R.frames) (hlo : (st.map fun v => v.category).sum + 13 ≤ R.locals) (hk : k ≤ R.cells) (hn : n ≤ R.slots) (hd : decode cc pc = .ok (.invokestatic index, 3))
    (kk : gW X h k n (pc + 3) lc (.int (if x < y then y else x) :: st)) : gW X h k n pc lc (.int y :: .int x :: st) := by
  obtain ⟨⟨p, l, e, R0, s, m, args, below, meth, c⟩, ⟨G, A, nL, Q⟩⟩ := X
  obtain ⟨⟨hx, hb, hml, hown, hts⟩, hK, hZ, hA, hlk, hlt, hR⟩ := hB
  subst hR
  intro H locs ls hP hD hS hls
  exact va_mmax hx hb (hml.trans hls.1.symm) hown (hts _ hlink) (hts _ hstat) (hts _ hini) (hts _ hcode) hf hlo hk hn hd (kk H locs ls hP hD hS hls)
theorem gI_mmin (hB : gB X R cc Ts own) {index : Nat} {x y : Int32} (hlink : Cond.methodLink own index Lib.Math.min.name ∈ Ts) (hstat : Cond.static Lib.Math.min.name ∈ Ts) (hini : Cond.initialized "java/lang/Math" ∈ Ts) (hcode : Cond.code Lib.Math.min.name Lib.Math.min.code 2 (some .int) ∈ Ts)
    (hf : 1 ≤ R.frames) (hlo : (st.map fun v => v.category).sum + 13 ≤ R.locals) (hk : k ≤ R.cells) (hn : n ≤ R.slots) (hd : decode cc pc = .ok (.invokestatic index, 3))
    (kk : gW X h k n (pc + 3) lc (.int (if y < x then y else x) :: st)) : gW X h k n pc lc (.int y :: .int x :: st) := by
  obtain ⟨⟨p, l, e, R0, s, m, args, below, meth, c⟩, ⟨G, A, nL, Q⟩⟩ := X
  obtain ⟨⟨hx, hb, hml, hown, hts⟩, hK, hZ, hA, hlk, hlt, hR⟩ := hB
  subst hR
  intro H locs ls hP hD hS hls
  exact va_mmin hx hb (hml.trans hls.1.symm) hown (hts _ hlink) (hts _ hstat) (hts _ hini) (hts _ hcode) hf hlo hk hn hd (kk H locs ls hP hD hS hls)
theorem gI_mabs (hB : gB X R cc Ts own) {index : Nat} {x : Int32} (hlink : Cond.methodLink own index Lib.Math.abs.name ∈ Ts) (hstat : Cond.static Lib.Math.abs.name ∈ Ts) (hini : Cond.initialized "java/lang/Math" ∈ Ts) (hcode : Cond.code Lib.Math.abs.name Lib.Math.abs.code 1 (some .int) ∈ Ts)
    (hf : 1 ≤ R.frames) (hlo : (st.map fun v => v.category).sum + 13 ≤ R.locals) (hk : k ≤ R.cells) (hn : n ≤ R.slots) (hd : decode cc pc = .ok (.invokestatic index, 3))
    (kk : gW X h k n (pc + 3) lc (.int (if 0 ≤ x then x else 0 - x) :: st)) : gW X h k n pc lc (.int x :: st) := by
  obtain ⟨⟨p, l, e, R0, s, m, args, below, meth, c⟩, ⟨G, A, nL, Q⟩⟩ := X
  obtain ⟨⟨hx, hb, hml, hown, hts⟩, hK, hZ, hA, hlk, hlt, hR⟩ := hB
  subst hR
  intro H locs ls hP hD hS hls
  exact va_mabs hx hb (hml.trans hls.1.symm) hown (hts _ hlink) (hts _ hstat) (hts _ hini) (hts _ hcode) hf hlo hk hn hd (kk H locs ls hP hD hS hls)
end GMath
/-- as gMet_of, for a member of a class that the machine has entries for -/
theorem gMet_ofF {y : MethodName} {ws ws' : List Cond} {rm : Room} {G : gG} {h : gH} {av : List Value} {Po : gPo} {cc : ByteArray} {maxL : Nat} {ret : Option FieldType}
    (hy : plainFor y = true) (hw : ws = Cond.code y cc maxL ret :: ws') (hlen : (lg_sl av).length ≤ maxL)
    (body : ∀ X : gX, X.2.1 = G → gnL X = maxL → gB X rm cc ws y.cls → gE X Po ret [] y.name → gW X h 0 0 0 (lv_args 0 av) []) : gMet y ws rm G h av Po := by
  intro l hl sz
  refine MetFree.of_bodySF (code := cc) (maxLocals := maxL) (ret := ret) hy ?_ ?_
  · intro args s m h hn
    obtain ⟨meth, c, h1, h2, h3, h4, h5, h6, -, -⟩ := Cond.code_spec hn (atoms_spec (ws := ws) h _ (by rw [hw]; exact List.mem_cons_self))
    exact ⟨meth, c, h1, h2, h3, h4, h5, h6⟩
  · intro p e s m args below meth c s₁ B hml hP _
    obtain ⟨rfl, hsz, hPw, hDw, hK, hZ⟩ := hP
    subst hsz
    have hh0 : s₁.heap = s.heap := by rw [B.state]; rfl
    have ht : c.exceptionTable.toList = [] := by
      obtain ⟨meth9, c9, h1, h2, -, -, -, -, h7, -⟩ := Cond.code_spec B.named (atoms_spec (ws := ws) B.pre _ (by rw [hw]; exact List.mem_cons_self))
      cases Option.some.inj (h1.symm.trans B.method)
      cases Option.some.inj (h2.symm.trans (Stand.of_body B).code)
      rw [Array.isEmpty_iff.mp h7]
    have hts := atoms_spec (ws := ws) B.pre
    have hown : s.vm.findClass y.cls = some m.cls := findClass_of_methodNamed B.named
    have hnm : meth.name = y.name := (name_of_methodNamed B.named B.method).1
    have hb := body ((p, l, e, (headSpec ws rm).room, s, m, av.toArray, below, meth, c), (G, va_A (gw h) s.heap.size, maxL, gMQ below G (va_A (gw h) s.heap.size) Po s)) rfl rfl
      ⟨⟨B.exec, B.bytes, hml, hown, hts⟩, hK, hZ, fun q hq => Or.inr hq, B.notSynchronized, hl, rfl⟩ ⟨rfl, B.returns, ht, hnm⟩
    have hls := lv_entry av (n := maxL) hlen
    have h9 := hb s.heap [] _ hPw hDw.self va_S.rf hls
    rw [← lg_entry_eq (m := m)] at h9
    obtain ⟨t, a1, o, b1, b2, b3⟩ := h9 s₁ hh0 (Stand.of_body B)
    exact ⟨t, o, a1, b1, b2, b3⟩
/-- Math.floorMod -/
def gFm (x y : Int32) : Int32 := if 0 ≤ x ^^^ y then x - x / y * y else if x - x / y * y = 0 then x - x / y * y else x - x / y * y + y

set_option maxRecDepth 100000 in
set_option maxHeartbeats 4000000 in
theorem c_floorMod (G : gG) (h : gH) (x y : Int32) (hy : ¬ y = 0) : gMet yJ9_floorMod_7cf53 wsJ9_floorMod_7cf53 (gRm 1 0 0) G h [.int x, .int y] (gRet h (some (.int (gFm x y)))) := by
  refine gMet_ofF (maxL := 3) (ret := (some .int)) (by decide +kernel) rfl (Nat.le_of_ble_eq_true rfl) ?_
  intro X hG hnL hB hE
  subst hG
  change gW X h 0 0 0 [(0, .int x), (1, .int y)] []
  refine gI_iload_n hB 0 dJ9_floorMod_7cf53_0 rfl ?_
  refine gI_iload_n hB 1 dJ9_floorMod_7cf53_1 rfl ?_
  refine gI_irem hB dJ9_floorMod_7cf53_2 hy ?_
  refine gI_istore_n hB ([(2, .int (x - x / y * y)), (0, .int x), (1, .int y)]) hnL dJ9_floorMod_7cf53_3 (by decide) rfl ?_
  refine gI_iload_n hB 1 dJ9_floorMod_7cf53_4 rfl ?_
  refine gI_iload_n hB 2 dJ9_floorMod_7cf53_5 rfl ?_
  refine gI_ixor hB dJ9_floorMod_7cf53_6 ?_
  refine gI_if_ge hB 18 dJ9_floorMod_7cf53_7 (by decide) (fun c7_1 => ?_) (fun c7_1 => ?_)
  · skip
    refine gI_iload_n hB 0 dJ9_floorMod_7cf53_18 rfl ?_
    refine gI_iret hB hE dJ9_floorMod_7cf53_19 ?_
    exact ⟨by unfold gFm; rw [if_pos c7_1], rfl, rfl, rfl⟩
  · skip
    refine gI_iload_n hB 0 dJ9_floorMod_7cf53_10 rfl ?_
    refine gI_if_eq hB 18 dJ9_floorMod_7cf53_11 (by decide) (fun c11_2 => ?_) (fun c11_2 => ?_)
    · skip
      refine gI_iload_n hB 0 dJ9_floorMod_7cf53_18 rfl ?_
      refine gI_iret hB hE dJ9_floorMod_7cf53_19 ?_
      exact ⟨by unfold gFm; rw [if_neg c7_1, if_pos c11_2], rfl, rfl, rfl⟩
    · skip
      refine gI_iload_n hB 0 dJ9_floorMod_7cf53_14 rfl ?_
      refine gI_iload_n hB 2 dJ9_floorMod_7cf53_15 rfl ?_
      refine gI_iadd hB dJ9_floorMod_7cf53_16 ?_
      refine gI_iret hB hE dJ9_floorMod_7cf53_17 ?_
      exact ⟨by unfold gFm; rw [if_neg c7_1, if_neg c11_2], rfl, rfl, rfl⟩

/-- what a run of the reference may have cost, by the notes that it kept -/
def mC (u u' : MS) (k n : Nat) : Prop := ∃ z z', u.1 12 = nI z ∧ u'.1 12 = nI z' ∧ z ≤ z' ∧ z' ≤ 200 ∧ k ≤ z' - z ∧ n ≤ 6 * (z' - z)
theorem mC.rf {u u' : MS} {z : Nat} (e : u.1 12 = nI z) (hz : z ≤ 200) (e' : u'.1 12 = u.1 12) : mC u u' 0 0 := ⟨z, z, e, e'.trans e, Nat.le_refl _, hz, Nat.zero_le _, Nat.zero_le _⟩
theorem mC.trans {u1 u2 u3 : MS} {k n k' n' : Nat} (a : mC u1 u2 k n) (b : mC u2 u3 k' n') : mC u1 u3 (k + k') (n + n') := by
  obtain ⟨z1, z2, e1, e2, l1, l2, c1, c2⟩ := a
  obtain ⟨y2, z3, f2, f3, m1, m2, d1, d2⟩ := b
  have : z2 = y2 := (nI_eq (by omega) (by omega)).mp (e2.symm.trans f2)
  subst this
  exact ⟨z1, z3, e1, f3, by omega, m2, by omega, by omega⟩
def mStC (ov : Option Value) (u0 u1 : MS) : gR → MS → Nat → Nat → Prop := fun r u' k n => r = .inl ov ∧ u' = u1 ∧ mC u0 u1 k n
theorem mStC.no {ov : Option Value} {u0 u1 : MS} : ∀ E u' k n, ¬ mStC ov u0 u1 (.inr E) u' k n := fun _ _ _ _ h => by cases h.1
def m6 (x0 x1 x2 x3 x4 x5 : Int32) : Nat → Int32 := upd (upd (upd (upd (upd (upd (fun _ => 0) 0 x0) 1 x1) 2 x2) 3 x3) 4 x4) 5 x5
def mSing0 (u : MS) (t : Nat) : MS := sa (sg u 10 (u.1 10 + nI 1)) 0 (upd (u.2 0) (7 * t + 5) (u.2 0 (7 * t + 5) + nI 1))
/-- the tenant at whom the ring in hand is sings -/
def mSing (u : MS) (t : Nat) (len : Int32) : MS :=
  if u.1 12 = nI 200 then mSing0 u t
  else sg (sa (mSing0 u t) 3 (va_cpy (u.2 4) (va_cpy (m6 (u.1 1) len (gFm ((mSing0 u t).2 0 (7 * t + 0) + u.2 4 3) (nI 88)) (nI t) (u.2 4 4) (u.2 4 2)) (u.2 3) 0 (15 * (u.1 12).toNatClampNeg) 6) 5 (15 * (u.1 12).toNatClampNeg + 6) 9)) 12 (nI ((u.1 12).toNatClampNeg + 1))

