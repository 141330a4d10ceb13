/-! the law: catching, and a contract that knows of exceptions that none is another -/
def gNx (U : State) : Prop := va_Nc "java/lang/IllegalStateException" "java/lang/IllegalArgumentException" U ∧ va_Nc "java/lang/IllegalStateException" "java/lang/IndexOutOfBoundsException" U ∧ va_Nc "java/lang/IllegalArgumentException" "java/lang/IndexOutOfBoundsException" U ∧ va_Nc "java/lang/IndexOutOfBoundsException" "java/lang/IllegalArgumentException" U
theorem gNx.moved {u U : State} (hvm : u.vm.Alike U.vm) (h : gNx u) : gNx U := ⟨h.1.moved hvm, h.2.1.moved hvm, h.2.2.1.moved hvm, h.2.2.2.moved hvm⟩
def gMetN (y : MethodName) (ws : List Cond) (rm : Room) (G : gG) (h : gH) (av : List Value) (Po : gPo) : Prop :=
  ∀ (l : Launch), l.stackTraces = false → ∀ sz : Nat, MetFree l y (headSpec ws rm) (fun a U => gPc G h sz av a U ∧ gNx U) (fun _ _ _ _ _ => True) (fun _ st o t => gQc G (va_A (gw h) sz) Po st o t)
theorem gPcN_blind {G : gG} {h : gH} {sz : Nat} {av : List Value} : FrameBlind (fun a U => gPc G h sz av a U ∧ gNx U) := fun a U g mk hp => ⟨gPc_blind a U g mk hp.1, gNx.moved (u := U) (U := U.calling g mk a) (Vm.Alike.refl U.vm) hp.2⟩
theorem gMetN_of {y : MethodName} {ws ws' : List Cond} {rm : Room} {G : gG} {h : gH} {av : List Value} {Po : gPo} {cc : ByteArray} {maxL : Nat} {ret : Option FieldType} {hh : List (Nat × Nat × Nat × Nat)}
    (hy : plainName y.cls = true) (hw : ws = Cond.codeWith y cc maxL ret hh :: ws') (hlen : (lg_sl av).length ≤ maxL)
    (body : ∀ X : gX, X.2.1 = G → gnL X = maxL → gB X rm cc ws y.cls → gE X Po ret (tableOf hh) y.name → gNx X.1.2.2.2.2.1 → gW X h 0 0 0 (lv_args 0 av) []) : gMetN y ws rm G h av Po := by
  intro l hl sz
  refine MetFree.of_bodyS (code := cc) (maxLocals := maxL) (ret := ret) hy ?_ ?_
  · intro args s m h hn
    obtain ⟨m9, meth9, c9, hn9, h1, h2, h3, h4, -, h6, h7, -⟩ := Cond.codeWith_spec (atoms_spec (ws := ws) h (Cond.codeWith y cc maxL ret hh) (by rw [hw]; exact List.mem_cons_self))
    cases Option.some.inj (hn9.symm.trans hn)
    exact ⟨meth9, c9, h1, h2, h3, h4, h6, h7⟩
  · intro p e s m args below meth c s₁ B hml hP _
    obtain ⟨⟨rfl, hsz, hPw, hDw, hK, hZ⟩, hNx⟩ := hP
    subst hsz
    have hh0 : s₁.heap = s.heap := by rw [B.state]; rfl
    have hts := atoms_spec (ws := ws) B.pre
    have ht : c.exceptionTable.toList = tableOf hh := vx_table (x := y) B (hts (Cond.codeWith y cc maxL ret hh) (by rw [hw]; exact List.mem_cons_self))
    have hown : s.vm.findClass y.cls = some m.cls := findClass_of_methodNamed B.named
    have hnm : meth.name = y.name := (name_of_methodNamed B.named B.method).1
    have hb := body ((p, l, e, (headSpec ws rm).room, s, m, av.toArray, below, meth, c), (G, va_A (gw h) s.heap.size, maxL, gMQ below G (va_A (gw h) s.heap.size) Po s)) rfl rfl
      ⟨⟨B.exec, B.bytes, hml, hown, hts⟩, hK, hZ, fun q hq => Or.inr hq, B.notSynchronized, hl, rfl⟩ ⟨rfl, B.returns, ht, hnm⟩ hNx
    have hls := lv_entry av (n := maxL) hlen
    have h9 := hb s.heap [] _ hPw hDw.self va_S.rf hls
    rw [← lg_entry_eq (m := m)] at h9
    obtain ⟨t, a1, o, b1, b2, b3⟩ := h9 s₁ hh0 (Stand.of_body B)
    exact ⟨t, o, a1, b1, b2, b3⟩
section GLaw
variable {X : gX} {R : Room} {cc : ByteArray} {Ts : List Cond} {own : String} {h : gH} {k n pc : Nat} {lc : List (Nat × Value)} {st : List Value}
theorem gI_callSN (hB : gB X R cc Ts own) (hNx : gNx X.1.2.2.2.2.1) {y : MethodName} {ws : List Cond} {rm : Room} {bytes : ByteArray} {maxL n9 index : Nat} {ret : Option FieldType} {As rest : List Value} {Po : gPo}
    (hM : gMetN y ws rm X.2.1 h As Po) (cw : gCW Ts ws y bytes maxL ret rm R n9) (hl : Cond.methodLink own index y ∈ Ts) (hstat : Cond.static y ∈ Ts) (hini : Cond.initialized y.cls ∈ Ts)
    (hn : As.length = n9) (hst : st = As.reverse ++ rest) (hcat : (rest.map fun v => v.category).sum ≤ 8) (hk9 : k + rm.cells ≤ R.cells) (hn9 : n + rm.slots ≤ R.slots) (hd : decode cc pc = .ok (.invokestatic index, 3))
    (kv : ∀ (v : Option Value) (h1 : gH) (k1 n1 : Nat), Po (.inl v) h1 k1 n1 → gW X h1 (k + k1) (n + n1) (pc + 3) lc (v.toList ++ rest))
    (kx : ∀ (E : String) (h1 : gH) (k1 n1 : Nat), Po (.inr E) h1 k1 n1 → gWX X h1 (k + k1) (n + n1) pc lc rest E) : gW X h k n pc lc st := by
  refine gI_called hB (rest := rest) (a := As.toArray) (Po := Po) ?_ kv kx
  intro p l e R0 s m args below meth c A nL Q hX H locs ls hP hD hS hls T9 hT Y
  generalize hG : X.2.1 = G at hX hM hP
  subst hX
  obtain ⟨⟨hx, hb, hml, hown, hts⟩, hK, hZ, hA, hlk, hlt, hR⟩ := hB
  subst hR
  have hZ9 := hZ
  have hbk := g_back (l := l) (R := R0) (p := p) (e := e) (below := below) (s := s) (sargs := args) (len := 3) (W9 := 8) (hM l hlt H.size) gPcN_blind cw.2.2.2.2.1 cw.2.2.2.2.2 (fun w hw a' U hW => pay_in hts cw.1 w hw a' U hW) (cw.code hts) (fun a' U hW => word_at hW (Or.inl (by first | rfl | simp [Cond.onTables, Cond.keeps, Cond.steady])) (hts _ hini))
  exact gc_S Y hx hown (hts _ hl) (hts _ hstat) (hts _ hini) (cw.code hts args s (State.WarmedH.refl s)) cw.2.2.1 hbk rfl (by rw [hml]; exact hls.1) (argsL := As) (rest := rest) (fun sig hs => hn.trans (cw.len sig hs)) hst (by show 2 * 0 + _ ≤ 8; omega) (by rw [hb]; exact hd)
    (fun vm₁ hW₁ => ⟨hk9, hn9, gw_pre (av := As) hK hZ9 hA hP hD hS (U := T9.setVm vm₁) hT hW₁, gNx.moved (U := T9.setVm vm₁) hW₁.alike hNx⟩)
/-- a handler of this method takes the exception -/
theorem gI_catch (hB : gB X R cc Ts own) {Po : gPo} {ret : Option FieldType} {tb : List ExceptionTableEntry} {nm : String} (hE : gE X Po ret tb nm) {E name : String} (pre : List ExceptionTableEntry) (x : ExceptionTableEntry) (suf : List ExceptionTableEntry) (hsplit : tb = pre ++ x :: suf)
    (hpass : ∀ z ∈ pre, z.catchType ≠ 0 ∧ ∃ nm : String, Cond.classLink own z.catchType nm ∈ Ts ∧ va_Nc E nm X.1.2.2.2.2.1) (hx9 : covers x pc = true) (h0 : x.catchType ≠ 0)
    (hlink : Cond.classLink own x.catchType name ∈ Ts) (hcast : Cond.castable E name ∈ lw_tbl) (kk : ∀ q : Nat, gW X h k n x.handlerPc lc [.ref q]) : gWX X h k n pc lc st E := by
  obtain ⟨⟨p, l, e, R0, s, m, args, below, meth, c⟩, ⟨G, A, nL, Q⟩⟩ := X
  obtain ⟨⟨hx, hb, hml, hown, hts⟩, hK, hZ, hA, hlk, hlt, hR⟩ := hB
  obtain ⟨hQ, hr, htb, -⟩ := hE
  intro H locs ls q ce hP hD hS hls hce hcv hcl
  exact vx_catch hown pre x suf (htb.trans hsplit) (fun z hz => Or.inr ⟨(hpass z hz).1, by obtain ⟨nm, h1, h2⟩ := (hpass z hz).2; exact ⟨nm, hts _ h1, h2⟩⟩) hx9 h0 (hts _ hlink) (va_Nw.use rfl (hK.2.2.2 _ hcast rfl)) hce hcv hcl (kk q H locs ls hP hD hS hls)
theorem gC_last (hB : gB X R cc Ts own) {a : Nat} {f : Nat → Int64} {x : Int64} (ha : gat h a (.inl (gJ X.2.1, 1, .inr (.inl f)))) (hd : decode cc pc = .ok (.lastore, 1))
    (kk : ∀ h1 : gH, ∀ f1 : Nat → Int64, f1 0 = x → gat h1 a (.inl (gJ X.2.1, 1, .inr (.inl f1))) → gSt h h1 a → gW X h1 k n (pc + 1) lc st) : gW X h k n pc lc (.long x :: .int (nI 0) :: .ref a :: st) := by
  refine gI_last hB ha (vp_in_nI (by omega) (by omega)) hd ?_
  rw [nI_clamp (by omega)]
  exact kk _ _ (if_pos rfl) (gat_put_self ha) (fun _ _ z w => gat_put z w)
theorem gC_lald (hB : gB X R cc Ts own) {a : Nat} {f : Nat → Int64} (ha : gat h a (.inl (gJ X.2.1, 1, .inr (.inl f)))) (hd : decode cc pc = .ok (.laload, 1))
    (kk : gW X h k n (pc + 1) lc (.long (f 0) :: st)) : gW X h k n pc lc (.int (nI 0) :: .ref a :: st) := by
  refine gI_lald hB ha (vp_in_nI (by omega) (by omega)) hd ?_
  rw [nI_clamp (by omega)]
  exact kk
theorem gC_newJ (hB : gB X R cc Ts own) (harr : Cond.arrayClass .long ∈ Ts) (hk9 : k + 1 ≤ R.cells) (hn9 : n + 1 ≤ R.slots) (hd : decode cc pc = .ok (.newarray .long, 2))
    (kk : ∀ (q : Nat) (h1 : gH), q ∉ h.1 → gat h1 q (.inl (gJ X.2.1, 1, .inr (.inl (fun _ => 0)))) → gSa h h1 → gW X h1 (k + 1) (n + 1) (pc + 2) lc (.ref q :: st)) : gW X h k n pc lc (.int (nI 1) :: st) := by
  obtain ⟨⟨p, l, e, R0, s, m, args, below, meth, c⟩, ⟨G, A, nL, Q⟩⟩ := X
  obtain ⟨⟨hx, hb, hml, hown, hts⟩, hK, hZ, hA, hlk, hlt, hR⟩ := hB
  intro H locs ls hP hD hS hls
  subst hR
  refine va_newa (atype := .long) (ty := .long) (a0 := (1, .inr (.inl (fun _ => 0)))) hx hb (hts _ harr) rfl hK.1 hP hD hS hA (fun cA => rfl) (nI_pos (by omega)) (nI_clamp (by omega)) (by show 1 * 8 ≤ 536870912; omega) hk9 hn9 hd (fun q cA H1 hK1 hP1 hD1 hS1 => ?_)
  have hcA : cA = gJ G := by
    have h1 : s.vm.findClass ("[" ++ FieldType.long.toString) = some cA := (hK1.2 3 (cA, .long) rfl).2
    have h2 : s.vm.findClass ("[" ++ FieldType.long.toString) = some (gJ G) := (hK.1.2 1 (gJ G, .long) rfl).2
    exact Option.some.inj (h1.symm.trans h2)
  subst hcA
  have hq := gw_fresh hD1
  rw [gw_push hq] at hP1 hD1
  exact kk q _ hq gat_new_self (fun _ _ z => gat_new z hq) H1 locs ls hP1 hD1 hS1 hls
/-- the script lies at b, behind the world -/
def gScr (X : gX) (b L : Nat) (xs : Nat → Int32) : Prop :=
  match X with
  | ((p, l, e, R, s, m, args, below, meth, c), (G, A, nL, Q)) => va_X b L xs s s.heap ∧ b < s.heap.size ∧ ¬ A b
theorem gI_sld (hB : gB X R cc Ts own) {b L : Nat} {xs : Nat → Int32} (hS9 : gScr X b L xs) (z : Nat) (hz : z < L) (hL : L ≤ 3584) (hd : decode cc pc = .ok (.iaload, 1))
    (kk : gW X h k n (pc + 1) lc (.int (xs z) :: st)) : gW X h k n pc lc (.int (nI z) :: .ref b :: st) := by
  obtain ⟨⟨p, l, e, R0, s, m, args, below, meth, c⟩, ⟨G, A, nL, Q⟩⟩ := X
  obtain ⟨⟨hx, hb, hml, hown, hts⟩, hK, hZ, hA, hlk, hlt, hR⟩ := hB
  obtain ⟨hX, hbl, hbA⟩ := hS9
  intro H locs ls hP hD hS hls
  have h9 := kk H locs ls hP hD hS hls
  refine va_sld hx hb hX hbl hbA hS (vp_in_nI hz (by omega)) hd ?_
  rw [nI_clamp (by omega)]
  exact h9
theorem gI_slen (hB : gB X R cc Ts own) {b L : Nat} {xs : Nat → Int32} (hS9 : gScr X b L xs) (hd : decode cc pc = .ok (.arraylength, 1))
    (kk : gW X h k n (pc + 1) lc (.int (nI L) :: st)) : gW X h k n pc lc (.ref b :: st) := by
  obtain ⟨⟨p, l, e, R0, s, m, args, below, meth, c⟩, ⟨G, A, nL, Q⟩⟩ := X
  obtain ⟨⟨hx, hb, hml, hown, hts⟩, hK, hZ, hA, hlk, hlt, hR⟩ := hB
  obtain ⟨hX, hbl, hbA⟩ := hS9
  intro H locs ls hP hD hS hls
  exact va_slen hx hb hX hbl hbA hS hd (kk H locs ls hP hD hS hls)
end GLaw
/-! the two worlds side by side -/
def tgJ : va_E → Nat
  | .inl (_, _, .inr (.inl _)) => 1
  | _ => 0
theorem gat_tj {h : gH} {a b : Nat} {ea eb : va_E} (ha : gat h a ea) (hb : gat h b eb) (n : Nat.beq (tgJ ea) (tgJ eb) = false) : a ≠ b := fun z9 => by
  subst z9
  rw [gat_inj ha hb, Nat.beq_refl] at n
  cases n
section CSide
variable {G : gG} {h h' : gH} {c : Nat → Nat} {Λ : CL} {u : MS} {T W z : Nat}
/-- the class's cells stay where what stays has the mark p -/
theorem cRep.keepBy (p : va_E → Bool) (p1 : ∀ ci fs, Nat.beq ci 10 = false → p (.inr (ci, fs)) = true) (p2 : ∀ c g, p (.inl (c, 12, .inl g)) = true) (p3 : ∀ c n g, p (.inl (c, n, .inr (.inr (.inr (.inr g))))) = true) (hK : ∀ q e, gat h q e → p e = true → gat h' q e) (hC : cRep G h c Λ u T W z) : cRep G h' c Λ u T W z := by
  obtain ⟨o1, ⟨f1, ⟨st, f2⟩, ff, fw, f3⟩, o3, o4, o5, o6, o7, o8, o9, o10, o11⟩ := hC
  refine ⟨hK _ _ o1 (p1 _ _ rfl), ⟨hK _ _ f1 (p1 _ _ rfl), ⟨st, hK _ _ f2 (p2 _ _)⟩, ff, fw, hK _ _ f3 (p1 _ _ rfl)⟩, hK _ _ o3 (p1 _ _ rfl), fun i hi => ?_, o5, fun t ht => hK _ _ (o6 t ht) (p1 _ _ rfl), fun t j ht hj => hK _ _ (o7 t j ht hj) (p1 _ _ rfl), fun w hw => hK _ _ (o8 w hw) (p1 _ _ rfl), fun w hw => ?_, fun w hw => ?_, o11⟩
  · obtain ⟨md, g, h1, h2, h3⟩ := o4 i hi
    refine ⟨md, g, hK _ _ h1 (p1 _ _ rfl), ?_, h3⟩
    rcases h2 with h2 | ⟨h0, hA⟩
    · exact Or.inl h2
    · exact Or.inr ⟨h0, hK _ _ hA (p3 _ _ _)⟩
  · obtain ⟨f, x, y⟩ := o9 w hw
    exact ⟨f, x, hK _ _ y (p1 _ _ rfl)⟩
  · obtain ⟨f, x, y, r⟩ := o10 w hw
    exact ⟨f, x, hK _ _ y (p1 _ _ rfl), r⟩
theorem cRep.mfr (hC : cRep G h c Λ u T W z) (hF : mFr h h') : cRep G h' c Λ u T W z :=
  hC.keepBy cKind (fun ci fs e => by show (!(Nat.beq ci 10)) = true; rw [e]; rfl) (fun _ _ => rfl) (fun _ _ _ => rfl) (fun q e hq hk => hF q e hq hk)
theorem cRep.out {J : ClassId} {ob : Nat} {fo : Nat → Int64} (hC : cRep G h c Λ u T W z) (ho : gat h ob (.inl (J, 1, .inr (.inl fo)))) (hK : gSt h h' ob) : cRep G h' c Λ u T W z :=
  hC.keepBy (fun e => Nat.beq (tgJ e) 0) (fun _ _ _ => rfl) (fun _ _ => rfl) (fun _ _ _ => rfl) (fun q e hq hk => hK q e hq (gat_tj hq ho (by
    have := Nat.eq_of_beq_eq_true hk
    rw [this]
    rfl)))
theorem cW.mfr {F : Nat} (hW : cW G h c u F) (hF : mFr h h') : cW G h' c u F := by
  obtain ⟨Λ, T, W, z, hC, o, e⟩ := hW
  exact ⟨Λ, T, W, z, hC.mfr hF, o, e⟩
theorem cW.out {F : Nat} {J : ClassId} {ob : Nat} {fo : Nat → Int64} (hW : cW G h c u F) (ho : gat h ob (.inl (J, 1, .inr (.inl fo)))) (hK : gSt h h' ob) : cW G h' c u F := by
  obtain ⟨Λ, T, W, z, hC, o, e⟩ := hW
  exact ⟨Λ, T, W, z, hC.out ho hK, o, e⟩
/-- what stays where the class has been called, and its answer written -/
abbrev wFr (h h' : gH) (ob : Nat) : Prop := ∀ q e, gat h q e → mKind e = true → q ≠ ob → gat h' q e
theorem mRep.keepO {a : Nat → Nat} {J : ClassId} {ob : Nat} {fo : Nat → Int64} (m : mRep G h a u) (ho : gat h ob (.inl (J, 1, .inr (.inl fo)))) (hf : wFr h h' ob) : mRep G h' a u :=
  ⟨hf _ _ m.1 rfl (gat_tj m.1 ho rfl), fun j hj => hf _ _ (m.2 j hj) (by
    rcases (show j = 0 ∨ j = 1 ∨ j = 2 ∨ j = 3 ∨ j = 4 by omega) with rfl | rfl | rfl | rfl | rfl <;> rfl) (gat_tj (m.2 j hj) ho rfl)⟩
/-- what a wrapper of the law leaves -/
def wPo (G : gG) (h : gH) (c : Nat → Nat) (F ob : Nat) (s : MS × Int32) (ck sk : Nat) : gPo := fun r h' k n => ∃ F' fo', r = .inl (some (.int (s.1.1 0))) ∧ cW G h' c s.1 F' ∧ gat h' ob (.inl (gJ G, 1, .inr (.inl fo'))) ∧ (s.1.1 0 = nI 0 → fo' 0 = s.2.toInt64) ∧ wFr h h' ob ∧ F ≤ F' ∧ k ≤ ck + (F' - F) ∧ n ≤ sk + 7 * (F' - F)
end CSide
theorem lg_cmp_self (x : Int64) : lg_cmp x x = 0 := by
  unfold lg_cmp
  simp
