/-! ===== one world for all: a list of addresses, and what lies at each ===== -/
abbrev gH : Type := List Nat × (Nat → va_E)
def gw (h : gH) : va_W := va_pl h.1 h.2
def gat (h : gH) (q : Nat) (e : va_E) : Prop := q ∈ h.1 ∧ h.2 q = e
def gput (h : gH) (q : Nat) (e : va_E) : gH := (h.1, va_up h.2 q e)
def gnew (h : gH) (q : Nat) (e : va_E) : gH := (h.1 ++ [q], va_up h.2 q e)
def gteq : va_E → va_E → Bool
  | .inr (c, _), .inr (d, _) => Nat.beq c d
  | .inl (_, n, _), .inl (_, m, _) => Nat.beq n m
  | _, _ => false
theorem gteq_self (a : va_E) : gteq a a = true := by
  rcases a with ⟨c, n, x⟩ | ⟨c, x⟩
  · exact Nat.beq_refl n
  · exact Nat.beq_refl c
theorem gat_ne {h : gH} {a b : Nat} {ea eb : va_E} (ha : gat h a ea) (hb : gat h b eb) (hn : gteq ea eb = false) : a ≠ b := by
  intro z
  subst z
  have e1 : ea = eb := ha.2.symm.trans hb.2
  subst e1
  rw [gteq_self] at hn
  cases hn
theorem gat_put {h : gH} {a q : Nat} {ea e : va_E} (ha : gat h a ea) (hn : a ≠ q) : gat (gput h q e) a ea := ⟨ha.1, (va_up_ne _ _ hn).trans ha.2⟩
theorem gat_put_self {h : gH} {q : Nat} {e0 e : va_E} (hq : gat h q e0) : gat (gput h q e) q e := ⟨hq.1, va_up_self _ _ _⟩
theorem gat_new {h : gH} {a q : Nat} {ea e : va_E} (ha : gat h a ea) (hq : q ∉ h.1) : gat (gnew h q e) a ea := ⟨List.mem_append_left _ ha.1, (va_up_ne _ _ (fun (z : a = q) => hq (by rw [← z]; exact ha.1))).trans ha.2⟩
theorem gat_new_self {h : gH} {q : Nat} {e : va_E} : gat (gnew h q e) q e := ⟨List.mem_append_right _ List.mem_cons_self, va_up_self _ _ _⟩
theorem gat_inj {h : gH} {q : Nat} {a b : va_E} (ha : gat h q a) (hb : gat h q b) : a = b := ha.2.symm.trans hb.2
theorem gw_get {h : gH} {q : Nat} {e : va_E} (hq : gat h q e) : ∃ k : Nat, (gw h)[k]? = some (q, e) := by
  obtain ⟨k, hk⟩ := va_pl_get (X := []) (f := h.2) hq.1
  rw [hq.2] at hk
  exact ⟨k, hk⟩
theorem gw_set {A : Nat → Prop} {h : gH} {q k : Nat} {e0 e : va_E} (hD : va_D A (gw h)) (hq : gat h q e0) (hk : (gw h)[k]? = some (q, e0)) : (gw h).set k (q, e) = gw (gput h q e) := by
  have h1 : ([] ++ va_pl h.1 h.2)[k]? = some (q, h.2 q) := by rw [hq.2]; exact hk
  exact va_pl_set (X := []) hD hq.1 h1
theorem gw_push {h : gH} {q : Nat} {e : va_E} (hq : q ∉ h.1) : gw h ++ [(q, e)] = gw (gnew h q e) := va_pl_push hq
/-! what a run knows of the tables, and of the statics -/
def gKind : Cond → Bool
  | .castable .. => true
  | .declares _ => true
  | .methodLinkNest .. => true
  | .arrayOver (.object _) => true
  | .arrayOver (.array _) => true
  | _ => false
theorem pAO_moved {t : FieldType} {u U : State} (hvm : u.vm.Alike U.vm) (h : va_Nw (.arrayOver (.array t)) u) : va_Nw (.arrayOver (.array t)) U := by
  obtain ⟨comp, c, k, h1, h2, h3, h4, h5⟩ := arrayOverA_spec h
  obtain ⟨k', hk', he⟩ := hvm.2.2 _ _ h3
  have hkind : k'.kind = .array comp (.array t) := by rw [he]; exact h4
  have f1 : U.vm.findClass (FieldType.array t).toString = some comp := by rw [hvm.findClass]; exact h1
  have f2 : U.vm.findClass ("[" ++ (FieldType.array t).toString) = some c := by rw [hvm.findClass]; exact h5
  unfold va_Nw Cond.before
  simp only [Cond.holds, Cond.value, f1, Option.bind_some, beq_iff_eq]
  rw [Option.bind_eq_some_iff]
  refine ⟨c, (hvm.findIdx?_eq _ (fun _ => rfl)).trans h2, ?_⟩
  simp [hk', hkind, f2]
theorem pAO_warm {t : FieldType} (hk : gKind (.arrayOver t) = true) {s U : State} (hW : s.WarmedH U.vm) (h : va_Nw (.arrayOver t) s) : va_Nw (.arrayOver t) U := by
  cases t with
  | object C => exact va_AO.moved hW.alike h
  | array t => exact pAO_moved hW.alike h
  | _ => simp [gKind] at hk
theorem gKind_warm {w : Cond} (h : gKind w = true) {s U : State} (hW : s.WarmedH U.vm) (hZ : va_Nw w s) : va_Nw w U := by
  cases w <;> first | exact va_Nw.warmC hW hZ | exact va_Nw.warmD hW hZ | exact va_Nw.warmM hW hZ | exact pAO_warm h hW hZ | (simp [gKind] at h; done)
abbrev gG : Type := va_G × (ClassId × ClassId × ClassId × ClassId) × (Nat × Nat)
def gI (G : gG) : ClassId := G.2.1.1
def gJ (G : gG) : ClassId := G.2.1.2.1
def gO (G : gG) : ClassId := G.2.1.2.2.1
def gTn (G : gG) : ClassId := G.2.1.2.2.2
def gE0 (G : gG) : Nat := G.2.2.1
def gMi (G : gG) : Nat := G.2.2.2
def gTy (G : gG) : List (ClassId × FieldType) := [(gI G, .int), (gJ G, .array .int), (gO G, .object "java/lang/Object"), (gTn G, .object "DoorbellChoirLaw$Tenant")]
def gK (G : gG) (U : State) : Prop := va_K G.1 vwCl (gTy G) U ∧ va_Mi "[Ljava/lang/Object;" (gMi G) U ∧ va_AO "java/lang/Object" U ∧ ∀ w ∈ lw_tbl, gKind w = true → va_Nw w U
theorem gK.warm {G : gG} {s U : State} (hW : s.WarmedH U.vm) (h : gK G s) : gK G U := ⟨h.1.moved hW.alike, h.2.1.moved hW.alike, h.2.2.1.moved hW.alike, fun w hw hk => gKind_warm hk hW (h.2.2.2 w hw hk)⟩
def gZ (G : gG) (A : Nat → Prop) (U : State) (H : Heap) : Prop :=
  va_Z "java/util/ArrayList" "DEFAULTCAPACITY_EMPTY_ELEMENTDATA" "[Ljava/lang/Object;" (.ref (gE0 G)) A U H ∧ va_T (.object "java/lang/Object") (gE0 G) 0 (fun _ => .null) A U H ∧ vx_Zq Bundle.tN "UNASSIGNED_STACK" Bundle.steD A U H ∧ vx_Zq Bundle.tN "SUPPRESSED_SENTINEL" Bundle.listD A U H
theorem gZ.moved {G : gG} {A : Nat → Prop} {u U : State} {H : Heap} (hvm : u.vm.Alike U.vm) (h : gZ G A u H) : gZ G A U H := ⟨h.1.moved hvm, h.2.1.moved hvm, h.2.2.1.moved hvm, h.2.2.2.moved hvm⟩
theorem gZ.kept {G : gG} {A : Nat → Prop} {U : State} {H H1 : Heap} (h : gZ G A U H) (hq : ∀ a : Nat, a < H.size → ¬ A a → H1[a]? = H[a]?) : gZ G A U H1 := ⟨h.1.kept hq, h.2.1.kept hq, h.2.2.1.kept hq, h.2.2.2.kept hq⟩
theorem gZ.narrow {G : gG} {A B : Nat → Prop} {U : State} {H : Heap} (h : gZ G A U H) (hAB : ∀ q, B q → A q) : gZ G B U H := ⟨h.1.narrow hAB, h.2.1.narrow hAB, h.2.2.1.narrow hAB, h.2.2.2.narrow hAB⟩
/-! contracts: a method's start, and its end: it returns or throws, with what it cost -/
abbrev gR : Type := Option Value ⊕ String
abbrev gPo : Type := gR → gH → Nat → Nat → Prop
def gPc (G : gG) (h : gH) (sz : Nat) (av : List Value) : Array Value → State → Prop := fun a U =>
  a = av.toArray ∧ U.heap.size = sz ∧ va_P G.1 vwCl (gw h) U.heap ∧ va_D (fun _ => True) (gw h) ∧ gK G U ∧ gZ G (va_A (gw h) sz) U U.heap
def gQc (G : gG) (A : Nat → Prop) (Po : gPo) (st : State) (o : Outcome) (t : State) : Prop :=
  ∃ (k n : Nat) (h : gH) (L : List Loc), va_P G.1 vwCl (gw h) t.heap ∧ va_D A (gw h) ∧ st.WarmedH t.vm ∧ st.sameButNew ({ t with vm := st.vm } : State) L k n ∧ (∀ z ∈ L, A z.base) ∧
    ((∃ v, o = .returned v ∧ Po (.inl v) h k n) ∨ ∃ (q : Nat) (E : String) (ce : Cell), o = .threw q ∧ t.heap[q]? = some ce ∧ ce.vm = .none ∧ st.vm.findClass E = some ce.cls ∧ Po (.inr E) h k n)
def gMet (y : MethodName) (ws : List Cond) (rm : Room) (G : gG) (h : gH) (av : List Value) (Po : gPo) : Prop :=
  ∀ (l : Launch), l.stackTraces = false → ∀ sz : Nat, MetFree l y (headSpec ws rm) (gPc G h sz av) (fun _ _ _ _ _ => True) (fun _ st o t => gQc G (va_A (gw h) sz) Po st o t)
theorem gPc_blind {G : gG} {h : gH} {sz : Nat} {av : List Value} : FrameBlind (gPc G h sz av) := fun a U g mk hp =>
  ⟨hp.1, hp.2.1, hp.2.2.1, hp.2.2.2.1, gK.warm (U := U.calling g mk a) (State.WarmedH.refl U) hp.2.2.2.2.1, gZ.moved (u := U) (U := U.calling g mk a) (Vm.Alike.refl U.vm) hp.2.2.2.2.2⟩
/-! a body's own things: the machine's, and ours -/
abbrev gX : Type := (Program × Launch × Env × Room × State × MethodId × Array Value × List Frame × Method × Code) × (gG × (Nat → Prop) × Nat × (State → Prop))
def gW (X : gX) (h : gH) (k n pc : Nat) (lc : List (Nat × Value)) (st : List Value) : Prop :=
  match X with
  | ((p, l, e, R, s, m, args, below, meth, c), (G, A, nL, Q)) => ∀ (H : Heap) (locs : List Loc) (ls : Array Slot), va_P G.1 vwCl (gw h) H → va_D A (gw h) → va_S A s.heap H locs → lv_has ls nL lc → W p l e R s m args below meth c H locs k n Q (F0 m pc ls st)
/-- an object of the class E has been thrown at pc -/
def gWX (X : gX) (h : gH) (k n pc : Nat) (lc : List (Nat × Value)) (st : List Value) (E : String) : Prop :=
  match X with
  | ((p, l, e, R, s, m, args, below, meth, c), (G, A, nL, Q)) => ∀ (H : Heap) (locs : List Loc) (ls : Array Slot) (q : Nat) (ce : Cell), va_P G.1 vwCl (gw h) H → va_D A (gw h) → va_S A s.heap H locs → lv_has ls nL lc → H[q]? = some ce → ce.vm = .none → s.vm.findClass E = some ce.cls → vx_W p l e R s m args below meth c H locs k n Q (F0 m pc ls st) q
def gB (X : gX) (R0 : Room) (cc : ByteArray) (Ts : List Cond) (own : String) : Prop :=
  match X with
  | ((p, l, e, R, s, m, args, below, meth, c), (G, A, nL, Q)) => CallFix p m c cc nL s args Ts own ∧ gK G s ∧ gZ G A s s.heap ∧ (∀ q, s.heap.size ≤ q → A q) ∧ meth.locks = false ∧ l.stackTraces = false ∧ R = R0
def gMQ (below : List Frame) (G : gG) (A : Nat → Prop) (Po : gPo) (s : State) : State → Prop := fun t => ∃ o, t.status = .running ∧ Ended t below o ∧ gQc G A Po s o t
/-- a body's end: its post, its answer's type, its table of handlers, the method's name -/
def gE (X : gX) (Po : gPo) (ret : Option FieldType) (tb : List ExceptionTableEntry) (nm : String) : Prop :=
  match X with
  | ((p, l, e, R, s, m, args, below, meth, c), (G, A, nL, Q)) => Q = gMQ below G A Po s ∧ meth.sig.returnType = ret ∧ c.exceptionTable.toList = tb ∧ meth.name = nm
def gnL (X : gX) : Nat := X.2.2.2.1
theorem gMet_of {y : MethodName} {ws ws' : List Cond} {rm : Room} {G : gG} {h : gH} {av : List Value} {Po : gPo} {cc : ByteArray} {maxL : Nat} {ret : Option FieldType}
    (hy : plainName y.cls = true) (hw : ws = Cond.code y cc maxL ret :: ws') (hlen : (lg_sl av).length ≤ maxL)
    (body : ∀ X : gX, X.2.1 = G → gnL X = maxL → gB X rm cc ws y.cls → gE X Po ret [] y.name → gW X h 0 0 0 (lv_args 0 av) []) : gMet y ws rm G h av Po := by
  intro l hl sz
  refine MetFree.of_bodyS (code := cc) (maxLocals := maxL) (ret := ret) hy ?_ ?_
  · intro args s m h hn
    obtain ⟨meth, c, h1, h2, h3, h4, h5, h6, -, -⟩ := Cond.code_spec hn (atoms_spec (ws := ws) h _ (by rw [hw]; exact List.mem_cons_self))
    exact ⟨meth, c, h1, h2, h3, h4, h5, h6⟩
  · intro p e s m args below meth c s₁ B hml hP _
    obtain ⟨rfl, hsz, hPw, hDw, hK, hZ⟩ := hP
    subst hsz
    have hh0 : s₁.heap = s.heap := by rw [B.state]; rfl
    have ht : c.exceptionTable.toList = [] := by
      obtain ⟨meth9, c9, h1, h2, -, -, -, -, h7, -⟩ := Cond.code_spec B.named (atoms_spec (ws := ws) B.pre _ (by rw [hw]; exact List.mem_cons_self))
      cases Option.some.inj (h1.symm.trans B.method)
      cases Option.some.inj (h2.symm.trans (Stand.of_body B).code)
      rw [Array.isEmpty_iff.mp h7]
    have hts := atoms_spec (ws := ws) B.pre
    have hown : s.vm.findClass y.cls = some m.cls := findClass_of_methodNamed B.named
    have hnm : meth.name = y.name := (name_of_methodNamed B.named B.method).1
    have hb := body ((p, l, e, (headSpec ws rm).room, s, m, av.toArray, below, meth, c), (G, va_A (gw h) s.heap.size, maxL, gMQ below G (va_A (gw h) s.heap.size) Po s)) rfl rfl
      ⟨⟨B.exec, B.bytes, hml, hown, hts⟩, hK, hZ, fun q hq => Or.inr hq, B.notSynchronized, hl, rfl⟩ ⟨rfl, B.returns, ht, hnm⟩
    have hls := lv_entry av (n := maxL) hlen
    have h9 := hb s.heap [] _ hPw hDw.self va_S.rf hls
    rw [← lg_entry_eq (m := m)] at h9
    obtain ⟨t, a1, o, b1, b2, b3⟩ := h9 s₁ hh0 (Stand.of_body B)
    exact ⟨t, o, a1, b1, b2, b3⟩
/-! calls: the payer (vx_back's proof, its cost left open), and the ways to call -/
def gBack (l : Launch) (R : Room) (p : Program) (e : Env) (below : List Frame) (s : State) (sargs : Array Value) (y : MethodName) (len W9 : Nat)
    (Pre : Pt → Array Value → Prop) (Post : Pt → Array Value → (Option Value ⊕ Addr) → Pt → Prop) : Prop :=
  ∀ (m : MethodId) (meth : Method) (c : Code) (A : Pt) (g : JFrame) (ig : Instr) (mk : MethodId) (a : Array Value),
    Stand p l e R s m sargs below meth c A.U A.locs A.cells A.slots → g.method = m → g.locals.size = c.maxLocals → decode c.code g.pc = .ok (ig, len) →
    2 * g.monitorRoom + (g.stack.map fun v => v.category).sum ≤ W9 → A.U.methodNamed? y = some mk → Pre A a →
    (∃ (v : Option Value) (B : Pt), Stand p l e R s m sargs below meth c B.U B.locs B.cells B.slots ∧ Post A a (.inl v) B ∧
      Steps p.tables e below (doInvoke e (A.U.setTop g) [] mk a).1 (B.U.setTop { g with pc := g.pc + len, stack := v.toList ++ g.stack })) ∨
    (∃ (q : Addr) (B : Pt), Stand p l e R s m sargs below meth c B.U B.locs B.cells B.slots ∧ Post A a (.inr q) B ∧
      Steps p.tables e below (doInvoke e (A.U.setTop g) [] mk a).1 ((B.U.setTop g).pushFrame (.throwing q)))
/-- what a call leaves: the world behind it, its cost, what it answered -/
def gPost (G : gG) (A1 : Nat → Prop) (Po : gPo) : Pt → Array Value → (Option Value ⊕ Addr) → Pt → Prop := fun A _ r B =>
  ∃ (k n : Nat) (h : gH) (L : List Loc), va_P G.1 vwCl (gw h) B.U.heap ∧ va_D A1 (gw h) ∧ A.U.heap.size ≤ B.U.heap.size ∧ (∀ q : Nat, q < A.U.heap.size → ¬ A1 q → B.U.heap[q]? = A.U.heap[q]?) ∧ (∀ z ∈ L, A1 z.base) ∧
    B.locs = A.locs ++ L ∧ B.cells = A.cells + k ∧ B.slots = A.slots + n ∧
    (match r with
      | .inl v => Po (.inl v) h k n
      | .inr q => ∃ (E : String) (ce : Cell), B.U.heap[q]? = some ce ∧ ce.vm = .none ∧ A.U.vm.findClass E = some ce.cls ∧ Po (.inr E) h k n)
/-- a method's code, with a table of handlers or without -/
def gCode (y : MethodName) (bytes : ByteArray) (maxL : Nat) (ret : Option FieldType) (a : Array Value) (U : State) : Prop := (Cond.code y bytes maxL ret).before a U = true ∨ ∃ hh, (Cond.codeWith y bytes maxL ret hh).before a U = true
theorem gCode.facts {y : MethodName} {bytes : ByteArray} {maxL : Nat} {ret : Option FieldType} {a : Array Value} {U : State} {mk : MethodId} (h2 : gCode y bytes maxL ret a U) (hn : U.methodNamed? y = some mk) : ∃ (methY : Method) (cY : Code), U.vm.method? mk = some methY ∧ methY.code = some cY ∧ cY.maxLocals = maxL ∧ parseMethodDescriptor y.desc = some methY.sig := by
  rcases h2 with h2 | ⟨hh, h2⟩
  · obtain ⟨methY, cY, hmY, hcY, -, hlY, -, -, -, hsg⟩ := Cond.code_spec hn h2
    exact ⟨methY, cY, hmY, hcY, hlY, hsg⟩
  · obtain ⟨m9, meth9, c9, hn9, e1, e2, -, hl9, -, -, -, hsg⟩ := Cond.codeWith_spec h2
    cases Option.some.inj (hn9.symm.trans hn)
    exact ⟨meth9, c9, e1, e2, hl9, hsg⟩
theorem gCode.named {y : MethodName} {bytes : ByteArray} {maxL : Nat} {ret : Option FieldType} {a : Array Value} {U : State} (h2 : gCode y bytes maxL ret a U) : ∃ mk, U.methodNamed? y = some mk := by
  rcases h2 with h2 | ⟨hh, h2⟩
  · exact Cond.code_named h2
  · obtain ⟨m9, meth9, c9, hn9, -⟩ := Cond.codeWith_spec h2
    exact ⟨m9, hn9⟩
section GPayer
variable {l : Launch} {R : Room} {p : Program} {e : Env} {below : List Frame} {s : State} {sargs : Array Value} {y : MethodName} {len W9 : Nat}
theorem g_back {ws : List Cond} {rm : Room} {Pc : Array Value → State → Prop} {G : gG} {A1 : Nat → Prop} {Po : gPo} {bytes : ByteArray} {maxL : Nat} {ret : Option FieldType}
    (hM : MetFree l y (headSpec ws rm) Pc (fun _ _ _ _ _ => True) (fun _ st o t => gQc G A1 Po st o t)) (hblind : FrameBlind Pc)
    (hframes : rm.frames + 1 ≤ R.frames) (hlocals : W9 + (maxL + 11) + rm.locals ≤ R.locals)
    (hws : ∀ w ∈ ws, ∀ a' U, s.WarmedH U.vm → w.before a' U = true) (hcode : ∀ a' U, s.WarmedH U.vm → gCode y bytes maxL ret a' U) (hinit : ∀ a' U, s.WarmedH U.vm → (Cond.initialized y.cls).before a' U = true) :
    gBack l R p e below s sargs y len W9 (PreOf R rm.cells rm.slots Pc) (gPost G A1 Po) := by
  intro m meth c A g ig mk a X hg hsize hdg hW hn hp
  have h1 : (headSpec ws rm).pre.before a A.U = true := atoms_intro fun w hw => hws w hw _ _ X.warmed
  have h2 := hcode a A.U X.warmed
  have h3 : (Cond.initialized y.cls).before a A.U = true := hinit _ _ X.warmed
  have h4 : A.cells + (headSpec ws rm).room.cells ≤ R.cells := hp.1
  have h5 : A.slots + (headSpec ws rm).room.slots ≤ R.slots := hp.2.1
  have hPc : Pc a (A.U.calling g mk a) := hblind _ _ _ _ hp.2.2
  obtain ⟨U, Ls, c0, s0⟩ := A
  dsimp only [Pt.U, Pt.locs, Pt.cells, Pt.slots] at h1 h2 h3 h4 h5 X hn hPc ⊢
  obtain ⟨methY, cY, hmY, hcY, hlY, -⟩ := h2.facts hn
  obtain ⟨kY, hkY, -⟩ := className_of_methodNamed hn
  have hinitY : kY.init = .initialized := Cond.initialized_spec (findClass_of_methodNamed hn) hkY h3
  have h : At U g.method c below := by rw [hg]; exact X.here
  have hlocals9 : W9 + (maxL + 11) + (headSpec ws rm).room.locals ≤ R.locals := hlocals
  have happ : (headSpec ws rm).appliesLoose y e.platform (U.calling g mk a) = true :=
    Spec.appliesLoose_calling (g := g) h hdg hn hkY hinitY
      (X.room_calling (g := g) (R' := (headSpec ws rm).room) hsize hmY hcY hframes (by rw [hlY]; omega) h4 h5) h1
  obtain ⟨mid, hmid⟩ := h.above
  have hfr : (U.setTop g).frames = (.java g :: mid) ++ below := by rw [State.frames_setTop' g h.top, hmid]; rfl
  obtain ⟨o, s₂, hsteps, -, hend, hq⟩ := Steps.callFree hM p X.admits X.cas X.clock (acts := []) hfr happ hPc trivial
  have hq' : gQc G A1 Po (U.calling g mk a) o s₂ := hq
  rw [State.frames_setTop' g h.top] at hend
  obtain ⟨g₀, hg0⟩ := Option.isSome_iff_exists.mp h.top
  obtain ⟨r, hr⟩ := State.topJava?_eq_some.mp hg0
  have hr' : (({ U with heap := s₂.heap, slotsUsed := s₂.slotsUsed } : State).setVm s₂.vm).frames = .java g₀ :: r := hr
  obtain ⟨k, n, h9, L, hPw, hDw, hW₂, hsm, hL, hout⟩ := hq'
  obtain ⟨f1, f2⟩ := vx_frame hsm
  obtain ⟨e2, q2, q3, q4, q5, q6⟩ := id hsm
  have e3 : s₂ = ({ (U.calling g mk a).setFrames s₂.frames with heap := s₂.heap, slotsUsed := s₂.slotsUsed } : State).setVm s₂.vm := by
    have : s₂ = ({ s₂ with vm := (U.calling g mk a).vm } : State).setVm s₂.vm := rfl
    rw [e2] at this
    exact this
  have hW' : U.WarmedH s₂.vm := hW₂
  have hsame : U.sameButNew ({ U with heap := s₂.heap, slotsUsed := s₂.slotsUsed } : State) L k n := by
    refine ⟨?_, q2, q3, q4, q5, q6⟩
    obtain ⟨t, ht, -⟩ := State.frames_cons hr
    show ({ U with heap := s₂.heap, slotsUsed := s₂.slotsUsed } : State) = { U.setFrames U.frames with heap := s₂.heap, slotsUsed := s₂.slotsUsed }
    rw [State.setFrames_self ht]
  have hun : ∀ q : Nat, q < U.heap.size → ¬ A1 q → s₂.heap[q]? = U.heap[q]? := fun q hq hA => f2 q hq (fun z hz ez => hA (ez ▸ hL z hz))
  rcases hout with ⟨v, rfl, hpo⟩ | ⟨q, E, ce, rfl, hce, hcv, hcl, hpo⟩
  · obtain ⟨c₂, i₂, len₂, hc₂, hd₂, hf₂⟩ := hend
    have hcc : c₂ = c := by
      have h1 : s₂.code? g.method = U.code? g.method := by
        rw [State.code?_eq, State.code?_eq, hW'.alike.method?]
      exact Option.some.inj (hc₂.symm.trans (h1.trans h.code))
    subst hcc
    have hlen : len₂ = len := by rw [hdg] at hd₂; cases hd₂; rfl
    subst hlen
    have hs₂ : s₂ = (({ U with heap := s₂.heap, slotsUsed := s₂.slotsUsed } : State).setVm s₂.vm).setTop { g with pc := g.pc + len₂, stack := v.toList ++ g.stack } := by
      refine e3.trans ?_
      rw [hf₂, State.calling_eq h.top, State.setFrames_setFrames, State.setTop_of_frames _ hr', hr]
      rfl
    subst hg
    refine Or.inl ⟨v, ⟨(({ U with heap := s₂.heap, slotsUsed := s₂.slotsUsed } : State).setVm s₂.vm), Ls ++ L, c0 + k, s0 + n⟩,
      ⟨X.admits, X.cas, X.clock, X.frames, X.room, X.hears, X.method, X.code, (X.here.setHeapUsed s₂.heap s₂.slotsUsed).setVm hW'.alike, X.tail, State.WarmedH.trans X.warmed hW', X.limits, X.bytes, X.same.trans (hsame.setVm s.vm)⟩,
      ⟨k, n, h9, L, hPw, hDw, f1, hun, hL, rfl, rfl, rfl, hpo⟩, ?_⟩
    show Steps p.tables e below _ ((({ U with heap := s₂.heap, slotsUsed := s₂.slotsUsed } : State).setVm s₂.vm).setTop { g with pc := g.pc + len₂, stack := v.toList ++ g.stack })
    rw [← hs₂]
    exact hsteps
  · have hf₂ : s₂.frames = .throwing q :: .java g :: U.frames.tail := hend
    have hs₂ : s₂ = ((({ U with heap := s₂.heap, slotsUsed := s₂.slotsUsed } : State).setVm s₂.vm).setTop g).pushFrame (.throwing q) := by
      refine e3.trans ?_
      rw [hf₂, State.calling_eq h.top, State.setFrames_setFrames, State.pushFrame, State.frames_setTop _ hr', State.setTop_of_frames _ hr', State.setFrames_setFrames, hr]
      rfl
    subst hg
    refine Or.inr ⟨q, ⟨(({ U with heap := s₂.heap, slotsUsed := s₂.slotsUsed } : State).setVm s₂.vm), Ls ++ L, c0 + k, s0 + n⟩,
      ⟨X.admits, X.cas, X.clock, X.frames, X.room, X.hears, X.method, X.code, (X.here.setHeapUsed s₂.heap s₂.slotsUsed).setVm hW'.alike, X.tail, State.WarmedH.trans X.warmed hW', X.limits, X.bytes, X.same.trans (hsame.setVm s.vm)⟩,
      ⟨k, n, h9, L, hPw, hDw, f1, hun, hL, rfl, rfl, rfl, E, ce, hce, hcv, hcl, hpo⟩, ?_⟩
    show Steps p.tables e below _ (((({ U with heap := s₂.heap, slotsUsed := s₂.slotsUsed } : State).setVm s₂.vm).setTop g).pushFrame (.throwing q))
    rw [← hs₂]
    exact hsteps
end GPayer
section GCalls
variable {p : Program} {l : Launch} {e : Env} {R : Room} {s : State} {m : MethodId} {args : Array Value} {below : List Frame} {meth : Method} {c : Code} {T : State} {locs : List Loc} {cells slots : Nat}
/-- what a call at g gives, whatever its kind -/
def gCalled (p : Program) (l : Launch) (e : Env) (R : Room) (s : State) (m : MethodId) (args : Array Value) (below : List Frame) (meth : Method) (c : Code) (T : State) (locs : List Loc) (cells slots : Nat) (g : JFrame) (rest : List Value) (a : Array Value) (Post : Pt → Array Value → (Option Value ⊕ Addr) → Pt → Prop) : Prop :=
    (∃ (v : Option Value) (vm₁ : Vm) (B : Pt), s.WarmedH vm₁ ∧ Stand p l e R s m args below meth c B.U B.locs B.cells B.slots ∧ Post ⟨T.setVm vm₁, locs, cells, slots⟩ a (.inl v) B ∧
      ∀ target, Steps p.tables e below (B.U.setTop { g with pc := g.pc + 3, stack := v.toList ++ rest }) target → Steps p.tables e below (T.setTop g) target) ∨
    (∃ (q : Addr) (vm₁ : Vm) (B : Pt), s.WarmedH vm₁ ∧ Stand p l e R s m args below meth c B.U B.locs B.cells B.slots ∧ Post ⟨T.setVm vm₁, locs, cells, slots⟩ a (.inr q) B ∧
      Steps p.tables e below (T.setTop g) ((B.U.setTop { g with stack := rest }).pushFrame (.throwing q)))
variable {y : MethodName} {W9 : Nat} {Pre : Pt → Array Value → Prop} {Post : Pt → Array Value → (Option Value ⊕ Addr) → Pt → Prop}
theorem gc_V (X : Stand p l e R s m args below meth c T locs cells slots) (hexec : p.tables.exec = Jvm.exec) {own C : String} {index maxL : Nat} {bytes : ByteArray} {ret : Option FieldType}
    (hown : s.vm.findClass own = some m.cls) (hlink : (Cond.methodLink own index y).before args s = true) (hinst : (Cond.instanceMethod y).before args s = true) (hsel : (Cond.selects C y y).before args s = true)
    (hcode : gCode y bytes maxL ret args s) (hy : y.cls ≠ "java/lang/invoke/MethodHandle" ∧ y.cls ≠ "java/lang/invoke/VarHandle")
    (hK : gBack l R p e below s args y 3 W9 Pre Post)
    {b : Addr} {cellB : Cell} (hcell : T.heap[b]? = some cellB) (hobj : cellB.vm.isStatics = false) (hcls : s.vm.findClass C = some cellB.cls)
    {g : JFrame} (hg : g.method = m) (hsize : g.locals.size = c.maxLocals) {argsL rest : List Value} (hlen : ∀ sig, parseMethodDescriptor y.desc = some sig → argsL.length = sig.parameters.length)
    (hstack : g.stack = argsL.reverse ++ .ref b :: rest) (hW : 2 * g.monitorRoom + (rest.map fun v => v.category).sum ≤ W9) (hdg : decode c.code g.pc = .ok (.invokevirtual index, 3))
    (hpre : ∀ vm₁, s.WarmedH vm₁ → Pre ⟨T.setVm vm₁, locs, cells, slots⟩ (Value.ref b :: argsL).toArray) :
    gCalled p l e R s m args below meth c T locs cells slots g rest (Value.ref b :: argsL).toArray Post := by
  obtain ⟨mk, methM, hnamed, hmethM, hstM, habM⟩ := Cond.instanceMethod_spec hinst
  obtain ⟨c2, r2, m2, q1, q2, q3, q4, kP, hkP, hkPi⟩ := Cond.selects_spec hsel
  cases hcls.symm.trans q1
  cases (State.methodFound?_of_named hnamed hy).symm.trans q2
  cases hnamed.symm.trans q3
  obtain ⟨methM', cM, hmethM', -, -, hsigM⟩ := hcode.facts hnamed
  cases hmethM.symm.trans hmethM'
  have hselP : selectMethod e.platform s.vm cellB.cls mk = .method mk := by rw [Launch.admits_selectMethod X.admits]; exact q4
  obtain ⟨vm₁, X₁, hstep₁⟩ := X.invokevirtual hexec hown hlink hnamed hmethM hstM hkP hkPi hy (a := b) (cell := cellB) hcell
    (fun z h => by rw [h] at hobj; cases hobj) hselP hmethM habM hkP hkPi (g := g) hg (argsL := argsL) (rest := rest) (hlen _ hsigM) hstack hdg
  rcases hK m meth c ⟨T.setVm vm₁, locs, cells, slots⟩ { g with stack := rest } (.invokevirtual index) mk (Value.ref b :: argsL).toArray X₁ hg hsize hdg hW (X₁.named hnamed) (hpre vm₁ X₁.warmed) with ⟨v, B, X', hpost, hsteps⟩ | ⟨q, B, X', hpost, hsteps⟩
  · exact Or.inl ⟨v, vm₁, B, X₁.warmed, X', hpost, fun target h => hstep₁ _ fun acts => by rw [doInvoke_state]; exact hsteps.trans h⟩
  · exact Or.inr ⟨q, vm₁, B, X₁.warmed, X', hpost, hstep₁ _ fun acts => by rw [doInvoke_state]; exact hsteps⟩
theorem gc_S (X : Stand p l e R s m args below meth c T locs cells slots) (hexec : p.tables.exec = Jvm.exec) {own : String} {index maxL : Nat} {bytes : ByteArray} {ret : Option FieldType}
    (hown : s.vm.findClass own = some m.cls) (hlink : (Cond.methodLink own index y).before args s = true) (hstat : (Cond.static y).before args s = true) (hinit : (Cond.initialized y.cls).before args s = true)
    (hcode : gCode y bytes maxL ret args s) (hy : y.cls ≠ "java/lang/invoke/MethodHandle" ∧ y.cls ≠ "java/lang/invoke/VarHandle")
    (hK : gBack l R p e below s args y 3 W9 Pre Post)
    {g : JFrame} (hg : g.method = m) (hsize : g.locals.size = c.maxLocals) {argsL rest : List Value} (hlen : ∀ sig, parseMethodDescriptor y.desc = some sig → argsL.length = sig.parameters.length)
    (hstack : g.stack = argsL.reverse ++ rest) (hW : 2 * g.monitorRoom + (rest.map fun v => v.category).sum ≤ W9) (hdg : decode c.code g.pc = .ok (.invokestatic index, 3))
    (hpre : ∀ vm₁, s.WarmedH vm₁ → Pre ⟨T.setVm vm₁, locs, cells, slots⟩ argsL.toArray) :
    gCalled p l e R s m args below meth c T locs cells slots g rest argsL.toArray Post := by
  obtain ⟨mk, hnamed⟩ := hcode.named
  obtain ⟨methM, cM, hmethM, -, -, hsigM⟩ := hcode.facts hnamed
  have hstatic : methM.isStatic = true := Cond.static_spec hnamed hmethM hstat
  obtain ⟨kP, hkP, -⟩ := className_of_methodNamed hnamed
  have hinitP : kP.init = .initialized := Cond.initialized_spec (findClass_of_methodNamed hnamed) hkP hinit
  obtain ⟨vm₁, X₁, hstep₁⟩ := X.invokestatic hexec hown hlink hnamed hmethM hstatic hkP hinitP hy (g := g) hg (argsL := argsL) (rest := rest) (hlen _ hsigM) hstack hdg
  rcases hK m meth c ⟨T.setVm vm₁, locs, cells, slots⟩ { g with stack := rest } (.invokestatic index) mk argsL.toArray X₁ hg hsize hdg hW (X₁.named hnamed) (hpre vm₁ X₁.warmed) with ⟨v, B, X', hpost, hsteps⟩ | ⟨q, B, X', hpost, hsteps⟩
  · exact Or.inl ⟨v, vm₁, B, X₁.warmed, X', hpost, fun target h => hstep₁ _ fun acts => by rw [doInvoke_state]; exact hsteps.trans h⟩
  · exact Or.inr ⟨q, vm₁, B, X₁.warmed, X', hpost, hstep₁ _ fun acts => by rw [doInvoke_state]; exact hsteps⟩
theorem gc_SN (X : Stand p l e R s m args below meth c T locs cells slots) (hexec : p.tables.exec = Jvm.exec) {own host : String} {index maxL : Nat} {bytes : ByteArray} {ret : Option FieldType}
    (hown : s.vm.findClass own = some m.cls) (hlink : (Cond.methodLinkNest own index y host).before args s = true) (hstat : (Cond.static y).before args s = true) (hinit : (Cond.initialized y.cls).before args s = true)
    (hcode : gCode y bytes maxL ret args s) (hy : y.cls ≠ "java/lang/invoke/MethodHandle" ∧ y.cls ≠ "java/lang/invoke/VarHandle")
    (hK : gBack l R p e below s args y 3 W9 Pre Post)
    {g : JFrame} (hg : g.method = m) (hsize : g.locals.size = c.maxLocals) {argsL rest : List Value} (hlen : ∀ sig, parseMethodDescriptor y.desc = some sig → argsL.length = sig.parameters.length)
    (hstack : g.stack = argsL.reverse ++ rest) (hW : 2 * g.monitorRoom + (rest.map fun v => v.category).sum ≤ W9) (hdg : decode c.code g.pc = .ok (.invokestatic index, 3))
    (hpre : ∀ vm₁, s.WarmedH vm₁ → Pre ⟨T.setVm vm₁, locs, cells, slots⟩ argsL.toArray) :
    gCalled p l e R s m args below meth c T locs cells slots g rest argsL.toArray Post := by
  obtain ⟨mk, hnamed⟩ := hcode.named
  obtain ⟨methM, cM, hmethM, -, -, hsigM⟩ := hcode.facts hnamed
  have hstatic : methM.isStatic = true := Cond.static_spec hnamed hmethM hstat
  obtain ⟨kP, hkP, -⟩ := className_of_methodNamed hnamed
  have hinitP : kP.init = .initialized := Cond.initialized_spec (findClass_of_methodNamed hnamed) hkP hinit
  obtain ⟨vm₁, X₁, hstep₁⟩ := X.invokestaticNest hexec hown hlink hnamed hmethM hstatic hkP hinitP hy (g := g) hg (argsL := argsL) (rest := rest) (hlen _ hsigM) hstack hdg
  rcases hK m meth c ⟨T.setVm vm₁, locs, cells, slots⟩ { g with stack := rest } (.invokestatic index) mk argsL.toArray X₁ hg hsize hdg hW (X₁.named hnamed) (hpre vm₁ X₁.warmed) with ⟨v, B, X', hpost, hsteps⟩ | ⟨q, B, X', hpost, hsteps⟩
  · exact Or.inl ⟨v, vm₁, B, X₁.warmed, X', hpost, fun target h => hstep₁ _ fun acts => by rw [doInvoke_state]; exact hsteps.trans h⟩
  · exact Or.inr ⟨q, vm₁, B, X₁.warmed, X', hpost, hstep₁ _ fun acts => by rw [doInvoke_state]; exact hsteps⟩
theorem gc_I (X : Stand p l e R s m args below meth c T locs cells slots) (hexec : p.tables.exec = Jvm.exec) {own : String} {index maxL : Nat} {bytes : ByteArray}
    (hown : s.vm.findClass own = some m.cls) (hy1 : y.name = "<init>") (hlink : (Cond.methodLink own index y).before args s = true) (hinst : (Cond.instanceMethod y).before args s = true)
    (hcode : (Cond.code y bytes maxL none).before args s = true) (hy : y.cls ≠ "java/lang/invoke/MethodHandle" ∧ y.cls ≠ "java/lang/invoke/VarHandle")
    (hK : gBack l R p e below s args y 3 W9 Pre Post)
    {g : JFrame} (hg : g.method = m) (hsize : g.locals.size = c.maxLocals) {a : Addr} {argsL rest : List Value} (hlen : ∀ sig, parseMethodDescriptor y.desc = some sig → argsL.length = sig.parameters.length)
    (hstack : g.stack = argsL.reverse ++ .ref a :: rest) (hW : 2 * g.monitorRoom + (rest.map fun v => v.category).sum ≤ W9) (hdg : decode c.code g.pc = .ok (.invokespecial index, 3))
    (hpre : ∀ vm₁, s.WarmedH vm₁ → Pre ⟨T.setVm vm₁, locs, cells, slots⟩ (Value.ref a :: argsL).toArray) :
    gCalled p l e R s m args below meth c T locs cells slots g rest (Value.ref a :: argsL).toArray Post := by
  subst hg
  have hpl : e.platform.magicAccessors = ({} : Platform).magicAccessors := by rw [X.admits.platform]
  obtain ⟨mk, methM, cM, kP, vm₁, hnamed, hmethM, hcodeM, -, hlocalsM, -, hkP, -, hW₁, hstep₁⟩ := Steps.initColdArgs (e := e) X.here hexec X.warmed hpl hown hy1 hy hlink hinst hcode (f := g) rfl hlen hstack hdg
  have X₁ := X.noted hW₁
  rcases hK g.method meth c ⟨T.setVm vm₁, locs, cells, slots⟩ { g with stack := rest } (.invokespecial index) mk (Value.ref a :: argsL).toArray X₁ rfl hsize hdg hW (X₁.named hnamed) (hpre vm₁ X₁.warmed) with ⟨v, B, X', hpost, hsteps⟩ | ⟨q, B, X', hpost, hsteps⟩
  · exact Or.inl ⟨v, vm₁, B, X₁.warmed, X', hpost, fun target h => hstep₁ _ fun acts => by rw [doInvoke_state]; exact hsteps.trans h⟩
  · exact Or.inr ⟨q, vm₁, B, X₁.warmed, X', hpost, hstep₁ _ fun acts => by rw [doInvoke_state]; exact hsteps⟩
theorem gc_IN (X : Stand p l e R s m args below meth c T locs cells slots) (hexec : p.tables.exec = Jvm.exec) {own host : String} {index maxL : Nat} {bytes : ByteArray}
    (hown : s.vm.findClass own = some m.cls) (hy1 : y.name = "<init>") (hlink : (Cond.methodLinkNest own index y host).before args s = true) (hinst : (Cond.instanceMethod y).before args s = true)
    (hcode : (Cond.code y bytes maxL none).before args s = true) (hy : y.cls ≠ "java/lang/invoke/MethodHandle" ∧ y.cls ≠ "java/lang/invoke/VarHandle")
    (hK : gBack l R p e below s args y 3 W9 Pre Post)
    {g : JFrame} (hg : g.method = m) (hsize : g.locals.size = c.maxLocals) {a : Addr} {argsL rest : List Value} (hlen : ∀ sig, parseMethodDescriptor y.desc = some sig → argsL.length = sig.parameters.length)
    (hstack : g.stack = argsL.reverse ++ .ref a :: rest) (hW : 2 * g.monitorRoom + (rest.map fun v => v.category).sum ≤ W9) (hdg : decode c.code g.pc = .ok (.invokespecial index, 3))
    (hpre : ∀ vm₁, s.WarmedH vm₁ → Pre ⟨T.setVm vm₁, locs, cells, slots⟩ (Value.ref a :: argsL).toArray) :
    gCalled p l e R s m args below meth c T locs cells slots g rest (Value.ref a :: argsL).toArray Post := by
  subst hg
  have hpl : e.platform.magicAccessors = ({} : Platform).magicAccessors := by rw [X.admits.platform]
  obtain ⟨mk, methM, cM, kP, vm₁, hnamed, hmethM, hcodeM, -, hlocalsM, -, hkP, -, hW₁, hstep₁⟩ := Steps.initColdArgsNest (e := e) X.here hexec X.warmed hpl hown hy1 hy hlink hinst hcode (f := g) rfl hlen hstack hdg
  have X₁ := X.noted hW₁
  rcases hK g.method meth c ⟨T.setVm vm₁, locs, cells, slots⟩ { g with stack := rest } (.invokespecial index) mk (Value.ref a :: argsL).toArray X₁ rfl hsize hdg hW (X₁.named hnamed) (hpre vm₁ X₁.warmed) with ⟨v, B, X', hpost, hsteps⟩ | ⟨q, B, X', hpost, hsteps⟩
  · exact Or.inl ⟨v, vm₁, B, X₁.warmed, X', hpost, fun target h => hstep₁ _ fun acts => by rw [doInvoke_state]; exact hsteps.trans h⟩
  · exact Or.inr ⟨q, vm₁, B, X₁.warmed, X', hpost, hstep₁ _ fun acts => by rw [doInvoke_state]; exact hsteps⟩
end GCalls
