/-! THE CLAIM OUT OF ONE WALK OF THE LAW'S BODY. Your part is whole_start (and what it stands on); all else here is the same for every law, but numbers. -/
def R_law : String := "DoorbellChoirLaw"
def lw_P (b : Addr) (xs : List Int32) (args : Array Value) (s : State) : Prop := args = #[.ref b] ∧ s.IntsAt b xs ∧ xs.length ≤ 260 ∧ (Jvm.Cond.and given_1 narrow_1).before args s = true
def lw_Q (_ : Array Value) (s : State) (o : Outcome) (t : State) : Prop := o = .returned (some (.int 1)) ∧ Framed s o t [] 600074 7301550
def lw_Z (below : List Frame) (a : Array Value) (s : State) : State → Prop := fun t => ∃ o, t.status = .running ∧ Ended t below o ∧ lw_Q a s o t
/-- the law's own end, with 1 on the stack, nothing written that was there before, its room as the claim has it -/
theorem lw_ret {p : Program} {l : Launch} {e : Env} {s : State} {m : MethodId} {below : List Frame} {meth : Method} {c : Code} {b : Nat} (hx : p.tables.exec = Jvm.exec) (hb : c.code = code) (hr : meth.sig.returnType = ret) (hlocks : meth.locks = false) {pc : Nat} {H : Heap} {ls : Array Slot} (hdg : decode code pc = .ok (.ireturn, 1)) : W p l e room_1 s m #[Value.ref b] below meth c H [] 600074 7301550 (lw_Z below #[Value.ref b] s) (F0 m pc ls [.int 1]) := by
  intro T hT X
  obtain ⟨fs, hret, hrun, hended, hW, hframe⟩ := X.leave (v := some (.int 1)) (hlocks := hlocks) (fun h => by rw [hr] at h; cases h)
  have hmeth' : T.vm.method? m = some meth := X.method'
  refine ⟨T.setFrames fs, ?_, .returned (some (.int 1)), hrun, hended, rfl, ⟨_, rfl⟩, hW, hframe⟩
  jvm_step X.here [X.here.top, hx, hb, hdg, hmeth', hr, ret, narrow_b1]
  (try refine ⟨rfl, ?_⟩); (try refine ⟨rfl, ?_⟩)
  first | (intro acts; rw [hret _ acts rfl rfl rfl]) | rw [hret _ _ rfl rfl rfl]
  exact Steps.refl _
/-- what holds at the law's entry: the machine, the code, the tables' words (any of lw_tbl by 'hts w (by decide +kernel)'), the script of L ints xs at the cell b, what the Statement gives of the start (any of its parts by flat_of_before) -/
def lw_At (p : Program) (s : State) (m : MethodId) (meth : Method) (c : Code) (b L : Nat) (xs : Nat → Int32) : Prop :=
  p.tables.exec = Jvm.exec ∧ c.code = code ∧ meth.sig.returnType = ret ∧ c.maxLocals = 18 ∧ s.vm.findClass R_law = some m.cls ∧ (∀ w ∈ lw_tbl, w.before #[Value.ref b] s = true) ∧ va_X b L xs s s.heap ∧ b < s.heap.size ∧ meth.locks = false ∧ (Jvm.Cond.and given_1 narrow_1).before #[Value.ref b] s = true
theorem l_stack {l : Launch} (hflags : l.flags = flags0) : l.stackTraces = false := by
  rw [show l.stackTraces = !(l.flags.contains noTraceFlag) from rfl, hflags]
  decide +kernel

set_option maxRecDepth 100000 in
set_option maxHeartbeats 4000000 in
/-- the classes that the pool knows, as the tables say them -/
theorem l_known {s : State} {args : Array Value} (hts : ∀ w ∈ lw_tbl, w.before args s = true) : ∃ D : va_G, ∀ (k : Nat) (q : vw_C), vwCl[k]? = some q → u_Kn s q.1 q.2.1 q.2.2 (D.1 k) (D.2 k) := by
  obtain ⟨c0, j0, hKn0⟩ := u_known (C := RX7) (T := TX7) (N := 9) (n := 9) hts wsL_law_qwsX70 (hts (.instantiable RX7 9) (by decide +kernel))
  obtain ⟨c1, j1, hKn1⟩ := u_known (C := RX8) (T := TX8) (N := 7) (n := 7) hts wsL_law_qwsX80 (hts (.instantiable RX8 7) (by decide +kernel))
  obtain ⟨c2, j2, hKn2⟩ := u_known (C := RJx4a65c) (T := TJx4a65c) (N := 3) (n := 3) hts wsL_law_qwsJx4a65c0 (hts (.instantiable RJx4a65c 3) (by decide +kernel))
  obtain ⟨c3, j3, hKn3⟩ := u_known (C := RX0) (T := TX0) (N := 9) (n := 9) hts wsL_law_qwsX00 (hts (.instantiable RX0 9) (by decide +kernel))
  obtain ⟨c4, j4, hKn4⟩ := u_known (C := RX1) (T := TX1) (N := 7) (n := 7) hts wsL_law_qwsX10 (hts (.instantiable RX1 7) (by decide +kernel))
  obtain ⟨c5, j5, hKn5⟩ := u_known (C := RX2) (T := TX2) (N := 6) (n := 6) hts wsL_law_qwsX20 (hts (.instantiable RX2 6) (by decide +kernel))
  obtain ⟨c6, j6, hKn6⟩ := u_known (C := RX3) (T := TX3) (N := 4) (n := 4) hts wsL_law_qwsX30 (hts (.instantiable RX3 4) (by decide +kernel))
  obtain ⟨c7, j7, hKn7⟩ := u_known (C := RX4) (T := TX4) (N := 8) (n := 8) hts wsL_law_qwsX40 (hts (.instantiable RX4 8) (by decide +kernel))
  obtain ⟨c8, j8, hKn8⟩ := u_known (C := RX5) (T := TX5) (N := 2) (n := 2) hts wsL_law_qwsX50 (hts (.instantiable RX5 2) (by decide +kernel))
  obtain ⟨c9, j9, hKn9⟩ := u_known (C := RX6) (T := TX6) (N := 9) (n := 9) hts wsL_law_qwsX60 (hts (.instantiable RX6 9) (by decide +kernel))
  refine ⟨(fun k => if k = 0 then c0 else if k = 1 then c1 else if k = 2 then c2 else if k = 3 then c3 else if k = 4 then c4 else if k = 5 then c5 else if k = 6 then c6 else if k = 7 then c7 else if k = 8 then c8 else c9, fun k => if k = 0 then j0 else if k = 1 then j1 else if k = 2 then j2 else if k = 3 then j3 else if k = 4 then j4 else if k = 5 then j5 else if k = 6 then j6 else if k = 7 then j7 else if k = 8 then j8 else j9), ?_⟩
  intro k q hq
  match k, hq with
  | 0, hq => cases hq; exact hKn0
  | 1, hq => cases hq; exact hKn1
  | 2, hq => cases hq; exact hKn2
  | 3, hq => cases hq; exact hKn3
  | 4, hq => cases hq; exact hKn4
  | 5, hq => cases hq; exact hKn5
  | 6, hq => cases hq; exact hKn6
  | 7, hq => cases hq; exact hKn7
  | 8, hq => cases hq; exact hKn8
  | 9, hq => cases hq; exact hKn9
  | k + 10, hq => simp [vwCl] at hq
set_option maxRecDepth 100000 in
set_option maxHeartbeats 4000000 in
theorem whole_start {p : Program} {e : Env} {s : State} {m : MethodId} {below : List Frame} {meth : Method} {c : Code} (l : Launch) (hflags : l.flags = flags0) {b L : Nat} {xs : Nat → Int32} (hL : L ≤ 260) (C0 : lw_At p s m meth c b L xs) : W p l e room_1 s m #[Value.ref b] below meth c s.heap [] 0 0 (lw_Z below #[Value.ref b] s) (entryFrame m ([Value.ref b] : List Value).toArray 18) := by
  obtain ⟨hx, hb, hr, hml, hown, hts, hX, hbl, hlocks, hgv⟩ := id C0
  have hA : ∀ q : Nat, s.heap.size ≤ q → (fun q : Nat => s.heap.size ≤ q) q := fun _ h => h
  have hA9 : ∀ q : Nat, q < s.heap.size → ¬ (fun q : Nat => s.heap.size ≤ q) q := fun _ h => Nat.not_le.mpr h
  have hs := flat_of_before _ hgv
  obtain ⟨t, ht, hT⟩ := va_Tof (tm := .static "java/util/ArrayList" "DEFAULTCAPACITY_EMPTY_ELEMENTDATA" "[Ljava/lang/Object;") (ty := .object "java/lang/Object") (N := 0) (f := fun _ => .null) (A := fun q : Nat => s.heap.size ≤ q) (by decide) (hs (Cond.arrayOf (.static "java/util/ArrayList" "DEFAULTCAPACITY_EMPTY_ELEMENTDATA" "[Ljava/lang/Object;") (.object "java/lang/Object")) (by decide +kernel)) (va_eqt (hs (Cond.eq (.length (.static "java/util/ArrayList" "DEFAULTCAPACITY_EMPTY_ELEMENTDATA" "[Ljava/lang/Object;")) (.int 0)) (by decide +kernel))) (fun j hj => absurd hj (Nat.not_lt_zero j)) hA9
  have hZ0 := va_Zref (hts (.laysStatic "java/util/ArrayList" "DEFAULTCAPACITY_EMPTY_ELEMENTDATA" "[Ljava/lang/Object;") (by decide +kernel)) (hts (.initialized "java/util/ArrayList") (by decide +kernel)) ht hA9
  have hU := vx_Zqof (hts (.laysStatic Bundle.tN "UNASSIGNED_STACK" Bundle.steD) (by decide +kernel)) (hts (.initialized Bundle.tN) (by decide +kernel)) (hs (Cond.isRef (.static Bundle.tN "UNASSIGNED_STACK" Bundle.steD)) (by decide +kernel)) hA9
  have hV := vx_Zqof (hts (.laysStatic Bundle.tN "SUPPRESSED_SENTINEL" Bundle.listD) (by decide +kernel)) (hts (.initialized Bundle.tN) (by decide +kernel)) (hs (Cond.isRef (.static Bundle.tN "SUPPRESSED_SENTINEL" Bundle.listD)) (by decide +kernel)) hA9
  obtain ⟨D, hD0⟩ := l_known hts
  obtain ⟨cI, kI, pI9, f1, f2, f3⟩ := Cond.arrayClass_spec (hts (.arrayClass .int) (by decide +kernel))
  obtain ⟨pA, cA, kA, a1, a2, a3, a4, a5⟩ := arrayOverA_spec (hts (.arrayOver (.array .int)) (by decide +kernel))
  have hAO := hts (.arrayOver (.object "java/lang/Object")) (by decide +kernel)
  obtain ⟨pO, cO, kO, e1, e2, e3, e4, e5⟩ := Cond.arrayOver_spec hAO
  obtain ⟨pT, cT, kT, t1, t2, t3, t4, t5⟩ := Cond.arrayOver_spec (hts (.arrayOver (.object "DoorbellChoirLaw$Tenant")) (by decide +kernel))
  obtain ⟨mi, hMi⟩ := va_Mi.of (hs (Cond.isRef (.mirror "[Ljava/lang/Object;")) (by decide +kernel))
  obtain ⟨G, hG⟩ : ∃ G : gG, G = (D, (cI, cA, cO, cT), (t, mi)) := ⟨_, rfl⟩
  have hK : gK G s := by
    subst hG
    refine ⟨⟨hD0, fun k q hq => ?_⟩, hMi, va_AO.of hAO, fun w hw hk => ?_⟩
    · match k, hq with
      | 0, hq => cases hq; exact ⟨fun n z => ⟨fun k h => (by cases h), kI, f2, pI9, f3⟩, f1⟩
      | 1, hq => cases hq; exact ⟨fun n z => ⟨fun k h => (by cases h), kA, a3, pA, a4⟩, a5⟩
      | 2, hq => cases hq; exact ⟨fun n z => ⟨fun k h => (by cases h), kO, e3, pO, e4⟩, kO, pO, e3, e4, e1, e5⟩
      | 3, hq => cases hq; exact ⟨fun n z => ⟨fun k h => (by cases h), kT, t3, pT, t4⟩, kT, pT, t3, t4, t1, t5⟩
      | k + 4, hq => simp [gTy] at hq
    · have h9 := hts w hw
      cases w <;> first | exact va_Nw.of rfl h9 | exact h9 | (simp [gKind] at hk; done)
  have hZ : gZ G (fun q : Nat => s.heap.size ≤ q) s s.heap := by
    subst hG
    exact ⟨hZ0, hT, hU, hV⟩
  obtain ⟨X, hX9⟩ : ∃ X : gX, X = ((p, l, e, room_1, s, m, #[Value.ref b], below, meth, c), (G, (fun q : Nat => s.heap.size ≤ q), 18, lw_Z below #[Value.ref b] s)) := ⟨_, rfl⟩
  have hB : gB X room_1 cL_law wsL_law RL := by
    subst hX9
    exact ⟨⟨hx, hb, hml, hown, fun w hw => hts w (wsL_law_in w hw)⟩, hK, hZ, hA, hlocks, l_stack hflags, rfl⟩
  have hS9 : gScr X b L xs := by
    subst hX9
    exact ⟨hX, hbl, hA9 b hbl⟩
  have hend : lEnd X := by
    subst hX9
    intro h k n lc hk hn H locs ls hP hD hS hls
    refine lv_iconst (v := 1) hx hb dL_law_854 (by decide) ?_
    refine va_forget (fun q hq => hS.2.2 q hq) ?_
    refine W.widen (k := 600074) (n := 7301550) hk hn ?_
    exact lw_ret hx hb hr hlocks dL_law_855
  have go := l_start hB (by subst hX9; rfl) hS9 hL hend ([], fun _ => .inr (0, []))
  subst hX9
  have hl := lv_entry ([.ref b]) (n := 18) (Nat.le_of_ble_eq_true rfl)
  rw [lg_entry_eq]
  exact go s.heap [] _ (fun k q h => by simp [gw, va_pl] at h) ⟨fun i j p q h => by simp [gw, va_pl] at h, fun k q h => by simp [gw, va_pl] at h⟩ va_S.rf hl
