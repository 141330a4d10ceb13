/-! a world's part and the rest of it; a method that is given the script; rows of rows, rows of tenants -/
theorem pw_lt {D : va_G} {h : gH} {H : Heap} (hP : va_P D vwCl (gw h) H) {a : Nat} (ha : a ∈ h.1) : a < H.size := va_pl_lt (X := []) hP ha
theorem pw_mem {h : gH} {k : Nat} {x : Nat × va_E} (hk : (gw h)[k]? = some x) : gat h x.1 x.2 := by
  obtain ⟨a, ha, e⟩ := List.mem_map.mp (List.mem_of_getElem? hk)
  rw [← e]
  exact ⟨ha, rfl⟩
theorem gw_ix {h : gH} {i : Nat} {p : Nat × va_E} (hp : (gw h)[i]? = some p) : h.1[i]? = some p.1 := by
  unfold gw va_pl at hp
  rw [List.getElem?_map] at hp
  cases e : h.1[i]? with
  | none =>
    rw [e] at hp
    cases hp
  | some a =>
    rw [e] at hp
    rw [← Option.some.inj hp]
theorem gw_nodup {A : Nat → Prop} {h : gH} (hD : va_D A (gw h)) : h.1.Nodup := by
  refine List.pairwise_iff_getElem.mpr (fun i j hi hj hij e => ?_)
  have a1 : (gw h)[i]? = some (h.1[i], h.2 h.1[i]) := by
    unfold gw va_pl
    rw [List.getElem?_map, List.getElem?_eq_getElem hi]
    rfl
  have a2 : (gw h)[j]? = some (h.1[j], h.2 h.1[j]) := by
    unfold gw va_pl
    rw [List.getElem?_map, List.getElem?_eq_getElem hj]
    rfl
  have := hD.1 i j _ _ a1 a2 e
  omega
theorem gw_ofnd {A : Nat → Prop} {h : gH} (hn : h.1.Nodup) (hA : ∀ q, q ∈ h.1 → A q) : va_D A (gw h) := by
  refine ⟨fun i j p q hp hq e => ?_, fun k q hk => hA _ (pw_mem hk).1⟩
  have b1 := gw_ix hp
  have b2 := gw_ix hq
  exact (List.getElem?_inj (List.getElem?_eq_some_iff.mp b1).1 hn).mp (b1.trans ((congrArg some e).trans b2.symm))
def gSub (h1 h : gH) : Prop := ∀ q e, gat h1 q e → gat h q e
/-- what lies in h and not in its part h1 lies in h', and not in its part h1' -/
def gRest (h h1 h' h1' : gH) : Prop := ∀ q e, gat h q e → q ∉ h1.1 → gat h' q e ∧ q ∉ h1'.1
theorem gMet.imp {y : MethodName} {ws : List Cond} {rm : Room} {G : gG} {h : gH} {av : List Value} {Po Po' : gPo} (hM : gMet y ws rm G h av Po) (hp : ∀ r h' k n, Po r h' k n → Po' r h' k n) : gMet y ws rm G h av Po' := by
  intro l hl sz p e ha hc hk s m args below hf happ hP hK
  obtain ⟨n, o, e1, e2, e3, hQ⟩ := hM l hl sz p e ha hc hk s m args below hf happ hP hK
  obtain ⟨k, nn, h1', L, pw, dw, hW, hsm, hL, hout⟩ := hQ
  refine ⟨n, o, e1, e2, e3, k, nn, h1', L, pw, dw, hW, hsm, hL, ?_⟩
  rcases hout with ⟨v, ho, hpo⟩ | ⟨q, E, ce, ho, g1, g2, g3, hpo⟩
  · exact Or.inl ⟨v, ho, hp _ _ _ _ hpo⟩
  · exact Or.inr ⟨q, E, ce, ho, g1, g2, g3, hp _ _ _ _ hpo⟩
theorem gMet.keep {y : MethodName} {ws : List Cond} {rm : Room} {G : gG} {h1 : gH} {av : List Value} {Po : gPo} (hM : gMet y ws rm G h1 av Po) {h : gH} (hs : gSub h1 h) (hn : h1.1.Nodup) : gMet y ws rm G h av (fun r h' k n => ∃ h1', Po r h1' k n ∧ gSub h1' h' ∧ gRest h h1 h' h1' ∧ h1'.1.Nodup) := by
  intro l hl sz p e ha hc hk s m args below hf happ hP hK
  obtain ⟨h_a, hsz, hPw, hDw, hK9, hZ⟩ := hP
  have hAA : ∀ q, va_A (gw h1) sz q → va_A (gw h) sz q := by
    rintro q (⟨k, e9, h9⟩ | h9)
    · obtain ⟨k', hk'⟩ := gw_get (hs _ _ (pw_mem h9))
      exact Or.inl ⟨k', _, hk'⟩
    · exact Or.inr h9
  have hP1 : gPc G h1 sz av args s := by
    refine ⟨h_a, hsz, fun k q hk => ?_, gw_ofnd hn (fun _ _ => trivial), hK9, hZ.narrow hAA⟩
    obtain ⟨k', hk'⟩ := gw_get (hs _ _ (pw_mem hk))
    exact hPw k' _ hk'
  obtain ⟨n, o, e1, e2, e3, hQ⟩ := hM l hl sz p e ha hc hk s m args below hf happ hP1 hK
  refine ⟨n, o, e1, e2, e3, ?_⟩
  generalize stepsAlone p.tables e n s = t at hQ ⊢
  obtain ⟨k, nn, h1', L, pw, dw, hW, hsm, hL, hout⟩ := hQ
  obtain ⟨f1, f2⟩ := vx_frame hsm
  have hst : ∀ q : Nat, q < s.heap.size → ¬ va_A (gw h1) sz q → t.heap[q]? = s.heap[q]? := fun q hq hA => f2 q hq (fun z hz ez => hA (ez ▸ hL z hz))
  have hnA : ∀ q, q ∈ h.1 → q ∉ h1.1 → ¬ va_A (gw h1) sz q := by
    rintro q hq hq1 (⟨k9, e9, h9⟩ | h9)
    · exact hq1 (pw_mem h9).1
    · have := pw_lt hPw hq
      omega
  have hn1' : ∀ q, q ∈ h.1 → q ∉ h1.1 → q ∉ h1'.1 := fun q hq hq1 hq2 => by
    obtain ⟨k9, h9⟩ := gw_get (h := h1') (q := q) (e := h1'.2 q) ⟨hq2, rfl⟩
    exact hnA q hq hq1 (dw.2 k9 _ h9)
  obtain ⟨h', eh⟩ : ∃ h' : gH, h' = (h1'.1 ++ h.1.filter (fun q => decide (q ∉ h1.1)), fun q => if q ∈ h1'.1 then h1'.2 q else h.2 q) := ⟨_, rfl⟩
  have ev1 : ∀ q, q ∈ h1'.1 → h'.2 q = h1'.2 q := fun q hq => by rw [eh]; exact if_pos hq
  have ev2 : ∀ q, q ∉ h1'.1 → h'.2 q = h.2 q := fun q hq => by rw [eh]; exact if_neg hq
  have ei1 : ∀ q, q ∈ h1'.1 → q ∈ h'.1 := fun q hq => by rw [eh]; exact List.mem_append_left _ hq
  have ei2 : ∀ q, q ∈ h.1 → q ∉ h1.1 → q ∈ h'.1 := fun q hq hq1 => by rw [eh]; exact List.mem_append_right _ (List.mem_filter.mpr ⟨hq, decide_eq_true hq1⟩)
  have ei3 : ∀ q, q ∈ h'.1 → q ∈ h1'.1 ∨ (q ∈ h.1 ∧ q ∉ h1.1) := fun q hq => by
    rw [eh] at hq
    rcases List.mem_append.mp hq with z9 | z9
    · exact Or.inl z9
    · obtain ⟨z1, z2⟩ := List.mem_filter.mp z9
      exact Or.inr ⟨z1, of_decide_eq_true z2⟩
  have hnd : h'.1.Nodup := by
    rw [eh]
    refine List.nodup_append.mpr ⟨gw_nodup dw, List.Nodup.sublist List.filter_sublist (gw_nodup hDw), fun a ha9 b hb e9 => ?_⟩
    obtain ⟨z1, z2⟩ := List.mem_filter.mp hb
    subst e9
    exact hn1' a z1 (of_decide_eq_true z2) ha9
  have hP' : va_P G.1 vwCl (gw h') t.heap := by
    intro k9 q hq
    obtain ⟨m1, m2⟩ := pw_mem hq
    obtain ⟨q1, q2⟩ := q
    rcases ei3 _ m1 with z9 | ⟨z1, z2⟩
    · obtain ⟨k8, h8⟩ := gw_get (h := h1') (q := q1) (e := h1'.2 q1) ⟨z9, rfl⟩
      have := pw k8 _ h8
      rw [← ev1 _ z9, show h'.2 q1 = q2 from m2] at this
      exact this
    · obtain ⟨k8, h8⟩ := gw_get (h := h) (q := q1) (e := h.2 q1) ⟨z1, rfl⟩
      have := (hPw k8 _ h8).kept (hst q1 (pw_lt hPw z1) (hnA q1 z1 z2))
      rw [← ev2 _ (hn1' _ z1 z2), show h'.2 q1 = q2 from m2] at this
      exact this
  have hD' : va_D (va_A (gw h) sz) (gw h') := gw_ofnd hnd (fun q hq => by
    rcases ei3 _ hq with z9 | ⟨z1, -⟩
    · obtain ⟨k9, h9⟩ := gw_get (h := h1') (q := q) (e := h1'.2 q) ⟨z9, rfl⟩
      exact hAA _ (dw.2 k9 _ h9)
    · obtain ⟨k9, h9⟩ := gw_get (h := h) (q := q) (e := h.2 q) ⟨z1, rfl⟩
      exact Or.inl ⟨k9, _, h9⟩)
  have hsub : gSub h1' h' := fun q e9 hq => ⟨ei1 _ hq.1, (ev1 _ hq.1).trans hq.2⟩
  have hrest : gRest h h1 h' h1' := fun q e9 hq hq1 => ⟨⟨ei2 _ hq.1 hq1, (ev2 _ (hn1' _ hq.1 hq1)).trans hq.2⟩, hn1' _ hq.1 hq1⟩
  refine ⟨k, nn, h', L, hP', hD', hW, hsm, fun z hz => hAA _ (hL z hz), ?_⟩
  rcases hout with ⟨v, ho, hpo⟩ | ⟨q, E, ce, ho, g1, g2, g3, hpo⟩
  · exact Or.inl ⟨v, ho, h1', hpo, hsub, hrest, gw_nodup dw⟩
  · exact Or.inr ⟨q, E, ce, ho, g1, g2, g3, h1', hpo, hsub, hrest, gw_nodup dw⟩
/-! the script, given to a method -/
def gSc (b L : Nat) (xs : Nat → Int32) (A : Nat → Prop) (U : State) : Prop := va_X b L xs U U.heap ∧ b < U.heap.size ∧ ¬ A b
def gMetS (b L : Nat) (xs : Nat → Int32) (y : MethodName) (ws : List Cond) (rm : Room) (G : gG) (h : gH) (av : List Value) (Po : gPo) : Prop :=
  ∀ (l : Launch), l.stackTraces = false → ∀ sz : Nat, MetFree l y (headSpec ws rm) (fun a U => gPc G h sz av a U ∧ gSc b L xs (va_A (gw h) sz) U) (fun _ _ _ _ _ => True) (fun _ st o t => gQc G (va_A (gw h) sz) Po st o t)
theorem gPcS_blind {b L : Nat} {xs : Nat → Int32} {A : Nat → Prop} {G : gG} {h : gH} {sz : Nat} {av : List Value} : FrameBlind (fun a U => gPc G h sz av a U ∧ gSc b L xs A U) := fun a U g mk hp => ⟨gPc_blind a U g mk hp.1, hp.2.1.moved (u := U) (U := U.calling g mk a) (Vm.Alike.refl U.vm), hp.2.2.1, hp.2.2.2⟩
theorem gMetS_of {b L : Nat} {xs : Nat → Int32} {y : MethodName} {ws ws' : List Cond} {rm : Room} {G : gG} {h : gH} {av : List Value} {Po : gPo} {cc : ByteArray} {maxL : Nat} {ret : Option FieldType}
    (hy : plainName y.cls = true) (hw : ws = Cond.code y cc maxL ret :: ws') (hlen : (lg_sl av).length ≤ maxL)
    (body : ∀ X : gX, X.2.1 = G → gnL X = maxL → gB X rm cc ws y.cls → gE X Po ret [] y.name → gScr X b L xs → gW X h 0 0 0 (lv_args 0 av) []) : gMetS b L xs y ws rm G h av Po := by
  intro l hl sz
  refine MetFree.of_bodyS (code := cc) (maxLocals := maxL) (ret := ret) hy ?_ ?_
  · intro args s m h hn
    obtain ⟨meth, c, h1, h2, h3, h4, h5, h6, -, -⟩ := Cond.code_spec hn (atoms_spec (ws := ws) h _ (by rw [hw]; exact List.mem_cons_self))
    exact ⟨meth, c, h1, h2, h3, h4, h5, h6⟩
  · intro p e s m args below meth c s₁ B hml hP _
    obtain ⟨⟨rfl, hsz, hPw, hDw, hK, hZ⟩, hSc⟩ := hP
    subst hsz
    have hh0 : s₁.heap = s.heap := by rw [B.state]; rfl
    have ht : c.exceptionTable.toList = [] := by
      obtain ⟨meth9, c9, h1, h2, -, -, -, -, h7, -⟩ := Cond.code_spec B.named (atoms_spec (ws := ws) B.pre _ (by rw [hw]; exact List.mem_cons_self))
      cases Option.some.inj (h1.symm.trans B.method)
      cases Option.some.inj (h2.symm.trans (Stand.of_body B).code)
      rw [Array.isEmpty_iff.mp h7]
    have hts := atoms_spec (ws := ws) B.pre
    have hown : s.vm.findClass y.cls = some m.cls := findClass_of_methodNamed B.named
    have hnm : meth.name = y.name := (name_of_methodNamed B.named B.method).1
    have hb := body ((p, l, e, (headSpec ws rm).room, s, m, av.toArray, below, meth, c), (G, va_A (gw h) s.heap.size, maxL, gMQ below G (va_A (gw h) s.heap.size) Po s)) rfl rfl
      ⟨⟨B.exec, B.bytes, hml, hown, hts⟩, hK, hZ, fun q hq => Or.inr hq, B.notSynchronized, hl, rfl⟩ ⟨rfl, B.returns, ht, hnm⟩ hSc
    have hls := lv_entry av (n := maxL) hlen
    have h9 := hb s.heap [] _ hPw hDw.self va_S.rf hls
    rw [← lg_entry_eq (m := m)] at h9
    obtain ⟨t, a1, o, b1, b2, b3⟩ := h9 s₁ hh0 (Stand.of_body B)
    exact ⟨t, o, a1, b1, b2, b3⟩
section PRows
variable {X : gX} {R : Room} {cc : ByteArray} {Ts : List Cond} {own : String} {h : gH} {k n pc : Nat} {lc : List (Nat × Value)} {st : List Value}
theorem gI_callSS (hB : gB X R cc Ts own) {b L : Nat} {xs : Nat → Int32} (hS9 : gScr X b L xs) {y : MethodName} {ws : List Cond} {rm : Room} {bytes : ByteArray} {maxL n9 index : Nat} {ret : Option FieldType} {As rest : List Value} {Po : gPo}
    (hM : gMetS b L xs y ws rm X.2.1 h As Po) (cw : gCW Ts ws y bytes maxL ret rm R n9) (hl : Cond.methodLink own index y ∈ Ts) (hstat : Cond.static y ∈ Ts) (hini : Cond.initialized y.cls ∈ Ts)
    (hn : As.length = n9) (hst : st = As.reverse ++ rest) (hcat : (rest.map fun v => v.category).sum ≤ 8) (hk9 : k + rm.cells ≤ R.cells) (hn9 : n + rm.slots ≤ R.slots) (hd : decode cc pc = .ok (.invokestatic index, 3))
    (kv : ∀ (v : Option Value) (h1 : gH) (k1 n1 : Nat), Po (.inl v) h1 k1 n1 → gW X h1 (k + k1) (n + n1) (pc + 3) lc (v.toList ++ rest))
    (kx : ∀ (E : String) (h1 : gH) (k1 n1 : Nat), Po (.inr E) h1 k1 n1 → gWX X h1 (k + k1) (n + n1) pc lc rest E) : gW X h k n pc lc st := by
  refine gI_called hB (rest := rest) (a := As.toArray) (Po := Po) ?_ kv kx
  intro p l e R0 s m args below meth c A nL Q hX H locs ls hP hD hS hls T9 hT Y
  generalize hG : X.2.1 = G at hX hM hP
  subst hX
  obtain ⟨⟨hx, hb, hml, hown, hts⟩, hK, hZ, hA, hlk, hlt, hR⟩ := hB
  obtain ⟨hX9, hbl, hbA⟩ := hS9
  subst hR
  have hZ9 := hZ
  have hXH : va_X b L xs s H := hX9.kept (hS.2.1 b hbl hbA)
  have hbl9 : b < H.size := Nat.lt_of_lt_of_le hbl hS.1
  have hnb : ¬ va_A (gw h) H.size b := by
    rintro (⟨k0, e0, hq⟩ | hq)
    · exact hbA (hD.2 k0 (b, e0) hq)
    · omega
  have hbk := g_back (l := l) (R := R0) (p := p) (e := e) (below := below) (s := s) (sargs := args) (len := 3) (W9 := 8) (hM l hlt H.size) gPcS_blind cw.2.2.2.2.1 cw.2.2.2.2.2 (fun w hw a' U hW => pay_in hts cw.1 w hw a' U hW) (cw.code hts) (fun a' U hW => word_at hW (Or.inl (by first | rfl | simp [Cond.onTables, Cond.keeps, Cond.steady])) (hts _ hini))
  exact gc_S Y hx hown (hts _ hl) (hts _ hstat) (hts _ hini) (cw.code hts args s (State.WarmedH.refl s)) cw.2.2.1 hbk rfl (by rw [hml]; exact hls.1) (argsL := As) (rest := rest) (fun sig hs => hn.trans (cw.len sig hs)) hst (by show 2 * 0 + _ ≤ 8; omega) (by rw [hb]; exact hd)
    (fun vm₁ hW₁ => ⟨hk9, hn9, gw_pre (av := As) hK hZ9 hA hP hD hS (U := T9.setVm vm₁) hT hW₁, by
      have e9 : (T9.setVm vm₁).heap = H := hT
      refine ⟨?_, ?_, hnb⟩
      · rw [e9]
        exact hXH.moved hW₁.alike
      · rw [e9]
        exact hbl9⟩)
/-- rows of rows of ints -/
theorem gC_newA (hB : gB X R cc Ts own) {x : Int32} {index : Nat} (N : Nat) (hN : x = nI N) (hN9 : N < 100000) (hcl : Cond.classLink own index "[I" ∈ Ts) (hk9 : k + 1 ≤ R.cells) (hn9 : n + N ≤ R.slots) (hd : decode cc pc = .ok (.anewarray index, 3))
    (kk : ∀ (q : Nat) (h1 : gH), q ∉ h.1 → gat h1 q (.inl (gJ X.2.1, N, .inr (.inr (.inr (.inr (fun _ => none)))))) → gSa h h1 → gW X h1 (k + 1) (n + N) (pc + 3) lc (.ref q :: st)) : gW X h k n pc lc (.int x :: st) := by
  obtain ⟨⟨p, l, e, R0, s, m, args, below, meth, c⟩, ⟨G, A, nL, Q⟩⟩ := X
  obtain ⟨⟨hx, hb, hml, hown, hts⟩, hK, hZ, hA, hlk, hlt, hR⟩ := hB
  intro H locs ls hP hD hS hls
  subst hR
  subst hN
  have ht : (Cond.arrayOver (.array .int)).before args s = true := hK.2.2.2 (.arrayOver (.array .int)) (by decide +kernel) rfl
  have eN : (nI N).toNatClampNeg = N := nI_clamp (by omega)
  refine W.anewA (t := .int) hx hb hown (hts _ hcl) ht rfl hd rfl (nI_pos (by omega)) (by rw [eN]; omega) hk9 (by rw [eN]; exact hn9) fun cA kA comp f1 f2 f3 f4 => ?_
  rw [eN]
  have hcA : cA = gJ G := Option.some.inj (f1.symm.trans (hK.1.2 1 (gJ G, .array .int) rfl).2)
  subst hcA
  generalize hH1 : H.push ({ cls := gJ G, slots := Array.replicate N .null, vm := .none } : Cell) = H1
  have z1 : H1.size = H.size + 1 := by rw [← hH1, Array.size_push]
  have e1 : H1[H.size]? = some (arrV (gJ G) N (fun _ => .null)) := by rw [← hH1, Array.getElem?_push_size, ← arrV_new]
  have o1 : ∀ q : Nat, q < H.size → H1[q]? = H[q]? := fun q hq => by rw [← hH1, Array.getElem?_push, if_neg (Nat.ne_of_lt hq)]
  have hk : ∀ (k : Nat) (x : Nat × va_E), (gw h)[k]? = some x → H1[x.1]? = H[x.1]? := fun k x hx => o1 x.1 ((hP k x hx).lt)
  have hP1 : va_P G.1 vwCl (gw h ++ [(H.size, .inl (gJ G, N, .inr (.inr (.inr (.inr (fun _ => none))))))]) H1 := (hP.kept hk).app (fun k x hx => by
    have hz : k < 1 := (List.getElem?_eq_some_iff.mp hx).1
    rw [show k = 0 by omega] at hx
    cases hx
    exact e1)
  have hD1 : va_D A (gw h ++ [(H.size, .inl (gJ G, N, .inr (.inr (.inr (.inr (fun _ => none))))))]) := hD.push hP rfl (hA _ hS.1)
  have hS1 : va_S A s.heap H1 locs := ⟨Nat.le_trans hS.1 (by omega), fun x h1 h2 => (o1 x (Nat.lt_of_lt_of_le h1 hS.1)).trans (hS.2.1 x h1 h2), hS.2.2⟩
  have hq := gw_fresh hD1
  rw [gw_push hq] at hP1 hD1
  exact kk _ _ hq gat_new_self (fun _ _ z => gat_new z hq) H1 locs ls hP1 hD1 hS1 hls
theorem gC_aaldA (hB : gB X R cc Ts own) {a N y : Nat} {f : Nat → Option Nat} (z : Nat) {i : Int32} (ha : gat h a (.inl (gJ X.2.1, N, .inr (.inr (.inr (.inr f)))))) (hi : i = nI z) (hz : z < N) (hN : N < 100000) (hy : f z = some y) (hd : decode cc pc = .ok (.aaload, 1))
    (kk : gW X h k n (pc + 1) lc (.ref y :: st)) : gW X h k n pc lc (.int i :: .ref a :: st) := by
  obtain ⟨⟨p, l, e, R0, s, m, args, below, meth, c⟩, ⟨G, A, nL, Q⟩⟩ := X
  obtain ⟨⟨hx, hb, hml, hown, hts⟩, hK, hZ, hA, hlk, hlt, hR⟩ := hB
  intro H locs ls hP hD hS hls
  subst hi
  obtain ⟨q0, hq⟩ := gw_get ha
  have eN : (nI z).toNatClampNeg = z := nI_clamp (by omega)
  have hin : vp_in (nI z) N := vp_in_nI hz (by omega)
  refine W.aald (v := va_rf (f z)) (ty := .array .int) hx hb (hP q0 _ hq) ((hK.1.2 1 (gJ G, .array .int) rfl).1 N (fun j => va_rf (f j))) rfl (fun q => by cases q) (by show ¬ (_ < 0 ∨ (arrV _ _ _).slots.size ≤ _); rw [arrV_size]; exact hin) (by show (arrV _ _ _).slots[_]? = _; rw [eN, arrV_read _ _ hz]) rfl rfl hd ?_
  have h9 := kk H locs ls hP hD hS hls
  rw [hy]
  exact h9
theorem va_self (vm : Vm) (c : ClassId) : vm.assignable c c = true := by
  unfold Vm.assignable Vm.assignableAux
  simp
theorem gC_aastA (hB : gB X R cc Ts own) {a N v n9 : Nat} {f : Nat → Option Nat} {g : Nat → Int32} (z : Nat) {i : Int32} (ha : gat h a (.inl (gJ X.2.1, N, .inr (.inr (.inr (.inr f)))))) (hv : gat h v (.inl (gI X.2.1, n9, .inl g))) (hi : i = nI z) (hz : z < N) (hN : N < 100000) (hd : decode cc pc = .ok (.aastore, 1))
    (kk : ∀ h1 : gH, gat h1 a (.inl (gJ X.2.1, N, .inr (.inr (.inr (.inr (va_up f z (some v))))))) → gSt h h1 a → gW X h1 k n (pc + 1) lc st) : gW X h k n pc lc (.ref v :: .int i :: .ref a :: st) := by
  obtain ⟨⟨p, l, e, R0, s, m, args, below, meth, c⟩, ⟨G, A, nL, Q⟩⟩ := X
  obtain ⟨⟨hx, hb, hml, hown, hts⟩, hK, hZ, hA, hlk, hlt, hR⟩ := hB
  intro H locs ls hP hD hS hls
  subst hi
  obtain ⟨q0, hq⟩ := gw_get ha
  obtain ⟨qv, hqv⟩ := gw_get hv
  have eN : (nI z).toNatClampNeg = z := nI_clamp (by omega)
  obtain ⟨comp, cA, kA, h1, h2, h3, h4, h5⟩ := arrayOverA_spec (hK.2.2.2 (.arrayOver (.array .int)) (by decide +kernel) rfl)
  have e5 : cA = gJ G := Option.some.inj (h5.symm.trans (hK.1.2 1 (gJ G, .array .int) rfl).2)
  have e1 : comp = gI G := Option.some.inj (h1.symm.trans (hK.1.2 0 (gI G, .int) rfl).2)
  subst e5
  subst e1
  obtain ⟨kE, hkE, -⟩ := Vm.findClass_spec h1
  have hcell : H[v]? = some (vp_cell (gI G) (n9, .inl g)) := hP qv _ hqv
  refine W.aast hx hb (hP q0 _ hq) (fun q h => by cases h) (fun h => by cases h) h3 h4 rfl hkE ⟨nI_pos (by omega), by show _ < (arrV _ _ _).slots.size; rw [arrV_size, eN]; exact hz⟩ hcell (fun q h => by cases h) hkE (va_self _ _) rfl rfl hd fun H1 e z9 oq => ?_
  have hP1 := hP.set hD hq (e := .inl (gJ G, N, .inr (.inr (.inr (.inr (va_up f z (some v))))))) (by
    show H1[a]? = some (vp_cell _ _)
    rw [e]
    rw [vp_cell_q, vp_cell_q, arrV_store]
    congr 2
    funext q
    rw [eN]
    by_cases hq9 : q = z
    · subst hq9
      simp [updV, va_up, va_rf]
    · simp [updV, va_up, hq9]) oq
  have hD1 := hD.set (e := .inl (gJ G, N, .inr (.inr (.inr (.inr (va_up f z (some v))))))) hq
  have hS1 := hS.put (k := (nI z).toNatClampNeg) z9 oq (hD.2 q0 _ hq)
  rw [gw_set hD ha hq] at hP1 hD1
  exact kk _ (gat_put_self ha) (fun _ _ z w => gat_put z w) H1 _ ls hP1 hD1 hS1 hls
theorem gC_alenA (hB : gB X R cc Ts own) {a N : Nat} {f : Nat → Option Nat} (ha : gat h a (.inl (gJ X.2.1, N, .inr (.inr (.inr (.inr f)))))) (hd : decode cc pc = .ok (.arraylength, 1))
    (kk : gW X h k n (pc + 1) lc (.int (nI N) :: st)) : gW X h k n pc lc (.ref a :: st) := by
  obtain ⟨⟨p, l, e, R0, s, m, args, below, meth, c⟩, ⟨G, A, nL, Q⟩⟩ := X
  obtain ⟨⟨hx, hb, hml, hown, hts⟩, hK, hZ, hA, hlk, hlt, hR⟩ := hB
  intro H locs ls hP hD hS hls
  obtain ⟨q0, hq⟩ := gw_get ha
  exact va_alen hx hb hK.1 hP q0 1 hq rfl rfl hd (kk H locs ls hP hD hS hls)
/-- rows of tenants -/
theorem gC_newT (hB : gB X R cc Ts own) {x : Int32} {index : Nat} (N : Nat) (hN : x = nI N) (hN9 : N < 100000) (hcl : Cond.classLink own index "DoorbellChoirLaw$Tenant" ∈ Ts) (hk9 : k + 1 ≤ R.cells) (hn9 : n + N ≤ R.slots) (hd : decode cc pc = .ok (.anewarray index, 3))
    (kk : ∀ (q : Nat) (h1 : gH), q ∉ h.1 → gat h1 q (.inl (gTn X.2.1, N, .inr (.inr (.inr (.inr (fun _ => none)))))) → gSa h h1 → gW X h1 (k + 1) (n + N) (pc + 3) lc (.ref q :: st)) : gW X h k n pc lc (.int x :: st) := by
  obtain ⟨⟨p, l, e, R0, s, m, args, below, meth, c⟩, ⟨G, A, nL, Q⟩⟩ := X
  obtain ⟨⟨hx, hb, hml, hown, hts⟩, hK, hZ, hA, hlk, hlt, hR⟩ := hB
  intro H locs ls hP hD hS hls
  subst hR
  subst hN
  have hAO : va_AO "DoorbellChoirLaw$Tenant" s := hK.2.2.2 (.arrayOver (.object "DoorbellChoirLaw$Tenant")) (by decide +kernel) rfl
  refine va_newq hx hb hown (hts _ hcl) hAO hK.1 hP hD hS hA (nI_pos (by omega)) (nI_clamp (by omega)) (by omega) hk9 hn9 hd (fun q cA H1 hK1 hP1 hD1 hS1 => ?_)
  have hcA : cA = gTn G := by
    have h1 := va_nmO (hK1.2 4 (cA, .object "DoorbellChoirLaw$Tenant") rfl).2 rfl
    have h2 := va_nmO (hK.1.2 3 (gTn G, .object "DoorbellChoirLaw$Tenant") rfl).2 rfl
    exact Option.some.inj (h1.symm.trans h2)
  subst hcA
  have hq := gw_fresh hD1
  rw [gw_push hq] at hP1 hD1
  exact kk q _ hq gat_new_self (fun _ _ z => gat_new z hq) H1 locs ls hP1 hD1 hS1 hls
theorem gC_aaldT (hB : gB X R cc Ts own) {a N y : Nat} {f : Nat → Option Nat} (z : Nat) {i : Int32} (ha : gat h a (.inl (gTn X.2.1, N, .inr (.inr (.inr (.inr f)))))) (hi : i = nI z) (hz : z < N) (hN : N < 100000) (hy : f z = some y) (hd : decode cc pc = .ok (.aaload, 1))
    (kk : gW X h k n (pc + 1) lc (.ref y :: st)) : gW X h k n pc lc (.int i :: .ref a :: st) := by
  obtain ⟨⟨p, l, e, R0, s, m, args, below, meth, c⟩, ⟨G, A, nL, Q⟩⟩ := X
  obtain ⟨⟨hx, hb, hml, hown, hts⟩, hK, hZ, hA, hlk, hlt, hR⟩ := hB
  intro H locs ls hP hD hS hls
  subst hi
  obtain ⟨q0, hq⟩ := gw_get ha
  have h9 := kk H locs ls hP hD hS hls
  refine va_aldq hx hb hK.1 hP q0 3 hq rfl (vp_in_nI hz (by omega)) hd ?_
  rw [nI_clamp (by omega), hy]
  exact h9
theorem gC_aastT (hB : gB X R cc Ts own) {a N v : Nat} {f : Nat → Option Nat} {fs : List Value} (z : Nat) {i : Int32} (ha : gat h a (.inl (gTn X.2.1, N, .inr (.inr (.inr (.inr f)))))) (hv : gat h v (.inr (1, fs))) (hi : i = nI z) (hz : z < N) (hN : N < 100000) (hd : decode cc pc = .ok (.aastore, 1))
    (kk : ∀ h1 : gH, gat h1 a (.inl (gTn X.2.1, N, .inr (.inr (.inr (.inr (va_up f z (some v))))))) → gSt h h1 a → gW X h1 k n (pc + 1) lc st) : gW X h k n pc lc (.ref v :: .int i :: .ref a :: st) := by
  obtain ⟨⟨p, l, e, R0, s, m, args, below, meth, c⟩, ⟨G, A, nL, Q⟩⟩ := X
  obtain ⟨⟨hx, hb, hml, hown, hts⟩, hK, hZ, hA, hlk, hlt, hR⟩ := hB
  intro H locs ls hP hD hS hls
  subst hi
  obtain ⟨q0, hq⟩ := gw_get ha
  obtain ⟨qv, hqv⟩ := gw_get hv
  have eN : (nI z).toNatClampNeg = z := nI_clamp (by omega)
  refine va_astq (r := (RX8, TX8, 7)) hx hb hK.1 hP hD hS q0 3 qv 1 hq rfl hqv rfl (vp_in_nI hz (by omega)) hd (fun H1 locs1 hP1 hD1 hS1 => ?_)
  rw [eN] at hP1 hD1
  rw [gw_set hD ha hq] at hP1 hD1
  exact kk _ (gat_put_self ha) (fun _ _ z w => gat_put z w) H1 locs1 ls hP1 hD1 hS1 hls
theorem gC_alenT (hB : gB X R cc Ts own) {a N : Nat} {f : Nat → Option Nat} (ha : gat h a (.inl (gTn X.2.1, N, .inr (.inr (.inr (.inr f)))))) (hd : decode cc pc = .ok (.arraylength, 1))
    (kk : gW X h k n (pc + 1) lc (.int (nI N) :: st)) : gW X h k n pc lc (.ref a :: st) := by
  obtain ⟨⟨p, l, e, R0, s, m, args, below, meth, c⟩, ⟨G, A, nL, Q⟩⟩ := X
  obtain ⟨⟨hx, hb, hml, hown, hts⟩, hK, hZ, hA, hlk, hlt, hR⟩ := hB
  intro H locs ls hP hD hS hls
  obtain ⟨q0, hq⟩ := gw_get ha
  exact va_alen hx hb hK.1 hP q0 3 hq rfl rfl hd (kk H locs ls hP hD hS hls)
end PRows
