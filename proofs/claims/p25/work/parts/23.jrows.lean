section GJdk
variable {X : gX} {R : Room} {cc : ByteArray} {Ts : List Cond} {own : String} {h : gH} {k n pc : Nat} {lc : List (Nat × Value)} {st : List Value}
theorem gI_getC (hB : gB X R cc Ts own) {index a N : Nat} {f : Nat → Option Nat} (ha : gat h a (.inl (gO X.2.1, N, .inr (.inr (.inr (.inr f)))))) (hlink : Cond.methodLink own index ⟨"java/lang/Object", "getClass", "()Ljava/lang/Class;"⟩ ∈ Ts) (hdecl : Cond.declares ⟨"java/lang/Object", "getClass", "()Ljava/lang/Class;"⟩ ∈ lw_tbl)
    (hsel : Cond.selects "[Ljava/lang/Object;" ⟨"java/lang/Object", "getClass", "()Ljava/lang/Class;"⟩ ⟨"java/lang/Object", "getClass", "()Ljava/lang/Class;"⟩ ∈ Ts) (hinst : Cond.instanceMethod ⟨"java/lang/Object", "getClass", "()Ljava/lang/Class;"⟩ ∈ Ts) (hnat : Cond.native ⟨"java/lang/Object", "getClass", "()Ljava/lang/Class;"⟩ ∈ Ts)
    (hf : 1 ≤ R.frames) (hlo : (st.map fun v => v.category).sum + 14 ≤ R.locals) (hd : decode cc pc = .ok (.invokevirtual index, 3))
    (kk : gW X h k n (pc + 3) lc (.ref (gMi X.2.1) :: st)) : gW X h k n pc lc (.ref a :: st) := by
  obtain ⟨⟨p, l, e, R0, s, m, args, below, meth, c⟩, ⟨G, A, nL, Q⟩⟩ := X
  obtain ⟨⟨hx, hb, hml, hown, hts⟩, hK, hZ, hA, hlk, hlt, hR⟩ := hB
  intro H locs ls hP hD hS hls
  subst hR
  obtain ⟨q0, hq⟩ := gw_get ha
  have hd9 : (Cond.declares ⟨"java/lang/Object", "getClass", "()Ljava/lang/Class;"⟩).before args s = true := va_any rfl (va_Nw.use (A := #[]) rfl (hK.2.2.2 _ hdecl rfl))
  have hcell : H[a]? = some (vp_cell (gO G) (N, .inr (.inr (.inr (.inr f))))) := hP q0 _ hq
  exact va_getC hx hb (hml.trans hls.1.symm) hown (hts _ hlink) hd9 (hts _ hsel) (hts _ hinst) (hts _ hnat) hK.2.1 ⟨_, hcell, rfl, va_nmO (hK.1.2 2 _ rfl).2 rfl⟩ hf hlo hd (kk H locs ls hP hD hS hls)
theorem gI_ldcM (hB : gB X R cc Ts own) {index : Nat} (hlink : Cond.classLink own index "[Ljava/lang/Object;" ∈ Ts) (hd : decode cc pc = .ok (.ldc index, 2))
    (kk : gW X h k n (pc + 2) lc (.ref (gMi X.2.1) :: st)) : gW X h k n pc lc st := by
  obtain ⟨⟨p, l, e, R0, s, m, args, below, meth, c⟩, ⟨G, A, nL, Q⟩⟩ := X
  obtain ⟨⟨hx, hb, hml, hown, hts⟩, hK, hZ, hA, hlk, hlt, hR⟩ := hB
  intro H locs ls hP hD hS hls
  exact va_ldcM hx hb hown (hts _ hlink) hK.2.1 hd (kk H locs ls hP hD hS hls)
/-! writing, with what stays: at every other address lies what lay there -/
abbrev gSt (h h' : gH) (a : Nat) : Prop := ∀ q e, gat h q e → q ≠ a → gat h' q e
abbrev gSa (h h' : gH) : Prop := ∀ q e, gat h q e → gat h' q e
theorem gC_put (hB : gB X R cc Ts own) (i : Nat) {a ci N index : Nat} {C ref : String} {T : u_T} {fs : List Value} {v : Value} (ty0 : Nat → FieldType) (hty : ∀ k, k < N → parseFieldDescriptor (T k).2.2.1 = some (ty0 k)) (hnm : ∀ a, a < N → ∀ b, b < N → a ≠ b → (T a).2.1 ≠ (T b).2.1) (ha : gat h a (.inr (ci, fs))) (hc : vwCl[ci]? = some (C, T, N)) (hin : ∀ w ∈ u_ws C T N, w ∈ Ts) (hi : i < N)
    (hlink : Cond.fieldLink own index ref (T i).2.1 (T i).2.2.1 ∈ Ts) (hsame : ∀ x, X.1.2.2.2.2.1.fieldFound? (T i).1 (T i).2.1 (T i).2.2.1 = some x → X.1.2.2.2.2.1.fieldFound? ref (T i).2.1 (T i).2.2.1 = some x) (hfin : (T i).2.2.2 = false) (hn9 : narrow (ty0 i) v = v) (hfit : fits (ty0 i) v = true) (hl : i < fs.length) (hd : decode cc pc = .ok (.putfield index, 3))
    (kk : ∀ h1 : gH, gat h1 a (.inr (ci, fs.set i v)) → gSt h h1 a → gW X h1 k n (pc + 3) lc st) : gW X h k n pc lc (v :: .ref a :: st) :=
  gI_put hB i ty0 hty hnm ha hc hin hi hlink hsame hfin hn9 hfit hl hd (kk _ (gat_put_self ha) (fun _ _ z w => gat_put z w))
theorem gC_putF (hB : gB X R cc Ts own) {Po : gPo} {ret : Option FieldType} {tb : List ExceptionTableEntry} (hE : gE X Po ret tb "<init>") (i : Nat) {a ci N index : Nat} {C ref : String} {T : u_T} {fs : List Value} {v : Value} (ty0 : Nat → FieldType) (hty : ∀ k, k < N → parseFieldDescriptor (T k).2.2.1 = some (ty0 k)) (hnm : ∀ a, a < N → ∀ b, b < N → a ≠ b → (T a).2.1 ≠ (T b).2.1) (ha : gat h a (.inr (ci, fs))) (hc : vwCl[ci]? = some (C, T, N)) (hin : ∀ w ∈ u_ws C T N, w ∈ Ts) (hi : i < N)
    (hlink : Cond.fieldLink own index ref (T i).2.1 (T i).2.2.1 ∈ Ts) (hsame : ∀ x, X.1.2.2.2.2.1.fieldFound? (T i).1 (T i).2.1 (T i).2.2.1 = some x → X.1.2.2.2.2.1.fieldFound? ref (T i).2.1 (T i).2.2.1 = some x) (hfin : (T i).2.2.2 = true) (hdecl : (T i).1 = own) (hn9 : narrow (ty0 i) v = v) (hfit : fits (ty0 i) v = true) (hl : i < fs.length) (hd : decode cc pc = .ok (.putfield index, 3))
    (kk : ∀ h1 : gH, gat h1 a (.inr (ci, fs.set i v)) → gSt h h1 a → gW X h1 k n (pc + 3) lc st) : gW X h k n pc lc (v :: .ref a :: st) :=
  gI_putF hB hE i ty0 hty hnm ha hc hin hi hlink hsame hfin hdecl hn9 hfit hl hd (kk _ (gat_put_self ha) (fun _ _ z w => gat_put z w))
theorem gC_new (hB : gB X R cc Ts own) {ci N index : Nat} {C : String} {T : u_T} (fs : List Value) (ty0 : Nat → FieldType) (hty : ∀ k, k < N → parseFieldDescriptor (T k).2.2.1 = some (ty0 k)) (hc : vwCl[ci]? = some (C, T, N)) (hin : ∀ w ∈ u_ws C T N, w ∈ Ts)
    (hcl : Cond.classLink own index C ∈ Ts) (hinst : Cond.instantiable C N ∈ Ts) (hini : Cond.initialized C ∈ Ts) (hfs : ∀ j, j < N → defaultValue (ty0 j) = vp_V fs j) (hk9 : k + 1 ≤ R.cells) (hn9 : n + N ≤ R.slots) (hd : decode cc pc = .ok (.new index, 3))
    (kk : ∀ (q : Nat) (h1 : gH), q ∉ h.1 → gat h1 q (.inr (ci, fs)) → gSa h h1 → gW X h1 (k + 1) (n + N) (pc + 3) lc (.ref q :: st)) : gW X h k n pc lc st :=
  gI_new hB fs ty0 hty hc hin hcl hinst hini hfs hk9 hn9 hd (fun q hq => kk q _ hq gat_new_self (fun _ _ z => gat_new z hq))
theorem gC_newO (hB : gB X R cc Ts own) {x : Int32} {index : Nat} (N : Nat) (hN : x = nI N) (hN9 : N < 100000) (hcl : Cond.classLink own index "java/lang/Object" ∈ Ts) (hk9 : k + 1 ≤ R.cells) (hn9 : n + N ≤ R.slots) (hd : decode cc pc = .ok (.anewarray index, 3))
    (kk : ∀ (q : Nat) (h1 : gH), q ∉ h.1 → gat h1 q (.inl (gO X.2.1, N, .inr (.inr (.inr (.inr (fun _ => none)))))) → gSa h h1 → gW X h1 (k + 1) (n + N) (pc + 3) lc (.ref q :: st)) : gW X h k n pc lc (.int x :: st) :=
  gI_newO hB N hN hN9 hcl hk9 hn9 hd (fun q hq => kk q _ hq gat_new_self (fun _ _ z => gat_new z hq))
theorem gC_newI (hB : gB X R cc Ts own) {x : Int32} (N : Nat) (hN : x = nI N) (hN9 : N < 100000) (harr : Cond.arrayClass .int ∈ Ts) (hk9 : k + 1 ≤ R.cells) (hn9 : n + N ≤ R.slots) (hd : decode cc pc = .ok (.newarray .int, 2))
    (kk : ∀ (q : Nat) (h1 : gH), q ∉ h.1 → gat h1 q (.inl (gI X.2.1, N, .inl (fun _ => 0))) → gSa h h1 → gW X h1 (k + 1) (n + N) (pc + 2) lc (.ref q :: st)) : gW X h k n pc lc (.int x :: st) :=
  gI_newI hB N hN hN9 harr hk9 hn9 hd (fun q hq => kk q _ hq gat_new_self (fun _ _ z => gat_new z hq))
theorem gC_iast (hB : gB X R cc Ts own) {a N : Nat} {f : Nat → Int32} (z : Nat) {i x : Int32} (ha : gat h a (.inl (gI X.2.1, N, .inl f))) (hi : i = nI z) (hz : z < N) (hN : N < 100000) (hd : decode cc pc = .ok (.iastore, 1))
    (kk : ∀ h1 : gH, gat h1 a (.inl (gI X.2.1, N, .inl (upd f z x))) → gSt h h1 a → gW X h1 k n (pc + 1) lc st) : gW X h k n pc lc (.int x :: .int i :: .ref a :: st) := by
  subst hi
  refine gI_iast hB ha (vp_in_nI hz (by omega)) hd ?_
  rw [nI_clamp (by omega)]
  exact kk _ (gat_put_self ha) (fun _ _ z w => gat_put z w)
theorem gC_iald (hB : gB X R cc Ts own) {a N : Nat} {f : Nat → Int32} (z : Nat) {i : Int32} (ha : gat h a (.inl (gI X.2.1, N, .inl f))) (hi : i = nI z) (hz : z < N) (hN : N < 100000) (hd : decode cc pc = .ok (.iaload, 1))
    (kk : gW X h k n (pc + 1) lc (.int (f z) :: st)) : gW X h k n pc lc (.int i :: .ref a :: st) := by
  subst hi
  refine gI_iald hB ha (vp_in_nI hz (by omega)) hd ?_
  rw [nI_clamp (by omega)]
  exact kk
theorem gC_aald (hB : gB X R cc Ts own) {a N y : Nat} {f : Nat → Option Nat} (z : Nat) {i : Int32} (ha : gat h a (.inl (gO X.2.1, N, .inr (.inr (.inr (.inr f)))))) (hi : i = nI z) (hz : z < N) (hN : N < 100000) (hy : f z = some y) (hd : decode cc pc = .ok (.aaload, 1))
    (kk : gW X h k n (pc + 1) lc (.ref y :: st)) : gW X h k n pc lc (.int i :: .ref a :: st) := by
  subst hi
  refine gI_aald hB ha (vp_in_nI hz (by omega)) hd ?_
  rw [nI_clamp (by omega), hy]
  exact kk
def gOb (h : gH) (y : Nat) : Prop := ∃ (ci : Nat) (r : vw_C) (vs : List Value), gat h y (.inr (ci, vs)) ∧ vwCl[ci]? = some r ∧ Cond.castable r.1 "java/lang/Object" ∈ lw_tbl
theorem gC_aast (hB : gB X R cc Ts own) {a N v : Nat} {f : Nat → Option Nat} (z : Nat) {i : Int32} (ha : gat h a (.inl (gO X.2.1, N, .inr (.inr (.inr (.inr f)))))) (hv : gOb h v) (hi : i = nI z) (hz : z < N) (hN : N < 100000) (hd : decode cc pc = .ok (.aastore, 1))
    (kk : ∀ h1 : gH, gat h1 a (.inl (gO X.2.1, N, .inr (.inr (.inr (.inr (va_up f z (some v))))))) → gSt h h1 a → gW X h1 k n (pc + 1) lc st) : gW X h k n pc lc (.ref v :: .int i :: .ref a :: st) := by
  subst hi
  obtain ⟨ci, r, vs, h1, h2, h3⟩ := hv
  refine gI_aast hB ha h1 h2 h3 (vp_in_nI hz (by omega)) hd ?_
  rw [nI_clamp (by omega)]
  exact kk _ (gat_put_self ha) (fun _ _ z w => gat_put z w)
theorem gC_aastN (hB : gB X R cc Ts own) {a N : Nat} {f : Nat → Option Nat} (z : Nat) {i : Int32} (ha : gat h a (.inl (gO X.2.1, N, .inr (.inr (.inr (.inr f)))))) (hi : i = nI z) (hz : z < N) (hN : N < 100000) (hd : decode cc pc = .ok (.aastore, 1))
    (kk : ∀ h1 : gH, gat h1 a (.inl (gO X.2.1, N, .inr (.inr (.inr (.inr (va_up f z none)))))) → gSt h h1 a → gW X h1 k n (pc + 1) lc st) : gW X h k n pc lc (.null :: .int i :: .ref a :: st) := by
  subst hi
  refine gI_aastN hB ha (vp_in_nI hz (by omega)) hd ?_
  rw [nI_clamp (by omega)]
  exact kk _ (gat_put_self ha) (fun _ _ z w => gat_put z w)
theorem gC_copyO (hB : gB X R cc Ts own) {a0 a1 n0 n1 index : Nat} {f g : Nat → Option Nat} {sp dp z : Int32} (sp9 dp9 z9 : Nat) (esp : sp = nI sp9) (edp : dp = nI dp9) (ez : z = nI z9) (hlink : Cond.methodLink own index arraycopyName ∈ Ts) (hnat : Cond.native arraycopyName ∈ Ts) (hstat : Cond.static arraycopyName ∈ Ts) (hini : Cond.initialized "java/lang/System" ∈ Ts)
    (ha0 : gat h a0 (.inl (gO X.2.1, n0, .inr (.inr (.inr (.inr f)))))) (ha1 : gat h a1 (.inl (gO X.2.1, n1, .inr (.inr (.inr (.inr g)))))) (h4 : sp9 + z9 ≤ n0) (h5 : dp9 + z9 ≤ n1) (hn0 : n0 < 100000) (hn1 : n1 < 100000)
    (hel : ∀ i : Nat, i < z9 → ∀ y : Nat, f (sp9 + i) = some y → gOb h y)
    (hf : 1 ≤ R.frames) (hlo : (st.map fun v => v.category).sum + (nativeFrameWords "java/lang/System" "arraycopy" 5 + 11) ≤ R.locals) (hd : decode cc pc = .ok (.invokestatic index, 3))
    (kk : ∀ h1 : gH, gat h1 a1 (.inl (gO X.2.1, n1, .inr (.inr (.inr (.inr (va_cpy f g sp9 dp9 z9)))))) → gSt h h1 a1 → gW X h1 k n (pc + 3) lc st) : gW X h k n pc lc (.int z :: .int dp :: .ref a1 :: .int sp :: .ref a0 :: st) :=
  gI_copyO hB sp9 dp9 z9 esp edp ez hlink hnat hstat hini ha0 ha1 h4 h5 hn0 hn1 hel hf hlo hd (kk _ (gat_put_self ha1) (fun _ _ z w => gat_put z w))
end GJdk
