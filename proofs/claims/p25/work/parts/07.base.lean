/-! calls that leave the world as it is; rooms by levels; truth as a number -/
abbrev gRm (L c s : Nat) : Room := { frames := L + 2, cells := c, slots := s, locals := 36 * L + 40 }
def gRet (h : gH) (ov : Option Value) : gPo := fun r h' k n => r = .inl ov ∧ h' = h ∧ k = 0 ∧ n = 0
theorem gRet.rfl' {h : gH} {ov : Option Value} : gRet h ov (.inl ov) h 0 0 := ⟨rfl, rfl, rfl, rfl⟩
def gbi (p : Prop) [Decidable p] : Int32 := if p then 1 else 0
theorem gbi_t {p : Prop} [Decidable p] (h : p) : gbi p = 1 := if_pos h
theorem gbi_f {p : Prop} [Decidable p] (h : ¬ p) : gbi p = 0 := if_neg h
theorem gbi_0 {p : Prop} [Decidable p] : gbi p = 0 ↔ ¬ p := by
  by_cases h : p
  · rw [gbi_t h]; exact ⟨fun z => absurd z (by decide), fun z => absurd h z⟩
  · rw [gbi_f h]; exact ⟨fun _ => h, fun _ => rfl⟩
section GPure
variable {X : gX} {R : Room} {cc : ByteArray} {Ts : List Cond} {own : String} {h : gH} {k n pc : Nat} {lc : List (Nat × Value)} {st : List Value}
theorem gI_pureV {As rest : List Value} (hB : gB X R cc Ts own) {y : MethodName} {ws : List Cond} {rm : Room} {bytes : ByteArray} {maxL n9 index b ci N : Nat} {ret : Option FieldType} {C : String} {T : u_T} {fs : List Value} {ov : Option Value}
    (hM : gMet y ws rm X.2.1 h (.ref b :: As) (gRet h ov)) (cw : gCW Ts ws y bytes maxL ret rm R n9) (hl : Cond.methodLink own index y ∈ Ts) (hinst : Cond.instanceMethod y ∈ Ts) (hsel : Cond.selects C y y ∈ Ts) (hini : Cond.initialized y.cls ∈ Ts)
    (hb9 : gat h b (.inr (ci, fs))) (hc : vwCl[ci]? = some (C, T, N)) (hn : As.length = n9) (hst : st = As.reverse ++ .ref b :: rest) (hcat : (rest.map fun v => v.category).sum ≤ 8) (hk9 : k + rm.cells ≤ R.cells) (hn9 : n + rm.slots ≤ R.slots) (hd : decode cc pc = .ok (.invokevirtual index, 3))
    (kk : gW X h k n (pc + 3) lc (ov.toList ++ rest)) : gW X h k n pc lc st :=
  gI_callV hB hM cw hl hinst hsel hini hb9 hc hn hst hcat hk9 hn9 hd (fun v h1 k1 n1 hp => by obtain ⟨e1, rfl, rfl, rfl⟩ := hp; cases e1; exact kk) (fun E h1 k1 n1 hp => by cases hp.1)
theorem gI_pureS {As rest : List Value} (hB : gB X R cc Ts own) {y : MethodName} {ws : List Cond} {rm : Room} {bytes : ByteArray} {maxL n9 index : Nat} {ret : Option FieldType} {ov : Option Value}
    (hM : gMet y ws rm X.2.1 h As (gRet h ov)) (cw : gCW Ts ws y bytes maxL ret rm R n9) (hl : Cond.methodLink own index y ∈ Ts ∨ ∃ host, Cond.methodLinkNest own index y host ∈ lw_tbl) (hstat : Cond.static y ∈ Ts) (hini : Cond.initialized y.cls ∈ Ts)
    (hn : As.length = n9) (hst : st = As.reverse ++ rest) (hcat : (rest.map fun v => v.category).sum ≤ 8) (hk9 : k + rm.cells ≤ R.cells) (hn9 : n + rm.slots ≤ R.slots) (hd : decode cc pc = .ok (.invokestatic index, 3))
    (kk : gW X h k n (pc + 3) lc (ov.toList ++ rest)) : gW X h k n pc lc st :=
  gI_callS hB hM cw hl hstat hini hn hst hcat hk9 hn9 hd (fun v h1 k1 n1 hp => by obtain ⟨e1, rfl, rfl, rfl⟩ := hp; cases e1; exact kk) (fun E h1 k1 n1 hp => by cases hp.1)
theorem gI_pureI {As rest : List Value} (hB : gB X R cc Ts own) {y : MethodName} {ws ws' : List Cond} {rm : Room} {bytes : ByteArray} {maxL n9 index b : Nat} {ov : Option Value}
    (hM : gMet y ws rm X.2.1 h (.ref b :: As) (gRet h ov)) (cw : gCW Ts ws y bytes maxL none rm R n9) (hw : ws = Cond.code y bytes maxL none :: ws') (hy1 : y.name = "<init>") (hl : Cond.methodLink own index y ∈ Ts ∨ ∃ host, Cond.methodLinkNest own index y host ∈ lw_tbl) (hinst : Cond.instanceMethod y ∈ Ts) (hini : Cond.initialized y.cls ∈ Ts)
    (hn : As.length = n9) (hst : st = As.reverse ++ .ref b :: rest) (hcat : (rest.map fun v => v.category).sum ≤ 8) (hk9 : k + rm.cells ≤ R.cells) (hn9 : n + rm.slots ≤ R.slots) (hd : decode cc pc = .ok (.invokespecial index, 3))
    (kk : gW X h k n (pc + 3) lc (ov.toList ++ rest)) : gW X h k n pc lc st :=
  gI_callI hB hM cw hw hy1 hl hinst hini hn hst hcat hk9 hn9 hd (fun v h1 k1 n1 hp => by obtain ⟨e1, rfl, rfl, rfl⟩ := hp; cases e1; exact kk) (fun E h1 k1 n1 hp => by cases hp.1)
end GPure
/-! the reference's state: its numbers g by the places of its fields, its rows ar 0 .. ar 4 (table, habits, rings, songs, hand), at the addresses a 0 .. a 5 -/
abbrev MS : Type := (Nat → Int32) × (Nat → Nat → Int32)
def sg (u : MS) (i : Nat) (v : Int32) : MS := (upd u.1 i v, u.2)
def sa (u : MS) (j : Nat) (f : Nat → Int32) : MS := (u.1, va_up u.2 j f)
def mFs (a : Nat → Nat) (u : MS) : List Value := [.int (u.1 0), .int (u.1 1), .int (u.1 2), .int (u.1 3), .ref (a 1), .ref (a 2), .int (u.1 6), .ref (a 3), .int (u.1 8), .int (u.1 9), .int (u.1 10), .int (u.1 11), .int (u.1 12), .ref (a 4), .ref (a 5)]
def mLen (j : Nat) : Nat := match j with
  | 0 => 112
  | 1 => 1152
  | 2 => 840
  | 3 => 3000
  | _ => 14
def mRep (G : gG) (h : gH) (a : Nat → Nat) (u : MS) : Prop := gat h (a 0) (.inr (10, mFs a u)) ∧ ∀ j, j < 5 → gat h (a (j + 1)) (.inl (gI G, mLen j, .inl (u.2 j)))
/-- cells that the reference never writes -/
def cKind : va_E → Bool
  | .inr (c, _) => !(Nat.beq c 10)
  | .inl (_, n, .inl _) => Nat.beq n 12
  | .inl (_, _, .inr _) => true
/-- cells that the class never writes -/
def mKind : va_E → Bool
  | .inr (c, _) => Nat.beq c 10
  | .inl (_, n, .inl _) => !(Nat.beq n 12)
  | .inl (_, _, .inr (.inl _)) => true
  | .inl (_, _, .inr (.inr _)) => false
def mFr (h h' : gH) : Prop := ∀ q e, gat h q e → cKind e = true → gat h' q e
def cFr (h h' : gH) : Prop := ∀ q e, gat h q e → mKind e = true → gat h' q e
theorem mFr.rf {h : gH} : mFr h h := fun _ _ z _ => z
theorem mFr.new {h0 h : gH} {q : Nat} {e : va_E} (hf : mFr h0 h) (hq : q ∉ h.1) : mFr h0 (gnew h q e) := fun z ez hz hk => gat_new (hf z ez hz hk) hq
theorem mFr.trans {h0 h1 h2 : gH} (a : mFr h0 h1) (b : mFr h1 h2) : mFr h0 h2 := fun z ez hz hk => b z ez (a z ez hz hk) hk
theorem mRep.ne {G : gG} {h : gH} {a : Nat → Nat} {u : MS} (m : mRep G h a u) {i j : Nat} (hi : i < 5) (hj : j < 5) (n : i ≠ j) : a (i + 1) ≠ a (j + 1) := by
  refine gat_ne (m.2 i hi) (m.2 j hj) ?_
  rcases (show i = 0 ∨ i = 1 ∨ i = 2 ∨ i = 3 ∨ i = 4 by omega) with rfl | rfl | rfl | rfl | rfl <;> rcases (show j = 0 ∨ j = 1 ∨ j = 2 ∨ j = 3 ∨ j = 4 by omega) with rfl | rfl | rfl | rfl | rfl <;> first | exact absurd rfl n | rfl
theorem mRep.new {G : gG} {h : gH} {a : Nat → Nat} {u : MS} {q : Nat} {e : va_E} (m : mRep G h a u) (hq : q ∉ h.1) : mRep G (gnew h q e) a u := ⟨gat_new m.1 hq, fun j hj => gat_new (m.2 j hj) hq⟩
theorem gbi_n0 {p : Prop} [Decidable p] (h : ¬ gbi p = 0) : p := Classical.byContradiction (fun z => h (gbi_0.mpr z))
theorem gI_iaddN {X : gX} {R : Room} {cc : ByteArray} {Ts : List Cond} {own : String} {h : gH} {k n pc : Nat} {lc : List (Nat × Value)} {st : List Value} (hB : gB X R cc Ts own) {x y : Nat} (hd : decode cc pc = .ok (.iadd, 1)) (kk : gW X h k n (pc + 1) lc (.int (nI (x + y)) :: st)) : gW X h k n pc lc (.int (nI y) :: .int (nI x) :: st) := gI_iadd hB hd (by rw [nI_add]; exact kk)
theorem gI_imulN {X : gX} {R : Room} {cc : ByteArray} {Ts : List Cond} {own : String} {h : gH} {k n pc : Nat} {lc : List (Nat × Value)} {st : List Value} (hB : gB X R cc Ts own) {x y : Nat} (hd : decode cc pc = .ok (.imul, 1)) (kk : gW X h k n (pc + 1) lc (.int (nI (x * y)) :: st)) : gW X h k n pc lc (.int (nI y) :: .int (nI x) :: st) := gI_imul hB hd (by rw [pk_mul]; exact kk)
theorem gI_isubN {X : gX} {R : Room} {cc : ByteArray} {Ts : List Cond} {own : String} {h : gH} {k n pc : Nat} {lc : List (Nat × Value)} {st : List Value} (hB : gB X R cc Ts own) {x y : Nat} (hxy : y ≤ x) (hd : decode cc pc = .ok (.isub, 1)) (kk : gW X h k n (pc + 1) lc (.int (nI (x - y)) :: st)) : gW X h k n pc lc (.int (nI y) :: .int (nI x) :: st) := gI_isub hB hd (by rw [pk_sub hxy]; exact kk)

