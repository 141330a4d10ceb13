theorem nbf {a b : Nat} (h : a ≠ b) : Nat.beq a b = false := by
  cases hb : Nat.beq a b with
  | false => rfl
  | true => exact absurd (Nat.eq_of_beq_eq_true hb) h
section GModel
variable {X : gX} {R : Room} {cc : ByteArray} {Ts : List Cond} {h h0 : gH} {k n pc : Nat} {lc : List (Nat × Value)} {st : List Value} {a : Nat → Nat} {u : MS}
theorem gM_get (hB : gB X R cc Ts RX7) (hM : mRep X.2.1 h a u) (i : Nat) {index : Nat} {v : Value} (hin : ∀ w ∈ wsX70, w ∈ Ts) (hi : i < 15)
    (hlink : Cond.fieldLink RX7 index RX7 (TX7 i).2.1 (TX7 i).2.2.1 ∈ Ts) (hself : (TX7 i).1 = RX7) (hv : (mFs a u)[i]? = some v) (hd : decode cc pc = .ok (.getfield index, 3))
    (kk : gW X h k n (pc + 3) lc (v :: st)) : gW X h k n pc lc (.ref (a 0) :: st) :=
  gI_get hB i hM.x (C := RX7) (T := TX7) (N := 15) rfl hin hi hlink (by rw [hself]; exact fun _ h9 => h9) hv hd kk
theorem gM_put (hB : gB X R cc Ts RX7) (hM : mRep X.2.1 h a u) (hF : mFr h0 h) (i : Nat) {index : Nat} {v : Value} (u' : MS) (hin : ∀ w ∈ wsX70, w ∈ Ts) (hi : i < 15)
    (hlink : Cond.fieldLink RX7 index RX7 (TX7 i).2.1 (TX7 i).2.2.1 ∈ Ts) (hself : (TX7 i).1 = RX7) (hfin : (TX7 i).2.2.2 = false) (hn9 : narrow (tyX7 i) v = v) (hfit : fits (tyX7 i) v = true) (e1 : (mFs a u).set i v = mFs a u') (e2 : u.2 = u'.2) (hd : decode cc pc = .ok (.putfield index, 3))
    (kk : ∀ h1 : gH, mRep X.2.1 h1 a u' → mFr h0 h1 → gW X h1 k n (pc + 3) lc st) : gW X h k n pc lc (v :: .ref (a 0) :: st) :=
  gI_put hB i tyX7 tyX7_ok nmX7 hM.x (C := RX7) (T := TX7) (N := 15) rfl hin hi hlink (by rw [hself]; exact fun _ h9 => h9) hfin hn9 hfit hi hd (kk _ (hM.put e1 e2) (hF.put hM.x rfl))
theorem gM_ald {own : String} (hB : gB X R cc Ts own) (hM : mRep X.2.1 h a u) (j : Nat) (hj : j < 5) (z : Nat) {i : Int32} (hi : i = nI z) (hz : z < mLen j) (hd : decode cc pc = .ok (.iaload, 1))
    (kk : gW X h k n (pc + 1) lc (.int (u.2 j z) :: st)) : gW X h k n pc lc (.int i :: .ref (a (j + 1)) :: st) := by
  subst hi
  have hz2 : mLen j ≤ 3000 := by
    rcases (show j = 0 ∨ j = 1 ∨ j = 2 ∨ j = 3 ∨ j = 4 by omega) with rfl | rfl | rfl | rfl | rfl <;> decide
  refine gI_iald hB (hM.2 j hj) (vp_in_nI hz (by omega)) hd ?_
  rw [nI_clamp (by omega)]
  exact kk
theorem gM_ast {own : String} (hB : gB X R cc Ts own) (hM : mRep X.2.1 h a u) (hF : mFr h0 h) (j : Nat) (hj : j < 5) (z : Nat) {i x : Int32} (hi : i = nI z) (hz : z < mLen j) (hd : decode cc pc = .ok (.iastore, 1))
    (kk : ∀ h1 : gH, mRep X.2.1 h1 a (sa u j (upd (u.2 j) z x)) → mFr h0 h1 → gW X h1 k n (pc + 1) lc st) : gW X h k n pc lc (.int x :: .int i :: .ref (a (j + 1)) :: st) := by
  subst hi
  have hz2 : mLen j ≤ 3000 := by
    rcases (show j = 0 ∨ j = 1 ∨ j = 2 ∨ j = 3 ∨ j = 4 by omega) with rfl | rfl | rfl | rfl | rfl <;> decide
  refine gI_iast hB (hM.2 j hj) (vp_in_nI hz (by omega)) hd ?_
  rw [nI_clamp (by omega)]
  refine kk _ (hM.arr j hj _) (hF.put (hM.2 j hj) ?_)
  rcases (show j = 0 ∨ j = 1 ∨ j = 2 ∨ j = 3 ∨ j = 4 by omega) with rfl | rfl | rfl | rfl | rfl <;> rfl
theorem mLen_ne {j N : Nat} (hN : N < 12) : Nat.beq N (mLen j) = false := by
  have : N ≠ mLen j := by
    unfold mLen
    split <;> omega
  exact nbf this
theorem cKind_t {c : ClassId} {N : Nat} {f : Nat → Int32} (hN : N < 12) : cKind (.inl (c, N, .inl f)) = false := nbf (by omega)
theorem mRep.temp {G : gG} (m : mRep G h a u) {q N : Nat} {f f' : Nat → Int32} (hq : gat h q (.inl (gI G, N, .inl f))) (hN : N < 12) : mRep G (gput h q (.inl (gI G, N, .inl f'))) a u :=
  ⟨gat_put m.1 (gat_ne m.1 hq rfl), fun j hj => gat_put (m.2 j hj) (Ne.symm (gat_ne hq (m.2 j hj) (mLen_ne hN)))⟩
theorem gM_new {own : String} (hB : gB X R cc Ts own) (hM : mRep X.2.1 h a u) (hF : mFr h0 h) {x : Int32} (N : Nat) (hN : x = nI N) (hN9 : N < 12) (harr : Cond.arrayClass .int ∈ Ts) (hk9 : k + 1 ≤ R.cells) (hn9 : n + N ≤ R.slots) (hd : decode cc pc = .ok (.newarray .int, 2))
    (kk : ∀ (q : Nat) (h1 : gH), mRep X.2.1 h1 a u → mFr h0 h1 → gat h1 q (.inl (gI X.2.1, N, .inl (fun _ => 0))) → gW X h1 (k + 1) (n + N) (pc + 2) lc (.ref q :: st)) : gW X h k n pc lc (.int x :: st) :=
  gI_newI hB N hN (by omega) harr hk9 hn9 hd (fun q hq => kk q _ (hM.new hq) (hF.new hq) gat_new_self)
theorem gM_tast {own : String} (hB : gB X R cc Ts own) (hM : mRep X.2.1 h a u) (hF : mFr h0 h) {q N : Nat} {f : Nat → Int32} (hq : gat h q (.inl (gI X.2.1, N, .inl f))) (hN : N < 12) (z : Nat) {i x : Int32} (hi : i = nI z) (hz : z < N) (hd : decode cc pc = .ok (.iastore, 1))
    (kk : ∀ h1 : gH, mRep X.2.1 h1 a u → mFr h0 h1 → gat h1 q (.inl (gI X.2.1, N, .inl (upd f z x))) → gW X h1 k n (pc + 1) lc st) : gW X h k n pc lc (.int x :: .int i :: .ref q :: st) := by
  subst hi
  refine gI_iast hB hq (vp_in_nI hz (by omega)) hd ?_
  rw [nI_clamp (by omega)]
  exact kk _ (hM.temp hq hN) (hF.put hq (cKind_t hN)) (gat_put_self hq)
theorem gM_copyT {own : String} (hB : gB X R cc Ts own) (hM : mRep X.2.1 h a u) (hF : mFr h0 h) (j : Nat) (hj : j < 5) {q N index : Nat} {f : Nat → Int32} (hq : gat h q (.inl (gI X.2.1, N, .inl f))) (hN : N < 12) {sp dp z : Int32} (sp9 dp9 z9 : Nat) (esp : sp = nI sp9) (edp : dp = nI dp9) (ez : z = nI z9) (hlink : Cond.methodLink own index arraycopyName ∈ Ts) (hnat : Cond.native arraycopyName ∈ Ts) (hstat : Cond.static arraycopyName ∈ Ts) (hini : Cond.initialized "java/lang/System" ∈ Ts)
    (h4 : sp9 + z9 ≤ N) (h5 : dp9 + z9 ≤ mLen j) (hf : 1 ≤ R.frames) (hlo : (st.map fun v => v.category).sum + (nativeFrameWords "java/lang/System" "arraycopy" 5 + 11) ≤ R.locals) (hd : decode cc pc = .ok (.invokestatic index, 3))
    (kk : ∀ h1 : gH, mRep X.2.1 h1 a (sa u j (va_cpy f (u.2 j) sp9 dp9 z9)) → mFr h0 h1 → gW X h1 k n (pc + 3) lc st) : gW X h k n pc lc (.int z :: .int dp :: .ref (a (j + 1)) :: .int sp :: .ref q :: st) := by
  have hz2 : mLen j ≤ 3000 := by
    rcases (show j = 0 ∨ j = 1 ∨ j = 2 ∨ j = 3 ∨ j = 4 by omega) with rfl | rfl | rfl | rfl | rfl <;> decide
  refine gI_copyI hB sp9 dp9 z9 esp edp ez hlink hnat hstat hini hq (hM.2 j hj) h4 h5 (by omega) (by omega) hf hlo hd ?_
  refine kk _ (hM.arr j hj _) (hF.put (hM.2 j hj) ?_)
  rcases (show j = 0 ∨ j = 1 ∨ j = 2 ∨ j = 3 ∨ j = 4 by omega) with rfl | rfl | rfl | rfl | rfl <;> rfl
theorem gM_copyA {own : String} (hB : gB X R cc Ts own) (hM : mRep X.2.1 h a u) (hF : mFr h0 h) (i j : Nat) (hi : i < 5) (hj : j < 5) {index : Nat} {sp dp z : Int32} (sp9 dp9 z9 : Nat) (esp : sp = nI sp9) (edp : dp = nI dp9) (ez : z = nI z9) (hlink : Cond.methodLink own index arraycopyName ∈ Ts) (hnat : Cond.native arraycopyName ∈ Ts) (hstat : Cond.static arraycopyName ∈ Ts) (hini : Cond.initialized "java/lang/System" ∈ Ts)
    (h4 : sp9 + z9 ≤ mLen i) (h5 : dp9 + z9 ≤ mLen j) (hf : 1 ≤ R.frames) (hlo : (st.map fun v => v.category).sum + (nativeFrameWords "java/lang/System" "arraycopy" 5 + 11) ≤ R.locals) (hd : decode cc pc = .ok (.invokestatic index, 3))
    (kk : ∀ h1 : gH, mRep X.2.1 h1 a (sa u j (va_cpy (u.2 i) (u.2 j) sp9 dp9 z9)) → mFr h0 h1 → gW X h1 k n (pc + 3) lc st) : gW X h k n pc lc (.int z :: .int dp :: .ref (a (j + 1)) :: .int sp :: .ref (a (i + 1)) :: st) := by
  have hz2 : mLen j ≤ 3000 := by
    rcases (show j = 0 ∨ j = 1 ∨ j = 2 ∨ j = 3 ∨ j = 4 by omega) with rfl | rfl | rfl | rfl | rfl <;> decide
  have hz3 : mLen i ≤ 3000 := by
    rcases (show i = 0 ∨ i = 1 ∨ i = 2 ∨ i = 3 ∨ i = 4 by omega) with rfl | rfl | rfl | rfl | rfl <;> decide
  refine gI_copyI hB sp9 dp9 z9 esp edp ez hlink hnat hstat hini (hM.2 i hi) (hM.2 j hj) h4 h5 (by omega) (by omega) hf hlo hd ?_
  refine kk _ (hM.arr j hj _) (hF.put (hM.2 j hj) ?_)
  rcases (show j = 0 ∨ j = 1 ∨ j = 2 ∨ j = 3 ∨ j = 4 by omega) with rfl | rfl | rfl | rfl | rfl <;> rfl
/-- what a method of the reference leaves -/
def mPo (G : gG) (h : gH) (a : Nat → Nat) (P : gR → MS → Nat → Nat → Prop) : gPo := fun r h' k n => ∃ u', mRep G h' a u' ∧ mFr h h' ∧ P r u' k n
theorem gM_call {own : String} (hB : gB X R cc Ts own) (hM : mRep X.2.1 h a u) (hF : mFr h0 h) {As rest : List Value} {y : MethodName} {ws : List Cond} {rm : Room} {bytes : ByteArray} {maxL n9 index : Nat} {ret : Option FieldType} {P : gR → MS → Nat → Nat → Prop}
    (hC : gMet y ws rm X.2.1 h (.ref (a 0) :: As) (mPo X.2.1 h a P)) (cw : gCW Ts ws y bytes maxL ret rm R n9) (hl : Cond.methodLink own index y ∈ Ts) (hinst : Cond.instanceMethod y ∈ Ts) (hsel : Cond.selects RX7 y y ∈ Ts) (hini : Cond.initialized y.cls ∈ Ts)
    (hn : As.length = n9) (hst : st = As.reverse ++ .ref (a 0) :: rest) (hcat : (rest.map fun v => v.category).sum ≤ 8) (hk9 : k + rm.cells ≤ R.cells) (hn9 : n + rm.slots ≤ R.slots) (hno : ∀ E u' k n, ¬ P (.inr E) u' k n) (hd : decode cc pc = .ok (.invokevirtual index, 3))
    (kk : ∀ (v : Option Value) (h1 : gH) (u' : MS) (k1 n1 : Nat), mRep X.2.1 h1 a u' → mFr h0 h1 → P (.inl v) u' k1 n1 → gW X h1 (k + k1) (n + n1) (pc + 3) lc (v.toList ++ rest)) : gW X h k n pc lc st :=
  gI_callV hB hC cw hl hinst hsel hini hM.x (C := RX7) (T := TX7) (N := 15) rfl hn hst hcat hk9 hn9 hd (fun v h1 k1 n1 hp => by obtain ⟨u', g1, g2, g3⟩ := hp; exact kk v h1 u' k1 n1 g1 (hF.trans g2) g3) (fun E h1 k1 n1 hp => by obtain ⟨u', g1, g2, g3⟩ := hp; exact absurd g3 (hno E u' k1 n1))
theorem gM_pure {own : String} (hB : gB X R cc Ts own) (hM : mRep X.2.1 h a u) {As rest : List Value} {y : MethodName} {ws : List Cond} {rm : Room} {bytes : ByteArray} {maxL n9 index : Nat} {ret : Option FieldType} {ov : Option Value}
    (hC : gMet y ws rm X.2.1 h (.ref (a 0) :: As) (gRet h ov)) (cw : gCW Ts ws y bytes maxL ret rm R n9) (hl : Cond.methodLink own index y ∈ Ts) (hinst : Cond.instanceMethod y ∈ Ts) (hsel : Cond.selects RX7 y y ∈ Ts) (hini : Cond.initialized y.cls ∈ Ts)
    (hn : As.length = n9) (hst : st = As.reverse ++ .ref (a 0) :: rest) (hcat : (rest.map fun v => v.category).sum ≤ 8) (hk9 : k + rm.cells ≤ R.cells) (hn9 : n + rm.slots ≤ R.slots) (hd : decode cc pc = .ok (.invokevirtual index, 3))
    (kk : gW X h k n (pc + 3) lc (ov.toList ++ rest)) : gW X h k n pc lc st :=
  gI_pureV hB hC cw hl hinst hsel hini hM.x (C := RX7) (T := TX7) (N := 15) rfl hn hst hcat hk9 hn9 hd kk
end GModel
