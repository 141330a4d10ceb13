/-! answers that are no refusals -/
theorem sg_same {u : MS} (e : u.1 0 = nI 0) : sg u 0 (nI 0) = u := by
  refine Prod.ext ?_ rfl
  funext i
  show upd u.1 0 (nI 0) i = u.1 i
  by_cases c : i = 0
  · subst c
    rw [pk_us, e]
  · exact pk_un c
/-- an answer and a state; z: what it may cost -/
def rPo (G : gG) (c : Nat → Nat) (u : MS) (F z : Nat) (x : Int32) : gPo := fun r h' k n => r = .inl (some (.int x)) ∧ ∃ F', cW G h' c u F' ∧ F ≤ F' ∧ k ≤ z + (F' - F) ∧ n ≤ 6 * z + 7 * (F' - F)
theorem kPo.rdp {G : gG} {h : gH} {c : Nat → Nat} {F z ck sk : Nat} {s : MS × Int32} {E1 E2 : String} {r : gR} {h' : gH} {k n : Nat} (hp : kPo G h c F s E1 E2 ck sk r h' k n) (e0 : s.1.1 0 = nI 0) (hck : ck ≤ z) (hsk : sk ≤ 6 * z) : rPo G c s.1 F z s.2 r h' k n := by
  obtain ⟨F', hW, hFr, hle, hk, hn, hr⟩ := hp
  rcases hr with ⟨e, -⟩ | ⟨-, e⟩ | ⟨-, e⟩
  · exact ⟨e, F', hW, hle, by omega, by omega⟩
  · exact absurd (e0.symm.trans e) (by decide)
  · exact absurd (e0.symm.trans e) (by decide)
theorem cW.main {G : gG} {h : gH} {c : Nat → Nat} {u : MS} {F : Nat} (hW : cW G h c u F) : ∃ fs, gat h (c 0) (.inr (9, fs)) := by
  obtain ⟨Λ, T, W, z, hC, o, e⟩ := hW
  exact ⟨_, hC.1⟩
theorem cW.le {G : gG} {h : gH} {c : Nat → Nat} {u : MS} {F : Nat} (hW : cW G h c u F) : F ≤ 1611 := by
  obtain ⟨Λ, T, W, z, hC, o, rfl⟩ := hW
  exact cPhi_le hC
/-- a class's world stays where it is part of another -/
theorem cW.up {G : gG} {h h' : gH} {c : Nat → Nat} {u : MS} {F : Nat} (hW : cW G h c u F) (hs : gSub h h') : cW G h' c u F := by
  obtain ⟨Λ, T, W, z, hC, o, e⟩ := hW
  exact ⟨Λ, T, W, z, hC.keepBy (fun _ => true) (fun _ _ _ => rfl) (fun _ _ => rfl) (fun _ _ _ => rfl) (fun q e9 hq _ => hs q e9 hq), o, e⟩
def pBud (k n F B : Nat) : Prop := k + B ≤ 100000 + F ∧ n + 6 * B ≤ 1000000 + 7 * F ∧ F ≤ 1611
theorem pBud.to {k n F B B' : Nat} (b : pBud k n F B) (h : B' ≤ B) : pBud k n F B' := by
  obtain ⟨b1, b2, b3⟩ := b
  exact ⟨by omega, by omega, b3⟩
section PCalls
variable {X : gX} {R : Room} {cc : ByteArray} {Ts : List Cond} {own : String} {h : gH} {k n pc : Nat} {lc : List (Nat × Value)} {st : List Value}
/-- a call of the class that is no refusal -/
theorem gI_cl (hB : gB X R cc Ts own) {y : MethodName} {ws : List Cond} {rm : Room} {bytes : ByteArray} {maxL n9 index : Nat} {ret : Option FieldType} {As rest : List Value} {c : Nat → Nat} {u u' : MS} {F z : Nat} {x : Int32} (B : Nat)
    (hM : gMet y ws rm X.2.1 h (.ref (c 0) :: As) (rPo X.2.1 c u' F z x)) (cw : gCW Ts ws y bytes maxL ret rm R n9) (hl : Cond.methodLink own index y ∈ Ts) (hinst : Cond.instanceMethod y ∈ Ts) (hsel : Cond.selects RX6 y y ∈ Ts) (hini : Cond.initialized y.cls ∈ Ts) (hW : cW X.2.1 h c u F)
    (hn : As.length = n9) (hst : st = As.reverse ++ .ref (c 0) :: rest) (hcat : (rest.map fun v => v.category).sum ≤ 8) (hrm : rm.cells ≤ 8000 ∧ rm.slots ≤ 54000) (hR : 110000 ≤ R.cells ∧ 1100000 ≤ R.slots) (hd : decode cc pc = .ok (.invokevirtual index, 3)) (bd : pBud k n F (B + z))
    (kk : ∀ (h1 : gH) (k1 n1 F1 : Nat), cW X.2.1 h1 c u' F1 → pBud k1 n1 F1 B → gW X h1 k1 n1 (pc + 3) lc (.int x :: rest)) : gW X h k n pc lc st := by
  obtain ⟨fs, hb9⟩ := hW.main
  obtain ⟨b1, b2, b3⟩ := bd
  refine gI_callV hB hM cw hl hinst hsel hini hb9 (C := RX6) (T := TX6) (N := 9) rfl hn hst hcat (by omega) (by omega) hd (fun v9 h1 k1 n1 hp => ?_) (fun E9 h1 k1 n1 hp => by cases hp.1)
  obtain ⟨e, F', hW', hle, hk, hn'⟩ := hp
  cases e
  exact kk h1 _ _ F' hW' ⟨by omega, by omega, hW'.le⟩
/-- .. that is given its own part of the world -/
theorem gI_clK (hB : gB X R cc Ts own) {y : MethodName} {ws : List Cond} {rm : Room} {bytes : ByteArray} {maxL n9 index : Nat} {ret : Option FieldType} {As rest : List Value} {c : Nat → Nat} {u u' : MS} {F z : Nat} {x : Int32} {hC : gH} (B : Nat)
    (hM : gMet y ws rm X.2.1 hC (.ref (c 0) :: As) (rPo X.2.1 c u' F z x)) (hs : gSub hC h) (hnd : hC.1.Nodup) (cw : gCW Ts ws y bytes maxL ret rm R n9) (hl : Cond.methodLink own index y ∈ Ts) (hinst : Cond.instanceMethod y ∈ Ts) (hsel : Cond.selects RX6 y y ∈ Ts) (hini : Cond.initialized y.cls ∈ Ts) (hW : cW X.2.1 hC c u F)
    (hn : As.length = n9) (hst : st = As.reverse ++ .ref (c 0) :: rest) (hcat : (rest.map fun v => v.category).sum ≤ 8) (hrm : rm.cells ≤ 8000 ∧ rm.slots ≤ 54000) (hR : 110000 ≤ R.cells ∧ 1100000 ≤ R.slots) (hd : decode cc pc = .ok (.invokevirtual index, 3)) (bd : pBud k n F (B + z))
    (kk : ∀ (h1 hC1 : gH) (k1 n1 F1 : Nat), cW X.2.1 hC1 c u' F1 → gSub hC1 h1 → gRest h hC h1 hC1 → hC1.1.Nodup → pBud k1 n1 F1 B → gW X h1 k1 n1 (pc + 3) lc (.int x :: rest)) : gW X h k n pc lc st := by
  obtain ⟨fs, hb9⟩ := hW.main
  obtain ⟨b1, b2, b3⟩ := bd
  refine gI_callV hB (hM.keep hs hnd) cw hl hinst hsel hini (hs _ _ hb9) (C := RX6) (T := TX6) (N := 9) rfl hn hst hcat (by omega) (by omega) hd (fun v9 h1 k1 n1 hp => ?_) (fun E9 h1 k1 n1 hp => by
    obtain ⟨hC1, hp, -⟩ := hp
    cases hp.1)
  obtain ⟨hC1, ⟨e, F', hW', hle, hk, hn'⟩, hs1, hr1, hnd1⟩ := hp
  cases e
  exact kk h1 hC1 _ _ F' hW' hs1 hr1 hnd1 ⟨by omega, by omega, hW'.le⟩
end PCalls

theorem r_tenant {G : gG} {h : gH} {c : Nat → Nat} {u : MS} {F : Nat} {p q x : Int32} (hW : cW G h c u F) (e0 : u.1 0 = nI 0) (e : mTenant u p q = (u, x)) : gMet yX6_tenant wsX6_tenant (gRm 5 1 6) G h [.ref (c 0), .int p, .int q] (rPo G c u F 1 x) := by
  obtain ⟨Λ, T, W, z, hC, o, rfl⟩ := hW
  refine (p_tenant G h c Λ u T W z hC o p q).imp (fun r h' k n hp => ?_)
  rw [e] at hp
  exact hp.rdp e0 (by omega) (by omega)
theorem r_habit {G : gG} {h : gH} {c : Nat → Nat} {u : MS} {F : Nat} {p q v x : Int32} (hW : cW G h c u F) (e0 : u.1 0 = nI 0) (e : mHabit u p q v = (u, x)) : gMet yX6_habit wsX6_habit (gRm 5 1 6) G h [.ref (c 0), .int p, .int q, .int v] (rPo G c u F 1 x) := by
  obtain ⟨Λ, T, W, z, hC, o, rfl⟩ := hW
  refine (p_habit G h c Λ u T W z hC o p q v).imp (fun r h' k n hp => ?_)
  rw [e] at hp
  exact hp.rdp e0 (by omega) (by omega)
theorem r_count {G : gG} {h : gH} {c : Nat → Nat} {u : MS} {F : Nat} {p x : Int32} (hW : cW G h c u F) (e0 : u.1 0 = nI 0) (e : mCount u p = (u, x)) : gMet yX6_count wsX6_count (gRm 4 1 6) G h [.ref (c 0), .int p] (rPo G c u F 1 x) := by
  obtain ⟨Λ, T, W, z, hC, o, rfl⟩ := hW
  refine (p_count G h c Λ u T W z hC o p).imp (fun r h' k n hp => ?_)
  rw [e] at hp
  exact hp.rdp e0 (by omega) (by omega)
theorem r_waiting {G : gG} {h : gH} {c : Nat → Nat} {u : MS} {F : Nat} {p q x : Int32} (hW : cW G h c u F) (e0 : u.1 0 = nI 0) (e : mWaiting u p q = (u, x)) : gMet yX6_waiting wsX6_waiting (gRm 5 1 6) G h [.ref (c 0), .int p, .int q] (rPo G c u F 1 x) := by
  obtain ⟨Λ, T, W, z, hC, o, rfl⟩ := hW
  refine (p_waiting G h c Λ u T W z hC o p q).imp (fun r h' k n hp => ?_)
  rw [e] at hp
  exact hp.rdp e0 (by omega) (by omega)
theorem r_sung {G : gG} {h : gH} {c : Nat → Nat} {u : MS} {F : Nat} {p q x : Int32} (hW : cW G h c u F) (e0 : u.1 0 = nI 0) (e : mSung u p q = (u, x)) : gMet yX6_sung wsX6_sung (gRm 5 1 6) G h [.ref (c 0), .int p, .int q] (rPo G c u F 1 x) := by
  obtain ⟨Λ, T, W, z, hC, o, rfl⟩ := hW
  refine (p_sung G h c Λ u T W z hC o p q).imp (fun r h' k n hp => ?_)
  rw [e] at hp
  exact hp.rdp e0 (by omega) (by omega)
theorem r_through {G : gG} {h : gH} {c : Nat → Nat} {u : MS} {F : Nat} {p q x : Int32} (hW : cW G h c u F) (e0 : u.1 0 = nI 0) (e : mThrough u p q = (u, x)) : gMet yX6_through wsX6_through (gRm 5 1 6) G h [.ref (c 0), .int p, .int q] (rPo G c u F 1 x) := by
  obtain ⟨Λ, T, W, z, hC, o, rfl⟩ := hW
  refine (p_through G h c Λ u T W z hC o p q).imp (fun r h' k n hp => ?_)
  rw [e] at hp
  exact hp.rdp e0 (by omega) (by omega)
theorem r_sounds {G : gG} {h : gH} {c : Nat → Nat} {u : MS} {F : Nat} {p q x : Int32} (hW : cW G h c u F) (e0 : u.1 0 = nI 0) (e : mSounds u p q = (u, x)) : gMet yX6_sounds wsX6_sounds (gRm 6 1 6) G h [.ref (c 0), .int p, .int q] (rPo G c u F 1 x) := by
  obtain ⟨Λ, T, W, z, hC, o, rfl⟩ := hW
  refine (p_sounds G h c Λ u T W z hC o p q).imp (fun r h' k n hp => ?_)
  rw [e] at hp
  exact hp.rdp e0 (by omega) (by omega)
theorem r_best {G : gG} {h : gH} {c : Nat → Nat} {u : MS} {F : Nat} {x : Int32} (hW : cW G h c u F) (e0 : u.1 0 = nI 0) (e : mBest u = (u, x)) : gMet yX6_best wsX6_best (gRm 7 1 6) G h [.ref (c 0)] (rPo G c u F 1 x) := by
  obtain ⟨Λ, T, W, z, hC, o, rfl⟩ := hW
  refine (p_best G h c Λ u T W z hC o ).imp (fun r h' k n hp => ?_)
  rw [e] at hp
  exact hp.rdp e0 (by omega) (by omega)
theorem r_reach {G : gG} {h : gH} {c : Nat → Nat} {u : MS} {F : Nat} {p x : Int32} (hW : cW G h c u F) (e0 : u.1 0 = nI 0) (e : mReach u p = (u, x)) : gMet yX6_reach wsX6_reach (gRm 6 1 6) G h [.ref (c 0), .int p] (rPo G c u F 1 x) := by
  obtain ⟨Λ, T, W, z, hC, o, rfl⟩ := hW
  refine (p_reach G h c Λ u T W z hC o p).imp (fun r h' k n hp => ?_)
  rw [e] at hp
  exact hp.rdp e0 (by omega) (by omega)
theorem r_hops {G : gG} {h : gH} {c : Nat → Nat} {u : MS} {F : Nat} {p q x : Int32} (hW : cW G h c u F) (e0 : u.1 0 = nI 0) (e : mHops u p q = (u, x)) : gMet yX6_hops wsX6_hops (gRm 6 1 6) G h [.ref (c 0), .int p, .int q] (rPo G c u F 1 x) := by
  obtain ⟨Λ, T, W, z, hC, o, rfl⟩ := hW
  refine (p_hops G h c Λ u T W z hC o p q).imp (fun r h' k n hp => ?_)
  rw [e] at hp
  exact hp.rdp e0 (by omega) (by omega)
theorem r_ring {G : gG} {h : gH} {c : Nat → Nat} {u u' : MS} {F : Nat} {p x : Int32} (hW : cW G h c u F) (e : mRing u p = (u', x)) (e0 : u'.1 0 = nI 0) : gMet yX6_ring wsX6_ring (gRm 10 4100 26100) G h [.ref (c 0), .int p] (rPo G c u' F 1 x) := by
  obtain ⟨Λ, T, W, z, hC, o, rfl⟩ := hW
  refine (p_ring G h c Λ u T W z hC o p).imp (fun r h' k n hp => ?_)
  rw [e] at hp
  exact hp.rdp e0 (by omega) (by omega)
theorem r_pass {G : gG} {h : gH} {c : Nat → Nat} {u u' : MS} {F : Nat} {p x : Int32} (hW : cW G h c u F) (e : mPass u p = (u', x)) (e0 : u'.1 0 = nI 0) : gMet yX6_pass wsX6_pass (gRm 11 8000 54000) G h [.ref (c 0), .int p] (rPo G c u' F 1 x) := by
  obtain ⟨Λ, T, W, z, hC, o, rfl⟩ := hW
  refine (p_pass G h c Λ u T W z hC o p).imp (fun r h' k n hp => ?_)
  rw [e] at hp
  exact hp.rdp e0 (by omega) (by omega)
theorem r_setHour {G : gG} {h : gH} {c : Nat → Nat} {u u' : MS} {F : Nat} {p x : Int32} (hW : cW G h c u F) (e : mSetHour u p = (u', x)) (e0 : u'.1 0 = nI 0) : gMet yX6_setHour wsX6_setHour (gRm 4 1 6) G h [.ref (c 0), .int p] (rPo G c u' F 1 x) := by
  obtain ⟨Λ, T, W, z, hC, o, rfl⟩ := hW
  refine (p_setHour G h c Λ u T W z hC o p).imp (fun r h' k n hp => ?_)
  rw [e] at hp
  exact hp.rdp e0 (by omega) (by omega)
theorem r_moveIn {G : gG} {h : gH} {c : Nat → Nat} {u u' : MS} {F : Nat} {p q x : Int32} (hW : cW G h c u F) (e : mMoveIn u p q = (u', x)) (e0 : u'.1 0 = nI 0) : gMet yX6_moveIn wsX6_moveIn (gRm 7 3 720) G h [.ref (c 0), .int p, .int q] (rPo G c u' F 120 x) := by
  obtain ⟨Λ, T, W, z, hC, o, rfl⟩ := hW
  refine (p_moveIn G h c Λ u T W z hC o p q).imp (fun r h' k n hp => ?_)
  rw [e] at hp
  exact hp.rdp e0 (by omega) (by omega)
theorem r_addHabit {G : gG} {h : gH} {c : Nat → Nat} {u u' : MS} {F : Nat} {p x : Int32} (hW : cW G h c u F) (e : mAddHabit u p = (u', x)) (e0 : u'.1 0 = nI 0) : gMet yX6_addHabit wsX6_addHabit (gRm 7 2 700) G h [.ref (c 0), .int p] (rPo G c u' F 117 x) := by
  obtain ⟨Λ, T, W, z, hC, o, rfl⟩ := hW
  refine (p_addHabit G h c Λ u T W z hC o p).imp (fun r h' k n hp => ?_)
  rw [e] at hp
  exact hp.rdp e0 (by omega) (by omega)
theorem r_setWhen {G : gG} {h : gH} {c : Nat → Nat} {u u' : MS} {F : Nat} {p q v1 v2 v3 v4 x : Int32} (hW : cW G h c u F) (e : mSetWhen u p q v1 v2 v3 v4 = (u', x)) (e0 : u'.1 0 = nI 0) : gMet yX6_setWhen wsX6_setWhen (gRm 5 1 6) G h [.ref (c 0), .int p, .int q, .int v1, .int v2, .int v3, .int v4] (rPo G c u' F 1 x) := by
  obtain ⟨Λ, T, W, z, hC, o, rfl⟩ := hW
  refine (p_setWhen G h c Λ u T W z hC o p q v1 v2 v3 v4).imp (fun r h' k n hp => ?_)
  rw [e] at hp
  exact hp.rdp e0 (by omega) (by omega)
theorem r_setWhat {G : gG} {h : gH} {c : Nat → Nat} {u u' : MS} {F : Nat} {p q v1 v2 v3 v4 x : Int32} (hW : cW G h c u F) (e : mSetWhat u p q v1 v2 v3 v4 = (u', x)) (e0 : u'.1 0 = nI 0) : gMet yX6_setWhat wsX6_setWhat (gRm 5 1 6) G h [.ref (c 0), .int p, .int q, .int v1, .int v2, .int v3, .int v4] (rPo G c u' F 1 x) := by
  obtain ⟨Λ, T, W, z, hC, o, rfl⟩ := hW
  refine (p_setWhat G h c Λ u T W z hC o p q v1 v2 v3 v4).imp (fun r h' k n hp => ?_)
  rw [e] at hp
  exact hp.rdp e0 (by omega) (by omega)
theorem mIn_lo {w b : Nat} (h : w ≤ b) (hb : b < 100000) : mIn (nI w) (nI 0) (nI b) := ⟨nI_le (a := 0) (b := w) (by omega) (by omega), nI_le h (by omega)⟩
theorem mIn_up {w b : Nat} {x : Int32} (e : x = nI b) (h : w < b) (hb : b < 100000) : mIn (nI w) (nI 0) (x - nI 1) := by
  rw [e]
  exact mIn_nI (by omega) h
section PVals
variable {u : MS} {T W z : Nat}
theorem v_tenant (o : mOk u T W z) (e0 : u.1 0 = nI 0) {t w : Nat} (ht : t < T) (hw : w ≤ 5) : mTenant u (nI t) (nI w) = (u, u.2 0 (7 * t + w)) := by
  have hT := o.2.1
  unfold mTenant
  rw [if_pos ⟨mTen_nI o.W ht, mIn_lo hw (by omega)⟩, sg_same e0, mCl (by omega), mCl (by omega)]
theorem v_habit (o : mOk u T W z) (e0 : u.1 0 = nI 0) {t j w m : Nat} (ht : t < T) (em : u.2 0 (7 * t + 3) = nI m) (hm : m ≤ 8) (hj : j < m) (hw : w ≤ 8) : mHabit u (nI t) (nI j) (nI w) = (u, u.2 1 (9 * (8 * t + j) + w)) := by
  have hT := o.2.1
  unfold mHabit
  rw [if_pos ⟨⟨mTen_nI o.W ht, by rw [mCl (by omega)]; exact mIn_up em hj (by omega)⟩, mIn_lo hw (by omega)⟩, sg_same e0, mJ_of (by omega) (by omega), mCl (by omega)]
theorem v_count (e0 : u.1 0 = nI 0) {w : Nat} (hw : w ≤ 8) : mCount u (nI w) = (u, mCnt u w) := by
  unfold mCount
  rw [if_pos (mIn_lo hw (by omega)), sg_same e0, mCl (by omega)]
theorem v_waiting (o : mOk u T W z) (e0 : u.1 0 = nI 0) {k w : Nat} (hk : k < W) (hw : w ≤ 4) : mWaiting u (nI k) (nI w) = (u, u.2 2 (14 * k + w)) := by
  have hW := o.2.2.2.1
  unfold mWaiting
  rw [if_pos ⟨mIn_up o.2.2.1 hk (by omega), mIn_lo hw (by omega)⟩, sg_same e0, mCl (by omega), mCl (by omega)]
theorem v_sung (o : mOk u T W z) (e0 : u.1 0 = nI 0) {k w : Nat} (hk : k < z) (hw : w ≤ 5) : mSung u (nI k) (nI w) = (u, u.2 3 (15 * k + w)) := by
  have hz := o.2.2.2.2.2.1
  unfold mSung
  rw [if_pos ⟨mIn_up o.2.2.2.2.1 hk (by omega), mIn_lo hw (by omega)⟩, sg_same e0, mCl (by omega), mCl (by omega)]
theorem v_through (o : mOk u T W z) (e0 : u.1 0 = nI 0) {k i p : Nat} (hk : k < z) (ep : u.2 3 (15 * k + 4) = nI p) (hp : p ≤ 8) (hi : i ≤ p) : mThrough u (nI k) (nI i) = (u, u.2 3 (15 * k + 6 + i)) := by
  have hz := o.2.2.2.2.2.1
  unfold mThrough
  rw [mCl (by omega), if_pos ⟨mIn_up o.2.2.2.2.1 hk (by omega), by rw [ep]; exact mIn_lo hi (by omega)⟩, sg_same e0, mCl (by omega)]
theorem v_reach (o : mOk u T W z) (e0 : u.1 0 = nI 0) {t : Nat} (ht : t < T) : mReach u (nI t) = (u, mReachL u T (mNext u T t) T) := by
  have hT := o.2.1
  unfold mReach
  rw [if_pos (mTen_nI o.W ht), sg_same e0, o.1, mCl (by omega), mCl (by omega)]
theorem v_hops (o : mOk u T W z) (e0 : u.1 0 = nI 0) {t q : Nat} (ht : t < T) (hq : q < T) : mHops u (nI t) (nI q) = (u, mHopL u T (nI q) T 1 (mNext u T t)) := by
  have hT := o.2.1
  unfold mHops
  rw [if_pos ⟨mTen_nI o.W ht, mTen_nI o.W hq⟩, sg_same e0, o.1, mCl (by omega), mCl (by omega)]
theorem mOk.kept (o : mOk u T W z) : mKept u = z := by
  have hz := o.2.2.2.2.2.1
  unfold mKept
  rw [o.2.2.2.2.1, mCl (by omega)]
theorem v_sounds (o : mOk u T W z) (e0 : u.1 0 = nI 0) {x w : Nat} (hx : x < 1000000) (hw : w ≤ 3) : mSounds u (nI x) (nI w) = (u, if nI w = nI 3 then mHarA u (nI x) z else if nI w = 0 then nI (mSnM u (nI x) z) else if nI w = nI 1 then mSnL u (nI x) z else mSnG u (nI x) z) := by
  unfold mSounds
  rw [if_neg (nI_pos (by omega)), if_pos (mIn_lo hw (by omega)), sg_same e0, o.kept]
theorem v_best (o : mOk u T W z) (e0 : u.1 0 = nI 0) : mBest u = (u, (mBestL u z).1) := by
  unfold mBest
  rw [sg_same e0, o.kept]
end PVals
/-! the law's little methods -/
theorem i32_bel (v : Int32) {N : Nat} (h0 : 0 < N) (hN : N < 1000) : ∃ y, y < N ∧ (v &&& 2147483647) - (v &&& 2147483647) / nI N * nI N = nI y := by
  have hm : (v &&& 2147483647).toBitVec.msb = false := by
    rw [Int32.toBitVec_and, BitVec.msb_and]
    rw [show (2147483647 : Int32).toBitVec.msb = false by decide, Bool.and_false]
  have hn : 0 ≤ (v &&& 2147483647).toInt := by
    rw [BitVec.msb_eq_toInt] at hm
    have := of_decide_eq_false hm
    show 0 ≤ (v &&& 2147483647).toBitVec.toInt
    omega
  have hr := gFm_rem (v &&& 2147483647) (nI N)
  rw [nI_toInt (by omega)] at hr
  have b1 := Int.tmod_nonneg (N : Int) hn
  have b2 := Int.tmod_lt_of_pos (v &&& 2147483647).toInt (b := (N : Int)) (by omega)
  refine ⟨((v &&& 2147483647).toInt.tmod (N : Int)).toNat, by omega, ?_⟩
  refine Int32.toInt_inj.mp ?_
  rw [hr, nI_toInt (by omega)]
  omega
def bPo (h : gH) (N : Nat) : gPo := fun r h' k n => h = h' ∧ k = 0 ∧ n = 0 ∧ ∃ y, y < N ∧ r = .inl (some (.int (nI y)))
def ePo (h : gH) : gPo := fun r h' k n => h = h' ∧ k = 0 ∧ n = 0 ∧ ∃ x, r = .inl (some (.int x))
set_option maxRecDepth 100000 in
set_option maxHeartbeats 4000000 in
theorem s_below (G : gG) (h : gH) (v : Int32) {N : Nat} (h0 : 0 < N) (hN : N < 1000) : gMet yL_below wsL_below (gRm 1 0 0) G h [.int v, .int (nI N)] (bPo h N) := by
  refine gMet_of (maxL := 2) (ret := (some .int)) (by decide) rfl (Nat.le_of_ble_eq_true rfl) ?_
  intro X hG hnL hB hE
  subst hG
  change gW X h 0 0 0 [(0, .int v), (1, .int (nI N))] []
  refine gI_iload_n hB 0 dL_below_0 rfl ?_
  refine gI_ldc (v := 2147483647) hB (by decide +kernel) dL_below_1 ?_
  refine gI_iand hB dL_below_3 ?_
  refine gI_iload_n hB 1 dL_below_4 rfl ?_
  refine gI_irem hB dL_below_5 (fun z9 => by have := (nI_eq (a := N) (b := 0) (by omega) (by omega)).mp z9; omega) ?_
  refine gI_iret hB hE dL_below_6 ?_
  obtain ⟨y, hy, ey⟩ := i32_bel v h0 hN
  exact ⟨rfl, rfl, rfl, y, hy, by rw [ey]⟩
set_option maxRecDepth 100000 in
set_option maxHeartbeats 4000000 in
theorem s_cell (G : gG) (h : gH) {b L : Nat} {xs : Nat → Int32} (hL : L ≤ 260) (z : Nat) (hz : z < 1000) : gMetS b L xs yL_cell wsL_cell (gRm 1 0 0) G h [.ref b, .int (nI z)] (ePo h) := by
  refine gMetS_of (maxL := 2) (ret := (some .int)) (by decide) rfl (Nat.le_of_ble_eq_true rfl) ?_
  intro X hG hnL hB hE hS9
  subst hG
  change gW X h 0 0 0 [(0, .ref b), (1, .int (nI z))] []
  refine gI_iload_n hB 1 dL_cell_0 rfl ?_
  refine gI_aload_n hB 0 dL_cell_1 rfl ?_
  refine gI_slen hB hS9 dL_cell_2 ?_
  refine gI_icmp_ge hB 12 dL_cell_3 (by decide) (fun c1 => ?_) (fun c1 => ?_)
  · refine gI_ldc (v := 790386105) hB (by decide +kernel) dL_cell_12 ?_
    refine gI_iload_n hB 1 dL_cell_14 rfl ?_
    refine gI_iconst (v := nI 3) hB dL_cell_15 (by decide) ?_
    refine gI_iaddN hB dL_cell_16 ?_
    refine gI_imul hB dL_cell_17 ?_
    refine gI_iret hB hE dL_cell_18 ?_
    exact ⟨rfl, rfl, rfl, _, rfl⟩
  · have hzL : z < L := Nat.lt_of_not_le (fun z9 => c1 (nI_le z9 (by omega)))
    refine gI_aload_n hB 0 dL_cell_6 rfl ?_
    refine gI_iload_n hB 1 dL_cell_7 rfl ?_
    refine gI_sld hB hS9 z hzL (by omega) dL_cell_8 ?_
    refine gI_goto hB 18 dL_cell_9 (by decide) ?_
    refine gI_iret hB hE dL_cell_18 ?_
    exact ⟨rfl, rfl, rfl, _, rfl⟩

section PVals2
variable {u : MS} {T W z : Nat}
theorem v_snd0 (o : mOk u T W z) (e0 : u.1 0 = nI 0) {x : Nat} (hx : x < 1000000) : mSounds u (nI x) (nI 0) = (u, nI (mSnM u (nI x) z)) := (v_sounds o e0 hx (w := 0) (by omega)).trans (congrArg (Prod.mk u) (by rw [if_neg (by decide), if_pos (by decide)]))
theorem v_snd1 (o : mOk u T W z) (e0 : u.1 0 = nI 0) {x : Nat} (hx : x < 1000000) : mSounds u (nI x) (nI 1) = (u, mSnL u (nI x) z) := (v_sounds o e0 hx (w := 1) (by omega)).trans (congrArg (Prod.mk u) (by rw [if_neg (by decide), if_neg (by decide), if_pos rfl]))
theorem v_snd2 (o : mOk u T W z) (e0 : u.1 0 = nI 0) {x : Nat} (hx : x < 1000000) : mSounds u (nI x) (nI 2) = (u, mSnG u (nI x) z) := (v_sounds o e0 hx (w := 2) (by omega)).trans (congrArg (Prod.mk u) (by rw [if_neg (by decide), if_neg (by decide), if_neg (by decide)]))
theorem v_snd3 (o : mOk u T W z) (e0 : u.1 0 = nI 0) {x : Nat} (hx : x < 1000000) : mSounds u (nI x) (nI 3) = (u, mHarA u (nI x) z) := (v_sounds o e0 hx (w := 3) (by omega)).trans (congrArg (Prod.mk u) (by rw [if_pos rfl]))
theorem v_pass (e0 : u.1 0 = nI 0) {p : Nat} (h1 : 1 ≤ p) (hp : p ≤ 1000) : mPass u (nI p) = (mPassL p u, (mPassL p u).1 8 - u.1 8) := by
  unfold mPass
  rw [if_pos ⟨nI_le h1 (by omega), nI_le hp (by omega)⟩, sg_same e0, mCl (by omega)]
end PVals2
