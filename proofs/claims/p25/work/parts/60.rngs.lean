theorem cInj.more {Λ : CL} {N : Nat} (hI : cInj Λ N) (h1 : ∀ i, i < N → cLa Λ i ≠ cLa Λ N) (h2 : cCap Λ N = 0) (h3 : cLen Λ N = 0) : cInj Λ (N + 1) := by
  obtain ⟨a1, a2, a3⟩ := hI
  refine ⟨fun i j hi hj e => ?_, fun i j hi hj ci cj e => ?_, fun i j k l hi hj hk hl e => ?_⟩
  · by_cases ei : i = N
    · by_cases ej : j = N
      · rw [ei, ej]
      · rw [ei] at e
        exact absurd e.symm (h1 j (by omega))
    · by_cases ej : j = N
      · rw [ej] at e
        exact absurd e (h1 i (by omega))
      · exact a1 i j (by omega) (by omega) e
  · have ei : i ≠ N := fun z9 => ci (by rw [z9]; exact h2)
    have ej : j ≠ N := fun z9 => cj (by rw [z9]; exact h2)
    exact a2 i j (by omega) (by omega) ci cj e
  · have ei : i ≠ N := fun z9 => by rw [z9, h3] at hk; omega
    have ej : j ≠ N := fun z9 => by rw [z9, h3] at hl; omega
    exact a3 i j k l (by omega) (by omega) hk hl e
def cNew (Λ : CL) (i l A0 : Nat) : CL := (va_up (cLa Λ) i l, va_up (cAa Λ) i A0, va_up (cCap Λ) i 0, va_up (cLen Λ) i 0, cEl Λ)
/-- a ring's content -/
theorem rng_cg {R R' : Nat → Int32} {K K' p : Nat} (e : ∀ i, i < 14 → R' (K' + i) = R (K + i)) (hp : p ≤ 8) (ep : R (K + 4) = nI p) : rFS (mRow R' K') (wOf R' (K' + 5) (R' (K' + 4))) = rFS (mRow R K) (wOf R (K + 5) (R (K + 4))) := by
  have ew : ∀ q, q ≤ p → wWay R' (K' + 5) q = wWay R (K + 5) q := by
    intro q
    induction q with
    | zero =>
      intro _
      show (R' (K' + 5)).toInt64 = _
      rw [e 5 (by omega)]
      rfl
    | succ q ih =>
      intro hq
      show wWay R' (K' + 5) q ||| (R' (K' + 5 + q + 1)).toInt64 <<< _ = wWay R (K + 5) q ||| (R (K + 5 + q + 1)).toInt64 <<< _
      rw [ih (by omega), show K' + 5 + q + 1 = K' + (5 + q + 1) by omega, e (5 + q + 1) (by omega), show K + (5 + q + 1) = K + 5 + q + 1 by omega]
  have e4 := e 4 (by omega)
  have eo : wOf R' (K' + 5) (R' (K' + 4)) = wOf R (K + 5) (R (K + 4)) := by
    unfold wOf
    rw [e4, ep, mCl (by omega)]
    exact ew p (Nat.le_refl _)
  rw [eo]
  show [Value.int (R' (K' + 0)), .int (R' (K' + 1)), .int (R' (K' + 2)), .int (R' (K' + 3)), .int (R' (K' + 4)), .long _] = _
  rw [e 0 (by omega), e 1 (by omega), e 2 (by omega), e 3 (by omega), e4]
/-- the content of a ring that comes to wait -/
theorem ins_row {R D : Nat → Int32} {W K p : Nat} {to d s : Int32} (hK : K ≤ W) (hp : p ≤ 7) (ep : D 4 = nI p) : rFS (mRow (mIns R D W K p to d s) (14 * K)) (wOf (mIns R D W K p to d s) (14 * K + 5) (mIns R D W K p to d s (14 * K + 4))) = [.int (D 0 + d), .int to, .int (D 1), .int (D 3 + s), .int (D 4 + nI 1), .long (wOf D 5 (D 4) ||| to.toInt64 <<< (((D 4 + nI 1) * nI 4).toInt64 &&& 63))] := by
  obtain ⟨b1, b2, b3, b4, b5, b6, b7, b8, b9⟩ := mIns_eq (R := R) (D := D) (W := W) (K := K) (p := p) (to := to) (d := d) (s := s) hK hp
  have ew : ∀ q, q ≤ p → wWay (mIns R D W K p to d s) (14 * K + 5) q = wWay D 5 q := by
    intro q
    induction q with
    | zero =>
      intro _
      show (mIns R D W K p to d s (14 * K + 5 + 0)).toInt64 = _
      rw [b8 0 (by omega)]
      rfl
    | succ q ih =>
      intro hq
      show wWay (mIns R D W K p to d s) (14 * K + 5) q ||| (mIns R D W K p to d s (14 * K + 5 + (q + 1))).toInt64 <<< _ = wWay D 5 q ||| (D (5 + (q + 1))).toInt64 <<< _
      rw [ih (by omega), b8 (q + 1) (by omega)]
  have e1 : D 4 + nI 1 = nI (p + 1) := by rw [ep]; exact nI_1 p
  have eo : wOf (mIns R D W K p to d s) (14 * K + 5) (mIns R D W K p to d s (14 * K + 4)) = wOf D 5 (D 4) ||| to.toInt64 <<< (((D 4 + nI 1) * nI 4).toInt64 &&& 63) := by
    rw [e1]
    unfold wOf
    rw [b7, ep, mCl (by omega), mCl (by omega)]
    show wWay (mIns R D W K p to d s) (14 * K + 5) p ||| (mIns R D W K p to d s (14 * K + 5 + (p + 1))).toInt64 <<< _ = _
    rw [ew p (Nat.le_refl _), b9]
  rw [eo, e1]
  show [Value.int (mIns R D W K p to d s (14 * K)), .int (mIns R D W K p to d s (14 * K + 1)), .int (mIns R D W K p to d s (14 * K + 2)), .int (mIns R D W K p to d s (14 * K + 3)), .int (mIns R D W K p to d s (14 * K + 4)), .long _] = _
  rw [b3, b4, b5, b6, b7]
/-- the lists that a ring doesn't touch -/
def cSame (Λ Λ' : CL) : Prop := ∀ i, i ≠ 1 → i ≠ 2 → i ≠ 3 → cLen Λ' i = cLen Λ i ∧ cEl Λ' i = cEl Λ i
theorem cSame.rf {Λ : CL} : cSame Λ Λ := fun _ _ _ _ => ⟨rfl, rfl⟩
theorem cSame.trans {Λ Λ' Λ'' : CL} (a : cSame Λ Λ') (b : cSame Λ' Λ'') : cSame Λ Λ'' := fun i h1 h2 h3 => ⟨(b i h1 h2 h3).1.trans (a i h1 h2 h3).1, (b i h1 h2 h3).2.trans (a i h1 h2 h3).2⟩
theorem cSame.up {Λ : CL} {i A cap n : Nat} {f : Nat → Nat} (h : i = 1 ∨ i = 2 ∨ i = 3) : cSame Λ (cUp Λ i A cap n f) := fun j h1 h2 h3 => ⟨cUp_len_ne (by omega), cUp_el_ne (by omega)⟩
section CRngs
variable {G : gG} {h h' : gH} {c : Nat → Nat} {Λ Λ' : CL} {u : MS} {T W z : Nat}
theorem cRep.lam (e : ∀ i, i < 4 + T → cLa Λ' i = cLa Λ i ∧ cAa Λ' i = cAa Λ i ∧ cCap Λ' i = cCap Λ i ∧ cLen Λ' i = cLen Λ i ∧ cEl Λ' i = cEl Λ i) (hC : cRep G h c Λ u T W z) : cRep G h c Λ' u T W z := by
  obtain ⟨o1, ⟨f1, f2⟩, o3, o4, ⟨l1, l2, l3, l4, l5, l6⟩, o6, o7, o8, o9, o10, ⟨i1, i2, i3⟩, o12, o13⟩ := hC
  have e0 := e 0 (by omega)
  have e1 := e 1 (by omega)
  have e2 := e 2 (by omega)
  have e3 := e 3 (by omega)
  refine ⟨?_, ⟨?_, f2⟩, ?_, fun i hi => ?_, ⟨by rw [e0.2.2.2.1]; exact l1, by rw [e1.2.2.2.1]; exact l2, by rw [e3.2.2.2.1]; exact l3, by rw [e3.2.2.2.1]; exact l4, by rw [e1.2.2.2.1, e2.2.2.2.1]; exact l5, fun t ht => by rw [(e (4 + t) (by omega)).2.2.2.1]; exact l6 t ht⟩, fun t ht => ?_, fun t j ht hj => ?_, fun k hk => ?_, fun k hk => ?_, fun k hk => ?_, ⟨fun i j hi hj => ?_, fun i j hi hj => ?_, fun i j k l hi hj => ?_⟩, fun k hk => ?_, fun k hk => ?_⟩
  · unfold cMain
    rw [e0.1]
    exact o1
  · rw [e1.1, e2.1]
    exact f1
  · unfold cSong
    rw [e3.1]
    exact o3
  · obtain ⟨md, g, h1, h2, h3, h4, h5, h6⟩ := o4 i hi
    obtain ⟨a1, a2, a3, a4, a5⟩ := e i hi
    exact ⟨md, g, by rw [a1, a2, a4]; exact h1, by rw [a2, a3]; exact h2, by rw [a4, a3]; exact h3, by rw [a3]; exact h4, by rw [a4]; exact h5, fun j hj => by rw [a5]; exact h6 j (by rw [← a4]; exact hj)⟩
  · rw [e0.2.2.2.2, (e (4 + t) (by omega)).1]
    exact o6 t ht
  · rw [(e (4 + t) (by omega)).2.2.2.1] at hj
    rw [(e (4 + t) (by omega)).2.2.2.2]
    exact o7 t j ht hj
  · rw [e1.2.2.2.2]
    exact o8 k hk
  · rw [e2.2.2.2.1] at hk
    rw [e2.2.2.2.2]
    exact o9 k hk
  · rw [e3.2.2.2.1] at hk
    rw [e3.2.2.2.2]
    exact o10 k hk
  · rw [(e i hi).1, (e j hj).1]
    exact i1 i j hi hj
  · rw [(e i hi).2.2.1, (e j hj).2.2.1, (e i hi).2.1, (e j hj).2.1]
    exact i2 i j hi hj
  · rw [(e i hi).2.2.2.1, (e j hj).2.2.2.1, (e i hi).2.2.2.2, (e j hj).2.2.2.2]
    exact i3 i j k l hi hj
  · rw [e1.2.2.2.2]
    exact o12 k hk
  · rw [e2.2.2.2.1] at hk
    rw [e2.2.2.2.2]
    exact o13 k hk
theorem cRep.new {l A0 : Nat} (hC : cRep G h c Λ u T W z) : cRep G h c (cNew Λ (4 + T) l A0) u T W z := hC.lam (fun i hi => ⟨va_up_ne _ _ (by omega), va_up_ne _ _ (by omega), va_up_ne _ _ (by omega), va_up_ne _ _ (by omega), rfl⟩)
/-- a tenant has come -/
theorem cRep.addTen {A cap e : Nat} {md x : Int32} {f : Nat → Int32} (hC : cRep G h c Λ u T W z) (hf : gLf h h' (cLa Λ 0) (cAa Λ 0) (cLen Λ 0) (cCap Λ 0)) (hL : cLst G h' (cUp Λ 0 A cap (cLen Λ 0 + 1) (eIns (cEl Λ 0) (cLen Λ 0) e)) 0)
    (hA : ∀ k, k < 4 + T → k ≠ 0 → cap ≠ 0 → cCap Λ k ≠ 0 → A ≠ cAa Λ k) (he : ∀ k l, k < 4 + T → l < cLen Λ k → cEl Λ k l ≠ e) (hl0 : cLen Λ (4 + T) = 0) (hc0 : cCap Λ (4 + T) = 0) (hA0 : cAa Λ (4 + T) = gE0 G) (hln : ∀ i, i < 4 + T → cLa Λ i ≠ cLa Λ (4 + T))
    (hli : gat h' (cLa Λ (4 + T)) (.inr (2, [.int md, .ref (gE0 G), .int (nI 0)]))) (hh : gat h' e (.inr (7, tFS f T (cLa Λ (4 + T))))) (fA : ∀ t i, t < T → i < 7 → f (7 * t + i) = u.2 0 (7 * t + i)) (f3 : f (7 * T + 3) = nI 0) :
    cRep G h' c (cUp Λ 0 A cap (cLen Λ 0 + 1) (eIns (cEl Λ 0) (cLen Λ 0) e)) (sg (sa u 0 f) 3 x) (T + 1) W z := by
  obtain ⟨p1, p2, p3, p4, p5, p6, p7, p8, p9⟩ := hC.part (by omega) hf hL
  have k := gLf.l2 (hC.2.2.2.1 0 (by omega)) hf
  obtain ⟨o1, o2, o3, o4, ⟨l1, l2, l3, l4, l5, l6⟩, o6, o7, o8, o9, o10, o11, o12, o13⟩ := hC
  have n0 : ∀ i, i ≠ 0 → cLen (cUp Λ 0 A cap (cLen Λ 0 + 1) (eIns (cEl Λ 0) (cLen Λ 0) e)) i = cLen Λ i := fun i hi => cUp_len_ne hi
  refine ⟨p1, p2, p3, fun i hi => ?_, ⟨?_, ?_, ?_, ?_, ?_, fun t ht => ?_⟩, fun t ht => ?_, fun t j ht hj => ?_, p7 (by omega), p8 (by omega), p9 (by omega), ?_, fun w hw => ?_, fun w hw => ?_⟩
  · by_cases ei : i = 4 + T
    · subst ei
      refine ⟨md, fun _ => none, ?_, ?_, ?_, ?_, ?_, fun j hj => ?_⟩
      · show gat h' (cLa Λ (4 + T)) (.inr (2, [.int md, .ref (cAa (cUp Λ 0 A cap (cLen Λ 0 + 1) (eIns (cEl Λ 0) (cLen Λ 0) e)) (4 + T)), .int (nI (cLen (cUp Λ 0 A cap (cLen Λ 0 + 1) (eIns (cEl Λ 0) (cLen Λ 0) e)) (4 + T)))]))
        rw [cUp_aa_ne (by omega), cUp_len_ne (by omega), hA0, hl0]
        exact hli
      · rw [cUp_aa_ne (by omega), cUp_cap_ne (by omega)]
        exact Or.inl ⟨hc0, hA0⟩
      · rw [n0 _ (by omega), hl0]
        exact Nat.zero_le _
      · rw [cUp_cap_ne (by omega), hc0]
        exact Nat.zero_le _
      · rw [n0 _ (by omega), hl0]
        exact Nat.zero_le _
      · rw [n0 _ (by omega), hl0] at hj
        omega
    · exact p4 i (by omega)
  · rw [cUp_len, l1]
  · rw [n0 1 (by omega)]
    exact l2
  · rw [n0 3 (by omega)]
    exact l3
  · rw [n0 3 (by omega)]
    exact l4
  · rw [n0 1 (by omega), n0 2 (by omega)]
    exact l5
  · show f (7 * t + 3) = _
    rw [n0 _ (by omega)]
    by_cases et : t = T
    · subst et
      rw [hl0, f3]
    · rw [fA t 3 (by omega) (by omega)]
      exact l6 t (by omega)
  · show gat h' _ (.inr (7, tFS f t (cLa Λ (4 + t))))
    by_cases et : t = T
    · subst et
      rw [cUp_el]
      unfold eIns
      rw [if_neg (by omega), if_pos l1.symm]
      exact hh
    · rw [cUp_el]
      unfold eIns
      rw [if_pos (by omega)]
      show gat h' _ (.inr (7, [.int (nI t), .int (f (7 * t + 0)), .int (f (7 * t + 1)), .ref (cLa Λ (4 + t)), .int (f (7 * t + 2)), .int (f (7 * t + 4)), .int (f (7 * t + 5)), .int (f (7 * t + 6))]))
      rw [fA t 0 (by omega) (by omega), fA t 1 (by omega) (by omega), fA t 2 (by omega) (by omega), fA t 4 (by omega) (by omega), fA t 5 (by omega) (by omega), fA t 6 (by omega) (by omega)]
      exact k _ _ (o6 t (by omega)) (tgN_ne rfl) (tgN_ne rfl)
  · by_cases et : t = T
    · subst et
      rw [n0 _ (by omega), hl0] at hj
      omega
    · exact p6 (fun t' _ => by omega) t j (by omega) hj
  · refine cInj.more (N := 4 + T) (cInj.ins (N := 4 + T) (i := 0) (j := cLen Λ 0) o11 (by omega) (Nat.le_refl _) hA he) (fun i hi => hln i hi) ?_ ?_
    · rw [cUp_cap_ne (show 4 + T ≠ 0 by omega)]
      exact hc0
    · rw [n0 (4 + T) (by omega)]
      exact hl0
  · rw [cUp_el_ne (by omega)]
    exact o12 w hw
  · rw [n0 2 (by omega)] at hw
    rw [cUp_el_ne (by omega)]
    exact o13 w hw
/-- a ring has come to wait -/
theorem cRep.rngIns {K e p A cap : Nat} {to d s x : Int32} (hC : cRep G h c Λ u T W z) (o4 : ∀ k, k < W → ∃ p, p ≤ 8 ∧ u.2 2 (14 * k + 4) = nI p) (hK : K ≤ W) (hp : p ≤ 7) (ep : u.2 4 4 = nI p)
    (hf : gLf h h' (cLa Λ 1) (cAa Λ 1) (cLen Λ 1) (cCap Λ 1)) (hL : cLst G h' (cUp Λ 1 A cap (cLen Λ 1 + 1) (eIns (cEl Λ 1) K e)) 1) (hA : ∀ k, k < 4 + T → k ≠ 1 → cap ≠ 0 → cCap Λ k ≠ 0 → A ≠ cAa Λ k) (he : ∀ k l, k < 4 + T → l < cLen Λ k → cEl Λ k l ≠ e) (hec : e ≠ c 3) (hs : cLen Λ 1 + cLen Λ 2 ≤ 60)
    (hh : gat h' e (.inr (5, [.int (u.2 4 0 + d), .int to, .int (u.2 4 1), .int (u.2 4 3 + s), .int (u.2 4 4 + nI 1), .long (wOf (u.2 4) 5 (u.2 4 4) ||| to.toInt64 <<< (((u.2 4 4 + nI 1) * nI 4).toInt64 &&& 63))]))) :
    cRep G h' c (cUp Λ 1 A cap (cLen Λ 1 + 1) (eIns (cEl Λ 1) K e)) (sg (sa u 2 (mIns (u.2 2) (u.2 4) W K p to d s)) 6 x) T (W + 1) z := by
  obtain ⟨p1, p2, p3, p4', p5, p6, p7, p8, p9⟩ := hC.part (by omega) hf hL
  have k := gLf.l2 (hC.2.2.2.1 1 (by omega)) hf
  obtain ⟨b1, b2, -⟩ := mIns_eq (R := u.2 2) (D := u.2 4) (W := W) (K := K) (p := p) (to := to) (d := d) (s := s) hK hp
  obtain ⟨o1, o2, o3, o4', ⟨l1, l2, l3, l4, l5, l6⟩, o6, o7, o8, o9, o10, o11, o12, o13⟩ := hC
  have n0 : ∀ i, i ≠ 1 → cLen (cUp Λ 1 A cap (cLen Λ 1 + 1) (eIns (cEl Λ 1) K e)) i = cLen Λ i := fun i hi => cUp_len_ne hi
  refine ⟨p1, p2, p3, p4', ⟨?_, ?_, ?_, ?_, ?_, fun t ht => ?_⟩, p5 (by omega), p6 (fun t _ => by omega), fun w hw => ?_, p8 (by omega), p9 (by omega), cInj.ins o11 (by omega) (by omega) hA he, fun w hw => ?_, fun w hw => ?_⟩
  · rw [n0 0 (by omega)]
    exact l1
  · rw [cUp_len, l2]
  · rw [n0 3 (by omega)]
    exact l3
  · rw [n0 3 (by omega)]
    exact l4
  · rw [cUp_len, n0 2 (by omega)]
    omega
  · rw [n0 _ (by omega)]
    exact l6 t ht
  · show gat h' (cEl (cUp Λ 1 A cap (cLen Λ 1 + 1) (eIns (cEl Λ 1) K e)) 1 w) (.inr (5, rFS (mRow (mIns (u.2 2) (u.2 4) W K p to d s) (14 * w)) (wOf (mIns (u.2 2) (u.2 4) W K p to d s) (14 * w + 5) (mIns (u.2 2) (u.2 4) W K p to d s (14 * w + 4)))))
    rw [cUp_el]
    unfold eIns
    rcases Nat.lt_trichotomy w K with h1 | h1 | h1
    · rw [if_pos h1]
      obtain ⟨p', q1, q2⟩ := o4 w (by omega)
      rw [rng_cg (R := u.2 2) (K := 14 * w) (fun i hi => b1 w i h1 hi) q1 q2]
      exact k _ _ (o8 w (by omega)) (tgN_ne rfl) (tgN_ne rfl)
    · subst h1
      rw [if_neg (by omega), if_pos rfl, ins_row hK hp ep]
      exact hh
    · obtain ⟨j, rfl⟩ : ∃ q, w = q + 1 := ⟨w - 1, by omega⟩
      rw [if_neg (by omega), if_neg (by omega)]
      obtain ⟨p', q1, q2⟩ := o4 j (by omega)
      rw [rng_cg (R := u.2 2) (K := 14 * j) (fun i hi => b2 j i (by omega) (by omega) hi) q1 q2]
      exact k _ _ (o8 j (by omega)) (tgN_ne rfl) (tgN_ne rfl)
  · rcases eIns_of (Λ := Λ) (i := 1) (j := K) (e := e) (A := A) (cap := cap) (by omega) (a := 1) (k := w) (by rw [cUp_len]; omega) with ⟨-, -, h3⟩ | ⟨l, h1, h2⟩
    · rw [h3]
      exact hec
    · rw [h2]
      exact o12 l (by omega)
  · rw [n0 2 (by omega)] at hw
    rw [cUp_el_ne (by omega)]
    exact o13 w hw
/-- the first ring has been taken -/
theorem cRep.rngDel (hC : cRep G h c Λ u T (W + 1) z) (o4 : ∀ k, k < W + 1 → ∃ p, p ≤ 8 ∧ u.2 2 (14 * k + 4) = nI p) (e6 : (u.1 6).toNatClampNeg - 1 = W)
    (hf : gLf h h' (cLa Λ 1) (cAa Λ 1) (cLen Λ 1) (cCap Λ 1)) (hL : cLst G h' (cUp Λ 1 (cAa Λ 1) (cCap Λ 1) (cLen Λ 1 - 1) (eDel (cEl Λ 1) 0)) 1) :
    cRep G h' c (cUp Λ 1 (cAa Λ 1) (cCap Λ 1) (cLen Λ 1 - 1) (eDel (cEl Λ 1) 0)) (mTake u) T W z := by
  obtain ⟨p1, p2, p3, p4', p5, p6, p7, p8, p9⟩ := hC.part (by omega) hf hL
  have k := gLf.l2 (hC.2.2.2.1 1 (by omega)) hf
  have hr : ∀ k i, k < W → i < 14 → (mTake u).2 2 (14 * k + i) = u.2 2 (14 * (k + 1) + i) := fun k i hk hi => by
    show va_cpy (u.2 2) (u.2 2) 14 0 (14 * ((u.1 6).toNatClampNeg - 1)) (14 * k + i) = _
    rw [e6, pk_cpy_in (by omega) (by omega), show 14 + (14 * k + i - 0) = 14 * (k + 1) + i by omega]
  obtain ⟨o1, o2, o3, o4', ⟨l1, l2, l3, l4, l5, l6⟩, o6, o7, o8, o9, o10, o11, o12, o13⟩ := hC
  have n0 : ∀ i, i ≠ 1 → cLen (cUp Λ 1 (cAa Λ 1) (cCap Λ 1) (cLen Λ 1 - 1) (eDel (cEl Λ 1) 0)) i = cLen Λ i := fun i hi => cUp_len_ne hi
  refine ⟨p1, p2, p3, p4', ⟨?_, ?_, ?_, ?_, ?_, fun t ht => ?_⟩, p5 (by omega), p6 (fun t _ => by omega), fun w hw => ?_, p8 (by omega), p9 (by omega), o11.del (by omega) (by omega), fun w hw => ?_, fun w hw => ?_⟩
  · rw [n0 0 (by omega)]
    exact l1
  · rw [cUp_len, l2]
    rfl
  · rw [n0 3 (by omega)]
    exact l3
  · rw [n0 3 (by omega)]
    exact l4
  · rw [cUp_len, n0 2 (by omega)]
    omega
  · rw [n0 _ (by omega)]
    exact l6 t ht
  · rw [cUp_el]
    unfold eDel
    rw [if_neg (by omega)]
    obtain ⟨p', q1, q2⟩ := o4 (w + 1) (by omega)
    rw [rng_cg (R := u.2 2) (K := 14 * (w + 1)) (fun i hi => hr w i hw hi) q1 q2]
    exact k _ _ (o8 (w + 1) (by omega)) (tgN_ne rfl) (tgN_ne rfl)
  · rw [cUp_el]
    unfold eDel
    rw [if_neg (by omega)]
    exact o12 (w + 1) (by omega)
  · rw [n0 2 (by omega)] at hw
    rw [cUp_el_ne (by omega)]
    exact o13 w hw
/-- a spare ring has been taken -/
theorem cRep.sparDel (hC : cRep G h c Λ u T W z) (hj : 0 < cLen Λ 2)
    (hf : gLf h h' (cLa Λ 2) (cAa Λ 2) (cLen Λ 2) (cCap Λ 2)) (hL : cLst G h' (cUp Λ 2 (cAa Λ 2) (cCap Λ 2) (cLen Λ 2 - 1) (eDel (cEl Λ 2) (cLen Λ 2 - 1))) 2) :
    cRep G h' c (cUp Λ 2 (cAa Λ 2) (cCap Λ 2) (cLen Λ 2 - 1) (eDel (cEl Λ 2) (cLen Λ 2 - 1))) u T W z := by
  obtain ⟨p1, p2, p3, p4', p5, p6, p7, p8, p9⟩ := hC.part (by omega) hf hL
  have k := gLf.l2 (hC.2.2.2.1 2 (by omega)) hf
  obtain ⟨o1, o2, o3, o4', ⟨l1, l2, l3, l4, l5, l6⟩, o6, o7, o8, o9, o10, o11, o12, o13⟩ := hC
  have n0 : ∀ i, i ≠ 2 → cLen (cUp Λ 2 (cAa Λ 2) (cCap Λ 2) (cLen Λ 2 - 1) (eDel (cEl Λ 2) (cLen Λ 2 - 1))) i = cLen Λ i := fun i hi => cUp_len_ne hi
  refine ⟨p1, p2, p3, p4', ⟨?_, ?_, ?_, ?_, ?_, fun t ht => ?_⟩, p5 (by omega), p6 (fun t _ => by omega), p7 (by omega), fun w hw => ?_, p9 (by omega), o11.del (by omega) (by omega), fun w hw => ?_, fun w hw => ?_⟩
  · rw [n0 0 (by omega)]
    exact l1
  · rw [n0 1 (by omega)]
    exact l2
  · rw [n0 3 (by omega)]
    exact l3
  · rw [n0 3 (by omega)]
    exact l4
  · rw [cUp_len, n0 1 (by omega)]
    omega
  · rw [n0 _ (by omega)]
    exact l6 t ht
  · rw [cUp_len] at hw
    rw [cUp_el]
    unfold eDel
    rw [if_pos hw]
    exact (o9.f2 k) w (by omega)
  · rw [cUp_el_ne (by omega)]
    exact o12 w hw
  · rw [cUp_len] at hw
    rw [cUp_el]
    unfold eDel
    rw [if_pos hw]
    exact o13 w (by omega)
/-- a ring has been given back -/
theorem cRep.sparAdd {A cap e : Nat} {f : Nat → Int32} {w9 : Int64} (hC : cRep G h c Λ u T W z)
    (hf : gLf h h' (cLa Λ 2) (cAa Λ 2) (cLen Λ 2) (cCap Λ 2)) (hL : cLst G h' (cUp Λ 2 A cap (cLen Λ 2 + 1) (eIns (cEl Λ 2) (cLen Λ 2) e)) 2) (hA : ∀ k, k < 4 + T → k ≠ 2 → cap ≠ 0 → cCap Λ k ≠ 0 → A ≠ cAa Λ k) (he : ∀ k l, k < 4 + T → l < cLen Λ k → cEl Λ k l ≠ e) (hec : e ≠ c 3) (hs : cLen Λ 1 + cLen Λ 2 ≤ 60)
    (hh : gat h' e (.inr (5, rFS f w9))) :
    cRep G h' c (cUp Λ 2 A cap (cLen Λ 2 + 1) (eIns (cEl Λ 2) (cLen Λ 2) e)) u T W z := by
  obtain ⟨p1, p2, p3, p4', p5, p6, p7, p8, p9⟩ := hC.part (by omega) hf hL
  have k := gLf.l2 (hC.2.2.2.1 2 (by omega)) hf
  obtain ⟨o1, o2, o3, o4', ⟨l1, l2, l3, l4, l5, l6⟩, o6, o7, o8, o9, o10, o11, o12, o13⟩ := hC
  have n0 : ∀ i, i ≠ 2 → cLen (cUp Λ 2 A cap (cLen Λ 2 + 1) (eIns (cEl Λ 2) (cLen Λ 2) e)) i = cLen Λ i := fun i hi => cUp_len_ne hi
  refine ⟨p1, p2, p3, p4', ⟨?_, ?_, ?_, ?_, ?_, fun t ht => ?_⟩, p5 (by omega), p6 (fun t _ => by omega), p7 (by omega), fun w hw => ?_, p9 (by omega), cInj.ins o11 (by omega) (Nat.le_refl _) hA he, fun w hw => ?_, fun w hw => ?_⟩
  · rw [n0 0 (by omega)]
    exact l1
  · rw [n0 1 (by omega)]
    exact l2
  · rw [n0 3 (by omega)]
    exact l3
  · rw [n0 3 (by omega)]
    exact l4
  · rw [cUp_len, n0 1 (by omega)]
    omega
  · rw [n0 _ (by omega)]
    exact l6 t ht
  · rw [cUp_len] at hw
    rw [cUp_el]
    unfold eIns
    by_cases c1 : w < cLen Λ 2
    · rw [if_pos c1]
      exact (o9.f2 k) w c1
    · rw [if_neg c1, if_pos (by omega)]
      exact ⟨f, w9, hh⟩
  · rw [cUp_el_ne (by omega)]
    exact o12 w hw
  · rw [cUp_len] at hw
    rw [cUp_el]
    unfold eIns
    by_cases c1 : w < cLen Λ 2
    · rw [if_pos c1]
      exact o13 w c1
    · rw [if_neg c1, if_pos (by omega)]
      exact hec
/-- a note more, that isn't kept yet -/
theorem cRep.noteAdd {A cap e : Nat} {f : Nat → Int32} {w9 : Int64} (hC : cRep G h c Λ u T W z) (hz : z ≤ cLen Λ 3) (hs : cLen Λ 3 < 200)
    (hf : gLf h h' (cLa Λ 3) (cAa Λ 3) (cLen Λ 3) (cCap Λ 3)) (hL : cLst G h' (cUp Λ 3 A cap (cLen Λ 3 + 1) (eIns (cEl Λ 3) (cLen Λ 3) e)) 3) (hA : ∀ k, k < 4 + T → k ≠ 3 → cap ≠ 0 → cCap Λ k ≠ 0 → A ≠ cAa Λ k) (he : ∀ k l, k < 4 + T → l < cLen Λ k → cEl Λ k l ≠ e)
    (hh : gat h' e (.inr (4, nFS f w9))) :
    cRep G h' c (cUp Λ 3 A cap (cLen Λ 3 + 1) (eIns (cEl Λ 3) (cLen Λ 3) e)) u T W z := by
  obtain ⟨p1, p2, p3, p4', p5, p6, p7, p8, p9⟩ := hC.part (by omega) hf hL
  have k := gLf.l2 (hC.2.2.2.1 3 (by omega)) hf
  obtain ⟨o1, o2, o3, o4', ⟨l1, l2, l3, l4, l5, l6⟩, o6, o7, o8, o9, o10, o11, o12, o13⟩ := hC
  have n0 : ∀ i, i ≠ 3 → cLen (cUp Λ 3 A cap (cLen Λ 3 + 1) (eIns (cEl Λ 3) (cLen Λ 3) e)) i = cLen Λ i := fun i hi => cUp_len_ne hi
  refine ⟨p1, p2, p3, p4', ⟨?_, ?_, ?_, ?_, ?_, fun t ht => ?_⟩, p5 (by omega), p6 (fun t _ => by omega), p7 (by omega), p8 (by omega), fun w hw => ?_, cInj.ins o11 (by omega) (Nat.le_refl _) hA he, fun w hw => ?_, fun w hw => ?_⟩
  · rw [n0 0 (by omega)]
    exact l1
  · rw [n0 1 (by omega)]
    exact l2
  · rw [cUp_len]
    omega
  · rw [cUp_len]
    omega
  · rw [n0 1 (by omega), n0 2 (by omega)]
    exact l5
  · rw [n0 _ (by omega)]
    exact l6 t ht
  · rw [cUp_len] at hw
    rw [cUp_el]
    unfold eIns
    by_cases c1 : w < cLen Λ 3
    · rw [if_pos c1]
      exact (o10.f2 k) w c1
    · rw [if_neg c1, if_pos (by omega)]
      exact ⟨f, w9, hh, fun h9 => absurd h9 (by omega)⟩
  · rw [cUp_el_ne (by omega)]
    exact o12 w hw
  · rw [n0 2 (by omega)] at hw
    rw [cUp_el_ne (by omega)]
    exact o13 w hw
/-- a note that isn't kept yet is written -/
theorem cRep.putNote {n : Nat} {f : Nat → Int32} {w9 : Int64} (hC : cRep G h c Λ u T W z) (hn : n < cLen Λ 3) (hz : z ≤ n) (hK : gSt h h' (cEl Λ 3 n)) (hm : gat h' (cEl Λ 3 n) (.inr (4, nFS f w9))) : cRep G h' c Λ u T W z := by
  obtain ⟨f0, w0, hno, -⟩ := hC.2.2.2.2.2.2.2.2.2.1 n hn
  have k := gSt.toc hno hK
  obtain ⟨o1, o2, o3, o4, o5, o6, o7, o8, o9, o10, o11⟩ := hC
  have n9 : ∀ {a : Nat}, Nat.beq a 4 = false → a ≠ 4 := fun h => tgN_ne h
  refine ⟨o1.fr k (n9 rfl), o2.fr k (n9 rfl) (n9 rfl) (n9 rfl), o3.fr k (n9 rfl), fun i hi => (o4 i hi).fr k (n9 rfl) (n9 rfl), o5, o6.fr k (n9 rfl), o7.fr k (n9 rfl), o8.fr k (n9 rfl), o9.fr k (n9 rfl), fun w hw => ?_, o11⟩
  by_cases e : w = n
  · subst e
    exact ⟨f, w9, hm, fun h9 => absurd h9 (by omega)⟩
  · obtain ⟨f1, w1, x1, x2⟩ := o10 w hw
    exact ⟨f1, w1, hK _ _ x1 (fun z9 => e (o11.1.2.2 3 3 w n (by omega) (by omega) hw hn z9).2), x2⟩
/-- the first note that isn't kept yet is kept now -/
theorem cRep.keepNote {S : Nat → Int32} {x : Int32} {f : Nat → Int32} {w9 : Int64} (hC : cRep G h c Λ u T W z) (hz : z < cLen Λ 3) (hm : gat h (cEl Λ 3 z) (.inr (4, nFS f w9))) (e1 : ∀ i, i < 6 → f i = S (15 * z + i)) (e2 : w9 = wOf S (15 * z + 6) (S (15 * z + 4))) (eS : ∀ n i, n < z → i < 15 → S (15 * n + i) = u.2 3 (15 * n + i)) (o4 : ∀ n, n < z → ∃ p, p ≤ 8 ∧ u.2 3 (15 * n + 4) = nI p) :
    cRep G h c Λ (sa u 3 S) T W (z + 1) := by
  obtain ⟨o1, o2, o3, o4', ⟨l1, l2, l3, l4, l5, l6⟩, o6, o7, o8, o9, o10, o11⟩ := hC
  refine ⟨o1, o2, o3, o4', ⟨l1, l2, hz, l4, l5, l6⟩, o6, o7, o8, o9, fun n hn => ?_, o11⟩
  by_cases e : n = z
  · subst e
    exact ⟨f, w9, hm, fun _ => ⟨e1, e2⟩⟩
  · obtain ⟨f1, w1, x1, x2⟩ := o10 n hn
    refine ⟨f1, w1, x1, fun h9 => ?_⟩
    obtain ⟨y1, y2⟩ := x2 (by omega)
    obtain ⟨p, q1, q2⟩ := o4 n (by omega)
    refine ⟨fun i hi => (y1 i hi).trans (eS n i (by omega) (by omega)).symm, ?_⟩
    show w1 = wOf S (15 * n + 6) (S (15 * n + 4))
    rw [y2, eS n 4 (by omega) (by omega)]
    unfold wOf
    rw [q2, mCl (by omega)]
    have ew : ∀ q, q ≤ p → wWay (u.2 3) (15 * n + 6) q = wWay S (15 * n + 6) q := by
      intro q
      induction q with
      | zero =>
        intro _
        show (u.2 3 (15 * n + 6)).toInt64 = _
        rw [← eS n 6 (by omega) (by omega)]
        rfl
      | succ q ih =>
        intro hq
        show wWay (u.2 3) (15 * n + 6) q ||| (u.2 3 (15 * n + 6 + q + 1)).toInt64 <<< _ = wWay S (15 * n + 6) q ||| (S (15 * n + 6 + q + 1)).toInt64 <<< _
        rw [ih (by omega), show 15 * n + 6 + q + 1 = 15 * n + (6 + q + 1) by omega, eS n (6 + q + 1) (by omega) (by omega)]
    exact ew p (Nat.le_refl _)
end CRngs
