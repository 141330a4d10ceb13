theorem gSt.dom {h h' : gH} {a q : Nat} {e : va_E} (hK : gSt h h' a) (ha : gat h' a e) (hq : q ∈ h.1) : q ∈ h'.1 := by
  by_cases z : q = a
  · subst z
    exact ha.1
  · exact (hK q _ ⟨hq, rfl⟩ z).1
theorem gSa.dom {h h' : gH} {q : Nat} (hK : gSa h h') (hq : q ∈ h.1) : q ∈ h'.1 := (hK q _ ⟨hq, rfl⟩).1
theorem gOb.sa {h h' : gH} {y : Nat} (hK : gSa h h') (o : gOb h y) : gOb h' y := by
  obtain ⟨ci, r, vs, h1, h2, h3⟩ := o
  exact ⟨ci, r, vs, hK _ _ h1, h2, h3⟩
theorem gOb.stA {h h' : gH} {y a N : Nat} {c : ClassId} {x : (Nat → Int32) ⊕ ((Nat → Int64) ⊕ ((Nat → UInt32) ⊕ ((Nat → UInt64) ⊕ (Nat → Option Nat))))} (ha : gat h a (.inl (c, N, x))) (hK : gSt h h' a) (o : gOb h y) : gOb h' y := by
  obtain ⟨ci, r, vs, h1, h2, h3⟩ := o
  exact ⟨ci, r, vs, hK _ _ h1 (gat_ne h1 ha rfl), h2, h3⟩
theorem gOb.stO {h h' : gH} {y a ci : Nat} {fs fs' : List Value} (ha : gat h a (.inr (ci, fs))) (ha' : gat h' a (.inr (ci, fs'))) (hK : gSt h h' a) (o : gOb h y) : gOb h' y := by
  obtain ⟨cj, r, vs, h1, h2, h3⟩ := o
  by_cases e : y = a
  · subst e
    have := gat_inj ha h1
    cases this
    exact ⟨ci, r, fs', ha', h2, h3⟩
  · exact ⟨cj, r, vs, hK _ _ h1 e, h2, h3⟩
/-- a new row, and nothing else -/
def pNew (h : gH) (s : Nat) (e : va_E) : gPo := fun r h' k n => ∃ q, r = .inl (some (.ref q)) ∧ q ∉ h.1 ∧ gat h' q e ∧ gSa h h' ∧ k = 1 ∧ n = s
/-- a list's row has been made greater -/
def pGrow (G : gG) (h : gH) (l n : Nat) (md : Int32) (g : Nat → Option Nat) : gPo := fun r h' k s => ∃ q g', r = .inl (some (.ref q)) ∧ q ∉ h.1 ∧ gat h' l (.inr (2, [.int md, .ref q, .int (nI n)])) ∧ gat h' q (.inl (gO G, gCap n, .inr (.inr (.inr (.inr g'))))) ∧ (∀ j, j < n → g' j = g j) ∧ gSt h h' l ∧ k = 1 ∧ s = gCap n
/-- a list's row: the shared empty one, or its own -/
def gRow (G : gG) (h : gH) (A cap : Nat) (g : Nat → Option Nat) : Prop := (cap = 0 ∧ A = gE0 G) ∨ (0 < cap ∧ gat h A (.inl (gO G, cap, .inr (.inr (.inr (.inr g))))))

set_option maxRecDepth 100000 in
set_option maxHeartbeats 4000000 in
theorem j_copy3 (G : gG) (h_0 : gH) (A n N : Nat) (g : Nat → Option Nat) (hA : gat h_0 A (.inl (gO G, n, .inr (.inr (.inr (.inr g)))))) (hel : ∀ i, i < n → ∀ y, g i = some y → gOb h_0 y) (hn : n ≤ N) (hN : N < 1000) : gMet yJ7_copyOf_6403c wsJ7_copyOf_6403c (gRm 1 1 N) G h_0 [.ref A, .int (nI N), .ref (gMi G)] (pNew h_0 N (.inl (gO G, N, .inr (.inr (.inr (.inr (va_cpy g (fun _ => none) 0 0 n))))))) := by
  refine gMet_of (maxL := 4) (ret := (some (.array (.object "java/lang/Object")))) (by decide) rfl (Nat.le_of_ble_eq_true rfl) ?_
  intro X hG hnL hB hE
  subst hG
  suffices go : ∀ h : gH, h = h_0 → gW X h 0 0 0 [(0, .ref A), (1, .int (nI N)), (2, .ref (gMi X.2.1))] [] from go h_0 rfl
  intro h eh
  rw [← eh] at hA hel
  obtain ⟨FR, eFR⟩ : ∃ FR : Nat → va_E → Prop, FR = fun (_ : Nat) (_ : va_E) => True := ⟨_, rfl⟩
  have hO : ∀ q e, gat h_0 q e → FR q e → gat h q e := fun q e z9 _ => by rw [eh]; exact z9
  have hI : ∀ q, q ∈ h_0.1 → q ∈ h.1 := fun q z9 => by rw [eh]; exact z9
  refine gI_aload_n hB 2 dJ7_copyOf_6403c_0 rfl ?_
  refine gI_ldcM hB (by decide +kernel) dJ7_copyOf_6403c_1 ?_
  refine gI_acmp_ne hB 13 dJ7_copyOf_6403c_3 (by decide) (fun z => (z rfl).elim) (fun _ => ?_)
  refine gI_iload_n hB 1 dJ7_copyOf_6403c_6 rfl ?_
  refine gC_newO hB N rfl (by omega) (by decide +kernel) (by dsimp only [gRm]; omega) (by dsimp only [gRm]; omega) dJ7_copyOf_6403c_7 (fun q1 h hq1 Hq1 hK => ?_)
  have n_q1_A : A ≠ q1 := fun z9 => hq1 (z9 ▸ hA.1)
  have hA := hK _ _ hA
  have hel := fun i hi y hy => gOb.sa hK (hel i hi y hy)
  have on_q1 : ∀ q9 e9, gat h_0 q9 e9 → FR q9 e9 → q9 ≠ q1 := fun q9 e9 z9 w9 y9 => hq1 (y9 ▸ (hO q9 e9 z9 w9).1)
  have nw_q1 : q1 ∉ h_0.1 := fun z9 => hq1 (hI q1 z9)
  have hO : ∀ q e, gat h_0 q e → FR q e → gat h q e := fun q e z9 w9 => hK q e (hO q e z9 w9)
  have hI : ∀ q, q ∈ h_0.1 → q ∈ h.1 := fun q z9 => gSa.dom hK (hI q z9)
  refine gI_goto hB 24 dJ7_copyOf_6403c_10 (by decide) ?_
  refine gI_astore_n hB ([(3, .ref q1), (0, .ref A), (1, .int (nI N)), (2, .ref (gMi X.2.1))]) hnL dJ7_copyOf_6403c_24 (by decide) rfl ?_
  refine gI_aload_n hB 1 dJ7_copyOf_6403c_25 rfl ?_
  refine gI_iconst (v := nI 0) hB dJ7_copyOf_6403c_26 (by decide) ?_
  refine gI_aload_n hB 0 dJ7_copyOf_6403c_27 rfl ?_
  refine gI_iconst (v := nI 0) hB dJ7_copyOf_6403c_28 (by decide) ?_
  refine gI_aload_n hB 1 dJ7_copyOf_6403c_29 rfl ?_
  refine gI_alenO hB hA dJ7_copyOf_6403c_30 ?_
  refine gI_iload_n hB 2 dJ7_copyOf_6403c_31 rfl ?_
  refine gI_mmin hB (by decide +kernel) (by decide +kernel) (by decide +kernel) (by decide +kernel) (Nat.le_of_ble_eq_true rfl) (Nat.le_of_ble_eq_true rfl) (by dsimp only [gRm]; omega) (by dsimp only [gRm]; omega) dJ7_copyOf_6403c_32 ?_
  refine gI_topi hB (y := nI n) ((nI_min (by omega) (by omega)).trans (congrArg nI (Nat.min_eq_left hn))) ?_
  refine gC_copyO hB 0 0 n rfl rfl rfl (by decide +kernel) (by decide +kernel) (by decide +kernel) (by decide +kernel) hA Hq1 (by omega) (by omega) (by omega) (by omega) (fun i hi y hy => hel i (by omega) y (by rw [Nat.zero_add] at hy; exact hy)) (Nat.le_of_ble_eq_true rfl) (Nat.le_of_ble_eq_true rfl) dJ7_copyOf_6403c_35 (fun h Nq1 hK => ?_)
  have hA := hK _ _ hA n_q1_A
  have hel := fun i hi y hy => gOb.stA Hq1 hK (hel i hi y hy)
  have hO : ∀ q e, gat h_0 q e → FR q e → gat h q e := fun q e z9 w9 => hK q e (hO q e z9 w9) (on_q1 q e z9 w9)
  have hI : ∀ q, q ∈ h_0.1 → q ∈ h.1 := fun q z9 => gSt.dom hK Nq1 (hI q z9)
  replace Hq1 := Nq1
  refine gI_aload_n hB 0 dJ7_copyOf_6403c_38 rfl ?_
  refine gI_aret hB hE (Or.inr ⟨_, rfl⟩) (Or.inr ⟨_, rfl⟩) dJ7_copyOf_6403c_39 ?_
  exact ⟨q1, rfl, nw_q1, Hq1, fun q9 e9 z9 => hO q9 e9 z9 (by rw [eFR]; trivial), by omega, by omega⟩

set_option maxRecDepth 100000 in
set_option maxHeartbeats 4000000 in
theorem j_copy (G : gG) (h_0 : gH) (A n N : Nat) (g : Nat → Option Nat) (hA : gat h_0 A (.inl (gO G, n, .inr (.inr (.inr (.inr g)))))) (hel : ∀ i, i < n → ∀ y, g i = some y → gOb h_0 y) (hn : n ≤ N) (hN : N < 1000) : gMet yJ7_copyOf_1904c wsJ7_copyOf_1904c (gRm 2 1 N) G h_0 [.ref A, .int (nI N)] (pNew h_0 N (.inl (gO G, N, .inr (.inr (.inr (.inr (va_cpy g (fun _ => none) 0 0 n))))))) := by
  refine gMet_of (maxL := 2) (ret := (some (.array (.object "java/lang/Object")))) (by decide) rfl (Nat.le_of_ble_eq_true rfl) ?_
  intro X hG hnL hB hE
  subst hG
  suffices go : ∀ h : gH, h = h_0 → gW X h 0 0 0 [(0, .ref A), (1, .int (nI N))] [] from go h_0 rfl
  intro h eh
  rw [← eh] at hA hel
  obtain ⟨FR, eFR⟩ : ∃ FR : Nat → va_E → Prop, FR = fun (_ : Nat) (_ : va_E) => True := ⟨_, rfl⟩
  have hO : ∀ q e, gat h_0 q e → FR q e → gat h q e := fun q e z9 _ => by rw [eh]; exact z9
  have hI : ∀ q, q ∈ h_0.1 → q ∈ h.1 := fun q z9 => by rw [eh]; exact z9
  refine gI_aload_n hB 0 dJ7_copyOf_1904c_0 rfl ?_
  refine gI_iload_n hB 1 dJ7_copyOf_1904c_1 rfl ?_
  refine gI_aload_n hB 0 dJ7_copyOf_1904c_2 rfl ?_
  refine gI_getC hB hA (by decide +kernel) (by decide +kernel) (by decide +kernel) (by decide +kernel) (by decide +kernel) (Nat.le_of_ble_eq_true rfl) (Nat.le_of_ble_eq_true rfl) dJ7_copyOf_1904c_3 ?_
  refine gI_callS (n9 := 3) (As := [.ref A, .int (nI N), .ref (gMi X.2.1)]) (rest := []) hB (j_copy3 X.2.1 h A n N g hA hel (by omega) (by omega)) (gCW.of ggJ7_copyOf_1904c_J7_copyOf_6403c rfl ⟨by decide, by decide, by decide +kernel⟩ ⟨Nat.le_of_ble_eq_true rfl, Nat.le_of_ble_eq_true rfl⟩) (Or.inl (by decide +kernel)) (by decide +kernel) (by decide +kernel) rfl rfl (Nat.le_of_ble_eq_true rfl) (by dsimp only [gRm]; omega) (by dsimp only [gRm]; omega) dJ7_copyOf_1904c_6 (fun v9 h k9 n9 hp => ?_) (fun E9 h1 k1 n1 hp => by obtain ⟨q9, e9, -⟩ := hp; cases e9)
  obtain ⟨q1, e9, hq1, Hq1, hK, rfl, rfl⟩ := hp
  cases e9
  have n_q1_A : A ≠ q1 := fun z9 => hq1 (z9 ▸ hA.1)
  have hA := hK _ _ hA
  have hel := fun i hi y hy => gOb.sa hK (hel i hi y hy)
  have on_q1 : ∀ q9 e9, gat h_0 q9 e9 → FR q9 e9 → q9 ≠ q1 := fun q9 e9 z9 w9 y9 => hq1 (y9 ▸ (hO q9 e9 z9 w9).1)
  have nw_q1 : q1 ∉ h_0.1 := fun z9 => hq1 (hI q1 z9)
  have hO : ∀ q e, gat h_0 q e → FR q e → gat h q e := fun q e z9 w9 => hK q e (hO q e z9 w9)
  have hI : ∀ q, q ∈ h_0.1 → q ∈ h.1 := fun q z9 => gSa.dom hK (hI q z9)
  refine gI_aret hB hE (Or.inr ⟨_, rfl⟩) (Or.inr ⟨_, rfl⟩) dJ7_copyOf_1904c_9 ?_
  exact ⟨q1, rfl, nw_q1, Hq1, fun q9 e9 z9 => hO q9 e9 z9 (by rw [eFR]; trivial), by omega, by omega⟩

