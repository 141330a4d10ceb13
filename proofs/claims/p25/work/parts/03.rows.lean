section GRows
variable {X : gX} {R : Room} {cc : ByteArray} {Ts : List Cond} {own : String} {h : gH} {k n pc : Nat} {lc : List (Nat × Value)} {st : List Value}
theorem gI_iconst (hB : gB X R cc Ts own) {z : Int} {v : Int32} (hd : decode cc pc = .ok (.iconst z, 1)) (hv : Int32.ofInt z = v)
    (kk : gW X h k n (pc + 1) lc (.int v :: st)) : gW X h k n pc lc (st) := by
  obtain ⟨⟨p, l, e, R0, s, m, args, below, meth, c⟩, ⟨G, A, nL, Q⟩⟩ := X
  obtain ⟨⟨hx, hb, hml, hown, hts⟩, hK, hZ, hA, hlk, hlt, hR⟩ := hB
  intro H locs ls hP hD hS hls
  exact lv_iconst hx hb hd hv (kk H locs ls hP hD hS hls)

theorem gI_bipush (hB : gB X R cc Ts own) {z : Int} {v : Int32} (hd : decode cc pc = .ok (.bipush z, 2)) (hv : (Int8.ofInt z).toInt32 = v)
    (kk : gW X h k n (pc + 2) lc (.int v :: st)) : gW X h k n pc lc (st) := by
  obtain ⟨⟨p, l, e, R0, s, m, args, below, meth, c⟩, ⟨G, A, nL, Q⟩⟩ := X
  obtain ⟨⟨hx, hb, hml, hown, hts⟩, hK, hZ, hA, hlk, hlt, hR⟩ := hB
  intro H locs ls hP hD hS hls
  exact lv_bipush hx hb hd hv (kk H locs ls hP hD hS hls)

theorem gI_sipush (hB : gB X R cc Ts own) {z : Int} {v : Int32} (hd : decode cc pc = .ok (.sipush z, 3)) (hv : (Int16.ofInt z).toInt32 = v)
    (kk : gW X h k n (pc + 3) lc (.int v :: st)) : gW X h k n pc lc (st) := by
  obtain ⟨⟨p, l, e, R0, s, m, args, below, meth, c⟩, ⟨G, A, nL, Q⟩⟩ := X
  obtain ⟨⟨hx, hb, hml, hown, hts⟩, hK, hZ, hA, hlk, hlt, hR⟩ := hB
  intro H locs ls hP hD hS hls
  exact lv_sipush hx hb hd hv (kk H locs ls hP hD hS hls)

theorem gI_ldc (hB : gB X R cc Ts own) {index : Nat} {v : Int32} (hc : Cond.constant own index v ∈ Ts) (hd : decode cc pc = .ok (.ldc index, 2))
    (kk : gW X h k n (pc + 2) lc (.int v :: st)) : gW X h k n pc lc (st) := by
  obtain ⟨⟨p, l, e, R0, s, m, args, below, meth, c⟩, ⟨G, A, nL, Q⟩⟩ := X
  obtain ⟨⟨hx, hb, hml, hown, hts⟩, hK, hZ, hA, hlk, hlt, hR⟩ := hB
  intro H locs ls hP hD hS hls
  exact lv_ldc hx hb hown (hts _ hc) hd (kk H locs ls hP hD hS hls)

theorem gI_null (hB : gB X R cc Ts own) (hd : decode cc pc = .ok (.aconst_null, 1))
    (kk : gW X h k n (pc + 1) lc (.null :: st)) : gW X h k n pc lc (st) := by
  obtain ⟨⟨p, l, e, R0, s, m, args, below, meth, c⟩, ⟨G, A, nL, Q⟩⟩ := X
  obtain ⟨⟨hx, hb, hml, hown, hts⟩, hK, hZ, hA, hlk, hlt, hR⟩ := hB
  intro H locs ls hP hD hS hls
  exact lv_null hx hb hd (kk H locs ls hP hD hS hls)

theorem gI_iload_n (hB : gB X R cc Ts own) (j : Nat) {i : Fin 4} {x : Int32} (hd : decode cc pc = .ok (.iload_n i, 1)) (hj : lc[j]? = some ((i : Nat), .int x))
    (kk : gW X h k n (pc + 1) lc (.int x :: st)) : gW X h k n pc lc (st) := by
  obtain ⟨⟨p, l, e, R0, s, m, args, below, meth, c⟩, ⟨G, A, nL, Q⟩⟩ := X
  obtain ⟨⟨hx, hb, hml, hown, hts⟩, hK, hZ, hA, hlk, hlt, hR⟩ := hB
  intro H locs ls hP hD hS hls
  exact lv_iload_n hx hb hd rfl (lv_at hls j hj) (kk H locs ls hP hD hS hls)

theorem gI_iload (hB : gB X R cc Ts own) (j : Nat) {i : Nat} {x : Int32} (hd : decode cc pc = .ok (.iload i, 2)) (hj : lc[j]? = some (i, .int x))
    (kk : gW X h k n (pc + 2) lc (.int x :: st)) : gW X h k n pc lc (st) := by
  obtain ⟨⟨p, l, e, R0, s, m, args, below, meth, c⟩, ⟨G, A, nL, Q⟩⟩ := X
  obtain ⟨⟨hx, hb, hml, hown, hts⟩, hK, hZ, hA, hlk, hlt, hR⟩ := hB
  intro H locs ls hP hD hS hls
  exact lv_iload hx hb hd (lv_at hls j hj) (kk H locs ls hP hD hS hls)

theorem gI_aload_n (hB : gB X R cc Ts own) (j : Nat) {i : Fin 4} {x : Nat} (hd : decode cc pc = .ok (.aload_n i, 1)) (hj : lc[j]? = some ((i : Nat), .ref x))
    (kk : gW X h k n (pc + 1) lc (.ref x :: st)) : gW X h k n pc lc (st) := by
  obtain ⟨⟨p, l, e, R0, s, m, args, below, meth, c⟩, ⟨G, A, nL, Q⟩⟩ := X
  obtain ⟨⟨hx, hb, hml, hown, hts⟩, hK, hZ, hA, hlk, hlt, hR⟩ := hB
  intro H locs ls hP hD hS hls
  exact lv_aload_n hx hb hd rfl (lv_at hls j hj) (kk H locs ls hP hD hS hls)

theorem gI_aload (hB : gB X R cc Ts own) (j : Nat) {i : Nat} {x : Nat} (hd : decode cc pc = .ok (.aload i, 2)) (hj : lc[j]? = some (i, .ref x))
    (kk : gW X h k n (pc + 2) lc (.ref x :: st)) : gW X h k n pc lc (st) := by
  obtain ⟨⟨p, l, e, R0, s, m, args, below, meth, c⟩, ⟨G, A, nL, Q⟩⟩ := X
  obtain ⟨⟨hx, hb, hml, hown, hts⟩, hK, hZ, hA, hlk, hlt, hR⟩ := hB
  intro H locs ls hP hD hS hls
  exact lv_aload hx hb hd (lv_at hls j hj) (kk H locs ls hP hD hS hls)

theorem gI_lload_n (hB : gB X R cc Ts own) (j : Nat) {i : Fin 4} {x : Int64} (hd : decode cc pc = .ok (.lload_n i, 1)) (hj : lc[j]? = some ((i : Nat), .long x))
    (kk : gW X h k n (pc + 1) lc (.long x :: st)) : gW X h k n pc lc (st) := by
  obtain ⟨⟨p, l, e, R0, s, m, args, below, meth, c⟩, ⟨G, A, nL, Q⟩⟩ := X
  obtain ⟨⟨hx, hb, hml, hown, hts⟩, hK, hZ, hA, hlk, hlt, hR⟩ := hB
  intro H locs ls hP hD hS hls
  exact lv_lload_n hx hb hd rfl (lv_at hls j hj) (kk H locs ls hP hD hS hls)

theorem gI_aloadN_n (hB : gB X R cc Ts own) (j : Nat) {i : Fin 4} (hd : decode cc pc = .ok (.aload_n i, 1)) (hj : lc[j]? = some ((i : Nat), .null))
    (kk : gW X h k n (pc + 1) lc (.null :: st)) : gW X h k n pc lc (st) := by
  obtain ⟨⟨p, l, e, R0, s, m, args, below, meth, c⟩, ⟨G, A, nL, Q⟩⟩ := X
  obtain ⟨⟨hx, hb, hml, hown, hts⟩, hK, hZ, hA, hlk, hlt, hR⟩ := hB
  intro H locs ls hP hD hS hls
  exact lv_aload_nN hx hb hd rfl (lv_at hls j hj) (kk H locs ls hP hD hS hls)

theorem gI_istore_n (hB : gB X R cc Ts own) {i : Fin 4} {x : Int32} (lc9 : List (Nat × Value)) {nL9 : Nat} (hn : gnL X = nL9) (hd : decode cc pc = .ok (.istore_n i, 1)) (hi : (i : Nat) < nL9) (hl9 : ((i : Nat), Value.int x) :: lc.filter (fun q => !(q.1 == (i : Nat)) && !(q.1 + 1 == (i : Nat) && q.2.category == 2)) = lc9)
    (kk : gW X h k n (pc + 1) lc9 (st)) : gW X h k n pc lc (.int x :: st) := by
  obtain ⟨⟨p, l, e, R0, s, m, args, below, meth, c⟩, ⟨G, A, nL, Q⟩⟩ := X
  obtain ⟨⟨hx, hb, hml, hown, hts⟩, hK, hZ, hA, hlk, hlt, hR⟩ := hB
  intro H locs ls hP hD hS hls
  exact lv_istore_n hx hb hd rfl hls (by subst hn; exact hi) hl9 (fun ls9 hls9 => kk H locs ls9 hP hD hS hls9)

theorem gI_istore (hB : gB X R cc Ts own) {i : Nat} {x : Int32} (lc9 : List (Nat × Value)) {nL9 : Nat} (hn : gnL X = nL9) (hd : decode cc pc = .ok (.istore i, 2)) (hi : i < nL9) (hl9 : (i, Value.int x) :: lc.filter (fun q => !(q.1 == i) && !(q.1 + 1 == i && q.2.category == 2)) = lc9)
    (kk : gW X h k n (pc + 2) lc9 (st)) : gW X h k n pc lc (.int x :: st) := by
  obtain ⟨⟨p, l, e, R0, s, m, args, below, meth, c⟩, ⟨G, A, nL, Q⟩⟩ := X
  obtain ⟨⟨hx, hb, hml, hown, hts⟩, hK, hZ, hA, hlk, hlt, hR⟩ := hB
  intro H locs ls hP hD hS hls
  exact lv_istore hx hb hd hls (by subst hn; exact hi) hl9 (fun ls9 hls9 => kk H locs ls9 hP hD hS hls9)

theorem gI_astore_n (hB : gB X R cc Ts own) {i : Fin 4} {x : Nat} (lc9 : List (Nat × Value)) {nL9 : Nat} (hn : gnL X = nL9) (hd : decode cc pc = .ok (.astore_n i, 1)) (hi : (i : Nat) < nL9) (hl9 : ((i : Nat), Value.ref x) :: lc.filter (fun q => !(q.1 == (i : Nat)) && !(q.1 + 1 == (i : Nat) && q.2.category == 2)) = lc9)
    (kk : gW X h k n (pc + 1) lc9 (st)) : gW X h k n pc lc (.ref x :: st) := by
  obtain ⟨⟨p, l, e, R0, s, m, args, below, meth, c⟩, ⟨G, A, nL, Q⟩⟩ := X
  obtain ⟨⟨hx, hb, hml, hown, hts⟩, hK, hZ, hA, hlk, hlt, hR⟩ := hB
  intro H locs ls hP hD hS hls
  exact lv_astore_n hx hb hd rfl hls (by subst hn; exact hi) hl9 (fun ls9 hls9 => kk H locs ls9 hP hD hS hls9)

theorem gI_astore (hB : gB X R cc Ts own) {i : Nat} {x : Nat} (lc9 : List (Nat × Value)) {nL9 : Nat} (hn : gnL X = nL9) (hd : decode cc pc = .ok (.astore i, 2)) (hi : i < nL9) (hl9 : (i, Value.ref x) :: lc.filter (fun q => !(q.1 == i) && !(q.1 + 1 == i && q.2.category == 2)) = lc9)
    (kk : gW X h k n (pc + 2) lc9 (st)) : gW X h k n pc lc (.ref x :: st) := by
  obtain ⟨⟨p, l, e, R0, s, m, args, below, meth, c⟩, ⟨G, A, nL, Q⟩⟩ := X
  obtain ⟨⟨hx, hb, hml, hown, hts⟩, hK, hZ, hA, hlk, hlt, hR⟩ := hB
  intro H locs ls hP hD hS hls
  exact lv_astore hx hb hd hls (by subst hn; exact hi) hl9 (fun ls9 hls9 => kk H locs ls9 hP hD hS hls9)

theorem gI_astoreN_n (hB : gB X R cc Ts own) {i : Fin 4} (lc9 : List (Nat × Value)) {nL9 : Nat} (hn : gnL X = nL9) (hd : decode cc pc = .ok (.astore_n i, 1)) (hi : (i : Nat) < nL9) (hl9 : ((i : Nat), Value.null) :: lc.filter (fun q => !(q.1 == (i : Nat)) && !(q.1 + 1 == (i : Nat) && q.2.category == 2)) = lc9)
    (kk : gW X h k n (pc + 1) lc9 (st)) : gW X h k n pc lc (.null :: st) := by
  obtain ⟨⟨p, l, e, R0, s, m, args, below, meth, c⟩, ⟨G, A, nL, Q⟩⟩ := X
  obtain ⟨⟨hx, hb, hml, hown, hts⟩, hK, hZ, hA, hlk, hlt, hR⟩ := hB
  intro H locs ls hP hD hS hls
  exact lv_astore_nN hx hb hd rfl hls (by subst hn; exact hi) hl9 (fun ls9 hls9 => kk H locs ls9 hP hD hS hls9)

theorem gI_iinc (hB : gB X R cc Ts own) (j : Nat) {i : Nat} {z : Int} {x v : Int32} (lc9 : List (Nat × Value)) {nL9 : Nat} (hn : gnL X = nL9) (hd : decode cc pc = .ok (.iinc i z, 3)) (hj : lc[j]? = some (i, .int x)) (hv : x + Int32.ofInt z = v) (hi : i < nL9) (hl9 : (i, Value.int v) :: lc.filter (fun q => !(q.1 == i) && !(q.1 + 1 == i && q.2.category == 2)) = lc9)
    (kk : gW X h k n (pc + 3) lc9 (st)) : gW X h k n pc lc (st) := by
  obtain ⟨⟨p, l, e, R0, s, m, args, below, meth, c⟩, ⟨G, A, nL, Q⟩⟩ := X
  obtain ⟨⟨hx, hb, hml, hown, hts⟩, hK, hZ, hA, hlk, hlt, hR⟩ := hB
  intro H locs ls hP hD hS hls
  exact lv_iinc hx hb hd hls hj hv (by subst hn; exact hi) hl9 (fun ls9 hls9 => kk H locs ls9 hP hD hS hls9)

theorem gI_iadd (hB : gB X R cc Ts own) {x y : Int32} (hd : decode cc pc = .ok (.iadd, 1))
    (kk : gW X h k n (pc + 1) lc (.int (x + y) :: st)) : gW X h k n pc lc (.int y :: .int x :: st) := by
  obtain ⟨⟨p, l, e, R0, s, m, args, below, meth, c⟩, ⟨G, A, nL, Q⟩⟩ := X
  obtain ⟨⟨hx, hb, hml, hown, hts⟩, hK, hZ, hA, hlk, hlt, hR⟩ := hB
  intro H locs ls hP hD hS hls
  exact lv_iadd hx hb hd (kk H locs ls hP hD hS hls)

theorem gI_isub (hB : gB X R cc Ts own) {x y : Int32} (hd : decode cc pc = .ok (.isub, 1))
    (kk : gW X h k n (pc + 1) lc (.int (x - y) :: st)) : gW X h k n pc lc (.int y :: .int x :: st) := by
  obtain ⟨⟨p, l, e, R0, s, m, args, below, meth, c⟩, ⟨G, A, nL, Q⟩⟩ := X
  obtain ⟨⟨hx, hb, hml, hown, hts⟩, hK, hZ, hA, hlk, hlt, hR⟩ := hB
  intro H locs ls hP hD hS hls
  exact lv_isub hx hb hd (kk H locs ls hP hD hS hls)

theorem gI_imul (hB : gB X R cc Ts own) {x y : Int32} (hd : decode cc pc = .ok (.imul, 1))
    (kk : gW X h k n (pc + 1) lc (.int (x * y) :: st)) : gW X h k n pc lc (.int y :: .int x :: st) := by
  obtain ⟨⟨p, l, e, R0, s, m, args, below, meth, c⟩, ⟨G, A, nL, Q⟩⟩ := X
  obtain ⟨⟨hx, hb, hml, hown, hts⟩, hK, hZ, hA, hlk, hlt, hR⟩ := hB
  intro H locs ls hP hD hS hls
  exact lv_imul hx hb hd (kk H locs ls hP hD hS hls)

theorem gI_iand (hB : gB X R cc Ts own) {x y : Int32} (hd : decode cc pc = .ok (.iand, 1))
    (kk : gW X h k n (pc + 1) lc (.int (x &&& y) :: st)) : gW X h k n pc lc (.int y :: .int x :: st) := by
  obtain ⟨⟨p, l, e, R0, s, m, args, below, meth, c⟩, ⟨G, A, nL, Q⟩⟩ := X
  obtain ⟨⟨hx, hb, hml, hown, hts⟩, hK, hZ, hA, hlk, hlt, hR⟩ := hB
  intro H locs ls hP hD hS hls
  exact lv_iand hx hb hd (kk H locs ls hP hD hS hls)

theorem gI_ior (hB : gB X R cc Ts own) {x y : Int32} (hd : decode cc pc = .ok (.ior, 1))
    (kk : gW X h k n (pc + 1) lc (.int (x ||| y) :: st)) : gW X h k n pc lc (.int y :: .int x :: st) := by
  obtain ⟨⟨p, l, e, R0, s, m, args, below, meth, c⟩, ⟨G, A, nL, Q⟩⟩ := X
  obtain ⟨⟨hx, hb, hml, hown, hts⟩, hK, hZ, hA, hlk, hlt, hR⟩ := hB
  intro H locs ls hP hD hS hls
  exact lv_ior hx hb hd (kk H locs ls hP hD hS hls)

theorem gI_ixor (hB : gB X R cc Ts own) {x y : Int32} (hd : decode cc pc = .ok (.ixor, 1))
    (kk : gW X h k n (pc + 1) lc (.int (x ^^^ y) :: st)) : gW X h k n pc lc (.int y :: .int x :: st) := by
  obtain ⟨⟨p, l, e, R0, s, m, args, below, meth, c⟩, ⟨G, A, nL, Q⟩⟩ := X
  obtain ⟨⟨hx, hb, hml, hown, hts⟩, hK, hZ, hA, hlk, hlt, hR⟩ := hB
  intro H locs ls hP hD hS hls
  exact lv_ixor hx hb hd (kk H locs ls hP hD hS hls)

theorem gI_ineg (hB : gB X R cc Ts own) {x : Int32} (hd : decode cc pc = .ok (.ineg, 1))
    (kk : gW X h k n (pc + 1) lc (.int (-x) :: st)) : gW X h k n pc lc (.int x :: st) := by
  obtain ⟨⟨p, l, e, R0, s, m, args, below, meth, c⟩, ⟨G, A, nL, Q⟩⟩ := X
  obtain ⟨⟨hx, hb, hml, hown, hts⟩, hK, hZ, hA, hlk, hlt, hR⟩ := hB
  intro H locs ls hP hD hS hls
  exact lv_ineg hx hb hd (kk H locs ls hP hD hS hls)

theorem gI_lor (hB : gB X R cc Ts own) {x y : Int64} (hd : decode cc pc = .ok (.lor, 1))
    (kk : gW X h k n (pc + 1) lc (.long (x ||| y) :: st)) : gW X h k n pc lc (.long y :: .long x :: st) := by
  obtain ⟨⟨p, l, e, R0, s, m, args, below, meth, c⟩, ⟨G, A, nL, Q⟩⟩ := X
  obtain ⟨⟨hx, hb, hml, hown, hts⟩, hK, hZ, hA, hlk, hlt, hR⟩ := hB
  intro H locs ls hP hD hS hls
  exact lv_lor hx hb hd (kk H locs ls hP hD hS hls)

theorem gI_dup (hB : gB X R cc Ts own) {v : Value} (hd : decode cc pc = .ok (.dup, 1)) (hv : v.category = 1)
    (kk : gW X h k n (pc + 1) lc (v :: v :: st)) : gW X h k n pc lc (v :: st) := by
  obtain ⟨⟨p, l, e, R0, s, m, args, below, meth, c⟩, ⟨G, A, nL, Q⟩⟩ := X
  obtain ⟨⟨hx, hb, hml, hown, hts⟩, hK, hZ, hA, hlk, hlt, hR⟩ := hB
  intro H locs ls hP hD hS hls
  exact lv_dup hx hb hd hv (kk H locs ls hP hD hS hls)

theorem gI_pop (hB : gB X R cc Ts own) {v : Value} (hd : decode cc pc = .ok (.pop, 1)) (hv : v.category = 1)
    (kk : gW X h k n (pc + 1) lc (st)) : gW X h k n pc lc (v :: st) := by
  obtain ⟨⟨p, l, e, R0, s, m, args, below, meth, c⟩, ⟨G, A, nL, Q⟩⟩ := X
  obtain ⟨⟨hx, hb, hml, hown, hts⟩, hK, hZ, hA, hlk, hlt, hR⟩ := hB
  intro H locs ls hP hD hS hls
  exact lv_pop hx hb hd hv (kk H locs ls hP hD hS hls)

theorem gI_dup_x1 (hB : gB X R cc Ts own) {v w : Value} (hd : decode cc pc = .ok (.dup_x1, 1)) (hv : v.category = 1) (hw : w.category = 1)
    (kk : gW X h k n (pc + 1) lc (v :: w :: v :: st)) : gW X h k n pc lc (v :: w :: st) := by
  obtain ⟨⟨p, l, e, R0, s, m, args, below, meth, c⟩, ⟨G, A, nL, Q⟩⟩ := X
  obtain ⟨⟨hx, hb, hml, hown, hts⟩, hK, hZ, hA, hlk, hlt, hR⟩ := hB
  intro H locs ls hP hD hS hls
  exact lv_dup_x1 hx hb hd hv hw (kk H locs ls hP hD hS hls)

theorem gI_dup2_11 (hB : gB X R cc Ts own) {v w : Value} (hd : decode cc pc = .ok (.dup2, 1)) (hv : v.category = 1) (hw : w.category = 1)
    (kk : gW X h k n (pc + 1) lc (v :: w :: v :: w :: st)) : gW X h k n pc lc (v :: w :: st) := by
  obtain ⟨⟨p, l, e, R0, s, m, args, below, meth, c⟩, ⟨G, A, nL, Q⟩⟩ := X
  obtain ⟨⟨hx, hb, hml, hown, hts⟩, hK, hZ, hA, hlk, hlt, hR⟩ := hB
  intro H locs ls hP hD hS hls
  exact lv_dup2_11 hx hb hd hv hw (kk H locs ls hP hD hS hls)

theorem gI_goto (hB : gB X R cc Ts own) (tgt : Nat) {off : Int} (hd : decode cc pc = .ok (.goto off, 3)) (ht : (pc : Int) + off = (tgt : Int))
    (kk : gW X h k n tgt lc (st)) : gW X h k n pc lc (st) := by
  obtain ⟨⟨p, l, e, R0, s, m, args, below, meth, c⟩, ⟨G, A, nL, Q⟩⟩ := X
  obtain ⟨⟨hx, hb, hml, hown, hts⟩, hK, hZ, hA, hlk, hlt, hR⟩ := hB
  intro H locs ls hP hD hS hls
  exact lv_goto hx hb hd ht (kk H locs ls hP hD hS hls)

theorem gI_idiv (hB : gB X R cc Ts own) {x y : Int32} (hd : decode cc pc = .ok (.idiv, 1)) (hne : ¬ y = 0)
    (kk : gW X h k n (pc + 1) lc (.int (x / y) :: st)) : gW X h k n pc lc (.int y :: .int x :: st) := by
  obtain ⟨⟨p, l, e, R0, s, m, args, below, meth, c⟩, ⟨G, A, nL, Q⟩⟩ := X
  obtain ⟨⟨hx, hb, hml, hown, hts⟩, hK, hZ, hA, hlk, hlt, hR⟩ := hB
  intro H locs ls hP hD hS hls
  exact lv_idiv hx hb hd hne (kk H locs ls hP hD hS hls)

theorem gI_irem (hB : gB X R cc Ts own) {x y : Int32} (hd : decode cc pc = .ok (.irem, 1)) (hne : ¬ y = 0)
    (kk : gW X h k n (pc + 1) lc (.int (x - x / y * y) :: st)) : gW X h k n pc lc (.int y :: .int x :: st) := by
  obtain ⟨⟨p, l, e, R0, s, m, args, below, meth, c⟩, ⟨G, A, nL, Q⟩⟩ := X
  obtain ⟨⟨hx, hb, hml, hown, hts⟩, hK, hZ, hA, hlk, hlt, hR⟩ := hB
  intro H locs ls hP hD hS hls
  exact lv_irem hx hb hd hne (kk H locs ls hP hD hS hls)

theorem gI_ishl (hB : gB X R cc Ts own) {x y : Int32} (hd : decode cc pc = .ok (.ishl, 1))
    (kk : gW X h k n (pc + 1) lc (.int (x <<< (y &&& 31)) :: st)) : gW X h k n pc lc (.int y :: .int x :: st) := by
  obtain ⟨⟨p, l, e, R0, s, m, args, below, meth, c⟩, ⟨G, A, nL, Q⟩⟩ := X
  obtain ⟨⟨hx, hb, hml, hown, hts⟩, hK, hZ, hA, hlk, hlt, hR⟩ := hB
  intro H locs ls hP hD hS hls
  exact lv_ishl hx hb hd (kk H locs ls hP hD hS hls)

theorem gI_ishr (hB : gB X R cc Ts own) {x y : Int32} (hd : decode cc pc = .ok (.ishr, 1))
    (kk : gW X h k n (pc + 1) lc (.int (x >>> (y &&& 31)) :: st)) : gW X h k n pc lc (.int y :: .int x :: st) := by
  obtain ⟨⟨p, l, e, R0, s, m, args, below, meth, c⟩, ⟨G, A, nL, Q⟩⟩ := X
  obtain ⟨⟨hx, hb, hml, hown, hts⟩, hK, hZ, hA, hlk, hlt, hR⟩ := hB
  intro H locs ls hP hD hS hls
  exact lv_ishr hx hb hd (kk H locs ls hP hD hS hls)

theorem gI_i2l (hB : gB X R cc Ts own) {x : Int32} (hd : decode cc pc = .ok (.i2l, 1))
    (kk : gW X h k n (pc + 1) lc (.long x.toInt64 :: st)) : gW X h k n pc lc (.int x :: st) := by
  obtain ⟨⟨p, l, e, R0, s, m, args, below, meth, c⟩, ⟨G, A, nL, Q⟩⟩ := X
  obtain ⟨⟨hx, hb, hml, hown, hts⟩, hK, hZ, hA, hlk, hlt, hR⟩ := hB
  intro H locs ls hP hD hS hls
  exact lv_i2l hx hb hd rfl (kk H locs ls hP hD hS hls)

theorem gI_l2i (hB : gB X R cc Ts own) {x : Int64} (hd : decode cc pc = .ok (.l2i, 1))
    (kk : gW X h k n (pc + 1) lc (.int x.toInt32 :: st)) : gW X h k n pc lc (.long x :: st) := by
  obtain ⟨⟨p, l, e, R0, s, m, args, below, meth, c⟩, ⟨G, A, nL, Q⟩⟩ := X
  obtain ⟨⟨hx, hb, hml, hown, hts⟩, hK, hZ, hA, hlk, hlt, hR⟩ := hB
  intro H locs ls hP hD hS hls
  exact lv_l2i hx hb hd rfl (kk H locs ls hP hD hS hls)

theorem gI_lshl (hB : gB X R cc Ts own) {x : Int64} {y : Int32} (hd : decode cc pc = .ok (.lshl, 1))
    (kk : gW X h k n (pc + 1) lc (.long (x <<< (y.toInt64 &&& 63)) :: st)) : gW X h k n pc lc (.int y :: .long x :: st) := by
  obtain ⟨⟨p, l, e, R0, s, m, args, below, meth, c⟩, ⟨G, A, nL, Q⟩⟩ := X
  obtain ⟨⟨hx, hb, hml, hown, hts⟩, hK, hZ, hA, hlk, hlt, hR⟩ := hB
  intro H locs ls hP hD hS hls
  exact lv_lshl hx hb hd rfl (kk H locs ls hP hD hS hls)

theorem gI_lshr (hB : gB X R cc Ts own) {x : Int64} {y : Int32} (hd : decode cc pc = .ok (.lshr, 1))
    (kk : gW X h k n (pc + 1) lc (.long (x >>> (y.toInt64 &&& 63)) :: st)) : gW X h k n pc lc (.int y :: .long x :: st) := by
  obtain ⟨⟨p, l, e, R0, s, m, args, below, meth, c⟩, ⟨G, A, nL, Q⟩⟩ := X
  obtain ⟨⟨hx, hb, hml, hown, hts⟩, hK, hZ, hA, hlk, hlt, hR⟩ := hB
  intro H locs ls hP hD hS hls
  exact lv_lshr hx hb hd rfl (kk H locs ls hP hD hS hls)

theorem gI_topi (hB : gB X R cc Ts own) {x y : Int32} (ex : x = y)
    (kk : gW X h k n pc lc (.int y :: st)) : gW X h k n pc lc (.int x :: st) := by
  obtain ⟨⟨p, l, e, R0, s, m, args, below, meth, c⟩, ⟨G, A, nL, Q⟩⟩ := X
  obtain ⟨⟨hx, hb, hml, hown, hts⟩, hK, hZ, hA, hlk, hlt, hR⟩ := hB
  intro H locs ls hP hD hS hls
  subst ex; exact (kk H locs ls hP hD hS hls)

theorem gI_tableIn (hB : gB X R cc Ts own) (tgt : Nat) {dflt lo hi : Int} {offs : Array Int} {len : Nat} {x : Int32} {off : Int} (hd : decode cc pc = .ok (.tableswitch dflt lo hi offs, len)) (h1 : ¬ x.toInt < lo) (h2 : ¬ hi < x.toInt) (ho : offs[(x.toInt - lo).toNat]? = some off) (ht : (pc : Int) + off = (tgt : Int))
    (kk : gW X h k n tgt lc (st)) : gW X h k n pc lc (.int x :: st) := by
  obtain ⟨⟨p, l, e, R0, s, m, args, below, meth, c⟩, ⟨G, A, nL, Q⟩⟩ := X
  obtain ⟨⟨hx, hb, hml, hown, hts⟩, hK, hZ, hA, hlk, hlt, hR⟩ := hB
  intro H locs ls hP hD hS hls
  exact lv_tableIn hx hb hd h1 h2 ho ht (kk H locs ls hP hD hS hls)

theorem gI_tableOut (hB : gB X R cc Ts own) (tgt : Nat) {dflt lo hi : Int} {offs : Array Int} {len : Nat} {x : Int32} (hd : decode cc pc = .ok (.tableswitch dflt lo hi offs, len)) (h1 : x.toInt < lo ∨ hi < x.toInt) (ht : (pc : Int) + dflt = (tgt : Int))
    (kk : gW X h k n tgt lc (st)) : gW X h k n pc lc (.int x :: st) := by
  obtain ⟨⟨p, l, e, R0, s, m, args, below, meth, c⟩, ⟨G, A, nL, Q⟩⟩ := X
  obtain ⟨⟨hx, hb, hml, hown, hts⟩, hK, hZ, hA, hlk, hlt, hR⟩ := hB
  intro H locs ls hP hD hS hls
  exact lv_tableOut hx hb hd h1 ht (kk H locs ls hP hD hS hls)

theorem gI_if_eq (hB : gB X R cc Ts own) (tgt : Nat) {x : Int32} {off : Int} (hd : decode cc pc = .ok (.ifCond .eq off, 3)) (ht : (pc : Int) + off = (tgt : Int))
    (kt : x = 0 → gW X h k n tgt lc st) (kf : ¬ x = 0 → gW X h k n (pc + 3) lc st) : gW X h k n pc lc (.int x :: st) := by
  obtain ⟨⟨p, l, e, R0, s, m, args, below, meth, c⟩, ⟨G, A, nL, Q⟩⟩ := X
  obtain ⟨⟨hx, hb, hml, hown, hts⟩, hK, hZ, hA, hlk, hlt, hR⟩ := hB
  intro H locs ls hP hD hS hls
  exact lv_if_eq hx hb hd ht (fun z => kt z H locs ls hP hD hS hls) (fun z => kf z H locs ls hP hD hS hls)

theorem gI_icmp_eq (hB : gB X R cc Ts own) (tgt : Nat) {x y : Int32} {off : Int} (hd : decode cc pc = .ok (.if_icmp .eq off, 3)) (ht : (pc : Int) + off = (tgt : Int))
    (kt : x = y → gW X h k n tgt lc st) (kf : ¬ x = y → gW X h k n (pc + 3) lc st) : gW X h k n pc lc (.int y :: .int x :: st) := by
  obtain ⟨⟨p, l, e, R0, s, m, args, below, meth, c⟩, ⟨G, A, nL, Q⟩⟩ := X
  obtain ⟨⟨hx, hb, hml, hown, hts⟩, hK, hZ, hA, hlk, hlt, hR⟩ := hB
  intro H locs ls hP hD hS hls
  exact lv_icmp_eq hx hb hd ht (fun z => kt z H locs ls hP hD hS hls) (fun z => kf z H locs ls hP hD hS hls)

theorem gI_if_ne (hB : gB X R cc Ts own) (tgt : Nat) {x : Int32} {off : Int} (hd : decode cc pc = .ok (.ifCond .ne off, 3)) (ht : (pc : Int) + off = (tgt : Int))
    (kt : ¬ x = 0 → gW X h k n tgt lc st) (kf : x = 0 → gW X h k n (pc + 3) lc st) : gW X h k n pc lc (.int x :: st) := by
  obtain ⟨⟨p, l, e, R0, s, m, args, below, meth, c⟩, ⟨G, A, nL, Q⟩⟩ := X
  obtain ⟨⟨hx, hb, hml, hown, hts⟩, hK, hZ, hA, hlk, hlt, hR⟩ := hB
  intro H locs ls hP hD hS hls
  exact lv_if_ne hx hb hd ht (fun z => kt z H locs ls hP hD hS hls) (fun z => kf z H locs ls hP hD hS hls)

theorem gI_icmp_ne (hB : gB X R cc Ts own) (tgt : Nat) {x y : Int32} {off : Int} (hd : decode cc pc = .ok (.if_icmp .ne off, 3)) (ht : (pc : Int) + off = (tgt : Int))
    (kt : ¬ x = y → gW X h k n tgt lc st) (kf : x = y → gW X h k n (pc + 3) lc st) : gW X h k n pc lc (.int y :: .int x :: st) := by
  obtain ⟨⟨p, l, e, R0, s, m, args, below, meth, c⟩, ⟨G, A, nL, Q⟩⟩ := X
  obtain ⟨⟨hx, hb, hml, hown, hts⟩, hK, hZ, hA, hlk, hlt, hR⟩ := hB
  intro H locs ls hP hD hS hls
  exact lv_icmp_ne hx hb hd ht (fun z => kt z H locs ls hP hD hS hls) (fun z => kf z H locs ls hP hD hS hls)

theorem gI_if_lt (hB : gB X R cc Ts own) (tgt : Nat) {x : Int32} {off : Int} (hd : decode cc pc = .ok (.ifCond .lt off, 3)) (ht : (pc : Int) + off = (tgt : Int))
    (kt : x < 0 → gW X h k n tgt lc st) (kf : ¬ x < 0 → gW X h k n (pc + 3) lc st) : gW X h k n pc lc (.int x :: st) := by
  obtain ⟨⟨p, l, e, R0, s, m, args, below, meth, c⟩, ⟨G, A, nL, Q⟩⟩ := X
  obtain ⟨⟨hx, hb, hml, hown, hts⟩, hK, hZ, hA, hlk, hlt, hR⟩ := hB
  intro H locs ls hP hD hS hls
  exact lv_if_lt hx hb hd ht (fun z => kt z H locs ls hP hD hS hls) (fun z => kf z H locs ls hP hD hS hls)

theorem gI_icmp_lt (hB : gB X R cc Ts own) (tgt : Nat) {x y : Int32} {off : Int} (hd : decode cc pc = .ok (.if_icmp .lt off, 3)) (ht : (pc : Int) + off = (tgt : Int))
    (kt : x < y → gW X h k n tgt lc st) (kf : ¬ x < y → gW X h k n (pc + 3) lc st) : gW X h k n pc lc (.int y :: .int x :: st) := by
  obtain ⟨⟨p, l, e, R0, s, m, args, below, meth, c⟩, ⟨G, A, nL, Q⟩⟩ := X
  obtain ⟨⟨hx, hb, hml, hown, hts⟩, hK, hZ, hA, hlk, hlt, hR⟩ := hB
  intro H locs ls hP hD hS hls
  exact lv_icmp_lt hx hb hd ht (fun z => kt z H locs ls hP hD hS hls) (fun z => kf z H locs ls hP hD hS hls)

theorem gI_if_ge (hB : gB X R cc Ts own) (tgt : Nat) {x : Int32} {off : Int} (hd : decode cc pc = .ok (.ifCond .ge off, 3)) (ht : (pc : Int) + off = (tgt : Int))
    (kt : 0 ≤ x → gW X h k n tgt lc st) (kf : ¬ 0 ≤ x → gW X h k n (pc + 3) lc st) : gW X h k n pc lc (.int x :: st) := by
  obtain ⟨⟨p, l, e, R0, s, m, args, below, meth, c⟩, ⟨G, A, nL, Q⟩⟩ := X
  obtain ⟨⟨hx, hb, hml, hown, hts⟩, hK, hZ, hA, hlk, hlt, hR⟩ := hB
  intro H locs ls hP hD hS hls
  exact lv_if_ge hx hb hd ht (fun z => kt z H locs ls hP hD hS hls) (fun z => kf z H locs ls hP hD hS hls)

theorem gI_icmp_ge (hB : gB X R cc Ts own) (tgt : Nat) {x y : Int32} {off : Int} (hd : decode cc pc = .ok (.if_icmp .ge off, 3)) (ht : (pc : Int) + off = (tgt : Int))
    (kt : y ≤ x → gW X h k n tgt lc st) (kf : ¬ y ≤ x → gW X h k n (pc + 3) lc st) : gW X h k n pc lc (.int y :: .int x :: st) := by
  obtain ⟨⟨p, l, e, R0, s, m, args, below, meth, c⟩, ⟨G, A, nL, Q⟩⟩ := X
  obtain ⟨⟨hx, hb, hml, hown, hts⟩, hK, hZ, hA, hlk, hlt, hR⟩ := hB
  intro H locs ls hP hD hS hls
  exact lv_icmp_ge hx hb hd ht (fun z => kt z H locs ls hP hD hS hls) (fun z => kf z H locs ls hP hD hS hls)

theorem gI_if_gt (hB : gB X R cc Ts own) (tgt : Nat) {x : Int32} {off : Int} (hd : decode cc pc = .ok (.ifCond .gt off, 3)) (ht : (pc : Int) + off = (tgt : Int))
    (kt : 0 < x → gW X h k n tgt lc st) (kf : ¬ 0 < x → gW X h k n (pc + 3) lc st) : gW X h k n pc lc (.int x :: st) := by
  obtain ⟨⟨p, l, e, R0, s, m, args, below, meth, c⟩, ⟨G, A, nL, Q⟩⟩ := X
  obtain ⟨⟨hx, hb, hml, hown, hts⟩, hK, hZ, hA, hlk, hlt, hR⟩ := hB
  intro H locs ls hP hD hS hls
  exact lv_if_gt hx hb hd ht (fun z => kt z H locs ls hP hD hS hls) (fun z => kf z H locs ls hP hD hS hls)

theorem gI_icmp_gt (hB : gB X R cc Ts own) (tgt : Nat) {x y : Int32} {off : Int} (hd : decode cc pc = .ok (.if_icmp .gt off, 3)) (ht : (pc : Int) + off = (tgt : Int))
    (kt : y < x → gW X h k n tgt lc st) (kf : ¬ y < x → gW X h k n (pc + 3) lc st) : gW X h k n pc lc (.int y :: .int x :: st) := by
  obtain ⟨⟨p, l, e, R0, s, m, args, below, meth, c⟩, ⟨G, A, nL, Q⟩⟩ := X
  obtain ⟨⟨hx, hb, hml, hown, hts⟩, hK, hZ, hA, hlk, hlt, hR⟩ := hB
  intro H locs ls hP hD hS hls
  exact lv_icmp_gt hx hb hd ht (fun z => kt z H locs ls hP hD hS hls) (fun z => kf z H locs ls hP hD hS hls)

theorem gI_if_le (hB : gB X R cc Ts own) (tgt : Nat) {x : Int32} {off : Int} (hd : decode cc pc = .ok (.ifCond .le off, 3)) (ht : (pc : Int) + off = (tgt : Int))
    (kt : x ≤ 0 → gW X h k n tgt lc st) (kf : ¬ x ≤ 0 → gW X h k n (pc + 3) lc st) : gW X h k n pc lc (.int x :: st) := by
  obtain ⟨⟨p, l, e, R0, s, m, args, below, meth, c⟩, ⟨G, A, nL, Q⟩⟩ := X
  obtain ⟨⟨hx, hb, hml, hown, hts⟩, hK, hZ, hA, hlk, hlt, hR⟩ := hB
  intro H locs ls hP hD hS hls
  exact lv_if_le hx hb hd ht (fun z => kt z H locs ls hP hD hS hls) (fun z => kf z H locs ls hP hD hS hls)

theorem gI_icmp_le (hB : gB X R cc Ts own) (tgt : Nat) {x y : Int32} {off : Int} (hd : decode cc pc = .ok (.if_icmp .le off, 3)) (ht : (pc : Int) + off = (tgt : Int))
    (kt : x ≤ y → gW X h k n tgt lc st) (kf : ¬ x ≤ y → gW X h k n (pc + 3) lc st) : gW X h k n pc lc (.int y :: .int x :: st) := by
  obtain ⟨⟨p, l, e, R0, s, m, args, below, meth, c⟩, ⟨G, A, nL, Q⟩⟩ := X
  obtain ⟨⟨hx, hb, hml, hown, hts⟩, hK, hZ, hA, hlk, hlt, hR⟩ := hB
  intro H locs ls hP hD hS hls
  exact lv_icmp_le hx hb hd ht (fun z => kt z H locs ls hP hD hS hls) (fun z => kf z H locs ls hP hD hS hls)

theorem gI_ifnonnull (hB : gB X R cc Ts own) (tgt : Nat) {x : Nat} {off : Int} (hd : decode cc pc = .ok (.ifnonnull off, 3)) (ht : (pc : Int) + off = (tgt : Int))
    (kk : gW X h k n tgt lc st) : gW X h k n pc lc (.ref x :: st) := by
  obtain ⟨⟨p, l, e, R0, s, m, args, below, meth, c⟩, ⟨G, A, nL, Q⟩⟩ := X
  obtain ⟨⟨hx, hb, hml, hown, hts⟩, hK, hZ, hA, hlk, hlt, hR⟩ := hB
  intro H locs ls hP hD hS hls
  exact lv_ifnonnull hx hb hd ht (kk H locs ls hP hD hS hls)
theorem gI_ifnonnullN (hB : gB X R cc Ts own) {off : Int} (hd : decode cc pc = .ok (.ifnonnull off, 3))
    (kk : gW X h k n (pc + 3) lc st) : gW X h k n pc lc (.null :: st) := by
  obtain ⟨⟨p, l, e, R0, s, m, args, below, meth, c⟩, ⟨G, A, nL, Q⟩⟩ := X
  obtain ⟨⟨hx, hb, hml, hown, hts⟩, hK, hZ, hA, hlk, hlt, hR⟩ := hB
  intro H locs ls hP hD hS hls
  exact lv_ifnonnullN hx hb hd (kk H locs ls hP hD hS hls)
theorem gI_acmp_eq (hB : gB X R cc Ts own) (tgt : Nat) {x y : Nat} {off : Int} (hd : decode cc pc = .ok (.if_acmp .eq off, 3)) (ht : (pc : Int) + off = (tgt : Int))
    (kt : x = y → gW X h k n tgt lc st) (kf : ¬ x = y → gW X h k n (pc + 3) lc st) : gW X h k n pc lc (.ref y :: .ref x :: st) := by
  obtain ⟨⟨p, l, e, R0, s, m, args, below, meth, c⟩, ⟨G, A, nL, Q⟩⟩ := X
  obtain ⟨⟨hx, hb, hml, hown, hts⟩, hK, hZ, hA, hlk, hlt, hR⟩ := hB
  intro H locs ls hP hD hS hls
  exact lv_acmp_eq (rx := some x) (ry := some y) hx hb hd ht (fun z => kt (Option.some.inj z) H locs ls hP hD hS hls) (fun z => kf (fun z9 => z (congrArg some z9)) H locs ls hP hD hS hls)
theorem gI_acmp_ne (hB : gB X R cc Ts own) (tgt : Nat) {x y : Nat} {off : Int} (hd : decode cc pc = .ok (.if_acmp .ne off, 3)) (ht : (pc : Int) + off = (tgt : Int))
    (kt : ¬ x = y → gW X h k n tgt lc st) (kf : x = y → gW X h k n (pc + 3) lc st) : gW X h k n pc lc (.ref y :: .ref x :: st) := by
  obtain ⟨⟨p, l, e, R0, s, m, args, below, meth, c⟩, ⟨G, A, nL, Q⟩⟩ := X
  obtain ⟨⟨hx, hb, hml, hown, hts⟩, hK, hZ, hA, hlk, hlt, hR⟩ := hB
  intro H locs ls hP hD hS hls
  exact lv_acmp_ne (rx := some x) (ry := some y) hx hb hd ht (fun z => kt (fun z9 => z (congrArg some z9)) H locs ls hP hD hS hls) (fun z => kf (Option.some.inj z) H locs ls hP hD hS hls)
/-- fewer locals are known -/
theorem gI_loc {lc9 : List (Nat × Value)} (ks : List Nat) (hl : lv_pick lc ks = lc9) (kk : gW X h k n pc lc9 st) : gW X h k n pc lc st := by
  obtain ⟨⟨p, l, e, R0, s, m, args, below, meth, c⟩, ⟨G, A, nL, Q⟩⟩ := X
  intro H locs ls hP hD hS hls
  exact kk H locs ls hP hD hS (lv_sub hls ks hl)
/-- fields -/
theorem gI_get (hB : gB X R cc Ts own) (i : Nat) {a ci N index : Nat} {C ref : String} {T : u_T} {fs : List Value} {v : Value} (ha : gat h a (.inr (ci, fs))) (hc : vwCl[ci]? = some (C, T, N)) (hin : ∀ w ∈ u_ws C T N, w ∈ Ts) (hi : i < N)
    (hlink : Cond.fieldLink own index ref (T i).2.1 (T i).2.2.1 ∈ Ts) (hsame : ∀ x, X.1.2.2.2.2.1.fieldFound? (T i).1 (T i).2.1 (T i).2.2.1 = some x → X.1.2.2.2.2.1.fieldFound? ref (T i).2.1 (T i).2.2.1 = some x) (hv : fs[i]? = some v) (hd : decode cc pc = .ok (.getfield index, 3))
    (kk : gW X h k n (pc + 3) lc (v :: st)) : gW X h k n pc lc (.ref a :: st) := by
  obtain ⟨⟨p, l, e, R0, s, m, args, below, meth, c⟩, ⟨G, A, nL, Q⟩⟩ := X
  obtain ⟨⟨hx, hb, hml, hown, hts⟩, hK, hZ, hA, hlk, hlt, hR⟩ := hB
  intro H locs ls hP hD hS hls
  obtain ⟨q0, hq⟩ := gw_get ha
  exact va_get hx hb hts hin hown hK.1 hP q0 hq hc i hi (hts _ hlink) hsame hv hd (kk H locs ls hP hD hS hls)
theorem gI_put (hB : gB X R cc Ts own) (i : Nat) {a ci N index : Nat} {C ref : String} {T : u_T} {fs : List Value} {v : Value} (ty0 : Nat → FieldType) (hty : ∀ k, k < N → parseFieldDescriptor (T k).2.2.1 = some (ty0 k)) (hnm : ∀ a, a < N → ∀ b, b < N → a ≠ b → (T a).2.1 ≠ (T b).2.1) (ha : gat h a (.inr (ci, fs))) (hc : vwCl[ci]? = some (C, T, N)) (hin : ∀ w ∈ u_ws C T N, w ∈ Ts) (hi : i < N)
    (hlink : Cond.fieldLink own index ref (T i).2.1 (T i).2.2.1 ∈ Ts) (hsame : ∀ x, X.1.2.2.2.2.1.fieldFound? (T i).1 (T i).2.1 (T i).2.2.1 = some x → X.1.2.2.2.2.1.fieldFound? ref (T i).2.1 (T i).2.2.1 = some x) (hfin : (T i).2.2.2 = false) (hn9 : narrow (ty0 i) v = v) (hfit : fits (ty0 i) v = true) (hl : i < fs.length) (hd : decode cc pc = .ok (.putfield index, 3))
    (kk : gW X (gput h a (.inr (ci, fs.set i v))) k n (pc + 3) lc st) : gW X h k n pc lc (v :: .ref a :: st) := by
  obtain ⟨⟨p, l, e, R0, s, m, args, below, meth, c⟩, ⟨G, A, nL, Q⟩⟩ := X
  obtain ⟨⟨hx, hb, hml, hown, hts⟩, hK, hZ, hA, hlk, hlt, hR⟩ := hB
  intro H locs ls hP hD hS hls
  obtain ⟨q0, hq⟩ := gw_get ha
  refine va_put hx hb hts hin ty0 hty hnm hown hK.1 hP hD hS q0 hq hc i hi (hts _ hlink) hsame hfin (hty i hi) hn9 hfit hl hd (fun H1 locs1 hP1 hD1 hS1 => ?_)
  rw [gw_set hD ha hq] at hP1 hD1
  exact kk H1 locs1 ls hP1 hD1 hS1 hls
theorem gI_putF (hB : gB X R cc Ts own) {Po : gPo} {ret : Option FieldType} {tb : List ExceptionTableEntry} (hE : gE X Po ret tb "<init>") (i : Nat) {a ci N index : Nat} {C ref : String} {T : u_T} {fs : List Value} {v : Value} (ty0 : Nat → FieldType) (hty : ∀ k, k < N → parseFieldDescriptor (T k).2.2.1 = some (ty0 k)) (hnm : ∀ a, a < N → ∀ b, b < N → a ≠ b → (T a).2.1 ≠ (T b).2.1) (ha : gat h a (.inr (ci, fs))) (hc : vwCl[ci]? = some (C, T, N)) (hin : ∀ w ∈ u_ws C T N, w ∈ Ts) (hi : i < N)
    (hlink : Cond.fieldLink own index ref (T i).2.1 (T i).2.2.1 ∈ Ts) (hsame : ∀ x, X.1.2.2.2.2.1.fieldFound? (T i).1 (T i).2.1 (T i).2.2.1 = some x → X.1.2.2.2.2.1.fieldFound? ref (T i).2.1 (T i).2.2.1 = some x) (hfin : (T i).2.2.2 = true) (hdecl : (T i).1 = own) (hn9 : narrow (ty0 i) v = v) (hfit : fits (ty0 i) v = true) (hl : i < fs.length) (hd : decode cc pc = .ok (.putfield index, 3))
    (kk : gW X (gput h a (.inr (ci, fs.set i v))) k n (pc + 3) lc st) : gW X h k n pc lc (v :: .ref a :: st) := by
  obtain ⟨⟨p, l, e, R0, s, m, args, below, meth, c⟩, ⟨G, A, nL, Q⟩⟩ := X
  obtain ⟨⟨hx, hb, hml, hown, hts⟩, hK, hZ, hA, hlk, hlt, hR⟩ := hB
  intro H locs ls hP hD hS hls
  obtain ⟨q0, hq⟩ := gw_get ha
  refine va_putF hx hb hts hin ty0 hty hnm hown hK.1 hP hD hS q0 hq hc i hi (hts _ hlink) hsame hfin hE.2.2.2 hdecl (hty i hi) hn9 hfit hl hd (fun H1 locs1 hP1 hD1 hS1 => ?_)
  rw [gw_set hD ha hq] at hP1 hD1
  exact kk H1 locs1 ls hP1 hD1 hS1 hls
/-- new objects -/
theorem gI_new (hB : gB X R cc Ts own) {ci N index : Nat} {C : String} {T : u_T} (fs : List Value) (ty0 : Nat → FieldType) (hty : ∀ k, k < N → parseFieldDescriptor (T k).2.2.1 = some (ty0 k)) (hc : vwCl[ci]? = some (C, T, N)) (hin : ∀ w ∈ u_ws C T N, w ∈ Ts)
    (hcl : Cond.classLink own index C ∈ Ts) (hinst : Cond.instantiable C N ∈ Ts) (hini : Cond.initialized C ∈ Ts) (hfs : ∀ j, j < N → defaultValue (ty0 j) = vp_V fs j) (hk9 : k + 1 ≤ R.cells) (hn9 : n + N ≤ R.slots) (hd : decode cc pc = .ok (.new index, 3))
    (kk : ∀ q : Nat, q ∉ h.1 → gW X (gnew h q (.inr (ci, fs))) (k + 1) (n + N) (pc + 3) lc (.ref q :: st)) : gW X h k n pc lc st := by
  obtain ⟨⟨p, l, e, R0, s, m, args, below, meth, c⟩, ⟨G, A, nL, Q⟩⟩ := X
  obtain ⟨⟨hx, hb, hml, hown, hts⟩, hK, hZ, hA, hlk, hlt, hR⟩ := hB
  intro H locs ls hP hD hS hls
  subst hR
  refine va_new hx hb hts hin ty0 hty hown (hts _ hcl) (hts _ hinst) (hts _ hini) hK.1 hP hD hS hA hc hfs hk9 hn9 hd (fun q H1 hP1 hD1 hS1 => ?_)
  have hq : q ∉ h.1 := fun z => by
    obtain ⟨q0, hq0⟩ := gw_get (h := h) (q := q) (e := h.2 q) ⟨z, rfl⟩
    have hl0 := (List.getElem?_eq_some_iff.mp hq0).1
    have := hD1.1 q0 (gw h).length (q, h.2 q) (q, .inr (ci, fs)) (by rw [List.getElem?_append_left hl0]; exact hq0) (by rw [List.getElem?_append_right (Nat.le_refl _), Nat.sub_self]; rfl) rfl
    omega
  rw [gw_push hq] at hP1 hD1
  exact kk q hq H1 locs ls hP1 hD1 hS1 hls
/-- Object.<init> -/
theorem gI_objInit (hB : gB X R cc Ts own) {index a : Nat} (hlink : Cond.methodLink own index Lib.objectInit ∈ Ts) (hinst : Cond.instanceMethod Lib.objectInit ∈ Ts) (hcode : Cond.code Lib.objectInit ⟨#[0xb1]⟩ 1 none ∈ Ts) (hf : 1 ≤ R.frames) (hlo : (st.map fun v => v.category).sum + 12 ≤ R.locals) (hd : decode cc pc = .ok (.invokespecial index, 3))
    (kk : gW X h k n (pc + 3) lc st) : gW X h k n pc lc (.ref a :: st) := by
  obtain ⟨⟨p, l, e, R0, s, m, args, below, meth, c⟩, ⟨G, A, nL, Q⟩⟩ := X
  obtain ⟨⟨hx, hb, hml, hown, hts⟩, hK, hZ, hA, hlk, hlt, hR⟩ := hB
  intro H locs ls hP hD hS hls
  subst hR
  refine W.objInit hx hb hown (hts _ hlink) (hts _ hinst) (hts _ hcode) rfl (by rw [hml]; exact hls.1) rfl hd hf (by show 2 * 0 + _ + 12 ≤ _; omega) ?_
  exact (kk H locs ls hP hD hS hls)
/-- arrays -/
theorem gI_iald (hB : gB X R cc Ts own) {a N : Nat} {f : Nat → Int32} {i : Int32} (ha : gat h a (.inl (gI X.2.1, N, .inl f))) (hi : vp_in i N) (hd : decode cc pc = .ok (.iaload, 1))
    (kk : gW X h k n (pc + 1) lc (.int (f i.toNatClampNeg) :: st)) : gW X h k n pc lc (.int i :: .ref a :: st) := by
  obtain ⟨⟨p, l, e, R0, s, m, args, below, meth, c⟩, ⟨G, A, nL, Q⟩⟩ := X
  obtain ⟨⟨hx, hb, hml, hown, hts⟩, hK, hZ, hA, hlk, hlt, hR⟩ := hB
  intro H locs ls hP hD hS hls
  obtain ⟨q0, hq⟩ := gw_get ha
  exact va_iald hx hb hK.1 hP q0 0 hq rfl hi hd (kk H locs ls hP hD hS hls)
theorem gI_iast (hB : gB X R cc Ts own) {a N : Nat} {f : Nat → Int32} {i x : Int32} (ha : gat h a (.inl (gI X.2.1, N, .inl f))) (hi : vp_in i N) (hd : decode cc pc = .ok (.iastore, 1))
    (kk : gW X (gput h a (.inl (gI X.2.1, N, .inl (upd f i.toNatClampNeg x)))) k n (pc + 1) lc st) : gW X h k n pc lc (.int x :: .int i :: .ref a :: st) := by
  obtain ⟨⟨p, l, e, R0, s, m, args, below, meth, c⟩, ⟨G, A, nL, Q⟩⟩ := X
  obtain ⟨⟨hx, hb, hml, hown, hts⟩, hK, hZ, hA, hlk, hlt, hR⟩ := hB
  intro H locs ls hP hD hS hls
  obtain ⟨q0, hq⟩ := gw_get ha
  refine va_iast hx hb hK.1 hP hD hS q0 0 hq rfl hi hd (fun H1 locs1 hP1 hD1 hS1 => ?_)
  rw [gw_set hD ha hq] at hP1 hD1
  exact kk H1 locs1 ls hP1 hD1 hS1 hls
theorem gI_aald (hB : gB X R cc Ts own) {a N : Nat} {f : Nat → Option Nat} {i : Int32} (ha : gat h a (.inl (gO X.2.1, N, .inr (.inr (.inr (.inr f)))))) (hi : vp_in i N) (hd : decode cc pc = .ok (.aaload, 1))
    (kk : gW X h k n (pc + 1) lc (va_rf (f i.toNatClampNeg) :: st)) : gW X h k n pc lc (.int i :: .ref a :: st) := by
  obtain ⟨⟨p, l, e, R0, s, m, args, below, meth, c⟩, ⟨G, A, nL, Q⟩⟩ := X
  obtain ⟨⟨hx, hb, hml, hown, hts⟩, hK, hZ, hA, hlk, hlt, hR⟩ := hB
  intro H locs ls hP hD hS hls
  obtain ⟨q0, hq⟩ := gw_get ha
  exact va_aldq hx hb hK.1 hP q0 2 hq rfl hi hd (kk H locs ls hP hD hS hls)
/-- the object at v may lie in a row of objects: its class is castable to Object -/
theorem gAny {G : gG} {s : State} {H : Heap} {h : gH} {v ci : Nat} {r : vw_C} {vs : List Value} (hK : gK G s) (hP : va_P G.1 vwCl (gw h) H) (hv : gat h v (.inr (ci, vs))) (hc : vwCl[ci]? = some r) (hcast : Cond.castable r.1 "java/lang/Object" ∈ lw_tbl) : va_Any "java/lang/Object" s H v := by
  obtain ⟨q0, hq⟩ := gw_get hv
  refine va_rAny hK.1 hP hq hc (fun comp c0 e1 e2 => ?_)
  obtain ⟨a0, b0, f1, f2, f3⟩ := Cond.castable_spec (va_Nw.use (A := #[]) rfl (hK.2.2.2 _ hcast rfl))
  cases f1.symm.trans e2
  cases f2.symm.trans e1
  exact f3
theorem gI_aast (hB : gB X R cc Ts own) {a N v ci : Nat} {r : vw_C} {vs : List Value} {f : Nat → Option Nat} {i : Int32} (ha : gat h a (.inl (gO X.2.1, N, .inr (.inr (.inr (.inr f)))))) (hv : gat h v (.inr (ci, vs))) (hc : vwCl[ci]? = some r) (hcast : Cond.castable r.1 "java/lang/Object" ∈ lw_tbl) (hi : vp_in i N) (hd : decode cc pc = .ok (.aastore, 1))
    (kk : gW X (gput h a (.inl (gO X.2.1, N, .inr (.inr (.inr (.inr (va_up f i.toNatClampNeg (some v)))))))) k n (pc + 1) lc st) : gW X h k n pc lc (.ref v :: .int i :: .ref a :: st) := by
  obtain ⟨⟨p, l, e, R0, s, m, args, below, meth, c⟩, ⟨G, A, nL, Q⟩⟩ := X
  obtain ⟨⟨hx, hb, hml, hown, hts⟩, hK, hZ, hA, hlk, hlt, hR⟩ := hB
  intro H locs ls hP hD hS hls
  obtain ⟨q0, hq⟩ := gw_get ha
  refine va_astqM (E := "java/lang/Object") hx hb hK.1 hP hD hS q0 2 hq rfl (gAny hK hP hv hc hcast) hi hd (fun H1 locs1 hP1 hD1 hS1 => ?_)
  rw [gw_set hD ha hq] at hP1 hD1
  exact kk H1 locs1 ls hP1 hD1 hS1 hls
theorem gI_aastN (hB : gB X R cc Ts own) {a N : Nat} {f : Nat → Option Nat} {i : Int32} (ha : gat h a (.inl (gO X.2.1, N, .inr (.inr (.inr (.inr f)))))) (hi : vp_in i N) (hd : decode cc pc = .ok (.aastore, 1))
    (kk : gW X (gput h a (.inl (gO X.2.1, N, .inr (.inr (.inr (.inr (va_up f i.toNatClampNeg none))))))) k n (pc + 1) lc st) : gW X h k n pc lc (.null :: .int i :: .ref a :: st) := by
  obtain ⟨⟨p, l, e, R0, s, m, args, below, meth, c⟩, ⟨G, A, nL, Q⟩⟩ := X
  obtain ⟨⟨hx, hb, hml, hown, hts⟩, hK, hZ, hA, hlk, hlt, hR⟩ := hB
  intro H locs ls hP hD hS hls
  obtain ⟨q0, hq⟩ := gw_get ha
  refine va_astqN (C := "java/lang/Object") hx hb hK.1 hP hD hS q0 2 hq rfl hi hd (fun H1 locs1 hP1 hD1 hS1 => ?_)
  rw [gw_set hD ha hq] at hP1 hD1
  exact kk H1 locs1 ls hP1 hD1 hS1 hls
theorem gI_alenI (hB : gB X R cc Ts own) {a N : Nat} {f : Nat → Int32} (ha : gat h a (.inl (gI X.2.1, N, .inl f))) (hd : decode cc pc = .ok (.arraylength, 1))
    (kk : gW X h k n (pc + 1) lc (.int (nI N) :: st)) : gW X h k n pc lc (.ref a :: st) := by
  obtain ⟨⟨p, l, e, R0, s, m, args, below, meth, c⟩, ⟨G, A, nL, Q⟩⟩ := X
  obtain ⟨⟨hx, hb, hml, hown, hts⟩, hK, hZ, hA, hlk, hlt, hR⟩ := hB
  intro H locs ls hP hD hS hls
  obtain ⟨q0, hq⟩ := gw_get ha
  exact va_alen hx hb hK.1 hP q0 0 hq rfl rfl hd (kk H locs ls hP hD hS hls)
theorem gI_alenO (hB : gB X R cc Ts own) {a N : Nat} {f : Nat → Option Nat} (ha : gat h a (.inl (gO X.2.1, N, .inr (.inr (.inr (.inr f)))))) (hd : decode cc pc = .ok (.arraylength, 1))
    (kk : gW X h k n (pc + 1) lc (.int (nI N) :: st)) : gW X h k n pc lc (.ref a :: st) := by
  obtain ⟨⟨p, l, e, R0, s, m, args, below, meth, c⟩, ⟨G, A, nL, Q⟩⟩ := X
  obtain ⟨⟨hx, hb, hml, hown, hts⟩, hK, hZ, hA, hlk, hlt, hR⟩ := hB
  intro H locs ls hP hD hS hls
  obtain ⟨q0, hq⟩ := gw_get ha
  exact va_alen hx hb hK.1 hP q0 2 hq rfl rfl hd (kk H locs ls hP hD hS hls)
/-- the shared empty row -/
theorem gI_alenE (hB : gB X R cc Ts own) (hd : decode cc pc = .ok (.arraylength, 1))
    (kk : gW X h k n (pc + 1) lc (.int (nI 0) :: st)) : gW X h k n pc lc (.ref (gE0 X.2.1) :: st) := by
  obtain ⟨⟨p, l, e, R0, s, m, args, below, meth, c⟩, ⟨G, A, nL, Q⟩⟩ := X
  obtain ⟨⟨hx, hb, hml, hown, hts⟩, hK, hZ, hA, hlk, hlt, hR⟩ := hB
  intro H locs ls hP hD hS hls
  exact va_tlen hx hb hZ.2.1 hS rfl hd (kk H locs ls hP hD hS hls)
theorem gI_getsE (hB : gB X R cc Ts own) {index : Nat} (hlink : Cond.fieldLink own index "java/util/ArrayList" "DEFAULTCAPACITY_EMPTY_ELEMENTDATA" "[Ljava/lang/Object;" ∈ Ts) (hd : decode cc pc = .ok (.getstatic index, 3))
    (kk : gW X h k n (pc + 3) lc (.ref (gE0 X.2.1) :: st)) : gW X h k n pc lc st := by
  obtain ⟨⟨p, l, e, R0, s, m, args, below, meth, c⟩, ⟨G, A, nL, Q⟩⟩ := X
  obtain ⟨⟨hx, hb, hml, hown, hts⟩, hK, hZ, hA, hlk, hlt, hR⟩ := hB
  intro H locs ls hP hD hS hls
  exact va_gets hx hb hZ.1 hS hown (hts _ hlink) (fun _ h9 => h9) hd (kk H locs ls hP hD hS hls)
theorem gw_fresh {A : Nat → Prop} {h : gH} {q : Nat} {e : va_E} (hD : va_D A (gw h ++ [(q, e)])) : q ∉ h.1 := fun z => by
  obtain ⟨q0, hq0⟩ := gw_get (h := h) (q := q) (e := h.2 q) ⟨z, rfl⟩
  have hl0 := (List.getElem?_eq_some_iff.mp hq0).1
  have := hD.1 q0 (gw h).length (q, h.2 q) (q, e) (by rw [List.getElem?_append_left hl0]; exact hq0) (by rw [List.getElem?_append_right (Nat.le_refl _), Nat.sub_self]; rfl) rfl
  omega
theorem gI_newI (hB : gB X R cc Ts own) {x : Int32} (N : Nat) (hN : x = nI N) (hN9 : N < 100000) (harr : Cond.arrayClass .int ∈ Ts) (hk9 : k + 1 ≤ R.cells) (hn9 : n + N ≤ R.slots) (hd : decode cc pc = .ok (.newarray .int, 2))
    (kk : ∀ q : Nat, q ∉ h.1 → gW X (gnew h q (.inl (gI X.2.1, N, .inl (fun _ => 0)))) (k + 1) (n + N) (pc + 2) lc (.ref q :: st)) : gW X h k n pc lc (.int x :: st) := by
  obtain ⟨⟨p, l, e, R0, s, m, args, below, meth, c⟩, ⟨G, A, nL, Q⟩⟩ := X
  obtain ⟨⟨hx, hb, hml, hown, hts⟩, hK, hZ, hA, hlk, hlt, hR⟩ := hB
  intro H locs ls hP hD hS hls
  subst hR
  subst hN
  refine va_newa (atype := .int) (ty := .int) (a0 := (N, .inl (fun _ => 0))) hx hb (hts _ harr) rfl hK.1 hP hD hS hA (fun cA => rfl) (nI_pos (by omega)) (nI_clamp (by omega)) (by show N * 4 ≤ 536870912; omega) hk9 hn9 hd (fun q cA H1 hK1 hP1 hD1 hS1 => ?_)
  have hcA : cA = gI G := by
    have h1 : s.vm.findClass ("[" ++ FieldType.int.toString) = some cA := (hK1.2 4 (cA, .int) rfl).2
    have h2 : s.vm.findClass ("[" ++ FieldType.int.toString) = some (gI G) := (hK.1.2 0 (gI G, .int) rfl).2
    exact Option.some.inj (h1.symm.trans h2)
  subst hcA
  have hq := gw_fresh hD1
  rw [gw_push hq] at hP1 hD1
  exact kk q hq H1 locs ls hP1 hD1 hS1 hls
theorem gI_newO (hB : gB X R cc Ts own) {x : Int32} {index : Nat} (N : Nat) (hN : x = nI N) (hN9 : N < 100000) (hcl : Cond.classLink own index "java/lang/Object" ∈ Ts) (hk9 : k + 1 ≤ R.cells) (hn9 : n + N ≤ R.slots) (hd : decode cc pc = .ok (.anewarray index, 3))
    (kk : ∀ q : Nat, q ∉ h.1 → gW X (gnew h q (.inl (gO X.2.1, N, .inr (.inr (.inr (.inr (fun _ => none))))))) (k + 1) (n + N) (pc + 3) lc (.ref q :: st)) : gW X h k n pc lc (.int x :: st) := by
  obtain ⟨⟨p, l, e, R0, s, m, args, below, meth, c⟩, ⟨G, A, nL, Q⟩⟩ := X
  obtain ⟨⟨hx, hb, hml, hown, hts⟩, hK, hZ, hA, hlk, hlt, hR⟩ := hB
  intro H locs ls hP hD hS hls
  subst hR
  subst hN
  refine va_newq hx hb hown (hts _ hcl) hK.2.2.1 hK.1 hP hD hS hA (nI_pos (by omega)) (nI_clamp (by omega)) (by omega) hk9 hn9 hd (fun q cA H1 hK1 hP1 hD1 hS1 => ?_)
  have hcA : cA = gO G := by
    have h1 := va_nmO (hK1.2 4 (cA, .object "java/lang/Object") rfl).2 rfl
    have h2 := va_nmO (hK.1.2 2 (gO G, .object "java/lang/Object") rfl).2 rfl
    exact Option.some.inj (h1.symm.trans h2)
  subst hcA
  have hq := gw_fresh hD1
  rw [gw_push hq] at hP1 hD1
  exact kk q hq H1 locs ls hP1 hD1 hS1 hls
theorem gI_cast (hB : gB X R cc Ts own) {a ci N index : Nat} {C : String} {T : u_T} {fs : List Value} (ha : gat h a (.inr (ci, fs))) (hc : vwCl[ci]? = some (C, T, N)) (hlink : Cond.classLink own index C ∈ Ts) (hd : decode cc pc = .ok (.checkcast index, 3))
    (kk : gW X h k n (pc + 3) lc (.ref a :: st)) : gW X h k n pc lc (.ref a :: st) := by
  obtain ⟨⟨p, l, e, R0, s, m, args, below, meth, c⟩, ⟨G, A, nL, Q⟩⟩ := X
  obtain ⟨⟨hx, hb, hml, hown, hts⟩, hK, hZ, hA, hlk, hlt, hR⟩ := hB
  intro H locs ls hP hD hS hls
  obtain ⟨q0, hq⟩ := gw_get ha
  exact va_castS hx hb hown (hts _ hlink) (hK.1.1 ci _ hc).2 (va_recv hK.1 hP hc hq) hd (kk H locs ls hP hD hS hls)
theorem gI_copyO (hB : gB X R cc Ts own) {a0 a1 n0 n1 index : Nat} {f g : Nat → Option Nat} {sp dp z : Int32} (sp9 dp9 z9 : Nat) (esp : sp = nI sp9) (edp : dp = nI dp9) (ez : z = nI z9) (hlink : Cond.methodLink own index arraycopyName ∈ Ts) (hnat : Cond.native arraycopyName ∈ Ts) (hstat : Cond.static arraycopyName ∈ Ts) (hini : Cond.initialized "java/lang/System" ∈ Ts)
    (ha0 : gat h a0 (.inl (gO X.2.1, n0, .inr (.inr (.inr (.inr f)))))) (ha1 : gat h a1 (.inl (gO X.2.1, n1, .inr (.inr (.inr (.inr g)))))) (h4 : sp9 + z9 ≤ n0) (h5 : dp9 + z9 ≤ n1) (hn0 : n0 < 100000) (hn1 : n1 < 100000)
    (hel : ∀ i : Nat, i < z9 → ∀ y : Nat, f (sp9 + i) = some y → ∃ (ci : Nat) (r : vw_C) (vs : List Value), gat h y (.inr (ci, vs)) ∧ vwCl[ci]? = some r ∧ Cond.castable r.1 "java/lang/Object" ∈ lw_tbl)
    (hf : 1 ≤ R.frames) (hlo : (st.map fun v => v.category).sum + (nativeFrameWords "java/lang/System" "arraycopy" 5 + 11) ≤ R.locals) (hd : decode cc pc = .ok (.invokestatic index, 3))
    (kk : gW X (gput h a1 (.inl (gO X.2.1, n1, .inr (.inr (.inr (.inr (va_cpy f g sp9 dp9 z9))))))) k n (pc + 3) lc st) : gW X h k n pc lc (.int z :: .int dp :: .ref a1 :: .int sp :: .ref a0 :: st) := by
  obtain ⟨⟨p, l, e, R0, s, m, args, below, meth, c⟩, ⟨G, A, nL, Q⟩⟩ := X
  obtain ⟨⟨hx, hb, hml, hown, hts⟩, hK, hZ, hA, hlk, hlt, hR⟩ := hB
  intro H locs ls hP hD hS hls
  subst hR
  subst esp edp ez
  obtain ⟨q0, hq0⟩ := gw_get ha0
  obtain ⟨q1, hq1⟩ := gw_get ha1
  have c1 : (nI sp9).toNatClampNeg = sp9 := nI_clamp (by omega)
  have c2 : (nI dp9).toNatClampNeg = dp9 := nI_clamp (by omega)
  have c3 : (nI z9).toNatClampNeg = z9 := nI_clamp (by omega)
  refine va_copyM (E0 := "java/lang/Object") (E1 := "java/lang/Object") hx hb (hml.trans hls.1.symm) hown (hts _ hlink) (hts _ hnat) (hts _ hstat) (hts _ hini) hK.1 hP hD hS q0 q1 2 2 hq0 hq1 rfl rfl (nI_pos (by omega)) (nI_pos (by omega)) (nI_pos (by omega)) (by rw [c1, c3]; exact h4) (by rw [c2, c3]; exact h5) (fun i hi y hy => ?_) hf hlo hd (fun H1 locs1 hP1 hD1 hS1 => ?_)
  · rw [c3] at hi
    rw [c1] at hy
    obtain ⟨ci, r, vs, g1, g2, g3⟩ := hel i hi y hy
    exact gAny hK hP g1 g2 g3
  rw [gw_set hD ha1 hq1, c1, c2, c3] at hP1 hD1
  exact kk H1 locs1 ls hP1 hD1 hS1 hls
/-- behind a call, whatever its kind -/
theorem gI_called (hB : gB X R cc Ts own) {rest : List Value} {a : Array Value} {Po : gPo}
    (hcall : ∀ (p : Program) (l : Launch) (e : Env) (R0 : Room) (s : State) (m : MethodId) (args : Array Value) (below : List Frame) (meth : Method) (c : Code) (A : Nat → Prop) (nL : Nat) (Q : State → Prop), X = ((p, l, e, R0, s, m, args, below, meth, c), (X.2.1, A, nL, Q)) →
      ∀ (H : Heap) (locs : List Loc) (ls : Array Slot), va_P X.2.1.1 vwCl (gw h) H → va_D A (gw h) → va_S A s.heap H locs → lv_has ls nL lc → ∀ T : State, T.heap = H → Stand p l e R0 s m args below meth c T locs k n →
        gCalled p l e R0 s m args below meth c T locs k n (F0 m pc ls st) rest a (gPost X.2.1 (va_A (gw h) H.size) Po))
    (kv : ∀ (v : Option Value) (h1 : gH) (k1 n1 : Nat), Po (.inl v) h1 k1 n1 → gW X h1 (k + k1) (n + n1) (pc + 3) lc (v.toList ++ rest))
    (kx : ∀ (E : String) (h1 : gH) (k1 n1 : Nat), Po (.inr E) h1 k1 n1 → gWX X h1 (k + k1) (n + n1) pc lc rest E) : gW X h k n pc lc st := by
  obtain ⟨⟨p, l, e, R0, s, m, args, below, meth, c⟩, ⟨G, A, nL, Q⟩⟩ := X
  obtain ⟨⟨hx, hb, hml, hown, hts⟩, hK, hZ, hA, hlk, hlt, hR⟩ := hB
  intro H locs ls hP hD hS hls T hT Y
  have hfree : ∀ q, va_A (gw h) H.size q → A q := by
    intro q hq
    rcases hq with ⟨k0, e0, hq⟩ | hq
    · exact hD.2 k0 (q, e0) hq
    · exact hA q (Nat.le_trans hS.1 hq)
  have key : ∀ (B : Pt) (h1 : gH) (L : List Loc), H.size ≤ B.U.heap.size → (∀ q : Nat, q < H.size → ¬ va_A (gw h) H.size q → B.U.heap[q]? = H[q]?) → (∀ z ∈ L, va_A (gw h) H.size z.base) → va_S A s.heap B.U.heap (locs ++ L) := by
    intro B h1 L f1 f2 f3
    refine ⟨Nat.le_trans hS.1 f1, fun q g1 g2 => ?_, fun q hq => ?_⟩
    · rw [f2 q (Nat.lt_of_lt_of_le g1 hS.1) (fun z => g2 (hfree q z))]
      exact hS.2.1 q g1 g2
    · rcases List.mem_append.mp hq with h9 | h9
      · exact hS.2.2 q h9
      · exact hfree _ (f3 q h9)
  rcases hcall p l e R0 s m args below meth c A nL Q rfl H locs ls hP hD hS hls T hT Y with ⟨v, vm₁, B, hW₁, X', hpost, st9⟩ | ⟨q, vm₁, B, hW₁, X', hpost, st9⟩
  · obtain ⟨k1, n1, h1, L, g1, g2, g3, g4, g5, g6, g7, g8, hpo⟩ := hpost
    obtain ⟨U', l2, c2, s2⟩ := B
    dsimp only [Pt.U, Pt.locs, Pt.cells, Pt.slots] at X' g1 g3 g4 g6 g7 g8 st9
    subst g6 g7 g8
    have hT' : (T.setVm vm₁).heap = H := hT
    rw [hT'] at g3 g4
    obtain ⟨t, a1, b1⟩ := kv v h1 k1 n1 hpo U'.heap (locs ++ L) ls g1 (g2.weaken (fun _ x _ z => hfree x.1 z)) (key ⟨U', locs ++ L, k + k1, n + n1⟩ h1 L g3 g4 g5) hls U' rfl X'
    exact ⟨t, st9 t a1, b1⟩
  · obtain ⟨k1, n1, h1, L, g1, g2, g3, g4, g5, g6, g7, g8, E, ce, hce, hcv, hcl, hpo⟩ := hpost
    obtain ⟨U', l2, c2, s2⟩ := B
    dsimp only [Pt.U, Pt.locs, Pt.cells, Pt.slots] at X' g1 g3 g4 g6 g7 g8 st9 hce hcl
    subst g6 g7 g8
    have hT' : (T.setVm vm₁).heap = H := hT
    rw [hT'] at g3 g4
    obtain ⟨t, a1, b1⟩ := kx E h1 k1 n1 hpo U'.heap (locs ++ L) ls q ce g1 (g2.weaken (fun _ x _ z => hfree x.1 z)) (key ⟨U', locs ++ L, k + k1, n + n1⟩ h1 L g3 g4 g5) hls hce hcv (vx_cls hW₁ hcl) U' rfl X'
    exact ⟨t, st9.trans a1, b1⟩
/-- what the callee's words are, and its room -/
def gCW (Ts ws : List Cond) (y : MethodName) (bytes : ByteArray) (maxL : Nat) (ret : Option FieldType) (rm R : Room) (n9 : Nat) : Prop :=
  GoodIn Ts ws ∧ (Cond.code y bytes maxL ret ∈ ws ∨ ∃ hh, Cond.codeWith y bytes maxL ret hh ∈ ws) ∧ (y.cls ≠ "java/lang/invoke/MethodHandle" ∧ y.cls ≠ "java/lang/invoke/VarHandle") ∧ (parseMethodDescriptor y.desc).map (fun d => d.parameters.length) = some n9 ∧ rm.frames + 1 ≤ R.frames ∧ 8 + (maxL + 11) + rm.locals ≤ R.locals
theorem gCW.code {Ts ws : List Cond} {y : MethodName} {bytes : ByteArray} {maxL : Nat} {ret : Option FieldType} {rm R : Room} {n9 : Nat} {args : Array Value} {s : State} (h : gCW Ts ws y bytes maxL ret rm R n9) (hts : ∀ w ∈ Ts, w.before args s = true) : ∀ a' U, s.WarmedH U.vm → gCode y bytes maxL ret a' U := by
  intro a' U hW
  rcases h.2.1 with h1 | ⟨hh, h1⟩
  · exact Or.inl (pay_in hts h.1 _ h1 a' U hW)
  · exact Or.inr ⟨hh, pay_in hts h.1 _ h1 a' U hW⟩
theorem gCW.len {Ts ws : List Cond} {y : MethodName} {bytes : ByteArray} {maxL : Nat} {ret : Option FieldType} {rm R : Room} {n9 : Nat} (h : gCW Ts ws y bytes maxL ret rm R n9) : ∀ sig, parseMethodDescriptor y.desc = some sig → n9 = sig.parameters.length := by
  intro sig hs
  have h2 := h.2.2.2.1
  rw [hs] at h2
  exact (Option.some.inj h2).symm
theorem gCW.of {Ts ws ws' : List Cond} {y : MethodName} {bytes : ByteArray} {maxL : Nat} {ret : Option FieldType} {rm R : Room} {n9 : Nat} (hG : GoodIn Ts ws) (hw : ws = Cond.code y bytes maxL ret :: ws') (hd : y.cls ≠ "java/lang/invoke/MethodHandle" ∧ y.cls ≠ "java/lang/invoke/VarHandle" ∧ (parseMethodDescriptor y.desc).map (fun d => d.parameters.length) = some n9) (hR : rm.frames + 1 ≤ R.frames ∧ 8 + (maxL + 11) + rm.locals ≤ R.locals) : gCW Ts ws y bytes maxL ret rm R n9 :=
  ⟨hG, Or.inl (by rw [hw]; exact List.mem_cons_self), ⟨hd.1, hd.2.1⟩, hd.2.2, hR.1, hR.2⟩
theorem gw_pre {G : gG} {A : Nat → Prop} {s U : State} {h : gH} {H : Heap} {locs : List Loc} {av : List Value} (hK : gK G s) (hZ : gZ G A s s.heap) (hA : ∀ q, s.heap.size ≤ q → A q) (hP : va_P G.1 vwCl (gw h) H) (hD : va_D A (gw h)) (hS : va_S A s.heap H locs) (hU : U.heap = H) (hW : s.WarmedH U.vm) : gPc G h H.size av av.toArray U := by
  refine ⟨rfl, by rw [hU], by rw [hU]; exact hP, hD.weaken (fun _ _ _ _ => trivial), gK.warm hW hK, ?_⟩
  rw [hU]
  refine gZ.moved hW.alike (gZ.narrow (hZ.kept hS.2.1) (fun q hq => ?_))
  rcases hq with ⟨k0, e0, hq⟩ | hq
  · exact hD.2 k0 (q, e0) hq
  · exact hA q (Nat.le_trans hS.1 hq)
theorem gI_callV (hB : gB X R cc Ts own) {y : MethodName} {ws : List Cond} {rm : Room} {bytes : ByteArray} {maxL n9 index b ci N : Nat} {ret : Option FieldType} {C : String} {T : u_T} {fs : List Value} {As rest : List Value} {Po : gPo}
    (hM : gMet y ws rm X.2.1 h (.ref b :: As) Po) (cw : gCW Ts ws y bytes maxL ret rm R n9) (hl : Cond.methodLink own index y ∈ Ts) (hinst : Cond.instanceMethod y ∈ Ts) (hsel : Cond.selects C y y ∈ Ts) (hini : Cond.initialized y.cls ∈ Ts)
    (hb9 : gat h b (.inr (ci, fs))) (hc : vwCl[ci]? = some (C, T, N)) (hn : As.length = n9) (hst : st = As.reverse ++ .ref b :: rest) (hcat : (rest.map fun v => v.category).sum ≤ 8) (hk9 : k + rm.cells ≤ R.cells) (hn9 : n + rm.slots ≤ R.slots) (hd : decode cc pc = .ok (.invokevirtual index, 3))
    (kv : ∀ (v : Option Value) (h1 : gH) (k1 n1 : Nat), Po (.inl v) h1 k1 n1 → gW X h1 (k + k1) (n + n1) (pc + 3) lc (v.toList ++ rest))
    (kx : ∀ (E : String) (h1 : gH) (k1 n1 : Nat), Po (.inr E) h1 k1 n1 → gWX X h1 (k + k1) (n + n1) pc lc rest E) : gW X h k n pc lc st := by
  refine gI_called hB (rest := rest) (a := (Value.ref b :: As).toArray) (Po := Po) ?_ kv kx
  intro p l e R0 s m args below meth c A nL Q hX H locs ls hP hD hS hls T9 hT Y
  generalize hG : X.2.1 = G at hX hM hP
  subst hX
  obtain ⟨⟨hx, hb, hml, hown, hts⟩, hK, hZ, hA, hlk, hlt, hR⟩ := hB
  subst hR
  have hZ9 := hZ
  have hbk := g_back (l := l) (R := R0) (p := p) (e := e) (below := below) (s := s) (sargs := args) (len := 3) (W9 := 8) (hM l hlt H.size) gPc_blind cw.2.2.2.2.1 cw.2.2.2.2.2 (fun w hw a' U hW => pay_in hts cw.1 w hw a' U hW) (cw.code hts) (fun a' U hW => word_at hW (Or.inl (by first | rfl | simp [Cond.onTables, Cond.keeps, Cond.steady])) (hts _ hini))
  obtain ⟨q0, hq⟩ := gw_get hb9
  obtain ⟨cellB, r1, r2, r3⟩ := va_recv hK.1 hP hc hq
  exact gc_V Y hx (C := C) hown (hts _ hl) (hts _ hinst) (hts _ hsel) (cw.code hts args s (State.WarmedH.refl s)) cw.2.2.1 hbk (by rw [hT]; exact r1) r2 r3 rfl (by rw [hml]; exact hls.1) (argsL := As) (rest := rest) (fun sig hs => hn.trans (cw.len sig hs)) hst (by show 2 * 0 + _ ≤ 8; omega) (by rw [hb]; exact hd)
    (fun vm₁ hW₁ => ⟨hk9, hn9, gw_pre (av := Value.ref b :: As) hK hZ9 hA hP hD hS (U := T9.setVm vm₁) hT hW₁⟩)
theorem gI_callS (hB : gB X R cc Ts own) {y : MethodName} {ws : List Cond} {rm : Room} {bytes : ByteArray} {maxL n9 index : Nat} {ret : Option FieldType} {As rest : List Value} {Po : gPo}
    (hM : gMet y ws rm X.2.1 h As Po) (cw : gCW Ts ws y bytes maxL ret rm R n9) (hl : Cond.methodLink own index y ∈ Ts ∨ ∃ host, Cond.methodLinkNest own index y host ∈ lw_tbl) (hstat : Cond.static y ∈ Ts) (hini : Cond.initialized y.cls ∈ Ts)
    (hn : As.length = n9) (hst : st = As.reverse ++ rest) (hcat : (rest.map fun v => v.category).sum ≤ 8) (hk9 : k + rm.cells ≤ R.cells) (hn9 : n + rm.slots ≤ R.slots) (hd : decode cc pc = .ok (.invokestatic index, 3))
    (kv : ∀ (v : Option Value) (h1 : gH) (k1 n1 : Nat), Po (.inl v) h1 k1 n1 → gW X h1 (k + k1) (n + n1) (pc + 3) lc (v.toList ++ rest))
    (kx : ∀ (E : String) (h1 : gH) (k1 n1 : Nat), Po (.inr E) h1 k1 n1 → gWX X h1 (k + k1) (n + n1) pc lc rest E) : gW X h k n pc lc st := by
  refine gI_called hB (rest := rest) (a := As.toArray) (Po := Po) ?_ kv kx
  intro p l e R0 s m args below meth c A nL Q hX H locs ls hP hD hS hls T9 hT Y
  generalize hG : X.2.1 = G at hX hM hP
  subst hX
  obtain ⟨⟨hx, hb, hml, hown, hts⟩, hK, hZ, hA, hlk, hlt, hR⟩ := hB
  subst hR
  have hZ9 := hZ
  have hbk := g_back (l := l) (R := R0) (p := p) (e := e) (below := below) (s := s) (sargs := args) (len := 3) (W9 := 8) (hM l hlt H.size) gPc_blind cw.2.2.2.2.1 cw.2.2.2.2.2 (fun w hw a' U hW => pay_in hts cw.1 w hw a' U hW) (cw.code hts) (fun a' U hW => word_at hW (Or.inl (by first | rfl | simp [Cond.onTables, Cond.keeps, Cond.steady])) (hts _ hini))
  rcases hl with hl | ⟨host, hl⟩
  · exact gc_S Y hx hown (hts _ hl) (hts _ hstat) (hts _ hini) (cw.code hts args s (State.WarmedH.refl s)) cw.2.2.1 hbk rfl (by rw [hml]; exact hls.1) (argsL := As) (rest := rest) (fun sig hs => hn.trans (cw.len sig hs)) hst (by show 2 * 0 + _ ≤ 8; omega) (by rw [hb]; exact hd)
      (fun vm₁ hW₁ => ⟨hk9, hn9, gw_pre (av := As) hK hZ9 hA hP hD hS (U := T9.setVm vm₁) hT hW₁⟩)
  · exact gc_SN Y hx hown (va_Nw.use rfl (hK.2.2.2 _ hl rfl)) (hts _ hstat) (hts _ hini) (cw.code hts args s (State.WarmedH.refl s)) cw.2.2.1 hbk rfl (by rw [hml]; exact hls.1) (argsL := As) (rest := rest) (fun sig hs => hn.trans (cw.len sig hs)) hst (by show 2 * 0 + _ ≤ 8; omega) (by rw [hb]; exact hd)
      (fun vm₁ hW₁ => ⟨hk9, hn9, gw_pre (av := As) hK hZ9 hA hP hD hS (U := T9.setVm vm₁) hT hW₁⟩)
theorem gI_callI (hB : gB X R cc Ts own) {y : MethodName} {ws ws' : List Cond} {rm : Room} {bytes : ByteArray} {maxL n9 index b : Nat} {As rest : List Value} {Po : gPo}
    (hM : gMet y ws rm X.2.1 h (.ref b :: As) Po) (cw : gCW Ts ws y bytes maxL none rm R n9) (hw : ws = Cond.code y bytes maxL none :: ws') (hy1 : y.name = "<init>") (hl : Cond.methodLink own index y ∈ Ts ∨ ∃ host, Cond.methodLinkNest own index y host ∈ lw_tbl) (hinst : Cond.instanceMethod y ∈ Ts) (hini : Cond.initialized y.cls ∈ Ts)
    (hn : As.length = n9) (hst : st = As.reverse ++ .ref b :: rest) (hcat : (rest.map fun v => v.category).sum ≤ 8) (hk9 : k + rm.cells ≤ R.cells) (hn9 : n + rm.slots ≤ R.slots) (hd : decode cc pc = .ok (.invokespecial index, 3))
    (kv : ∀ (v : Option Value) (h1 : gH) (k1 n1 : Nat), Po (.inl v) h1 k1 n1 → gW X h1 (k + k1) (n + n1) (pc + 3) lc (v.toList ++ rest))
    (kx : ∀ (E : String) (h1 : gH) (k1 n1 : Nat), Po (.inr E) h1 k1 n1 → gWX X h1 (k + k1) (n + n1) pc lc rest E) : gW X h k n pc lc st := by
  refine gI_called hB (rest := rest) (a := (Value.ref b :: As).toArray) (Po := Po) ?_ kv kx
  intro p l e R0 s m args below meth c A nL Q hX H locs ls hP hD hS hls T9 hT Y
  generalize hG : X.2.1 = G at hX hM hP
  subst hX
  obtain ⟨⟨hx, hb, hml, hown, hts⟩, hK, hZ, hA, hlk, hlt, hR⟩ := hB
  subst hR
  have hZ9 := hZ
  have hbk := g_back (l := l) (R := R0) (p := p) (e := e) (below := below) (s := s) (sargs := args) (len := 3) (W9 := 8) (hM l hlt H.size) gPc_blind cw.2.2.2.2.1 cw.2.2.2.2.2 (fun w hw a' U hW => pay_in hts cw.1 w hw a' U hW) (cw.code hts) (fun a' U hW => word_at hW (Or.inl (by first | rfl | simp [Cond.onTables, Cond.keeps, Cond.steady])) (hts _ hini))
  have hcd : (Cond.code y bytes maxL none).before args s = true := hts _ (cw.1 _ (by rw [hw]; exact List.mem_cons_self)).1
  rcases hl with hl | ⟨host, hl⟩
  · exact gc_I Y hx hown hy1 (hts _ hl) (hts _ hinst) hcd cw.2.2.1 hbk rfl (by rw [hml]; exact hls.1) (a := b) (argsL := As) (rest := rest) (fun sig hs => hn.trans (cw.len sig hs)) hst (by show 2 * 0 + _ ≤ 8; omega) (by rw [hb]; exact hd)
      (fun vm₁ hW₁ => ⟨hk9, hn9, gw_pre (av := Value.ref b :: As) hK hZ9 hA hP hD hS (U := T9.setVm vm₁) hT hW₁⟩)
  · exact gc_IN Y hx hown hy1 (va_Nw.use rfl (hK.2.2.2 _ hl rfl)) (hts _ hinst) hcd cw.2.2.1 hbk rfl (by rw [hml]; exact hls.1) (a := b) (argsL := As) (rest := rest) (fun sig hs => hn.trans (cw.len sig hs)) hst (by show 2 * 0 + _ ≤ 8; omega) (by rw [hb]; exact hd)
      (fun vm₁ hW₁ => ⟨hk9, hn9, gw_pre (av := Value.ref b :: As) hK hZ9 hA hP hD hS (U := T9.setVm vm₁) hT hW₁⟩)
/-! ends -/
theorem g_leave {p : Program} {l : Launch} {e : Env} {R0 : Room} {s : State} {m : MethodId} {args : Array Value} {below : List Frame} {meth : Method} {c : Code} {H : Heap} {locs : List Loc} {G : gG} {A : Nat → Prop} {Po : gPo} {v : Option Value} {g : JFrame}
    (hP : va_P G.1 vwCl (gw h) H) (hD : va_D A (gw h)) (hS : va_S A s.heap H locs) (hpo : Po (.inl v) h k n)
    (kk : W p l e R0 s m args below meth c H locs k n (MQ below (fun _ st o t => t.heap = H ∧ o = .returned v) args s k n A) g) : W p l e R0 s m args below meth c H locs k n (gMQ below G A Po s) g := by
  intro T hT X
  obtain ⟨t, a1, o, b1, b2, ⟨b3, b4⟩, L, b5, b6⟩ := kk T hT X
  obtain ⟨⟨v9, hv9⟩, hW, hsm⟩ := b5
  refine ⟨t, a1, o, b1, b2, k, n, h, L, by rw [b3]; exact hP, hD, hW, hsm, b6, Or.inl ⟨v, b4, hpo⟩⟩
theorem gI_iret (hB : gB X R cc Ts own) {Po : gPo} {tb : List ExceptionTableEntry} {nm : String} (hE : gE X Po (some .int) tb nm) {v : Int32} (hd : decode cc pc = .ok (.ireturn, 1)) (hpo : Po (.inl (some (.int v))) h k n) : gW X h k n pc lc [.int v] := by
  obtain ⟨⟨p, l, e, R0, s, m, args, below, meth, c⟩, ⟨G, A, nL, Q⟩⟩ := X
  obtain ⟨⟨hx, hb, hml, hown, hts⟩, hK, hZ, hA, hlk, hlt, hR⟩ := hB
  obtain ⟨hQ, hr, -, -⟩ := hE
  intro H locs ls hP hD hS hls
  subst hQ
  exact g_leave hP hD hS hpo (W.iret hx hb hr (fun t ht _ => ⟨ht, rfl⟩) hS.2.2 hd hlk)
theorem gI_zret (hB : gB X R cc Ts own) {Po : gPo} {tb : List ExceptionTableEntry} {nm : String} (hE : gE X Po (some .boolean) tb nm) {v : Int32} (hv : narrow .boolean (.int v) = .int v) (hd : decode cc pc = .ok (.ireturn, 1)) (hpo : Po (.inl (some (.int v))) h k n) : gW X h k n pc lc [.int v] := by
  obtain ⟨⟨p, l, e, R0, s, m, args, below, meth, c⟩, ⟨G, A, nL, Q⟩⟩ := X
  obtain ⟨⟨hx, hb, hml, hown, hts⟩, hK, hZ, hA, hlk, hlt, hR⟩ := hB
  obtain ⟨hQ, hr, -, -⟩ := hE
  intro H locs ls hP hD hS hls
  subst hQ
  exact g_leave hP hD hS hpo (W.zret hx hb hr hv (fun t ht _ => ⟨ht, rfl⟩) hS.2.2 hd hlk)
theorem gI_vret (hB : gB X R cc Ts own) {Po : gPo} {tb : List ExceptionTableEntry} {nm : String} (hE : gE X Po none tb nm) (hd : decode cc pc = .ok (.return_, 1)) (hpo : Po (.inl none) h k n) : gW X h k n pc lc [] := by
  obtain ⟨⟨p, l, e, R0, s, m, args, below, meth, c⟩, ⟨G, A, nL, Q⟩⟩ := X
  obtain ⟨⟨hx, hb, hml, hown, hts⟩, hK, hZ, hA, hlk, hlt, hR⟩ := hB
  obtain ⟨hQ, hr, -, -⟩ := hE
  intro H locs ls hP hD hS hls
  subst hQ
  exact g_leave hP hD hS hpo (W.vret hx hb hr (fun t ht _ => ⟨ht, rfl⟩) hS.2.2 hd hlk)
theorem gI_aret (hB : gB X R cc Ts own) {Po : gPo} {tb : List ExceptionTableEntry} {nm : String} {rt : FieldType} (hE : gE X Po (some rt) tb nm) (hrt : (∃ n, rt = .object n) ∨ ∃ t, rt = .array t) {v : Value} (hv : v = .null ∨ ∃ a, v = .ref a) (hd : decode cc pc = .ok (.areturn, 1)) (hpo : Po (.inl (some v)) h k n) : gW X h k n pc lc [v] := by
  obtain ⟨⟨p, l, e, R0, s, m, args, below, meth, c⟩, ⟨G, A, nL, Q⟩⟩ := X
  obtain ⟨⟨hx, hb, hml, hown, hts⟩, hK, hZ, hA, hlk, hlt, hR⟩ := hB
  obtain ⟨hQ, hr, -, -⟩ := hE
  intro H locs ls hP hD hS hls
  subst hQ
  exact g_leave hP hD hS hpo (W.aret hx hb hr hrt hv (fun t ht _ => ⟨ht, rfl⟩) hS.2.2 hd hlk)
/-- an exception of the callee's leaves this method too -/
theorem gI_out (hB : gB X R cc Ts own) {Po : gPo} {ret : Option FieldType} {nm : String} (hE : gE X Po ret [] nm) {E : String} (hpo : Po (.inr E) h k n) : gWX X h k n pc lc st E := by
  obtain ⟨⟨p, l, e, R0, s, m, args, below, meth, c⟩, ⟨G, A, nL, Q⟩⟩ := X
  obtain ⟨⟨hx, hb, hml, hown, hts⟩, hK, hZ, hA, hlk, hlt, hR⟩ := hB
  obtain ⟨hQ, hr, htb, -⟩ := hE
  intro H locs ls q ce hP hD hS hls hce hcv hcl T hT Y
  subst hQ
  obtain ⟨st1, hrun, hend, hW, hsm⟩ := Y.leaveThrown q (g := F0 m pc ls st) rfl rfl rfl (fun x hx => by rw [htb] at hx; cases hx) hlk
  exact ⟨_, st1, .threw q, hrun, hend, k, n, h, locs, (show va_P G.1 vwCl (gw h) T.heap by rw [hT]; exact hP), hD, hW, hsm, hS.2.2, Or.inr ⟨q, E, ce, rfl, (show T.heap[q]? = some ce by rw [hT]; exact hce), hcv, hcl, hpo⟩⟩
/-- 'throw new E()' -/
theorem gI_throw (hB : gB X R cc Ts own) {Po : gPo} {ret : Option FieldType} {nm : String} (hE : gE X Po ret [] nm) {cls : String} {names : List String} {ik ic : Nat} (hcls : Bundle.fit cls = true) (hnames : ∀ n ∈ names, Bundle.fit n = true)
    (hk : Cond.classLink own ik cls ∈ Ts) (hini : Cond.initialized cls ∈ Ts) (hat1 : ∀ w ∈ (vx_at0 own ic cls names).filter goodWord, w ∈ Ts) (hat2 : ((vx_at0 own ic cls names).filter (fun w => !goodWord w)).all (fun w => gKind w && decide (w ∈ lw_tbl)) = true)
    (hgood : (Cond.classLink own ik cls :: Cond.initialized cls :: vx_at0 own ic cls names).all vx_ot = true)
    (d0 : decode cc pc = .ok (.new ik, 3)) (d3 : decode cc (pc + 3) = .ok (.dup, 1)) (d4 : decode cc (pc + 4) = .ok (.invokespecial ic, 3)) (d7 : decode cc (pc + 7) = .ok (.athrow, 1))
    (hf : names.length + 3 < R.frames) (hlo : (st.map fun v => v.category).sum + (13 * (names.length + 1) + 42) ≤ R.locals) (hk9 : k + 1 ≤ R.cells) (hn9 : n + 6 ≤ R.slots) (hpo : Po (.inr cls) h (k + 1) (n + 6)) : gW X h k n pc lc st := by
  obtain ⟨⟨p, l, e, R0, s, m, args, below, meth, c⟩, ⟨G, A, nL, Q⟩⟩ := X
  obtain ⟨⟨hx, hb, hml, hown, hts⟩, hK, hZ, hA, hlk, hlt, hR⟩ := hB
  obtain ⟨hQ, hr, htb, -⟩ := hE
  subst hR
  intro H locs ls hP hD hS hls
  subst hQ
  have hat : ∀ w ∈ vx_at0 own ic cls names, w.before args s = true := by
    intro w hw
    by_cases hg : goodWord w = true
    · exact hts _ (hat1 w (List.mem_filter.mpr ⟨hw, hg⟩))
    · have h2 := List.all_eq_true.mp hat2 w (List.mem_filter.mpr ⟨hw, by simpa using hg⟩)
      simp only [Bool.and_eq_true, decide_eq_true_eq] at h2
      have h3 := hK.2.2.2 w h2.2 h2.1
      refine va_Nw.use ?_ h3
      have h4 := List.all_eq_true.mp hgood w (List.mem_cons_of_mem _ (List.mem_cons_of_mem _ hw))
      simp only [vx_ot, Bool.or_eq_true] at h4
      rcases h4 with h4 | h4
      · exact h4
      · exact absurd h4 hg
  have hXC := vx_throw0 (e := e) (below := below) (Qc := fun _ _ _ _ => False) (XC := fun E s t => E = cls ∧ va_P G.1 vwCl (gw h) t.heap) (free := A) (mc := k + 1) (ms := n + 6) (H := H) (locs := locs) (cells := k) (slots := n) (ls := ls) (rest := st) hx hb hlt hown hcls hnames (hts _ hk) (hts _ hini) hat (fun w hw => List.all_eq_true.mp hgood w hw) hZ.2.2.1 hZ.2.2.2 hS (by rw [hml]; exact hls.1) d0 d3 d4 d7 (fun x hx => by rw [htb] at hx; cases hx) hf hlo hk9 hn9 hlk
    (fun t hal f1 f2 => ⟨rfl, hP.kept (fun k0 q hq => f2 q.1 ((hP k0 q hq).lt))⟩) hS.2.2 (Nat.le_refl _) (Nat.le_refl _)
  intro T hT Y
  obtain ⟨t, a1, o, b1, b2, b3⟩ := hXC T hT Y
  rcases b3 with ⟨b3, -⟩ | ⟨q, rfl, E, ce, L, ⟨rfl, hPt⟩, hce, hcv, hcl, hW, hsm, hL⟩
  · exact b3.elim
  · exact ⟨t, a1, .threw q, b1, b2, k + 1, n + 6, h, L, hPt, hD, hW, hsm, hL, Or.inr ⟨q, E, ce, rfl, hce, hcv, hcl, hpo⟩⟩
end GRows
