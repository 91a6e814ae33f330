section Rows
variable {D : va_G} {t : Nat → ClassId} {E : gx_E} {l : Launch} {R : Room} {cc : ByteArray} {own : String} {nL : Nat} {J : gx_J} {k n : Nat} {w : va_W} {pc : Nat} {L : List (Nat × Value)} {st : List Value}
theorem j_iconst (g : gx_G D t E l R cc own nL J) {z : Int} {v : Int32} (hd : decode cc pc = .ok (.iconst z, 1)) (hv : Int32.ofInt z = v) (kk : J k n w (pc + 1) L (.int v :: st)) : J k n w (pc) L (st) := by
  obtain ⟨p, e, s, m, args, below, meth, c, A, Q, rfl, hx, hb, hml, hown, hts, hK, hA, hE⟩ := g
  intro H locs ls hP hD hS hl
  exact lv_iconst hx hb hd hv (kk H locs ls hP hD hS hl)
theorem j_bipush (g : gx_G D t E l R cc own nL J) {z : Int} {v : Int32} (hd : decode cc pc = .ok (.bipush z, 2)) (hv : (Int8.ofInt z).toInt32 = v) (kk : J k n w (pc + 2) L (.int v :: st)) : J k n w (pc) L (st) := by
  obtain ⟨p, e, s, m, args, below, meth, c, A, Q, rfl, hx, hb, hml, hown, hts, hK, hA, hE⟩ := g
  intro H locs ls hP hD hS hl
  exact lv_bipush hx hb hd hv (kk H locs ls hP hD hS hl)
theorem j_sipush (g : gx_G D t E l R cc own nL J) {z : Int} {v : Int32} (hd : decode cc pc = .ok (.sipush z, 3)) (hv : (Int16.ofInt z).toInt32 = v) (kk : J k n w (pc + 3) L (.int v :: st)) : J k n w (pc) L (st) := by
  obtain ⟨p, e, s, m, args, below, meth, c, A, Q, rfl, hx, hb, hml, hown, hts, hK, hA, hE⟩ := g
  intro H locs ls hP hD hS hl
  exact lv_sipush hx hb hd hv (kk H locs ls hP hD hS hl)
theorem j_iload_n (g : gx_G D t E l R cc own nL J) {i : Fin 4} (j : Nat) {x : Int32} (hd : decode cc pc = .ok (.iload_n i, 1)) (hL : L[j]? = some ((i : Nat), .int x)) (kk : J k n w (pc + 1) L (.int x :: st)) : J k n w (pc) L (st) := by
  obtain ⟨p, e, s, m, args, below, meth, c, A, Q, rfl, hx, hb, hml, hown, hts, hK, hA, hE⟩ := g
  intro H locs ls hP hD hS hl
  exact lv_iload_n hx hb hd rfl (lv_at hl j hL) (kk H locs ls hP hD hS hl)
theorem j_iload (g : gx_G D t E l R cc own nL J) {i : Nat} (j : Nat) {x : Int32} (hd : decode cc pc = .ok (.iload i, 2)) (hL : L[j]? = some (i, .int x)) (kk : J k n w (pc + 2) L (.int x :: st)) : J k n w (pc) L (st) := by
  obtain ⟨p, e, s, m, args, below, meth, c, A, Q, rfl, hx, hb, hml, hown, hts, hK, hA, hE⟩ := g
  intro H locs ls hP hD hS hl
  exact lv_iload hx hb hd (lv_at hl j hL) (kk H locs ls hP hD hS hl)
theorem j_istore_n (g : gx_G D t E l R cc own nL J) {q : Fin 4} {i : Nat} {x : Int32} {L' : List (Nat × Value)} (hd : decode cc pc = .ok (.istore_n q, 1)) (hi : (q : Nat) = i) (hn : i < nL) (hL : (i, Value.int x) :: L.filter (fun q => !(q.1 == i) && !(q.1 + 1 == i && q.2.category == 2)) = L') (kk : J k n w (pc + 1) L' (st)) : J k n w (pc) L (.int x :: st) := by
  obtain ⟨p, e, s, m, args, below, meth, c, A, Q, rfl, hx, hb, hml, hown, hts, hK, hA, hE⟩ := g
  intro H locs ls hP hD hS hl
  exact lv_istore_n hx hb hd hi hl hn hL (fun ls hl => kk H locs ls hP hD hS hl)
theorem j_istore (g : gx_G D t E l R cc own nL J) {i : Nat} {x : Int32} {L' : List (Nat × Value)} (hd : decode cc pc = .ok (.istore i, 2)) (hn : i < nL) (hL : (i, Value.int x) :: L.filter (fun q => !(q.1 == i) && !(q.1 + 1 == i && q.2.category == 2)) = L') (kk : J k n w (pc + 2) L' (st)) : J k n w (pc) L (.int x :: st) := by
  obtain ⟨p, e, s, m, args, below, meth, c, A, Q, rfl, hx, hb, hml, hown, hts, hK, hA, hE⟩ := g
  intro H locs ls hP hD hS hl
  exact lv_istore hx hb hd hl hn hL (fun ls hl => kk H locs ls hP hD hS hl)
theorem j_aload_n (g : gx_G D t E l R cc own nL J) {i : Fin 4} (j : Nat) {x : Nat} (hd : decode cc pc = .ok (.aload_n i, 1)) (hL : L[j]? = some ((i : Nat), .ref x)) (kk : J k n w (pc + 1) L (.ref x :: st)) : J k n w (pc) L (st) := by
  obtain ⟨p, e, s, m, args, below, meth, c, A, Q, rfl, hx, hb, hml, hown, hts, hK, hA, hE⟩ := g
  intro H locs ls hP hD hS hl
  exact lv_aload_n hx hb hd rfl (lv_at hl j hL) (kk H locs ls hP hD hS hl)
theorem j_aload (g : gx_G D t E l R cc own nL J) {i : Nat} (j : Nat) {x : Nat} (hd : decode cc pc = .ok (.aload i, 2)) (hL : L[j]? = some (i, .ref x)) (kk : J k n w (pc + 2) L (.ref x :: st)) : J k n w (pc) L (st) := by
  obtain ⟨p, e, s, m, args, below, meth, c, A, Q, rfl, hx, hb, hml, hown, hts, hK, hA, hE⟩ := g
  intro H locs ls hP hD hS hl
  exact lv_aload hx hb hd (lv_at hl j hL) (kk H locs ls hP hD hS hl)
theorem j_astore_n (g : gx_G D t E l R cc own nL J) {q : Fin 4} {i : Nat} {x : Nat} {L' : List (Nat × Value)} (hd : decode cc pc = .ok (.astore_n q, 1)) (hi : (q : Nat) = i) (hn : i < nL) (hL : (i, Value.ref x) :: L.filter (fun q => !(q.1 == i) && !(q.1 + 1 == i && q.2.category == 2)) = L') (kk : J k n w (pc + 1) L' (st)) : J k n w (pc) L (.ref x :: st) := by
  obtain ⟨p, e, s, m, args, below, meth, c, A, Q, rfl, hx, hb, hml, hown, hts, hK, hA, hE⟩ := g
  intro H locs ls hP hD hS hl
  exact lv_astore_n hx hb hd hi hl hn hL (fun ls hl => kk H locs ls hP hD hS hl)
theorem j_astore (g : gx_G D t E l R cc own nL J) {i : Nat} {x : Nat} {L' : List (Nat × Value)} (hd : decode cc pc = .ok (.astore i, 2)) (hn : i < nL) (hL : (i, Value.ref x) :: L.filter (fun q => !(q.1 == i) && !(q.1 + 1 == i && q.2.category == 2)) = L') (kk : J k n w (pc + 2) L' (st)) : J k n w (pc) L (.ref x :: st) := by
  obtain ⟨p, e, s, m, args, below, meth, c, A, Q, rfl, hx, hb, hml, hown, hts, hK, hA, hE⟩ := g
  intro H locs ls hP hD hS hl
  exact lv_astore hx hb hd hl hn hL (fun ls hl => kk H locs ls hP hD hS hl)
theorem j_lload_n (g : gx_G D t E l R cc own nL J) {i : Fin 4} (j : Nat) {x : Int64} (hd : decode cc pc = .ok (.lload_n i, 1)) (hL : L[j]? = some ((i : Nat), .long x)) (kk : J k n w (pc + 1) L (.long x :: st)) : J k n w (pc) L (st) := by
  obtain ⟨p, e, s, m, args, below, meth, c, A, Q, rfl, hx, hb, hml, hown, hts, hK, hA, hE⟩ := g
  intro H locs ls hP hD hS hl
  exact lv_lload_n hx hb hd rfl (lv_at hl j hL) (kk H locs ls hP hD hS hl)
theorem j_lload (g : gx_G D t E l R cc own nL J) {i : Nat} (j : Nat) {x : Int64} (hd : decode cc pc = .ok (.lload i, 2)) (hL : L[j]? = some (i, .long x)) (kk : J k n w (pc + 2) L (.long x :: st)) : J k n w (pc) L (st) := by
  obtain ⟨p, e, s, m, args, below, meth, c, A, Q, rfl, hx, hb, hml, hown, hts, hK, hA, hE⟩ := g
  intro H locs ls hP hD hS hl
  exact lv_lload hx hb hd (lv_at hl j hL) (kk H locs ls hP hD hS hl)
theorem j_lstore_n (g : gx_G D t E l R cc own nL J) {q : Fin 4} {i : Nat} {x : Int64} {L' : List (Nat × Value)} (hd : decode cc pc = .ok (.lstore_n q, 1)) (hi : (q : Nat) = i) (hn : i + 1 < nL) (hL : (i, Value.long x) :: L.filter (fun q => !(q.1 == i) && (!(q.1 == i + 1) && !(q.1 + 1 == i && q.2.category == 2))) = L') (kk : J k n w (pc + 1) L' (st)) : J k n w (pc) L (.long x :: st) := by
  obtain ⟨p, e, s, m, args, below, meth, c, A, Q, rfl, hx, hb, hml, hown, hts, hK, hA, hE⟩ := g
  intro H locs ls hP hD hS hl
  exact lv_lstore_n hx hb hd hi hl hn hL (fun ls hl => kk H locs ls hP hD hS hl)
theorem j_lstore (g : gx_G D t E l R cc own nL J) {i : Nat} {x : Int64} {L' : List (Nat × Value)} (hd : decode cc pc = .ok (.lstore i, 2)) (hn : i + 1 < nL) (hL : (i, Value.long x) :: L.filter (fun q => !(q.1 == i) && (!(q.1 == i + 1) && !(q.1 + 1 == i && q.2.category == 2))) = L') (kk : J k n w (pc + 2) L' (st)) : J k n w (pc) L (.long x :: st) := by
  obtain ⟨p, e, s, m, args, below, meth, c, A, Q, rfl, hx, hb, hml, hown, hts, hK, hA, hE⟩ := g
  intro H locs ls hP hD hS hl
  exact lv_lstore hx hb hd hl hn hL (fun ls hl => kk H locs ls hP hD hS hl)
theorem j_dload_n (g : gx_G D t E l R cc own nL J) {i : Fin 4} (j : Nat) {x : UInt64} (hd : decode cc pc = .ok (.dload_n i, 1)) (hL : L[j]? = some ((i : Nat), .double x)) (kk : J k n w (pc + 1) L (.double x :: st)) : J k n w (pc) L (st) := by
  obtain ⟨p, e, s, m, args, below, meth, c, A, Q, rfl, hx, hb, hml, hown, hts, hK, hA, hE⟩ := g
  intro H locs ls hP hD hS hl
  exact lv_dload_n hx hb hd rfl (lv_at hl j hL) (kk H locs ls hP hD hS hl)
theorem j_dload (g : gx_G D t E l R cc own nL J) {i : Nat} (j : Nat) {x : UInt64} (hd : decode cc pc = .ok (.dload i, 2)) (hL : L[j]? = some (i, .double x)) (kk : J k n w (pc + 2) L (.double x :: st)) : J k n w (pc) L (st) := by
  obtain ⟨p, e, s, m, args, below, meth, c, A, Q, rfl, hx, hb, hml, hown, hts, hK, hA, hE⟩ := g
  intro H locs ls hP hD hS hl
  exact lv_dload hx hb hd (lv_at hl j hL) (kk H locs ls hP hD hS hl)
theorem j_dstore_n (g : gx_G D t E l R cc own nL J) {q : Fin 4} {i : Nat} {x : UInt64} {L' : List (Nat × Value)} (hd : decode cc pc = .ok (.dstore_n q, 1)) (hi : (q : Nat) = i) (hn : i + 1 < nL) (hL : (i, Value.double x) :: L.filter (fun q => !(q.1 == i) && (!(q.1 == i + 1) && !(q.1 + 1 == i && q.2.category == 2))) = L') (kk : J k n w (pc + 1) L' (st)) : J k n w (pc) L (.double x :: st) := by
  obtain ⟨p, e, s, m, args, below, meth, c, A, Q, rfl, hx, hb, hml, hown, hts, hK, hA, hE⟩ := g
  intro H locs ls hP hD hS hl
  exact lv_dstore_n hx hb hd hi hl hn hL (fun ls hl => kk H locs ls hP hD hS hl)
theorem j_dstore (g : gx_G D t E l R cc own nL J) {i : Nat} {x : UInt64} {L' : List (Nat × Value)} (hd : decode cc pc = .ok (.dstore i, 2)) (hn : i + 1 < nL) (hL : (i, Value.double x) :: L.filter (fun q => !(q.1 == i) && (!(q.1 == i + 1) && !(q.1 + 1 == i && q.2.category == 2))) = L') (kk : J k n w (pc + 2) L' (st)) : J k n w (pc) L (.double x :: st) := by
  obtain ⟨p, e, s, m, args, below, meth, c, A, Q, rfl, hx, hb, hml, hown, hts, hK, hA, hE⟩ := g
  intro H locs ls hP hD hS hl
  exact lv_dstore hx hb hd hl hn hL (fun ls hl => kk H locs ls hP hD hS hl)
theorem j_fload_n (g : gx_G D t E l R cc own nL J) {i : Fin 4} (j : Nat) {x : UInt32} (hd : decode cc pc = .ok (.fload_n i, 1)) (hL : L[j]? = some ((i : Nat), .float x)) (kk : J k n w (pc + 1) L (.float x :: st)) : J k n w (pc) L (st) := by
  obtain ⟨p, e, s, m, args, below, meth, c, A, Q, rfl, hx, hb, hml, hown, hts, hK, hA, hE⟩ := g
  intro H locs ls hP hD hS hl
  exact lv_fload_n hx hb hd rfl (lv_at hl j hL) (kk H locs ls hP hD hS hl)
theorem j_fload (g : gx_G D t E l R cc own nL J) {i : Nat} (j : Nat) {x : UInt32} (hd : decode cc pc = .ok (.fload i, 2)) (hL : L[j]? = some (i, .float x)) (kk : J k n w (pc + 2) L (.float x :: st)) : J k n w (pc) L (st) := by
  obtain ⟨p, e, s, m, args, below, meth, c, A, Q, rfl, hx, hb, hml, hown, hts, hK, hA, hE⟩ := g
  intro H locs ls hP hD hS hl
  exact lv_fload hx hb hd (lv_at hl j hL) (kk H locs ls hP hD hS hl)
theorem j_fstore_n (g : gx_G D t E l R cc own nL J) {q : Fin 4} {i : Nat} {x : UInt32} {L' : List (Nat × Value)} (hd : decode cc pc = .ok (.fstore_n q, 1)) (hi : (q : Nat) = i) (hn : i < nL) (hL : (i, Value.float x) :: L.filter (fun q => !(q.1 == i) && !(q.1 + 1 == i && q.2.category == 2)) = L') (kk : J k n w (pc + 1) L' (st)) : J k n w (pc) L (.float x :: st) := by
  obtain ⟨p, e, s, m, args, below, meth, c, A, Q, rfl, hx, hb, hml, hown, hts, hK, hA, hE⟩ := g
  intro H locs ls hP hD hS hl
  exact lv_fstore_n hx hb hd hi hl hn hL (fun ls hl => kk H locs ls hP hD hS hl)
theorem j_fstore (g : gx_G D t E l R cc own nL J) {i : Nat} {x : UInt32} {L' : List (Nat × Value)} (hd : decode cc pc = .ok (.fstore i, 2)) (hn : i < nL) (hL : (i, Value.float x) :: L.filter (fun q => !(q.1 == i) && !(q.1 + 1 == i && q.2.category == 2)) = L') (kk : J k n w (pc + 2) L' (st)) : J k n w (pc) L (.float x :: st) := by
  obtain ⟨p, e, s, m, args, below, meth, c, A, Q, rfl, hx, hb, hml, hown, hts, hK, hA, hE⟩ := g
  intro H locs ls hP hD hS hl
  exact lv_fstore hx hb hd hl hn hL (fun ls hl => kk H locs ls hP hD hS hl)
theorem j_iinc (g : gx_G D t E l R cc own nL J) {i : Nat} {z : Int} (j : Nat) {x v : Int32} {L' : List (Nat × Value)} (hd : decode cc pc = .ok (.iinc i z, 3)) (hk : L[j]? = some (i, .int x)) (hv : x + Int32.ofInt z = v) (hn : i < nL) (hL : (i, Value.int v) :: L.filter (fun q => !(q.1 == i) && !(q.1 + 1 == i && q.2.category == 2)) = L') (kk : J k n w (pc + 3) L' (st)) : J k n w (pc) L (st) := by
  obtain ⟨p, e, s, m, args, below, meth, c, A, Q, rfl, hx, hb, hml, hown, hts, hK, hA, hE⟩ := g
  intro H locs ls hP hD hS hl
  exact lv_iinc hx hb hd hl hk hv hn hL (fun ls hl => kk H locs ls hP hD hS hl)
theorem j_sub (g : gx_G D t E l R cc own nL J) {L' : List (Nat × Value)} (ks : List Nat) (hL : lv_pick L ks = L') (kk : J k n w pc L' st) : J k n w pc L st := by
  obtain ⟨p, e, s, m, args, below, meth, c, A, Q, rfl, hx, hb, hml, hown, hts, hK, hA, hE⟩ := g
  intro H locs ls hP hD hS hl
  exact kk H locs ls hP hD hS (lv_sub hl ks hL)
theorem j_iadd (g : gx_G D t E l R cc own nL J) {x y : Int32} (hd : decode cc pc = .ok (.iadd, 1)) (kk : J k n w (pc + 1) L (.int (x + y) :: st)) : J k n w (pc) L (.int y :: .int x :: st) := by
  obtain ⟨p, e, s, m, args, below, meth, c, A, Q, rfl, hx, hb, hml, hown, hts, hK, hA, hE⟩ := g
  intro H locs ls hP hD hS hl
  exact lv_iadd hx hb hd (kk H locs ls hP hD hS hl)
theorem j_isub (g : gx_G D t E l R cc own nL J) {x y : Int32} (hd : decode cc pc = .ok (.isub, 1)) (kk : J k n w (pc + 1) L (.int (x - y) :: st)) : J k n w (pc) L (.int y :: .int x :: st) := by
  obtain ⟨p, e, s, m, args, below, meth, c, A, Q, rfl, hx, hb, hml, hown, hts, hK, hA, hE⟩ := g
  intro H locs ls hP hD hS hl
  exact lv_isub hx hb hd (kk H locs ls hP hD hS hl)
theorem j_imul (g : gx_G D t E l R cc own nL J) {x y : Int32} (hd : decode cc pc = .ok (.imul, 1)) (kk : J k n w (pc + 1) L (.int (x * y) :: st)) : J k n w (pc) L (.int y :: .int x :: st) := by
  obtain ⟨p, e, s, m, args, below, meth, c, A, Q, rfl, hx, hb, hml, hown, hts, hK, hA, hE⟩ := g
  intro H locs ls hP hD hS hl
  exact lv_imul hx hb hd (kk H locs ls hP hD hS hl)
theorem j_iand (g : gx_G D t E l R cc own nL J) {x y : Int32} (hd : decode cc pc = .ok (.iand, 1)) (kk : J k n w (pc + 1) L (.int (x &&& y) :: st)) : J k n w (pc) L (.int y :: .int x :: st) := by
  obtain ⟨p, e, s, m, args, below, meth, c, A, Q, rfl, hx, hb, hml, hown, hts, hK, hA, hE⟩ := g
  intro H locs ls hP hD hS hl
  exact lv_iand hx hb hd (kk H locs ls hP hD hS hl)
theorem j_idiv (g : gx_G D t E l R cc own nL J) {x y : Int32} (hd : decode cc pc = .ok (.idiv, 1)) (hne : ¬ y = 0) (kk : J k n w (pc + 1) L (.int (x / y) :: st)) : J k n w (pc) L (.int y :: .int x :: st) := by
  obtain ⟨p, e, s, m, args, below, meth, c, A, Q, rfl, hx, hb, hml, hown, hts, hK, hA, hE⟩ := g
  intro H locs ls hP hD hS hl
  exact lv_idiv hx hb hd hne (kk H locs ls hP hD hS hl)
theorem j_irem (g : gx_G D t E l R cc own nL J) {x y : Int32} (hd : decode cc pc = .ok (.irem, 1)) (hne : ¬ y = 0) (kk : J k n w (pc + 1) L (.int (x - x / y * y) :: st)) : J k n w (pc) L (.int y :: .int x :: st) := by
  obtain ⟨p, e, s, m, args, below, meth, c, A, Q, rfl, hx, hb, hml, hown, hts, hK, hA, hE⟩ := g
  intro H locs ls hP hD hS hl
  exact lv_irem hx hb hd hne (kk H locs ls hP hD hS hl)
theorem j_i2l (g : gx_G D t E l R cc own nL J) {x : Int32} (hd : decode cc pc = .ok (.i2l, 1)) (kk : J k n w (pc + 1) L (.long x.toInt64 :: st)) : J k n w (pc) L (.int x :: st) := by
  obtain ⟨p, e, s, m, args, below, meth, c, A, Q, rfl, hx, hb, hml, hown, hts, hK, hA, hE⟩ := g
  intro H locs ls hP hD hS hl
  exact lv_i2l hx hb hd rfl (kk H locs ls hP hD hS hl)
theorem j_i2c (g : gx_G D t E l R cc own nL J) {x : Int32} (hd : decode cc pc = .ok (.i2c, 1)) (kk : J k n w (pc + 1) L (.int (x.toUInt32 % 65536).toInt32 :: st)) : J k n w (pc) L (.int x :: st) := by
  obtain ⟨p, e, s, m, args, below, meth, c, A, Q, rfl, hx, hb, hml, hown, hts, hK, hA, hE⟩ := g
  intro H locs ls hP hD hS hl
  exact lv_i2c hx hb hd rfl (kk H locs ls hP hD hS hl)
theorem j_dup (g : gx_G D t E l R cc own nL J) {v : Value} (hd : decode cc pc = .ok (.dup, 1)) (hc : v.category = 1) (kk : J k n w (pc + 1) L (v :: v :: st)) : J k n w (pc) L (v :: st) := by
  obtain ⟨p, e, s, m, args, below, meth, c, A, Q, rfl, hx, hb, hml, hown, hts, hK, hA, hE⟩ := g
  intro H locs ls hP hD hS hl
  exact lv_dup hx hb hd hc (kk H locs ls hP hD hS hl)
theorem j_pop (g : gx_G D t E l R cc own nL J) {v : Value} (hd : decode cc pc = .ok (.pop, 1)) (hc : v.category = 1) (kk : J k n w (pc + 1) L (st)) : J k n w (pc) L (v :: st) := by
  obtain ⟨p, e, s, m, args, below, meth, c, A, Q, rfl, hx, hb, hml, hown, hts, hK, hA, hE⟩ := g
  intro H locs ls hP hD hS hl
  exact lv_pop hx hb hd hc (kk H locs ls hP hD hS hl)
theorem j_dup2 (g : gx_G D t E l R cc own nL J) {va vb : Value} (hd : decode cc pc = .ok (.dup2, 1)) (ha : va.category = 1) (hc : vb.category = 1) (kk : J k n w (pc + 1) L (va :: vb :: va :: vb :: st)) : J k n w (pc) L (va :: vb :: st) := by
  obtain ⟨p, e, s, m, args, below, meth, c, A, Q, rfl, hx, hb, hml, hown, hts, hK, hA, hE⟩ := g
  intro H locs ls hP hD hS hl
  exact lv_dup2_11 hx hb hd ha hc (kk H locs ls hP hD hS hl)
theorem j_if_eq (g : gx_G D t E l R cc own nL J) {x : Int32} {off : Int} {tgt : Nat} (hd : decode cc pc = .ok (.ifCond .eq off, 3)) (ht : (pc : Int) + off = (tgt : Int)) (kt : x = 0 → J k n w (tgt) L (st)) (kf : ¬ x = 0 → J k n w (pc + 3) L (st)) : J k n w (pc) L (.int x :: st) := by
  obtain ⟨p, e, s, m, args, below, meth, c, A, Q, rfl, hx, hb, hml, hown, hts, hK, hA, hE⟩ := g
  intro H locs ls hP hD hS hl
  exact lv_if_eq hx hb hd ht (fun q => kt q H locs ls hP hD hS hl) (fun q => kf q H locs ls hP hD hS hl)
theorem j_icmp_eq (g : gx_G D t E l R cc own nL J) {x y : Int32} {off : Int} {tgt : Nat} (hd : decode cc pc = .ok (.if_icmp .eq off, 3)) (ht : (pc : Int) + off = (tgt : Int)) (kt : x = y → J k n w (tgt) L (st)) (kf : ¬ x = y → J k n w (pc + 3) L (st)) : J k n w (pc) L (.int y :: .int x :: st) := by
  obtain ⟨p, e, s, m, args, below, meth, c, A, Q, rfl, hx, hb, hml, hown, hts, hK, hA, hE⟩ := g
  intro H locs ls hP hD hS hl
  exact lv_icmp_eq hx hb hd ht (fun q => kt q H locs ls hP hD hS hl) (fun q => kf q H locs ls hP hD hS hl)
theorem j_if_ne (g : gx_G D t E l R cc own nL J) {x : Int32} {off : Int} {tgt : Nat} (hd : decode cc pc = .ok (.ifCond .ne off, 3)) (ht : (pc : Int) + off = (tgt : Int)) (kt : ¬ x = 0 → J k n w (tgt) L (st)) (kf : x = 0 → J k n w (pc + 3) L (st)) : J k n w (pc) L (.int x :: st) := by
  obtain ⟨p, e, s, m, args, below, meth, c, A, Q, rfl, hx, hb, hml, hown, hts, hK, hA, hE⟩ := g
  intro H locs ls hP hD hS hl
  exact lv_if_ne hx hb hd ht (fun q => kt q H locs ls hP hD hS hl) (fun q => kf q H locs ls hP hD hS hl)
theorem j_icmp_ne (g : gx_G D t E l R cc own nL J) {x y : Int32} {off : Int} {tgt : Nat} (hd : decode cc pc = .ok (.if_icmp .ne off, 3)) (ht : (pc : Int) + off = (tgt : Int)) (kt : ¬ x = y → J k n w (tgt) L (st)) (kf : x = y → J k n w (pc + 3) L (st)) : J k n w (pc) L (.int y :: .int x :: st) := by
  obtain ⟨p, e, s, m, args, below, meth, c, A, Q, rfl, hx, hb, hml, hown, hts, hK, hA, hE⟩ := g
  intro H locs ls hP hD hS hl
  exact lv_icmp_ne hx hb hd ht (fun q => kt q H locs ls hP hD hS hl) (fun q => kf q H locs ls hP hD hS hl)
theorem j_if_lt (g : gx_G D t E l R cc own nL J) {x : Int32} {off : Int} {tgt : Nat} (hd : decode cc pc = .ok (.ifCond .lt off, 3)) (ht : (pc : Int) + off = (tgt : Int)) (kt : x < 0 → J k n w (tgt) L (st)) (kf : ¬ x < 0 → J k n w (pc + 3) L (st)) : J k n w (pc) L (.int x :: st) := by
  obtain ⟨p, e, s, m, args, below, meth, c, A, Q, rfl, hx, hb, hml, hown, hts, hK, hA, hE⟩ := g
  intro H locs ls hP hD hS hl
  exact lv_if_lt hx hb hd ht (fun q => kt q H locs ls hP hD hS hl) (fun q => kf q H locs ls hP hD hS hl)
theorem j_icmp_lt (g : gx_G D t E l R cc own nL J) {x y : Int32} {off : Int} {tgt : Nat} (hd : decode cc pc = .ok (.if_icmp .lt off, 3)) (ht : (pc : Int) + off = (tgt : Int)) (kt : x < y → J k n w (tgt) L (st)) (kf : ¬ x < y → J k n w (pc + 3) L (st)) : J k n w (pc) L (.int y :: .int x :: st) := by
  obtain ⟨p, e, s, m, args, below, meth, c, A, Q, rfl, hx, hb, hml, hown, hts, hK, hA, hE⟩ := g
  intro H locs ls hP hD hS hl
  exact lv_icmp_lt hx hb hd ht (fun q => kt q H locs ls hP hD hS hl) (fun q => kf q H locs ls hP hD hS hl)
theorem j_if_ge (g : gx_G D t E l R cc own nL J) {x : Int32} {off : Int} {tgt : Nat} (hd : decode cc pc = .ok (.ifCond .ge off, 3)) (ht : (pc : Int) + off = (tgt : Int)) (kt : 0 ≤ x → J k n w (tgt) L (st)) (kf : ¬ 0 ≤ x → J k n w (pc + 3) L (st)) : J k n w (pc) L (.int x :: st) := by
  obtain ⟨p, e, s, m, args, below, meth, c, A, Q, rfl, hx, hb, hml, hown, hts, hK, hA, hE⟩ := g
  intro H locs ls hP hD hS hl
  exact lv_if_ge hx hb hd ht (fun q => kt q H locs ls hP hD hS hl) (fun q => kf q H locs ls hP hD hS hl)
theorem j_icmp_ge (g : gx_G D t E l R cc own nL J) {x y : Int32} {off : Int} {tgt : Nat} (hd : decode cc pc = .ok (.if_icmp .ge off, 3)) (ht : (pc : Int) + off = (tgt : Int)) (kt : y ≤ x → J k n w (tgt) L (st)) (kf : ¬ y ≤ x → J k n w (pc + 3) L (st)) : J k n w (pc) L (.int y :: .int x :: st) := by
  obtain ⟨p, e, s, m, args, below, meth, c, A, Q, rfl, hx, hb, hml, hown, hts, hK, hA, hE⟩ := g
  intro H locs ls hP hD hS hl
  exact lv_icmp_ge hx hb hd ht (fun q => kt q H locs ls hP hD hS hl) (fun q => kf q H locs ls hP hD hS hl)
theorem j_if_gt (g : gx_G D t E l R cc own nL J) {x : Int32} {off : Int} {tgt : Nat} (hd : decode cc pc = .ok (.ifCond .gt off, 3)) (ht : (pc : Int) + off = (tgt : Int)) (kt : 0 < x → J k n w (tgt) L (st)) (kf : ¬ 0 < x → J k n w (pc + 3) L (st)) : J k n w (pc) L (.int x :: st) := by
  obtain ⟨p, e, s, m, args, below, meth, c, A, Q, rfl, hx, hb, hml, hown, hts, hK, hA, hE⟩ := g
  intro H locs ls hP hD hS hl
  exact lv_if_gt hx hb hd ht (fun q => kt q H locs ls hP hD hS hl) (fun q => kf q H locs ls hP hD hS hl)
theorem j_icmp_gt (g : gx_G D t E l R cc own nL J) {x y : Int32} {off : Int} {tgt : Nat} (hd : decode cc pc = .ok (.if_icmp .gt off, 3)) (ht : (pc : Int) + off = (tgt : Int)) (kt : y < x → J k n w (tgt) L (st)) (kf : ¬ y < x → J k n w (pc + 3) L (st)) : J k n w (pc) L (.int y :: .int x :: st) := by
  obtain ⟨p, e, s, m, args, below, meth, c, A, Q, rfl, hx, hb, hml, hown, hts, hK, hA, hE⟩ := g
  intro H locs ls hP hD hS hl
  exact lv_icmp_gt hx hb hd ht (fun q => kt q H locs ls hP hD hS hl) (fun q => kf q H locs ls hP hD hS hl)
theorem j_if_le (g : gx_G D t E l R cc own nL J) {x : Int32} {off : Int} {tgt : Nat} (hd : decode cc pc = .ok (.ifCond .le off, 3)) (ht : (pc : Int) + off = (tgt : Int)) (kt : x ≤ 0 → J k n w (tgt) L (st)) (kf : ¬ x ≤ 0 → J k n w (pc + 3) L (st)) : J k n w (pc) L (.int x :: st) := by
  obtain ⟨p, e, s, m, args, below, meth, c, A, Q, rfl, hx, hb, hml, hown, hts, hK, hA, hE⟩ := g
  intro H locs ls hP hD hS hl
  exact lv_if_le hx hb hd ht (fun q => kt q H locs ls hP hD hS hl) (fun q => kf q H locs ls hP hD hS hl)
theorem j_icmp_le (g : gx_G D t E l R cc own nL J) {x y : Int32} {off : Int} {tgt : Nat} (hd : decode cc pc = .ok (.if_icmp .le off, 3)) (ht : (pc : Int) + off = (tgt : Int)) (kt : x ≤ y → J k n w (tgt) L (st)) (kf : ¬ x ≤ y → J k n w (pc + 3) L (st)) : J k n w (pc) L (.int y :: .int x :: st) := by
  obtain ⟨p, e, s, m, args, below, meth, c, A, Q, rfl, hx, hb, hml, hown, hts, hK, hA, hE⟩ := g
  intro H locs ls hP hD hS hl
  exact lv_icmp_le hx hb hd ht (fun q => kt q H locs ls hP hD hS hl) (fun q => kf q H locs ls hP hD hS hl)
theorem j_goto (g : gx_G D t E l R cc own nL J) {off : Int} {tgt : Nat} (hd : decode cc pc = .ok (.goto off, 3)) (ht : (pc : Int) + off = (tgt : Int)) (kk : J k n w (tgt) L (st)) : J k n w (pc) L (st) := by
  obtain ⟨p, e, s, m, args, below, meth, c, A, Q, rfl, hx, hb, hml, hown, hts, hK, hA, hE⟩ := g
  intro H locs ls hP hD hS hl
  exact lv_goto hx hb hd ht (kk H locs ls hP hD hS hl)
theorem j_lookup (g : gx_G D t E l R cc own nL J) {dflt : Int} {ps : Array (Int × Int)} {len : Nat} {x : Int32} {off : Int} {tgt : Nat} (hd : decode cc pc = .ok (.lookupswitch dflt ps, len)) (hp : (ps.toList.zip (ps.toList.drop 1)).all (fun (a, next) => a.1 < next.1) = true) (ho : Op.lookupswitch.offset ps.toList dflt x.toInt = off) (ht : (pc : Int) + off = (tgt : Int)) (kk : J k n w (tgt) L (st)) : J k n w (pc) L (.int x :: st) := by
  obtain ⟨p, e, s, m, args, below, meth, c, A, Q, rfl, hx, hb, hml, hown, hts, hK, hA, hE⟩ := g
  intro H locs ls hP hD hS hl
  exact lv_lookup hx hb hd hp ho ht (kk H locs ls hP hD hS hl)
theorem j_tableOut (g : gx_G D t E l R cc own nL J) {dflt lo hi : Int} {offs : Array Int} {len : Nat} {x : Int32} {tgt : Nat} (hd : decode cc pc = .ok (.tableswitch dflt lo hi offs, len)) (h : x.toInt < lo ∨ hi < x.toInt) (ht : (pc : Int) + dflt = (tgt : Int)) (kk : J k n w (tgt) L (st)) : J k n w (pc) L (.int x :: st) := by
  obtain ⟨p, e, s, m, args, below, meth, c, A, Q, rfl, hx, hb, hml, hown, hts, hK, hA, hE⟩ := g
  intro H locs ls hP hD hS hl
  exact lv_tableOut hx hb hd h ht (kk H locs ls hP hD hS hl)
theorem j_tableIn (g : gx_G D t E l R cc own nL J) {dflt lo hi : Int} {offs : Array Int} {len : Nat} {x : Int32} {off : Int} {tgt : Nat} (hd : decode cc pc = .ok (.tableswitch dflt lo hi offs, len)) (h1 : ¬ x.toInt < lo) (h2 : ¬ hi < x.toInt) (ho : offs[(x.toInt - lo).toNat]? = some off) (ht : (pc : Int) + off = (tgt : Int)) (kk : J k n w (tgt) L (st)) : J k n w (pc) L (.int x :: st) := by
  obtain ⟨p, e, s, m, args, below, meth, c, A, Q, rfl, hx, hb, hml, hown, hts, hK, hA, hE⟩ := g
  intro H locs ls hP hD hS hl
  exact lv_tableIn hx hb hd h1 h2 ho ht (kk H locs ls hP hD hS hl)
theorem j_get (g : gx_G D t E l R cc own nL J) {C ref : String} {T : u_T} {N ci index a : Nat} {fs : List Value} (hin : ∀ w ∈ u_ws C T N, w ∈ lw_all) (q0 : Nat) (he : w[q0]? = some (a, .inr (ci, fs))) (hc : vwCl[ci]? = some (C, T, N)) (f : Nat) (hf : f < N) (hlink : Cond.fieldLink own index ref (T f).2.1 (T f).2.2.1 ∈ lw_all) (hr : (T f).1 = ref) {v : Value} (hv : fs[f]? = some v) (hd : decode cc pc = .ok (.getfield index, 3)) (kk : J k n w (pc + 3) L (v :: st)) : J k n w (pc) L (.ref a :: st) := by
  obtain ⟨p, e, s, m, args, below, meth, c, A, Q, rfl, hx, hb, hml, hown, hts, hK, hA, hE⟩ := g
  intro H locs ls hP hD hS hl
  exact va_get hx hb hts hin hown hK hP q0 he hc f hf (hts _ hlink) (fun _ h9 => by rw [← hr]; exact h9) hv hd (kk H locs ls hP hD hS hl)
theorem j_put (g : gx_G D t E l R cc own nL J) {C ref : String} {T : u_T} {N ci index a : Nat} {fs : List Value} (hin : ∀ w ∈ u_ws C T N, w ∈ lw_all) (q0 : Nat) (he : w[q0]? = some (a, .inr (ci, fs))) (hc : vwCl[ci]? = some (C, T, N)) (f : Nat) (hf : f < N) (hlink : Cond.fieldLink own index ref (T f).2.1 (T f).2.2.1 ∈ lw_all) (hr : (T f).1 = ref) (ty0 : Nat → FieldType) (hty : ∀ k, k < N → parseFieldDescriptor (T k).2.2.1 = some (ty0 k)) (hnm : ∀ a, a < N → ∀ b, b < N → a ≠ b → (T a).2.1 ≠ (T b).2.1) (hfin : (T f).2.2.2 = false) {ty : FieldType} {v : Value} (hdt : parseFieldDescriptor (T f).2.2.1 = some ty) (hn : narrow ty v = v) (hfit : fits ty v = true) (hl5 : f < fs.length) {w' : va_W} (hw : w.set q0 (a, .inr (ci, fs.set f v)) = w') (hd : decode cc pc = .ok (.putfield index, 3)) (kk : J k n w' (pc + 3) L (st)) : J k n w (pc) L (v :: .ref a :: st) := by
  obtain ⟨p, e, s, m, args, below, meth, c, A, Q, rfl, hx, hb, hml, hown, hts, hK, hA, hE⟩ := g
  intro H locs ls hP hD hS hl
  subst hw
  exact va_put hx hb hts hin ty0 hty hnm hown hK hP hD hS q0 he hc f hf (hts _ hlink) (fun _ h9 => by rw [← hr]; exact h9) hfin hdt hn hfit hl5 hd (fun H1 locs1 hP1 hD1 hS1 => kk H1 locs1 ls hP1 hD1 hS1 hl)
theorem j_iald (g : gx_G D t E l R cc own nL J) {a : Nat} {N : Nat} {f : Nat → Int32} (q0 : Nat) (ha : w[q0]? = some (a, .inl (t 0, N, .inl f))) {i : Int32} (hin : vp_in i N) (hd : decode cc pc = .ok (.iaload, 1)) (kk : J k n w (pc + 1) L (.int (f i.toNatClampNeg) :: st)) : J k n w (pc) L (.int i :: .ref a :: st) := by
  obtain ⟨p, e, s, m, args, below, meth, c, A, Q, rfl, hx, hb, hml, hown, hts, hK, hA, hE⟩ := g
  intro H locs ls hP hD hS hl
  exact va_iald hx hb hK hP q0 0 ha rfl hin hd (kk H locs ls hP hD hS hl)
theorem j_iast (g : gx_G D t E l R cc own nL J) {a : Nat} {N : Nat} {f : Nat → Int32} (q0 : Nat) (ha : w[q0]? = some (a, .inl (t 0, N, .inl f))) {i x : Int32} (hin : vp_in i N) {w' : va_W} (hw : w.set q0 (a, .inl (t 0, N, .inl (upd f i.toNatClampNeg x))) = w') (hd : decode cc pc = .ok (.iastore, 1)) (kk : J k n w' (pc + 1) L (st)) : J k n w (pc) L (.int x :: .int i :: .ref a :: st) := by
  obtain ⟨p, e, s, m, args, below, meth, c, A, Q, rfl, hx, hb, hml, hown, hts, hK, hA, hE⟩ := g
  intro H locs ls hP hD hS hl
  subst hw
  exact va_iast hx hb hK hP hD hS q0 0 ha rfl hin hd (fun H1 locs1 hP1 hD1 hS1 => kk H1 locs1 ls hP1 hD1 hS1 hl)
theorem j_zald (g : gx_G D t E l R cc own nL J) {a : Nat} {N : Nat} {f : Nat → Int32} (q0 : Nat) (ha : w[q0]? = some (a, .inl (t 1, N, .inl f))) {i : Int32} (hin : vp_in i N) (hd : decode cc pc = .ok (.baload, 1)) (kk : J k n w (pc + 1) L (.int (f i.toNatClampNeg) :: st)) : J k n w (pc) L (.int i :: .ref a :: st) := by
  obtain ⟨p, e, s, m, args, below, meth, c, A, Q, rfl, hx, hb, hml, hown, hts, hK, hA, hE⟩ := g
  intro H locs ls hP hD hS hl
  exact va_zald hx hb hK hP q0 1 ha rfl hin hd (kk H locs ls hP hD hS hl)
theorem j_zast (g : gx_G D t E l R cc own nL J) {a : Nat} {N : Nat} {f : Nat → Int32} (q0 : Nat) (ha : w[q0]? = some (a, .inl (t 1, N, .inl f))) {i x : Int32} (hin : vp_in i N) {w' : va_W} (hw : w.set q0 (a, .inl (t 1, N, .inl (upd f i.toNatClampNeg (vp_nar .boolean x)))) = w') (hd : decode cc pc = .ok (.bastore, 1)) (kk : J k n w' (pc + 1) L (st)) : J k n w (pc) L (.int x :: .int i :: .ref a :: st) := by
  obtain ⟨p, e, s, m, args, below, meth, c, A, Q, rfl, hx, hb, hml, hown, hts, hK, hA, hE⟩ := g
  intro H locs ls hP hD hS hl
  subst hw
  exact va_zast hx hb hK hP hD hS q0 1 ha rfl hin hd (fun H1 locs1 hP1 hD1 hS1 => kk H1 locs1 ls hP1 hD1 hS1 hl)
theorem j_cald (g : gx_G D t E l R cc own nL J) {a : Nat} {N : Nat} {f : Nat → Int32} (q0 : Nat) (ha : w[q0]? = some (a, .inl (t 2, N, .inl f))) {i : Int32} (hin : vp_in i N) (hd : decode cc pc = .ok (.caload, 1)) (kk : J k n w (pc + 1) L (.int (f i.toNatClampNeg) :: st)) : J k n w (pc) L (.int i :: .ref a :: st) := by
  obtain ⟨p, e, s, m, args, below, meth, c, A, Q, rfl, hx, hb, hml, hown, hts, hK, hA, hE⟩ := g
  intro H locs ls hP hD hS hl
  exact va_cald hx hb hK hP q0 2 ha rfl hin hd (kk H locs ls hP hD hS hl)
theorem j_cast (g : gx_G D t E l R cc own nL J) {a : Nat} {N : Nat} {f : Nat → Int32} (q0 : Nat) (ha : w[q0]? = some (a, .inl (t 2, N, .inl f))) {i x : Int32} (hin : vp_in i N) {w' : va_W} (hw : w.set q0 (a, .inl (t 2, N, .inl (upd f i.toNatClampNeg (vp_nar .char x)))) = w') (hd : decode cc pc = .ok (.castore, 1)) (kk : J k n w' (pc + 1) L (st)) : J k n w (pc) L (.int x :: .int i :: .ref a :: st) := by
  obtain ⟨p, e, s, m, args, below, meth, c, A, Q, rfl, hx, hb, hml, hown, hts, hK, hA, hE⟩ := g
  intro H locs ls hP hD hS hl
  subst hw
  exact va_cast hx hb hK hP hD hS q0 2 ha rfl hin hd (fun H1 locs1 hP1 hD1 hS1 => kk H1 locs1 ls hP1 hD1 hS1 hl)
theorem j_max (g : gx_G D t E l R cc own nL J) {index : Nat} {x y : Int32} (hlink : Cond.methodLink own index Lib.Math.max.name ∈ lw_all) (hst : Cond.static Lib.Math.max.name ∈ lw_all) (hini : Cond.initialized "java/lang/Math" ∈ lw_all) (hcode : Cond.code Lib.Math.max.name Lib.Math.max.code 2 (some .int) ∈ lw_all) (hfr : 1 ≤ R.frames) (hlo : (st.map fun v => v.category).sum + 13 ≤ R.locals) (hkn : k ≤ R.cells ∧ n ≤ R.slots) (hd : decode cc pc = .ok (.invokestatic index, 3)) (kk : J k n w (pc + 3) L (.int (if x < y then y else x) :: st)) : J k n w (pc) L (.int y :: .int x :: st) := by
  obtain ⟨p, e, s, m, args, below, meth, c, A, Q, rfl, hx, hb, hml, hown, hts, hK, hA, hE⟩ := g
  intro H locs ls hP hD hS hl
  exact va_mmax hx hb (hml.trans hl.1.symm) hown (hts _ hlink) (hts _ hst) (hts _ hini) (hts _ hcode) hfr hlo hkn.1 hkn.2 hd (kk H locs ls hP hD hS hl)
theorem j_min (g : gx_G D t E l R cc own nL J) {index : Nat} {x y : Int32} (hlink : Cond.methodLink own index Lib.Math.min.name ∈ lw_all) (hst : Cond.static Lib.Math.min.name ∈ lw_all) (hini : Cond.initialized "java/lang/Math" ∈ lw_all) (hcode : Cond.code Lib.Math.min.name Lib.Math.min.code 2 (some .int) ∈ lw_all) (hfr : 1 ≤ R.frames) (hlo : (st.map fun v => v.category).sum + 13 ≤ R.locals) (hkn : k ≤ R.cells ∧ n ≤ R.slots) (hd : decode cc pc = .ok (.invokestatic index, 3)) (kk : J k n w (pc + 3) L (.int (if y < x then y else x) :: st)) : J k n w (pc) L (.int y :: .int x :: st) := by
  obtain ⟨p, e, s, m, args, below, meth, c, A, Q, rfl, hx, hb, hml, hown, hts, hK, hA, hE⟩ := g
  intro H locs ls hP hD hS hl
  exact va_mmin hx hb (hml.trans hl.1.symm) hown (hts _ hlink) (hts _ hst) (hts _ hini) (hts _ hcode) hfr hlo hkn.1 hkn.2 hd (kk H locs ls hP hD hS hl)
theorem j_copyi (g : gx_G D t E l R cc own nL J) {index : Nat} (hlink : Cond.methodLink own index arraycopyName ∈ lw_all) (hnat : Cond.native arraycopyName ∈ lw_all) (hst : Cond.static arraycopyName ∈ lw_all) (hini : Cond.initialized "java/lang/System" ∈ lw_all) (q0 q1 : Nat) {a0 a n0 n1 : Nat} {f g1 : Nat → Int32} (ha0 : w[q0]? = some (a0, .inl (t 0, n0, .inl f))) (ha1 : w[q1]? = some (a, .inl (t 0, n1, .inl g1))) {sp dp m1 : Int32} (h1 : ¬ sp < 0) (h2 : ¬ dp < 0) (h3 : ¬ m1 < 0) (h4 : sp.toNatClampNeg + m1.toNatClampNeg ≤ n0) (h5 : dp.toNatClampNeg + m1.toNatClampNeg ≤ n1) (hfr : 1 ≤ R.frames) (hlo : (st.map fun v => v.category).sum + (nativeFrameWords "java/lang/System" "arraycopy" 5 + 11) ≤ R.locals) {w' : va_W} (hw : w.set q1 (a, .inl (t 0, n1, .inl (va_cpy f g1 sp.toNatClampNeg dp.toNatClampNeg m1.toNatClampNeg))) = w') (hd : decode cc pc = .ok (.invokestatic index, 3)) (kk : J k n w' (pc + 3) L (st)) : J k n w (pc) L (.int m1 :: .int dp :: .ref a :: .int sp :: .ref a0 :: st) := by
  obtain ⟨p, e, s, m, args, below, meth, c, A, Q, rfl, hx, hb, hml, hown, hts, hK, hA, hE⟩ := g
  intro H locs ls hP hD hS hl
  subst hw
  exact va_copyi hx hb (hml.trans hl.1.symm) hown (hts _ hlink) (hts _ hnat) (hts _ hst) (hts _ hini) hK hP hD hS q0 q1 0 0 ha0 ha1 rfl rfl rfl h1 h2 h3 h4 h5 (fun i _ => rfl) hfr hlo hd (fun H1 locs1 hP1 hD1 hS1 => kk H1 locs1 ls hP1 hD1 hS1 hl)
theorem j_callVi (g : gx_G D t E l R cc own nL J) {y : MethodName} {bC : ByteArray} {nC fr lo : Nat} {ret : Option FieldType} {w' wc wc' : va_W} {index na : Nat} {As : List Value} {rest : List Value} {a : Nat} {r : Int32} (hC : gx_C D t E l y bC nC ret fr lo (.ref a :: As) wc wc' (some (.int r))) {ci q0 : Nat} {qc : vw_C} {fs : List Value} (hinst : Cond.instanceMethod y ∈ lw_all) (hsel : Cond.selects y.cls y y ∈ lw_all) (hq : vwCl[ci]? = some qc) (hqc : qc.1 = y.cls) (he : w[q0]? = some (a, .inr (ci, fs))) (hcode : Cond.code y bC nC ret ∈ lw_all) (hlink : Cond.methodLink own index y ∈ lw_all) (hini : Cond.initialized y.cls ∈ lw_all) (hd0 : y.cls ≠ "java/lang/invoke/MethodHandle" ∧ y.cls ≠ "java/lang/invoke/VarHandle" ∧ (parseMethodDescriptor y.desc).map (fun d => d.parameters.length) = some na) (hna : As.length = na) (hR : fr + 1 ≤ R.frames ∧ 8 + (nC + 11) + lo ≤ R.locals) (hkn : k ≤ R.cells ∧ n ≤ R.slots) (hcat : (rest.map fun v => v.category).sum ≤ 8) (hp : w.Perm wc) (hp' : wc'.Perm w') (hd : decode cc pc = .ok (.invokevirtual index, 3)) (kk : J k n w' (pc + 3) L (.int r :: rest)) {st : List Value} (hstk : st = As.reverse ++ .ref a :: rest) : J k n w pc L st := by
  obtain ⟨p, e, s, m, args, below, meth, c, A, Q, rfl, hx, hb, hml, hown, hts, hK, hA, hE⟩ := g
  intro H locs ls hP hD hS hl
  subst hstk
  exact gx_call (r := (some (.int r))) (rest := rest) (va_runV (As := As) (rest := rest) ⟨hx, hb, hml, hown, hts⟩ (hC H.size) ⟨callB_of na hts (gx_good hcode) rfl rfl rfl (hts _ hini) (hts _ hlink) hd0 ⟨hR.1, hR.2⟩, hts _ hinst, hts _ hsel⟩ ⟨(gx_pre (av := .ref a :: As) (wc := wc) hK hA hE hS hP hD hp).1, by rw [← hqc]; exact va_recv hK hP hq he, (gx_pre (av := .ref a :: As) (wc := wc) hK hA hE hS hP hD hp).2⟩ rfl hna hl.1 rfl (lv_room hcat) hd ⟨hkn.1, hkn.2⟩) hD hS hA hp hp' (fun H1 locs1 hP1 hD1 hS1 => kk H1 locs1 ls hP1 hD1 hS1 hl)
theorem j_callVv (g : gx_G D t E l R cc own nL J) {y : MethodName} {bC : ByteArray} {nC fr lo : Nat} {ret : Option FieldType} {w' wc wc' : va_W} {index na : Nat} {As : List Value} {rest : List Value} {a : Nat} (hC : gx_C D t E l y bC nC ret fr lo (.ref a :: As) wc wc' none) {ci q0 : Nat} {qc : vw_C} {fs : List Value} (hinst : Cond.instanceMethod y ∈ lw_all) (hsel : Cond.selects y.cls y y ∈ lw_all) (hq : vwCl[ci]? = some qc) (hqc : qc.1 = y.cls) (he : w[q0]? = some (a, .inr (ci, fs))) (hcode : Cond.code y bC nC ret ∈ lw_all) (hlink : Cond.methodLink own index y ∈ lw_all) (hini : Cond.initialized y.cls ∈ lw_all) (hd0 : y.cls ≠ "java/lang/invoke/MethodHandle" ∧ y.cls ≠ "java/lang/invoke/VarHandle" ∧ (parseMethodDescriptor y.desc).map (fun d => d.parameters.length) = some na) (hna : As.length = na) (hR : fr + 1 ≤ R.frames ∧ 8 + (nC + 11) + lo ≤ R.locals) (hkn : k ≤ R.cells ∧ n ≤ R.slots) (hcat : (rest.map fun v => v.category).sum ≤ 8) (hp : w.Perm wc) (hp' : wc'.Perm w') (hd : decode cc pc = .ok (.invokevirtual index, 3)) (kk : J k n w' (pc + 3) L (rest)) {st : List Value} (hstk : st = As.reverse ++ .ref a :: rest) : J k n w pc L st := by
  obtain ⟨p, e, s, m, args, below, meth, c, A, Q, rfl, hx, hb, hml, hown, hts, hK, hA, hE⟩ := g
  intro H locs ls hP hD hS hl
  subst hstk
  exact gx_call (r := none) (rest := rest) (va_runV (As := As) (rest := rest) ⟨hx, hb, hml, hown, hts⟩ (hC H.size) ⟨callB_of na hts (gx_good hcode) rfl rfl rfl (hts _ hini) (hts _ hlink) hd0 ⟨hR.1, hR.2⟩, hts _ hinst, hts _ hsel⟩ ⟨(gx_pre (av := .ref a :: As) (wc := wc) hK hA hE hS hP hD hp).1, by rw [← hqc]; exact va_recv hK hP hq he, (gx_pre (av := .ref a :: As) (wc := wc) hK hA hE hS hP hD hp).2⟩ rfl hna hl.1 rfl (lv_room hcat) hd ⟨hkn.1, hkn.2⟩) hD hS hA hp hp' (fun H1 locs1 hP1 hD1 hS1 => kk H1 locs1 ls hP1 hD1 hS1 hl)
theorem j_callVa (g : gx_G D t E l R cc own nL J) {y : MethodName} {bC : ByteArray} {nC fr lo : Nat} {ret : Option FieldType} {w' wc wc' : va_W} {index na : Nat} {As : List Value} {rest : List Value} {a : Nat} {r : Value} (hC : gx_C D t E l y bC nC ret fr lo (.ref a :: As) wc wc' (some r)) {ci q0 : Nat} {qc : vw_C} {fs : List Value} (hinst : Cond.instanceMethod y ∈ lw_all) (hsel : Cond.selects y.cls y y ∈ lw_all) (hq : vwCl[ci]? = some qc) (hqc : qc.1 = y.cls) (he : w[q0]? = some (a, .inr (ci, fs))) (hcode : Cond.code y bC nC ret ∈ lw_all) (hlink : Cond.methodLink own index y ∈ lw_all) (hini : Cond.initialized y.cls ∈ lw_all) (hd0 : y.cls ≠ "java/lang/invoke/MethodHandle" ∧ y.cls ≠ "java/lang/invoke/VarHandle" ∧ (parseMethodDescriptor y.desc).map (fun d => d.parameters.length) = some na) (hna : As.length = na) (hR : fr + 1 ≤ R.frames ∧ 8 + (nC + 11) + lo ≤ R.locals) (hkn : k ≤ R.cells ∧ n ≤ R.slots) (hcat : (rest.map fun v => v.category).sum ≤ 8) (hp : w.Perm wc) (hp' : wc'.Perm w') (hd : decode cc pc = .ok (.invokevirtual index, 3)) (kk : J k n w' (pc + 3) L (r :: rest)) {st : List Value} (hstk : st = As.reverse ++ .ref a :: rest) : J k n w pc L st := by
  obtain ⟨p, e, s, m, args, below, meth, c, A, Q, rfl, hx, hb, hml, hown, hts, hK, hA, hE⟩ := g
  intro H locs ls hP hD hS hl
  subst hstk
  exact gx_call (r := (some r)) (rest := rest) (va_runV (As := As) (rest := rest) ⟨hx, hb, hml, hown, hts⟩ (hC H.size) ⟨callB_of na hts (gx_good hcode) rfl rfl rfl (hts _ hini) (hts _ hlink) hd0 ⟨hR.1, hR.2⟩, hts _ hinst, hts _ hsel⟩ ⟨(gx_pre (av := .ref a :: As) (wc := wc) hK hA hE hS hP hD hp).1, by rw [← hqc]; exact va_recv hK hP hq he, (gx_pre (av := .ref a :: As) (wc := wc) hK hA hE hS hP hD hp).2⟩ rfl hna hl.1 rfl (lv_room hcat) hd ⟨hkn.1, hkn.2⟩) hD hS hA hp hp' (fun H1 locs1 hP1 hD1 hS1 => kk H1 locs1 ls hP1 hD1 hS1 hl)
theorem j_callSi (g : gx_G D t E l R cc own nL J) {y : MethodName} {bC : ByteArray} {nC fr lo : Nat} {ret : Option FieldType} {w' wc wc' : va_W} {index na : Nat} {As : List Value} {rest : List Value} {r : Int32} (hC : gx_C D t E l y bC nC ret fr lo As wc wc' (some (.int r))) (hst : Cond.static y ∈ lw_all) (hcode : Cond.code y bC nC ret ∈ lw_all) (hlink : Cond.methodLink own index y ∈ lw_all) (hini : Cond.initialized y.cls ∈ lw_all) (hd0 : y.cls ≠ "java/lang/invoke/MethodHandle" ∧ y.cls ≠ "java/lang/invoke/VarHandle" ∧ (parseMethodDescriptor y.desc).map (fun d => d.parameters.length) = some na) (hna : As.length = na) (hR : fr + 1 ≤ R.frames ∧ 8 + (nC + 11) + lo ≤ R.locals) (hkn : k ≤ R.cells ∧ n ≤ R.slots) (hcat : (rest.map fun v => v.category).sum ≤ 8) (hp : w.Perm wc) (hp' : wc'.Perm w') (hd : decode cc pc = .ok (.invokestatic index, 3)) (kk : J k n w' (pc + 3) L (.int r :: rest)) {st : List Value} (hstk : st = As.reverse ++ rest) : J k n w pc L st := by
  obtain ⟨p, e, s, m, args, below, meth, c, A, Q, rfl, hx, hb, hml, hown, hts, hK, hA, hE⟩ := g
  intro H locs ls hP hD hS hl
  subst hstk
  exact gx_call (r := (some (.int r))) (rest := rest) (va_runS (As := As) (rest := rest) ⟨hx, hb, hml, hown, hts⟩ (hC H.size) ⟨callB_of na hts (gx_good hcode) rfl rfl rfl (hts _ hini) (hts _ hlink) hd0 ⟨hR.1, hR.2⟩, hts _ hst⟩ (gx_pre (av := As) (wc := wc) hK hA hE hS hP hD hp) rfl hna hl.1 rfl (lv_room hcat) hd ⟨hkn.1, hkn.2⟩) hD hS hA hp hp' (fun H1 locs1 hP1 hD1 hS1 => kk H1 locs1 ls hP1 hD1 hS1 hl)
theorem j_callSv (g : gx_G D t E l R cc own nL J) {y : MethodName} {bC : ByteArray} {nC fr lo : Nat} {ret : Option FieldType} {w' wc wc' : va_W} {index na : Nat} {As : List Value} {rest : List Value} (hC : gx_C D t E l y bC nC ret fr lo As wc wc' none) (hst : Cond.static y ∈ lw_all) (hcode : Cond.code y bC nC ret ∈ lw_all) (hlink : Cond.methodLink own index y ∈ lw_all) (hini : Cond.initialized y.cls ∈ lw_all) (hd0 : y.cls ≠ "java/lang/invoke/MethodHandle" ∧ y.cls ≠ "java/lang/invoke/VarHandle" ∧ (parseMethodDescriptor y.desc).map (fun d => d.parameters.length) = some na) (hna : As.length = na) (hR : fr + 1 ≤ R.frames ∧ 8 + (nC + 11) + lo ≤ R.locals) (hkn : k ≤ R.cells ∧ n ≤ R.slots) (hcat : (rest.map fun v => v.category).sum ≤ 8) (hp : w.Perm wc) (hp' : wc'.Perm w') (hd : decode cc pc = .ok (.invokestatic index, 3)) (kk : J k n w' (pc + 3) L (rest)) {st : List Value} (hstk : st = As.reverse ++ rest) : J k n w pc L st := by
  obtain ⟨p, e, s, m, args, below, meth, c, A, Q, rfl, hx, hb, hml, hown, hts, hK, hA, hE⟩ := g
  intro H locs ls hP hD hS hl
  subst hstk
  exact gx_call (r := none) (rest := rest) (va_runS (As := As) (rest := rest) ⟨hx, hb, hml, hown, hts⟩ (hC H.size) ⟨callB_of na hts (gx_good hcode) rfl rfl rfl (hts _ hini) (hts _ hlink) hd0 ⟨hR.1, hR.2⟩, hts _ hst⟩ (gx_pre (av := As) (wc := wc) hK hA hE hS hP hD hp) rfl hna hl.1 rfl (lv_room hcat) hd ⟨hkn.1, hkn.2⟩) hD hS hA hp hp' (fun H1 locs1 hP1 hD1 hS1 => kk H1 locs1 ls hP1 hD1 hS1 hl)
theorem j_callSa (g : gx_G D t E l R cc own nL J) {y : MethodName} {bC : ByteArray} {nC fr lo : Nat} {ret : Option FieldType} {w' wc wc' : va_W} {index na : Nat} {As : List Value} {rest : List Value} {r : Value} (hC : gx_C D t E l y bC nC ret fr lo As wc wc' (some r)) (hst : Cond.static y ∈ lw_all) (hcode : Cond.code y bC nC ret ∈ lw_all) (hlink : Cond.methodLink own index y ∈ lw_all) (hini : Cond.initialized y.cls ∈ lw_all) (hd0 : y.cls ≠ "java/lang/invoke/MethodHandle" ∧ y.cls ≠ "java/lang/invoke/VarHandle" ∧ (parseMethodDescriptor y.desc).map (fun d => d.parameters.length) = some na) (hna : As.length = na) (hR : fr + 1 ≤ R.frames ∧ 8 + (nC + 11) + lo ≤ R.locals) (hkn : k ≤ R.cells ∧ n ≤ R.slots) (hcat : (rest.map fun v => v.category).sum ≤ 8) (hp : w.Perm wc) (hp' : wc'.Perm w') (hd : decode cc pc = .ok (.invokestatic index, 3)) (kk : J k n w' (pc + 3) L (r :: rest)) {st : List Value} (hstk : st = As.reverse ++ rest) : J k n w pc L st := by
  obtain ⟨p, e, s, m, args, below, meth, c, A, Q, rfl, hx, hb, hml, hown, hts, hK, hA, hE⟩ := g
  intro H locs ls hP hD hS hl
  subst hstk
  exact gx_call (r := (some r)) (rest := rest) (va_runS (As := As) (rest := rest) ⟨hx, hb, hml, hown, hts⟩ (hC H.size) ⟨callB_of na hts (gx_good hcode) rfl rfl rfl (hts _ hini) (hts _ hlink) hd0 ⟨hR.1, hR.2⟩, hts _ hst⟩ (gx_pre (av := As) (wc := wc) hK hA hE hS hP hD hp) rfl hna hl.1 rfl (lv_room hcat) hd ⟨hkn.1, hkn.2⟩) hD hS hA hp hp' (fun H1 locs1 hP1 hD1 hS1 => kk H1 locs1 ls hP1 hD1 hS1 hl)
theorem j_callSni (g : gx_G D t E l R cc own nL J) {y : MethodName} {bC : ByteArray} {nC fr lo : Nat} {ret : Option FieldType} {w' wc wc' : va_W} {index na : Nat} {As : List Value} {host : String} {rest : List Value} {r : Int32} (hC : gx_C D t E l y bC nC ret fr lo As wc wc' (some (.int r))) (hN : ∀ (A : Nat → Prop) (U : State) (H : Heap), E A U H → va_Nw (.methodLinkNest own index y host) U) (hst : Cond.static y ∈ lw_all) (hcode : Cond.code y bC nC ret ∈ lw_all) (hini : Cond.initialized y.cls ∈ lw_all) (hd0 : y.cls ≠ "java/lang/invoke/MethodHandle" ∧ y.cls ≠ "java/lang/invoke/VarHandle" ∧ (parseMethodDescriptor y.desc).map (fun d => d.parameters.length) = some na) (hna : As.length = na) (hR : fr + 1 ≤ R.frames ∧ 8 + (nC + 11) + lo ≤ R.locals) (hkn : k ≤ R.cells ∧ n ≤ R.slots) (hcat : (rest.map fun v => v.category).sum ≤ 8) (hp : w.Perm wc) (hp' : wc'.Perm w') (hd : decode cc pc = .ok (.invokestatic index, 3)) (kk : J k n w' (pc + 3) L (.int r :: rest)) {st : List Value} (hstk : st = As.reverse ++ rest) : J k n w pc L st := by
  obtain ⟨p, e, s, m, args, below, meth, c, A, Q, rfl, hx, hb, hml, hown, hts, hK, hA, hE⟩ := g
  intro H locs ls hP hD hS hl
  subst hstk
  exact gx_call (r := (some (.int r))) (rest := rest) (va_runSN (As := As) (rest := rest) ⟨hx, hb, hml, hown, hts⟩ (hC H.size) ⟨va_cnB na hts (gx_good hcode) rfl rfl rfl (hN _ _ _ hE.2) (hts _ hini) hd0 ⟨hR.1, hR.2⟩, hts _ hst, trivial⟩ (gx_pre (av := As) (wc := wc) hK hA hE hS hP hD hp) rfl hna hl.1 rfl (lv_room hcat) hd ⟨hkn.1, hkn.2⟩) hD hS hA hp hp' (fun H1 locs1 hP1 hD1 hS1 => kk H1 locs1 ls hP1 hD1 hS1 hl)
theorem j_callSnv (g : gx_G D t E l R cc own nL J) {y : MethodName} {bC : ByteArray} {nC fr lo : Nat} {ret : Option FieldType} {w' wc wc' : va_W} {index na : Nat} {As : List Value} {host : String} {rest : List Value} (hC : gx_C D t E l y bC nC ret fr lo As wc wc' none) (hN : ∀ (A : Nat → Prop) (U : State) (H : Heap), E A U H → va_Nw (.methodLinkNest own index y host) U) (hst : Cond.static y ∈ lw_all) (hcode : Cond.code y bC nC ret ∈ lw_all) (hini : Cond.initialized y.cls ∈ lw_all) (hd0 : y.cls ≠ "java/lang/invoke/MethodHandle" ∧ y.cls ≠ "java/lang/invoke/VarHandle" ∧ (parseMethodDescriptor y.desc).map (fun d => d.parameters.length) = some na) (hna : As.length = na) (hR : fr + 1 ≤ R.frames ∧ 8 + (nC + 11) + lo ≤ R.locals) (hkn : k ≤ R.cells ∧ n ≤ R.slots) (hcat : (rest.map fun v => v.category).sum ≤ 8) (hp : w.Perm wc) (hp' : wc'.Perm w') (hd : decode cc pc = .ok (.invokestatic index, 3)) (kk : J k n w' (pc + 3) L (rest)) {st : List Value} (hstk : st = As.reverse ++ rest) : J k n w pc L st := by
  obtain ⟨p, e, s, m, args, below, meth, c, A, Q, rfl, hx, hb, hml, hown, hts, hK, hA, hE⟩ := g
  intro H locs ls hP hD hS hl
  subst hstk
  exact gx_call (r := none) (rest := rest) (va_runSN (As := As) (rest := rest) ⟨hx, hb, hml, hown, hts⟩ (hC H.size) ⟨va_cnB na hts (gx_good hcode) rfl rfl rfl (hN _ _ _ hE.2) (hts _ hini) hd0 ⟨hR.1, hR.2⟩, hts _ hst, trivial⟩ (gx_pre (av := As) (wc := wc) hK hA hE hS hP hD hp) rfl hna hl.1 rfl (lv_room hcat) hd ⟨hkn.1, hkn.2⟩) hD hS hA hp hp' (fun H1 locs1 hP1 hD1 hS1 => kk H1 locs1 ls hP1 hD1 hS1 hl)
end Rows
theorem gx_it {α : Type} {c : Prop} [Decidable c] {x y : α} {r : α} (h : c) (e : (if c then x else y) = r) : x = r := by rw [if_pos h] at e; exact e
theorem gx_if {α : Type} {c : Prop} [Decidable c] {x y : α} {r : α} (h : ¬ c) (e : (if c then x else y) = r) : y = r := by rw [if_neg h] at e; exact e
def gx_chk {α : Type} (c : Prop) [Decidable c] (x : Option α) : Option α := if c then x else none
theorem gx_ck {α : Type} {c : Prop} [Decidable c] {x : Option α} {r : α} (e : gx_chk c x = some r) : c ∧ x = some r := by
  unfold gx_chk at e
  by_cases h : c
  · rw [if_pos h] at e; exact ⟨h, e⟩
  · rw [if_neg h] at e; cases e
theorem gx_chk_t {α : Type} {c : Prop} [Decidable c] {x : Option α} (h : c) : gx_chk c x = x := if_pos h
def gx_b {α β : Type} (x : Option α) (f : α → Option β) : Option β := x.bind f
theorem gx_bs {α β : Type} {x : Option α} {f : α → Option β} {r : β} (e : gx_b x f = some r) : ∃ a, x = some a ∧ f a = some r := Option.bind_eq_some_iff.mp e
theorem gx_b_some {α β : Type} {a : α} {f : α → Option β} : gx_b (some a) f = f a := rfl
abbrev gx_in (i : Int32) (n : Nat) : Prop := ¬ (i < 0 ∨ n ≤ i.toNatClampNeg)
