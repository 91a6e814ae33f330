/-! THROWS: a contract of a method that throws: which class, which world it leaves -/
def gx_XC (D : va_G) (w w' : va_W) (E0 : String) (sz : Nat) : String → State → State → Prop := fun X st u => X = E0 ∧ va_P D vwCl w' u.heap ∧ va_D (va_A w sz) w' ∧ va_F (va_A w sz) st u
def gx_no : Array Value → State → Outcome → State → Prop := fun _ _ _ _ => False
def gx_CX (D : va_G) (t : Nat → ClassId) (E : gx_E) (l : Launch) (y : MethodName) (b : ByteArray) (nL : Nat) (ret : Option FieldType) (fr lo : Nat) (av : List Value) (w w' : va_W) (E0 : String) : Prop :=
  l.stackTraces = false → ∀ sz : Nat, vx_Met l y (gx_w y b nL ret) ({ frames := fr, cells := 1, slots := 6, locals := lo }) (va_Pc av (gx_PC D t E w sz)) gx_no (gx_XC D w w' E0 sz) 1 6 (va_A w sz)
def gx_GX (D : va_G) (t : Nat → ClassId) (E : gx_E) (l : Launch) (R : Room) (cc : ByteArray) (own : String) (nL : Nat) (J : gx_J) (w9 : va_W) (E0 : String) : Prop :=
  ∃ (p : Program) (e : Env) (s : State) (m : MethodId) (args : Array Value) (below : List Frame) (meth : Method) (c : Code) (A : Nat → Prop) (w0 : va_W), J = gx_M D p l e R s m args below meth c A nL (vx_MQ below gx_no (gx_XC D w0 w9 E0 s.heap.size) args s 1 6 (va_A w0 s.heap.size)) ∧ p.tables.exec = Jvm.exec ∧ c.code = cc ∧ c.maxLocals = nL ∧ s.vm.findClass own = some m.cls ∧ (∀ w ∈ lw_all, w.before args s = true) ∧ va_K D vwCl (gx_t t) s ∧ (∀ q, s.heap.size ≤ q → A q) ∧ gx_Ek E ∧ E A s s.heap ∧
    A = va_A w0 s.heap.size ∧ (∀ x ∈ c.exceptionTable.toList, False) ∧ meth.locks = false ∧ 1 ≤ R.cells ∧ 6 ≤ R.slots ∧ l.stackTraces = false
theorem gx_GX.g {D : va_G} {t : Nat → ClassId} {E : gx_E} {l : Launch} {R : Room} {cc : ByteArray} {own : String} {nL : Nat} {J : gx_J} {w9 : va_W} {E0 : String} (gx : gx_GX D t E l R cc own nL J w9 E0) : gx_G D t E l R cc own nL J := by
  obtain ⟨p, e, s, m, args, below, meth, c, A, w0, h1, h2, h3, h4, h5, h6, h7, h8, h9, h10, -⟩ := gx
  exact ⟨p, e, s, m, args, below, meth, c, A, _, h1, h2, h3, h4, h5, h6, h7, h8, h9, h10⟩
theorem gx_intro_x {D : va_G} {t : Nat → ClassId} {E : gx_E} {l : Launch} {y : MethodName} {b : ByteArray} {nL fr lo : Nat} {ret : Option FieldType} {av : List Value} {w w' : va_W} {E0 : String} (hy : plainName y.cls = true) (hlen : (lg_sl av).length ≤ nL)
    (body : ∀ J : gx_J, gx_GX D t E l ({ frames := fr, cells := 1, slots := 6, locals := lo }) b y.cls nL J w' E0 → J 0 0 w 0 (lv_args 0 av) []) :
    gx_CX D t E l y b nL ret fr lo av w w' E0 := by
  intro hst sz
  refine vx_ofW (cc := b) (maxL := nL) (ret := ret) hy rfl ?_
  intro p e s m args below meth c s₁ B hml htab hv
  obtain ⟨rfl, hsz, hP, hK, hD0, hEk, hE0⟩ := hv
  have hts := atoms_spec (ws := gx_w y b nL ret) B.pre
  subst hsz
  have hD := hD0.self (sz := s.heap.size)
  have hA : ∀ q : Nat, s.heap.size ≤ q → va_A w s.heap.size q := fun q h => Or.inr h
  have hl := lv_entry av (n := nL) hlen
  rw [lg_entry_eq]
  exact body (gx_M D p l e _ s m av.toArray below meth c (va_A w s.heap.size) nL (vx_MQ below gx_no (gx_XC D w w' E0 s.heap.size) av.toArray s 1 6 (va_A w s.heap.size))) ⟨p, e, s, m, _, below, meth, c, _, w, rfl, B.exec, B.bytes, hml, findClass_of_methodNamed B.named, fun w hw => hts w (List.mem_cons_of_mem _ hw), hK, hA, hEk, hE0, rfl, htab, B.notSynchronized, Nat.le_refl _, Nat.le_refl _, hst⟩ s.heap [] _ hP hD va_S.rf hl
def gx_up : List String := ["java/lang/RuntimeException", "java/lang/Exception"]
theorem gx_tblw {args : Array Value} {s : State} (hts : ∀ w ∈ lw_all, w.before args s = true) (h13 : ∀ w ∈ gx_face, va_Nw w s) {w : Cond} (h : w ∈ lw_tbl ∧ (goodWord w || gx_isFace w) = true) : w.before args s = true := by
  rcases Bool.or_eq_true_iff.mp h.2 with h2 | h2
  · exact hts _ (List.mem_filter.mpr ⟨h.1, h2⟩)
  · exact va_tabs (by cases w <;> first | rfl | (simp [gx_isFace] at h2; done)) rfl (h13 _ (List.mem_filter.mpr ⟨h.1, h2⟩))
section XRows
variable {D : va_G} {t : Nat → ClassId} {aa : gx_AA} {E : gx_E} {l : Launch} {R : Room} {cc : ByteArray} {own : String} {nL : Nat} {J : gx_J} {w w9 : va_W} {E0 : String} {pc : Nat} {L : List (Nat × Value)} {st : List Value}
theorem j_throw (gx : gx_GX D t (gx_E0 aa) l R cc "CommandChain" nL J w9 E0) {ik is ic : Nat} {text : String} (hm : (is, text) ∈ gx_msgs) (hcls : Bundle.fit E0 = true) (hk : Cond.classLink "CommandChain" ik E0 ∈ lw_all) (hini : Cond.initialized E0 ∈ lw_all)
    (hat : ∀ w ∈ vx_atS "CommandChain" ic E0 gx_up, w ∈ lw_tbl ∧ (goodWord w || gx_isFace w) = true) (hgood : ∀ w ∈ Cond.classLink "CommandChain" ik E0 :: Cond.initialized E0 :: vx_atS "CommandChain" ic E0 gx_up, vx_ot w = true)
    (hR : 5 < R.frames ∧ 90 ≤ R.locals) (hcat : (st.map fun v => v.category).sum ≤ 8)
    (d0 : decode cc pc = .ok (.new ik, 3)) (d3 : decode cc (pc + 3) = .ok (.dup, 1)) (d4 : decode cc (pc + 4) = .ok (.ldc is, 2)) (d6 : decode cc (pc + 6) = .ok (.invokespecial ic, 3)) (d9 : decode cc (pc + 9) = .ok (.athrow, 1)) : J 0 0 w9 pc L st := by
  obtain ⟨p, e, s, m, args, below, meth, c, A, w0, rfl, hx, hb, hml, hown, hts, hK, hA, hEk, hE, rfl, htab, hlk, hRc, hRs, hstt⟩ := gx
  intro H locs ls hP hD hS hl
  have hE' := hE
  obtain ⟨-, -, -, h4, -, -, -, -, -, -, h11, h12, h13, -⟩ := hE'
  refine vx_throwS hx hb hstt hown hcls (names := gx_up) (by decide) (hts _ hk) (hts _ hini) (h4 _ hm) (fun w hw => gx_tblw hts h13 (hat w hw)) hgood h11 h12 hS (hl.1.trans hml.symm) d0 d3 d4 d6 d9 (fun x hx => (htab x hx).elim) hR.1 (Nat.le_trans (Nat.add_le_add_right hcat _) hR.2) (by omega) (by omega) hlk (fun u hal hsz hkp => ⟨rfl, hP.kept (fun k q hq => hkp q.1 (vx_lt hP hq)), hD, Nat.le_trans hS.1 hsz, fun q h1 h2 => by rw [hkp q (Nat.lt_of_lt_of_le h1 hS.1)]; exact hS.2.1 q h1 h2⟩) hS.2.2 (Nat.le_refl _) (Nat.le_refl _)
theorem j_throwW (gx : gx_GX D t (gx_E0 aa) l R cc "CommandChain" nL J w9 E0) {ik is ic : Nat} {text : String} (hm : (is, text) ∈ gx_msgs) (hcls : Bundle.fit E0 = true) (hk : Cond.classLink "CommandChain" ik E0 ∈ lw_all) (hini : Cond.initialized E0 ∈ lw_all)
    (hat : ∀ w ∈ vx_atS "CommandChain" ic E0 gx_up, w ∈ lw_tbl ∧ (goodWord w || gx_isFace w) = true) (hgood : ∀ w ∈ Cond.classLink "CommandChain" ik E0 :: Cond.initialized E0 :: vx_atS "CommandChain" ic E0 gx_up, vx_ot w = true)
    (hR : 5 < R.frames ∧ 90 ≤ R.locals) (hcat : (st.map fun v => v.category).sum ≤ 8)
    (d0 : decode cc pc = .ok (.new ik, 3)) (d3 : decode cc (pc + 3) = .ok (.dup, 1)) (d4 : decode cc (pc + 4) = .ok (.ldc_w is, 3)) (d7 : decode cc (pc + 7) = .ok (.invokespecial ic, 3)) (d10 : decode cc (pc + 10) = .ok (.athrow, 1)) : J 0 0 w9 pc L st := by
  obtain ⟨p, e, s, m, args, below, meth, c, A, w0, rfl, hx, hb, hml, hown, hts, hK, hA, hEk, hE, rfl, htab, hlk, hRc, hRs, hstt⟩ := gx
  intro H locs ls hP hD hS hl
  have hE' := hE
  obtain ⟨-, -, -, h4, -, -, -, -, -, -, h11, h12, h13, -⟩ := hE'
  refine vx_throwSW hx hb hstt hown hcls (names := gx_up) (by decide) (hts _ hk) (hts _ hini) (h4 _ hm) (fun w hw => gx_tblw hts h13 (hat w hw)) hgood h11 h12 hS (hl.1.trans hml.symm) d0 d3 d4 d7 d10 (fun x hx => (htab x hx).elim) hR.1 (Nat.le_trans (Nat.add_le_add_right hcat _) hR.2) (by omega) (by omega) hlk (fun u hal hsz hkp => ⟨rfl, hP.kept (fun k q hq => hkp q.1 (vx_lt hP hq)), hD, Nat.le_trans hS.1 hsz, fun q h1 h2 => by rw [hkp q (Nat.lt_of_lt_of_le h1 hS.1)]; exact hS.2.1 q h1 h2⟩) hS.2.2 (Nat.le_refl _) (Nat.le_refl _)
end XRows
theorem gx_callX {p : Program} {l : Launch} {e : Env} {R : Room} {s : State} {m : MethodId} {args : Array Value} {below : List Frame} {meth : Method} {c : Code} {H : Heap} {locs : List Loc} {D : va_G} {w0 w wc wc' w9 : va_W} {E0 : String} {av : Array Value} {pc : Nat} {ls : Array Slot} {st0 rest : List Value}
    (hr : vx_Run p l e R s m args below meth c H locs 0 0 1 6 (F0 m pc ls st0) rest (gx_no av) (gx_XC D wc wc' E0 H.size) (va_A wc H.size))
    (hD : va_D (va_A w0 s.heap.size) w) (hS : va_S (va_A w0 s.heap.size) s.heap H locs) (hp : w.Perm wc) (hp' : wc'.Perm w9) (htab : ∀ x ∈ c.exceptionTable.toList, False) (hlk : meth.locks = false) :
    W p l e R s m args below meth c H locs 0 0 (vx_MQ below gx_no (gx_XC D w0 w9 E0 s.heap.size) args s 1 6 (va_A w0 s.heap.size)) (F0 m pc ls st0) := by
  intro T hT X
  have hA : ∀ q, s.heap.size ≤ q → va_A w0 s.heap.size q := fun q h => Or.inr h
  rcases hr T hT X with ⟨v, st₀, u, T', L, h0, X', hL, e1, e2, hno, st⟩ | ⟨q, st₀, u, T', L, E1, ce, h0, X', hL, e1, e2, ⟨rfl, hP1, hD1, hF⟩, hce, hcv, hcl, st⟩
  · exact hno.elim
  · have hAw : ∀ q, va_A wc H.size q → va_A w0 s.heap.size q := gx_Aw hp hD (fun q h => hA q (Nat.le_trans hS.1 h))
    obtain ⟨k1, k2, k3⟩ := vx_keep h0 e1 hS (fun q _ h => hAw q h) (fun q h => hAw q h) hL hF
    obtain ⟨t2, a1, b1⟩ := vx_out (rest := rest) (pc := pc) (ls := ls) (XC := gx_XC D w0 w9 E1 s.heap.size) (Qc := gx_no) (mc := 1) (ms := 6) (free := va_A w0 s.heap.size) (args := args) (below := below) (p := p) (l := l) (e := e) (R := R) (cells := 0 + 1) (slots := 0 + 6) (fun x hx => (htab x hx).elim) hlk (H := T'.heap) (by rw [e1]; exact hce) hcv hcl
      (fun t2 h2 _ => ⟨rfl, by rw [h2, e1]; exact gx_Pm hp' hP1, gx_Dm hp' (hD1.weaken fun _ q _ h => hAw q.1 h), by rw [h2]; exact k3.1, fun q h1 h3 => by rw [h2]; exact k3.2.1 q h1 h3⟩) k3.2.2 (Nat.le_refl _) (Nat.le_refl _) T' rfl X'
    exact ⟨t2, st.trans a1, b1⟩
section XCalls
variable {D : va_G} {t : Nat → ClassId} {E : gx_E} {l : Launch} {R : Room} {cc : ByteArray} {own : String} {nL : Nat} {J : gx_J} {w w9 : va_W} {E0 : String} {pc : Nat} {L : List (Nat × Value)}
theorem j_callVX (gx : gx_GX D t E l R cc own nL J w9 E0) {y : MethodName} {bC : ByteArray} {nC fr lo : Nat} {ret : Option FieldType} {wc wc' : va_W} {index na : Nat} {As : List Value} {rest : List Value} {a : Nat} (hC : gx_CX D t E l y bC nC ret fr lo (.ref a :: As) wc wc' E0) {ci q0 : Nat} {qc : vw_C} {fs : List Value} (hinst : Cond.instanceMethod y ∈ lw_all) (hsel : Cond.selects y.cls y y ∈ lw_all) (hq : vwCl[ci]? = some qc) (hqc : qc.1 = y.cls) (he : w[q0]? = some (a, .inr (ci, fs))) (hcode : Cond.code y bC nC ret ∈ lw_all) (hlink : Cond.methodLink own index y ∈ lw_all) (hini : Cond.initialized y.cls ∈ lw_all) (hd0 : y.cls ≠ "java/lang/invoke/MethodHandle" ∧ y.cls ≠ "java/lang/invoke/VarHandle" ∧ (parseMethodDescriptor y.desc).map (fun d => d.parameters.length) = some na) (hna : As.length = na) (hR : fr + 1 ≤ R.frames ∧ 8 + (nC + 11) + lo ≤ R.locals) (hcat : (rest.map fun v => v.category).sum ≤ 8) (hp : w.Perm wc) (hp' : wc'.Perm w9) (hd : decode cc pc = .ok (.invokevirtual index, 3)) {st : List Value} (hstk : st = As.reverse ++ .ref a :: rest) : J 0 0 w pc L st := by
  obtain ⟨p, e, s, m, args, below, meth, c, A, w0, rfl, hx, hb, hml, hown, hts, hK, hA, hEk, hE, rfl, htab, hlk, hRc, hRs, hstt⟩ := gx
  intro H locs ls hP hD hS hl
  subst hstk
  have hpr := gx_pre (av := .ref a :: As) (wc := wc) hK hA ⟨hEk, hE⟩ hS hP hD hp
  exact gx_callX (rest := rest) (vx_runV (As := As) (rest := rest) ⟨hx, hb, hml, hown, hts⟩ (hC hstt H.size) ⟨callB_of na hts (gx_good hcode) rfl rfl rfl (hts _ hini) (hts _ hlink) hd0 ⟨hR.1, hR.2⟩, hts _ hinst, hts _ hsel⟩ ⟨hpr.1, by rw [← hqc]; exact va_recv hK hP hq he, hpr.2⟩ rfl hna hl.1 rfl (lv_room hcat) hd ⟨by omega, by omega⟩) hD hS hp hp' htab hlk
theorem j_callSX (gx : gx_GX D t E l R cc own nL J w9 E0) {y : MethodName} {bC : ByteArray} {nC fr lo : Nat} {ret : Option FieldType} {wc wc' : va_W} {index na : Nat} {As : List Value} {rest : List Value} (hC : gx_CX D t E l y bC nC ret fr lo As wc wc' E0) (hst : Cond.static y ∈ lw_all) (hcode : Cond.code y bC nC ret ∈ lw_all) (hlink : Cond.methodLink own index y ∈ lw_all) (hini : Cond.initialized y.cls ∈ lw_all) (hd0 : y.cls ≠ "java/lang/invoke/MethodHandle" ∧ y.cls ≠ "java/lang/invoke/VarHandle" ∧ (parseMethodDescriptor y.desc).map (fun d => d.parameters.length) = some na) (hna : As.length = na) (hR : fr + 1 ≤ R.frames ∧ 8 + (nC + 11) + lo ≤ R.locals) (hcat : (rest.map fun v => v.category).sum ≤ 8) (hp : w.Perm wc) (hp' : wc'.Perm w9) (hd : decode cc pc = .ok (.invokestatic index, 3)) {st : List Value} (hstk : st = As.reverse ++ rest) : J 0 0 w pc L st := by
  obtain ⟨p, e, s, m, args, below, meth, c, A, w0, rfl, hx, hb, hml, hown, hts, hK, hA, hEk, hE, rfl, htab, hlk, hRc, hRs, hstt⟩ := gx
  intro H locs ls hP hD hS hl
  subst hstk
  exact gx_callX (rest := rest) (vx_runS (As := As) (rest := rest) ⟨hx, hb, hml, hown, hts⟩ (hC hstt H.size) ⟨callB_of na hts (gx_good hcode) rfl rfl rfl (hts _ hini) (hts _ hlink) hd0 ⟨hR.1, hR.2⟩, hts _ hst⟩ (gx_pre (av := As) (wc := wc) hK hA ⟨hEk, hE⟩ hS hP hD hp) rfl hna hl.1 rfl (lv_room hcat) hd ⟨by omega, by omega⟩) hD hS hp hp' htab hlk
end XCalls
