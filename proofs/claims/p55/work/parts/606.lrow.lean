/-! THE LAW: rows over its script, its rows of one long and one double, its helpers -/
theorem gx_callm {p : Program} {l : Launch} {e : Env} {R : Room} {s : State} {m : MethodId} {args : Array Value} {below : List Frame} {meth : Method} {c : Code} {H : Heap} {locs : List Loc} {k n mc ms : Nat} {Q : State → Prop} {D : va_G} {A : Nat → Prop} {w wc wc' w' : va_W} {r : Option Value} {av : Array Value} {pc : Nat} {ls : Array Slot} {st0 rest : List Value}
    (hr : va_Run p l e R s m args below meth c H locs k n mc ms (F0 m pc ls st0) rest (gx_QC D wc wc' r H.size av) (va_A wc H.size))
    (hD : va_D A w) (hS : va_S A s.heap H locs) (hA : ∀ q, s.heap.size ≤ q → A q) (hp : w.Perm wc) (hp' : wc'.Perm w')
    (kk : ∀ (H1 : Heap) (locs1 : List Loc), va_P D vwCl w' H1 → va_D A w' → va_S A s.heap H1 locs1 → W p l e R s m args below meth c H1 locs1 (k + mc) (n + ms) Q (F0 m (pc + 3) ls (r.toList ++ rest))) :
    W p l e R s m args below meth c H locs k n Q (F0 m pc ls st0) := by
  intro T hT X
  obtain ⟨v, st₀, t, T', L, h0, X', hL, e1, e2, ⟨⟨hv, hP1, hD1⟩, hz, hk⟩, st⟩ := hr T hT X
  cases hv
  rw [h0] at hz hk
  have hAw : ∀ q, va_A wc H.size q → A q := gx_Aw hp hD (fun q h => hA q (Nat.le_trans hS.1 h))
  obtain ⟨t2, a1, b1⟩ := kk T'.heap (locs ++ L) (by rw [e1]; exact gx_Pm hp' hP1) (gx_Dm hp' (hD1.weaken fun _ q _ h => hAw q.1 h))
    ⟨Nat.le_trans hS.1 (by rw [e1]; exact hz), fun q h1 h2 => by rw [e1, hk q (Nat.lt_of_lt_of_le h1 hS.1) (fun z => h2 (hAw q z))]; exact hS.2.1 q h1 h2, fun q hq => by
      rcases List.mem_append.mp hq with h | h
      · exact hS.2.2 q h
      · exact hAw _ (hL q h)⟩ T' rfl X'
  exact ⟨t2, st t2 a1, b1⟩
/-- the law's own place: what is known of its script -/
def gx_GL (D : va_G) (t : Nat → ClassId) (E : gx_E) (l : Launch) (R : Room) (cc : ByteArray) (own : String) (nL : Nat) (J : gx_J) (b Ln : Nat) (xs : Nat → Int32) : Prop :=
  ∃ (p : Program) (e : Env) (s : State) (m : MethodId) (args : Array Value) (below : List Frame) (meth : Method) (c : Code) (A : Nat → Prop) (Q : State → Prop), J = gx_M D p l e R s m args below meth c A nL Q ∧ p.tables.exec = Jvm.exec ∧ c.code = cc ∧ c.maxLocals = nL ∧ s.vm.findClass own = some m.cls ∧ (∀ w ∈ lw_all, w.before args s = true) ∧ va_K D vwCl (gx_t t) s ∧ (∀ q, s.heap.size ≤ q → A q) ∧ gx_Ek E ∧ E A s s.heap ∧
    va_X b Ln xs s s.heap ∧ b < s.heap.size ∧ ¬ A b
theorem gx_GL.g {D : va_G} {t : Nat → ClassId} {E : gx_E} {l : Launch} {R : Room} {cc : ByteArray} {own : String} {nL : Nat} {J : gx_J} {b Ln : Nat} {xs : Nat → Int32} (gl : gx_GL D t E l R cc own nL J b Ln xs) : gx_G D t E l R cc own nL J := by
  obtain ⟨p, e, s, m, args, below, meth, c, A, Q, h1, h2, h3, h4, h5, h6, h7, h8, h9, h10, -⟩ := gl
  exact ⟨p, e, s, m, args, below, meth, c, A, Q, h1, h2, h3, h4, h5, h6, h7, h8, h9, h10⟩
section LRows
variable {D : va_G} {t : Nat → ClassId} {E : gx_E} {l : Launch} {R : Room} {cc : ByteArray} {own : String} {nL : Nat} {J : gx_J} {k n : Nat} {w : va_W} {pc : Nat} {L : List (Nat × Value)} {st : List Value}
theorem j_sld {b Ln : Nat} {xs : Nat → Int32} (gl : gx_GL D t E l R cc own nL J b Ln xs) {i : Int32} (hin : vp_in i Ln) (hd : decode cc pc = .ok (.iaload, 1)) (kk : J k n w (pc + 1) L (.int (xs i.toNatClampNeg) :: st)) : J k n w pc L (.int i :: .ref b :: st) := by
  obtain ⟨p, e, s, m, args, below, meth, c, A, Q, rfl, hx, hb, hml, hown, hts, hK, hA, hEk, hE, hX, hbl, hbA⟩ := gl
  intro H locs ls hP hD hS hl
  exact va_sld hx hb hX hbl hbA hS hin hd (kk H locs ls hP hD hS hl)
theorem j_slen {b Ln : Nat} {xs : Nat → Int32} (gl : gx_GL D t E l R cc own nL J b Ln xs) (hd : decode cc pc = .ok (.arraylength, 1)) (kk : J k n w (pc + 1) L (.int (Int32.ofNat Ln) :: st)) : J k n w pc L (.ref b :: st) := by
  obtain ⟨p, e, s, m, args, below, meth, c, A, Q, rfl, hx, hb, hml, hown, hts, hK, hA, hEk, hE, hX, hbl, hbA⟩ := gl
  intro H locs ls hP hD hS hl
  exact va_slen hx hb hX hbl hbA hS hd (kk H locs ls hP hD hS hl)
theorem j_widen (g : gx_G D t E l R cc own nL J) {k' n' : Nat} (h1 : k ≤ k') (h2 : n ≤ n') (kk : J k' n' w pc L st) : J k n w pc L st := by
  obtain ⟨p, e, s, m, args, below, meth, c, A, Q, rfl, hx, hb, hml, hown, hts, hK, hA, hE⟩ := g
  intro H locs ls hP hD hS hl
  exact W.widen h1 h2 (kk H locs ls hP hD hS hl)
theorem j_lald (g : gx_G D t E l R cc own nL J) {a N : Nat} {f : Nat → Int64} (q0 : Nat) (ha : w[q0]? = some (a, .inl (t 4, N, .inr (.inl f)))) {i : Int32} (hin : vp_in i N) (hd : decode cc pc = .ok (.laload, 1)) (kk : J k n w (pc + 1) L (.long (f i.toNatClampNeg) :: st)) : J k n w pc L (.int i :: .ref a :: st) := by
  obtain ⟨p, e, s, m, args, below, meth, c, A, Q, rfl, hx, hb, hml, hown, hts, hK, hA, hE⟩ := g
  intro H locs ls hP hD hS hl
  exact va_lald hx hb hK hP q0 4 ha rfl hin hd (kk H locs ls hP hD hS hl)
theorem j_lcmp (g : gx_G D t E l R cc own nL J) {x y : Int64} (hd : decode cc pc = .ok (.lcmp, 1)) (kk : J k n w (pc + 1) L (.int (lg_cmp x y) :: st)) : J k n w pc L (.long y :: .long x :: st) := by
  obtain ⟨p, e, s, m, args, below, meth, c, A, Q, rfl, hx, hb, hml, hown, hts, hK, hA, hE⟩ := g
  intro H locs ls hP hD hS hl
  exact W.lcmp hx hb hd (kk H locs ls hP hD hS hl)
theorem j_dcmp (g : gx_G D t E l R cc own nL J) {x y : UInt64} {op : CmpOp} (hd : decode cc pc = .ok (.dcmp op, 1)) (kk : J k n w (pc + 1) L (.int (Op.cmpValue (FP.dcmp x y) op) :: st)) : J k n w pc L (.double y :: .double x :: st) := by
  obtain ⟨p, e, s, m, args, below, meth, c, A, Q, rfl, hx, hb, hml, hown, hts, hK, hA, hE⟩ := g
  intro H locs ls hP hD hS hl
  exact lv_dcmp hx hb hd (kk H locs ls hP hD hS hl)
theorem j_fcmp (g : gx_G D t E l R cc own nL J) {x y : UInt32} {op : CmpOp} (hd : decode cc pc = .ok (.fcmp op, 1)) (kk : J k n w (pc + 1) L (.int (Op.cmpValue (FP.fcmp x y) op) :: st)) : J k n w pc L (.float y :: .float x :: st) := by
  obtain ⟨p, e, s, m, args, below, meth, c, A, Q, rfl, hx, hb, hml, hown, hts, hK, hA, hE⟩ := g
  intro H locs ls hP hD hS hl
  exact lv_fcmp hx hb hd (kk H locs ls hP hD hS hl)
theorem j_newl (g : gx_G D t E l R cc own nL J) (harr : Cond.arrayClass .long ∈ lw_all) {x : Int32} {N : Nat} (hn : ¬ x < 0) (hN : x.toNatClampNeg = N) (hbytes : N * 8 ≤ 536870912) (hcells : k + 1 ≤ R.cells) (hslots : n + N ≤ R.slots) (hd : decode cc pc = .ok (.newarray .long, 2))
    (kk : ∀ q : Nat, J (k + 1) (n + N) ((q, .inl (t 4, N, .inr (.inl (fun _ => 0)))) :: w) (pc + 2) L (.ref q :: st)) : J k n w pc L (.int x :: st) := by
  obtain ⟨p, e, s, m, args, below, meth, c, A, Q, rfl, hx, hb, hml, hown, hts, hK, hA, hE⟩ := g
  intro H locs ls hP hD hS hl
  refine va_newa (atype := .long) (ty := .long) (a0 := (N, .inr (.inl (fun _ => 0)))) hx hb (hts _ harr) rfl hK hP hD hS hA (fun cA => rfl) hn hN hbytes hcells hslots hd (fun q cA H1 hK1 hP1 hD1 hS1 => ?_)
  have he : cA = t 4 := gx_cls0 (i := 6) (j := 4) (ty := .long) (fun C h => by cases h) hK1 rfl rfl
  subst he
  exact kk q H1 locs ls (gx_Pm (List.perm_append_singleton _ _) hP1) (gx_Dm (List.perm_append_singleton _ _) hD1) hS1 hl
theorem j_callH (g : gx_G D t E l R cc own nL J) {y : MethodName} {bC : ByteArray} {nC fr lo mc ms : Nat} {hh : List (Nat × Nat × Nat × Nat)} {w' wc wc' : va_W} {index na : Nat} {As : List Value} {rest : List Value} {r : Int32} (hC : gx_CH D t E l y bC nC (some .int) hh fr lo mc ms As wc wc' (some (.int r))) (hst : Cond.static y ∈ lw_all) (hcode : Cond.codeWith y bC nC (some .int) hh ∈ lw_all) (hlink : Cond.methodLink own index y ∈ lw_all) (hini : Cond.initialized y.cls ∈ lw_all) (hd0 : y.cls ≠ "java/lang/invoke/MethodHandle" ∧ y.cls ≠ "java/lang/invoke/VarHandle") (hdp : (parseMethodDescriptor y.desc).map (fun d => d.parameters.length) = some na) (hna : As.length = na) (hR : fr + 1 ≤ R.frames ∧ 8 + (nC + 11) + lo ≤ R.locals) (hkn : k + mc ≤ R.cells ∧ n + ms ≤ R.slots) (hcat : (rest.map fun v => v.category).sum ≤ 8) (hp : w.Perm wc) (hp' : wc'.Perm w') (hd : decode cc pc = .ok (.invokestatic index, 3)) (kk : J (k + mc) (n + ms) w' (pc + 3) L (.int r :: rest)) {st : List Value} (hstk : st = As.reverse ++ rest) : J k n w pc L st := by
  obtain ⟨p, e, s, m, args, below, meth, c, A, Q, rfl, hx, hb, hml, hown, hts, hK, hA, hE⟩ := g
  intro H locs ls hP hD hS hl
  subst hstk
  have cw : vx_CSW R s args own index y bC nC (some .int) hh (gx_wh y bC nC (some .int) hh) ({ frames := fr, cells := mc, slots := ms, locals := lo }) mc ms na :=
    ⟨⟨rfl, rfl, hR.1, hR.2, pay_in hts (gx_goodh hcode), List.mem_cons_self⟩, hts _ hcode, hts _ hini, hd0, fun sig h => by
      rw [h] at hdp
      exact (Option.some.inj hdp).symm, hts _ hlink, hts _ hst⟩
  exact gx_callm (r := (some (.int r))) (rest := rest) (vx_runSW (As := As) (rest := rest) ⟨hx, hb, hml, hown, hts⟩ (hC H.size) cw (gx_pre (av := As) (wc := wc) hK hA hE hS hP hD hp) rfl hna hl.1 rfl (lv_room hcat) hd ⟨hkn.1, hkn.2⟩) hD hS hA hp hp' (fun H1 locs1 hP1 hD1 hS1 => kk H1 locs1 ls hP1 hD1 hS1 hl)
end LRows
