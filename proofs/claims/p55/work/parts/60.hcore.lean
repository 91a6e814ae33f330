/-! THE LAW'S HELPERS: methods with handlers; what they answer is told for each way the call can go -/
theorem gx_met {l : Launch} {y : MethodName} {ws : List Cond} {rm : Room} {Pc : Array Value → State → Prop} {Qc : Array Value → State → Outcome → State → Prop} {mc ms : Nat} {free : Addr → Prop} (h : vx_Met l y ws rm Pc Qc (fun _ _ _ => False) mc ms free) : Met l y ws rm Pc Qc mc ms free := by
  intro p e ha hc hk s m args below hf happ hP ht
  obtain ⟨k, o, h1, h2, h3, hQ⟩ := h p e ha hc hk s m args below hf happ hP ht
  refine ⟨k, o, h1, h2, h3, ?_⟩
  rcases hQ with hQ | ⟨q, -, E, ce, L, hx, -⟩
  · exact hQ
  · exact hx.elim
abbrev gx_wh (y : MethodName) (b : ByteArray) (nL : Nat) (ret : Option FieldType) (hh : List (Nat × Nat × Nat × Nat)) : List Cond := .codeWith y b nL ret hh :: lw_all
theorem gx_goodh {y : MethodName} {b : ByteArray} {nL : Nat} {ret : Option FieldType} {hh : List (Nat × Nat × Nat × Nat)} (h : Cond.codeWith y b nL ret hh ∈ lw_all) : GoodIn lw_all (gx_wh y b nL ret hh) := fun w hw =>
  (List.mem_cons.mp hw).elim (fun e => by rw [e]; exact ⟨h, good_of_word (lw_good _ h)⟩) (fun h1 => ⟨h1, good_of_word (lw_good _ h1)⟩)
def gx_CH (D : va_G) (t : Nat → ClassId) (E : gx_E) (l : Launch) (y : MethodName) (b : ByteArray) (nL : Nat) (ret : Option FieldType) (hh : List (Nat × Nat × Nat × Nat)) (fr lo mc ms : Nat) (av : List Value) (w w' : va_W) (r : Option Value) : Prop :=
  ∀ sz : Nat, Met l y (gx_wh y b nL ret hh) ({ frames := fr, cells := mc, slots := ms, locals := lo }) (va_Pc av (gx_PC D t E w sz)) (gx_QC D w w' r sz) mc ms (va_A w sz)
def gx_GH (D : va_G) (t : Nat → ClassId) (E : gx_E) (l : Launch) (R : Room) (cc : ByteArray) (own : String) (nL : Nat) (J : gx_J) (hh : List (Nat × Nat × Nat × Nat)) : Prop :=
  ∃ (p : Program) (e : Env) (s : State) (m : MethodId) (args : Array Value) (below : List Frame) (meth : Method) (c : Code) (A : Nat → Prop) (Q : State → Prop), J = gx_M D p l e R s m args below meth c A nL Q ∧ p.tables.exec = Jvm.exec ∧ c.code = cc ∧ c.maxLocals = nL ∧ s.vm.findClass own = some m.cls ∧ (∀ w ∈ lw_all, w.before args s = true) ∧ va_K D vwCl (gx_t t) s ∧ (∀ q, s.heap.size ≤ q → A q) ∧ gx_Ek E ∧ E A s s.heap ∧
    c.exceptionTable.toList = tableOf hh ∧ l.stackTraces = false
theorem gx_GH.g {D : va_G} {t : Nat → ClassId} {E : gx_E} {l : Launch} {R : Room} {cc : ByteArray} {own : String} {nL : Nat} {J : gx_J} {hh : List (Nat × Nat × Nat × Nat)} (gh : gx_GH D t E l R cc own nL J hh) : gx_G D t E l R cc own nL J := by
  obtain ⟨p, e, s, m, args, below, meth, c, A, Q, h1, h2, h3, h4, h5, h6, h7, h8, h9, h10, -⟩ := gh
  exact ⟨p, e, s, m, args, below, meth, c, A, Q, h1, h2, h3, h4, h5, h6, h7, h8, h9, h10⟩
theorem gx_intro_h {D : va_G} {t : Nat → ClassId} {E : gx_E} {l : Launch} {y : MethodName} {b : ByteArray} {nL fr lo mc ms : Nat} {hh : List (Nat × Nat × Nat × Nat)} {av : List Value} {w w' : va_W} {v : Int32} (hst : l.stackTraces = false) (hy : plainName y.cls = true) (hlen : (lg_sl av).length ≤ nL)
    (body : ∀ J : gx_J, gx_GH D t E l ({ frames := fr, cells := mc, slots := ms, locals := lo }) b y.cls nL J hh → (∀ (pc : Nat) (L : List (Nat × Value)), decode b pc = .ok (.ireturn, 1) → J mc ms w' pc L [.int v]) → J 0 0 w 0 (lv_args 0 av) []) :
    gx_CH D t E l y b nL (some .int) hh fr lo mc ms av w w' (some (.int v)) := by
  intro sz
  refine gx_met (vx_ofWH (cc := b) (maxL := nL) (ret := some .int) (hh := hh) hy rfl ?_)
  intro p e s m args below meth c s₁ B hml hv
  obtain ⟨rfl, hsz, hP, hK, hD0, hEk, hE0⟩ := hv
  have hts := atoms_spec (ws := gx_wh y b nL (some .int) hh) B.pre
  have htab := vx_table (x := y) B (hts _ List.mem_cons_self)
  subst hsz
  have hD := hD0.self (sz := s.heap.size)
  generalize hAe : va_A w s.heap.size = A at hD hE0 ⊢
  have hA : ∀ q : Nat, s.heap.size ≤ q → A q := fun q h => by rw [← hAe]; exact Or.inr h
  have hl := lv_entry av (n := nL) hlen
  rw [lg_entry_eq]
  refine body (gx_M D p l e _ s m av.toArray below meth c A nL (vx_MQ below (gx_QC D w w' (some (.int v)) s.heap.size) (fun _ _ _ => False) av.toArray s mc ms A)) ⟨p, e, s, m, _, below, meth, c, A, _, rfl, B.exec, B.bytes, hml, findClass_of_methodNamed B.named, fun w hw => hts w (List.mem_cons_of_mem _ hw), hK, hA, hEk, hE0, htab, hst⟩ (fun pc L hd => ?_) s.heap [] _ hP hD va_S.rf hl
  intro H locs ls hP1 hD1 hS1 hl1
  exact vx_ret (W.zret B.exec B.bytes B.returns rfl (fun u hu hW => ⟨⟨rfl, by rw [hu]; exact hP1, by rw [hAe]; exact hD1⟩, by rw [hAe]; exact hS1.F hu⟩) hS1.2.2 hd B.notSynchronized)
section HCalls
variable {D : va_G} {t : Nat → ClassId} {aa : gx_AA} {l : Launch} {R : Room} {cc : ByteArray} {own : String} {nL : Nat} {J : gx_J} {w : va_W} {E0 : String} {pc : Nat} {L : List (Nat × Value)} {hh : List (Nat × Nat × Nat × Nat)}
theorem j_callVH (gh : gx_GH D t (gx_E0 aa) l R cc own nL J hh) {y : MethodName} {bC : ByteArray} {nC fr lo : Nat} {ret : Option FieldType} {wc wc' w' : va_W} {index na : Nat} {As : List Value} {rest : List Value} {a : Nat} (hC : gx_CX D t (gx_E0 aa) l y bC nC ret fr lo (.ref a :: As) wc wc' E0) {ci q0 : Nat} {qc : vw_C} {fs : List Value} (hinst : Cond.instanceMethod y ∈ lw_all) (hsel : Cond.selects y.cls y y ∈ lw_all) (hq : vwCl[ci]? = some qc) (hqc : qc.1 = y.cls) (he : w[q0]? = some (a, .inr (ci, fs))) (hcode : Cond.code y bC nC ret ∈ lw_all) (hlink : Cond.methodLink own index y ∈ lw_all) (hini : Cond.initialized y.cls ∈ lw_all) (hd0 : y.cls ≠ "java/lang/invoke/MethodHandle" ∧ y.cls ≠ "java/lang/invoke/VarHandle" ∧ (parseMethodDescriptor y.desc).map (fun d => d.parameters.length) = some na) (hna : As.length = na) (hR : fr + 1 ≤ R.frames ∧ 8 + (nC + 11) + lo ≤ R.locals) (hkn : 1 ≤ R.cells ∧ 6 ≤ R.slots) (hcat : (rest.map fun v => v.category).sum ≤ 8) (hp : w.Perm wc) (hp' : wc'.Perm w') (hd : decode cc pc = .ok (.invokevirtual index, 3)) {st : List Value} (hstk : st = As.reverse ++ .ref a :: rest)
    (pre : List ExceptionTableEntry) (x : ExceptionTableEntry) (suf : List ExceptionTableEntry) (hsplit : tableOf hh = pre ++ x :: suf) (hpass : ∀ z ∈ pre, z.catchType ≠ 0 ∧ ∃ nm : String, Cond.classLink own z.catchType nm ∈ lw_all ∧ (E0, nm) ∈ gx_ncs) (hx9 : covers x pc = true) (h09 : x.catchType ≠ 0) (hlk9 : Cond.classLink own x.catchType E0 ∈ lw_all) (hcast : Cond.castable E0 E0 ∈ gx_face)
    (kk : ∀ q : Nat, J 1 6 w' x.handlerPc L [.ref q]) : J 0 0 w pc L st := by
  obtain ⟨p, e, s, m, args, below, meth, c, A, Q, rfl, hx, hb, hml, hown, hts, hK, hA, hEk, hE, htab, hstt⟩ := gh
  intro H locs ls hP hD hS hl
  subst hstk
  have hpr := gx_pre (av := .ref a :: As) (wc := wc) hK hA ⟨hEk, hE⟩ hS hP hD hp
  have hr := vx_runV (locs := locs) (cells := 0) (slots := 0) (p := p) (e := e) (below := below) (meth := meth) (As := As) (rest := rest) (g := F0 m pc ls (As.reverse ++ .ref a :: rest)) ⟨hx, hb, hml, hown, hts⟩ (hC hstt H.size) ⟨callB_of na hts (gx_good hcode) rfl rfl rfl (hts _ hini) (hts _ hlink) hd0 ⟨hR.1, hR.2⟩, hts _ hinst, hts _ hsel⟩ ⟨hpr.1, by rw [← hqc]; exact va_recv hK hP hq he, hpr.2⟩ rfl hna hl.1 rfl (lv_room hcat) hd ⟨by omega, by omega⟩
  have hE' := hE
  obtain ⟨-, -, -, -, -, -, -, -, -, -, -, -, h13, -, h15, -, -, -, -, -, -, -⟩ := hE'
  intro T hT X
  rcases hr T hT X with ⟨v, st₀, u, T', L9, h0, X', hL, e1, e2, hno, st⟩ | ⟨q, st₀, u, T', L9, E1, ce, h0, X', hL, e1, e2, ⟨rfl, hP1, hD1, hF⟩, hce, hcv, hcl, st⟩
  · exact hno.elim
  · have hAw : ∀ q, va_A wc H.size q → A q := gx_Aw hp hD (fun q h => hA q (Nat.le_trans hS.1 h))
    obtain ⟨k1, k2, k3⟩ := vx_keep h0 e1 hS (fun q _ h => hAw q h) (fun q h => hAw q h) hL hF
    have hcatch := vx_catch (p := p) (l := l) (e := e) (R := R) (args := args) (below := below) (meth := meth) (cells := 0 + 1) (slots := 0 + 6) (locs := locs ++ L9) (Q := Q) (pc := pc) (ls := ls) (rest := rest) (H := T'.heap) hown pre x suf (htab.trans hsplit) (fun z hz => by
      obtain ⟨hz0, nm, hl1, hn1⟩ := hpass z hz
      exact Or.inr ⟨hz0, nm, hts _ hl1, h15 _ hn1⟩) hx9 h09 (hts _ hlk9) (va_Nw.use rfl (h13 _ hcast)) (by rw [e1]; exact hce) hcv hcl
      (kk q T'.heap (locs ++ L9) ls (by rw [e1]; exact gx_Pm hp' hP1) (gx_Dm hp' (hD1.weaken fun _ q _ h => hAw q.1 h)) k3 hl)
    obtain ⟨t2, a1, b1⟩ := hcatch T' rfl X'
    exact ⟨t2, st.trans a1, b1⟩
end HCalls
section HRows
variable {D : va_G} {t : Nat → ClassId} {E : gx_E} {l : Launch} {R : Room} {cc : ByteArray} {own : String} {nL : Nat} {J : gx_J} {k n : Nat} {w : va_W} {pc : Nat} {L : List (Nat × Value)} {st : List Value}
theorem j_lconst (g : gx_G D t E l R cc own nL J) {z : Fin 2} {v : Int64} (hd : decode cc pc = .ok (.lconst z, 1)) (hv : Int64.ofNat (z : Nat) = v) (kk : J k n w (pc + 1) L (.long v :: st)) : J k n w pc L st := by
  obtain ⟨p, e, s, m, args, below, meth, c, A, Q, rfl, hx, hb, hml, hown, hts, hK, hA, hE⟩ := g
  intro H locs ls hP hD hS hl
  exact lv_lconst hx hb hd hv (kk H locs ls hP hD hS hl)
theorem j_last (g : gx_G D t E l R cc own nL J) {a N : Nat} {f : Nat → Int64} (q0 : Nat) (ha : w[q0]? = some (a, .inl (t 4, N, .inr (.inl f)))) {i : Int32} {x : Int64} (hin : vp_in i N) {w' : va_W} (hw : w.set q0 (a, .inl (t 4, N, .inr (.inl (vp_updL f i.toNatClampNeg x)))) = w') (hd : decode cc pc = .ok (.lastore, 1)) (kk : J k n w' (pc + 1) L st) : J k n w pc L (.long x :: .int i :: .ref a :: st) := by
  obtain ⟨p, e, s, m, args, below, meth, c, A, Q, rfl, hx, hb, hml, hown, hts, hK, hA, hE⟩ := g
  intro H locs ls hP hD hS hl
  subst hw
  exact va_last hx hb hK hP hD hS q0 4 ha rfl hin hd (fun H1 locs1 hP1 hD1 hS1 => kk H1 locs1 ls hP1 hD1 hS1 hl)
end HRows
theorem kW_app (aa : gx_AA) (ad : Nat → Nat) (t : Nat → ClassId) (σ : CS) (rs : va_W) : kW aa ad t σ rs = kW aa ad t σ [] ++ rs := by
  unfold kW
  simp only [List.append_assoc, List.nil_append]
theorem kW_pm (aa : gx_AA) (ad : Nat → Nat) (t : Nat → ClassId) (σ : CS) (x : Nat × va_E) (rs : va_W) : (x :: kW aa ad t σ rs).Perm (kW aa ad t σ (x :: rs)) := by
  rw [kW_app aa ad t σ rs, kW_app aa ad t σ (x :: rs)]
  exact List.perm_middle.symm
