/-! NEW OBJECTS: contracts of constructors: the cells they leave are told up to their addresses -/
def gx_QN (D : va_G) (w : va_W) (Pw : va_W → Prop) (sz : Nat) : Array Value → State → Outcome → State → Prop := fun _ st o u => (o = .returned none ∧ ∃ w', Pw w' ∧ va_P D vwCl w' u.heap ∧ va_D (va_A w sz) w') ∧ va_F (va_A w sz) st u
def gx_CN (D : va_G) (t : Nat → ClassId) (E : gx_E) (l : Launch) (y : MethodName) (b : ByteArray) (nL fr lo mc ms : Nat) (av : List Value) (w : va_W) (Pw : va_W → Prop) : Prop :=
  ∀ sz : Nat, Met l y (gx_w y b nL none) ({ frames := fr, cells := mc, slots := ms, locals := lo }) (va_Pc av (gx_PC D t E w sz)) (gx_QN D w Pw sz) mc ms (va_A w sz)
def gx_GI (D : va_G) (t : Nat → ClassId) (E : gx_E) (l : Launch) (R : Room) (cc : ByteArray) (own : String) (nL : Nat) (J : gx_J) : Prop :=
  ∃ (p : Program) (e : Env) (s : State) (m : MethodId) (args : Array Value) (below : List Frame) (meth : Method) (c : Code) (A : Nat → Prop) (Q : State → Prop), J = gx_M D p l e R s m args below meth c A nL Q ∧ p.tables.exec = Jvm.exec ∧ c.code = cc ∧ c.maxLocals = nL ∧ s.vm.findClass own = some m.cls ∧ (∀ w ∈ lw_all, w.before args s = true) ∧ va_K D vwCl (gx_t t) s ∧ (∀ q, s.heap.size ≤ q → A q) ∧ gx_Ek E ∧ E A s s.heap ∧ meth.name = "<init>"
theorem gx_GI.g {D : va_G} {t : Nat → ClassId} {E : gx_E} {l : Launch} {R : Room} {cc : ByteArray} {own : String} {nL : Nat} {J : gx_J} (gi : gx_GI D t E l R cc own nL J) : gx_G D t E l R cc own nL J := by
  obtain ⟨p, e, s, m, args, below, meth, c, A, Q, h1, h2, h3, h4, h5, h6, h7, h8, h9, h10, -⟩ := gi
  exact ⟨p, e, s, m, args, below, meth, c, A, Q, h1, h2, h3, h4, h5, h6, h7, h8, h9, h10⟩
theorem gx_intro_n {D : va_G} {t : Nat → ClassId} {E : gx_E} {l : Launch} {y : MethodName} {b : ByteArray} {nL fr lo mc ms : Nat} {av : List Value} {w : va_W} {Pw : va_W → Prop} (hy : plainName y.cls = true) (hi : y.name = "<init>") (hlen : (lg_sl av).length ≤ nL)
    (body : ∀ J : gx_J, gx_GI D t E l ({ frames := fr, cells := mc, slots := ms, locals := lo }) b y.cls nL J → (∀ (pc : Nat) (L : List (Nat × Value)) (w1 w2 : va_W), decode b pc = .ok (.return_, 1) → w1.Perm w2 → Pw w2 → J mc ms w1 pc L []) → J 0 0 w 0 (lv_args 0 av) []) :
    gx_CN D t E l y b nL fr lo mc ms av w Pw := by
  intro sz
  refine Met.ofW (cc := b) (maxL := nL) (ret := none) hy rfl ?_
  intro p e s m args below meth c s₁ B hml hv
  obtain ⟨rfl, hsz, hP, hK, hD0, hEk, hE0⟩ := hv
  have hts := atoms_spec (ws := gx_w y b nL none) B.pre
  subst hsz
  have hD := hD0.self (sz := s.heap.size)
  have hnm : meth.name = "<init>" := (name_of_methodNamed B.named B.method).1.trans hi
  generalize hAe : va_A w s.heap.size = A at hD hE0 ⊢
  have hA : ∀ q : Nat, s.heap.size ≤ q → A q := fun q h => by rw [← hAe]; exact Or.inr h
  have hl := lv_entry av (n := nL) hlen
  rw [lg_entry_eq]
  refine body (gx_M D p l e _ s m av.toArray below meth c A nL (MQ below (gx_QN D w Pw s.heap.size) av.toArray s mc ms A)) ⟨p, e, s, m, _, below, meth, c, A, _, rfl, B.exec, B.bytes, hml, findClass_of_methodNamed B.named, fun w hw => hts w (List.mem_cons_of_mem _ hw), hK, hA, hEk, hE0, hnm⟩ (fun pc L w1 w2 hd hpm hpw => ?_) s.heap [] _ hP hD va_S.rf hl
  intro H locs ls hP1 hD1 hS1 hl1
  exact W.vret B.exec B.bytes B.returns (fun u hu hW => ⟨⟨rfl, w2, hpw, by rw [hu]; exact gx_Pm hpm hP1, by rw [hAe]; exact gx_Dm hpm hD1⟩, by rw [hAe]; exact hS1.F hu⟩) hS1.2.2 hd B.notSynchronized
theorem gx_callN {p : Program} {l : Launch} {e : Env} {R : Room} {s : State} {m : MethodId} {args : Array Value} {below : List Frame} {meth : Method} {c : Code} {H : Heap} {locs : List Loc} {k n mc ms : Nat} {Q : State → Prop} {D : va_G} {A : Nat → Prop} {w wc : va_W} {Pw : va_W → Prop} {av : Array Value} {pc : Nat} {ls : Array Slot} {st0 rest : List Value}
    (hr : va_Run p l e R s m args below meth c H locs k n mc ms (F0 m pc ls st0) rest (gx_QN D wc Pw H.size av) (va_A wc H.size))
    (hD : va_D A w) (hS : va_S A s.heap H locs) (hA : ∀ q, s.heap.size ≤ q → A q) (hp : w.Perm wc)
    (kk : ∀ (H1 : Heap) (locs1 : List Loc) (w' : va_W), Pw w' → va_P D vwCl w' H1 → va_D A w' → va_S A s.heap H1 locs1 → W p l e R s m args below meth c H1 locs1 (k + mc) (n + ms) Q (F0 m (pc + 3) ls rest)) :
    W p l e R s m args below meth c H locs k n Q (F0 m pc ls st0) := by
  intro T hT X
  obtain ⟨v, st₀, t, T', L, h0, X', hL, e1, e2, ⟨⟨hv, w', hpw, hP1, hD1⟩, hz, hk⟩, st⟩ := hr T hT X
  cases hv
  rw [h0] at hz hk
  have hAw : ∀ q, va_A wc H.size q → A q := gx_Aw hp hD (fun q h => hA q (Nat.le_trans hS.1 h))
  obtain ⟨t2, a1, b1⟩ := kk T'.heap (locs ++ L) w' hpw (by rw [e1]; exact hP1) (hD1.weaken fun _ q _ h => hAw q.1 h)
    ⟨Nat.le_trans hS.1 (by rw [e1]; exact hz), fun q h1 h2 => by rw [e1, hk q (Nat.lt_of_lt_of_le h1 hS.1) (fun z => h2 (hAw q z))]; exact hS.2.1 q h1 h2, fun q hq => by
      rcases List.mem_append.mp hq with h | h
      · exact hS.2.2 q h
      · exact hAw _ (hL q h)⟩ T' rfl X'
  exact ⟨t2, st t2 a1, b1⟩
section NRows
variable {D : va_G} {t : Nat → ClassId} {E : gx_E} {l : Launch} {R : Room} {cc : ByteArray} {own : String} {nL : Nat} {J : gx_J} {k n : Nat} {w : va_W} {pc : Nat} {L : List (Nat × Value)} {st : List Value}
theorem j_perm (g : gx_G D t E l R cc own nL J) {w' : va_W} (hp : w.Perm w') (kk : J k n w' pc L st) : J k n w pc L st := by
  obtain ⟨p, e, s, m, args, below, meth, c, A, Q, rfl, hx, hb, hml, hown, hts, hK, hA, hE⟩ := g
  intro H locs ls hP hD hS hl
  exact kk H locs ls (gx_Pm hp hP) (gx_Dm hp hD) hS hl
theorem j_obj (g : gx_G D t E l R cc own nL J) {a idx : Nat} (hlink : Cond.methodLink own idx Lib.objectInit ∈ lw_all) (hinst : Cond.instanceMethod Lib.objectInit ∈ lw_all) (hcode : Cond.code Lib.objectInit ⟨#[0xb1]⟩ 1 none ∈ lw_all) (hfr : 1 ≤ R.frames) (hlo : (st.map fun v => v.category).sum + 12 ≤ R.locals) (hd : decode cc pc = .ok (.invokespecial idx, 3)) (kk : J k n w (pc + 3) L st) : J k n w pc L (.ref a :: st) := by
  obtain ⟨p, e, s, m, args, below, meth, c, A, Q, rfl, hx, hb, hml, hown, hts, hK, hA, hE⟩ := g
  intro H locs ls hP hD hS hl
  refine W.objInit hx hb hown (hts _ hlink) (hts _ hinst) (hts _ hcode) rfl (by rw [hml]; exact hl.1) rfl hd hfr (by show 2 * 0 + _ + 12 ≤ _; omega) ?_
  exact W.eq (g2 := F0 m (pc + 3) ls st) rfl (kk H locs ls hP hD hS hl)
theorem j_new (g : gx_G D t E l R cc own nL J) {C : String} {T : u_T} {N ci index : Nat} (hin : ∀ w ∈ u_ws C T N, w ∈ lw_all) (ty : Nat → FieldType) (hty : ∀ k, k < N → parseFieldDescriptor (T k).2.2.1 = some (ty k)) (hcl : Cond.classLink own index C ∈ lw_all) (hinst : Cond.instantiable C N ∈ lw_all) (hini : Cond.initialized C ∈ lw_all) (hc : vwCl[ci]? = some (C, T, N)) {fs : List Value} (hfs : ∀ j, j < N → defaultValue (ty j) = vp_V fs j) (hcells : k + 1 ≤ R.cells) (hslots : n + N ≤ R.slots) (hd : decode cc pc = .ok (.new index, 3))
    (kk : ∀ q : Nat, J (k + 1) (n + N) ((q, .inr (ci, fs)) :: w) (pc + 3) L (.ref q :: st)) : J k n w pc L st := by
  obtain ⟨p, e, s, m, args, below, meth, c, A, Q, rfl, hx, hb, hml, hown, hts, hK, hA, hE⟩ := g
  intro H locs ls hP hD hS hl
  exact va_new hx hb hts hin ty hty hown (hts _ hcl) (hts _ hinst) (hts _ hini) hK hP hD hS hA hc hfs hcells hslots hd (fun q H1 hP1 hD1 hS1 => kk q H1 locs ls (gx_Pm (List.perm_append_singleton _ _) hP1) (gx_Dm (List.perm_append_singleton _ _) hD1) hS1 hl)
theorem gx_cls0 {s : State} {D : va_G} {tys : List (ClassId × FieldType)} {ty : FieldType} {cA cB : ClassId} (hty : ∀ C, ty ≠ .object C) {i j : Nat} (hK : va_K D vwCl tys s) (h1 : tys[i]? = some (cA, ty)) (h2 : tys[j]? = some (cB, ty)) : cA = cB := by
  have a := (hK.2 i _ h1).2
  have b := (hK.2 j _ h2).2
  cases ty with
  | object C => exact absurd rfl (hty C)
  | _ => exact Option.some.inj (Eq.trans (Eq.symm a) b)
theorem gx_clsO {s : State} {D : va_G} {tys : List (ClassId × FieldType)} {C : String} {cA cB : ClassId} {i j : Nat} (hK : va_K D vwCl tys s) (h1 : tys[i]? = some (cA, .object C)) (h2 : tys[j]? = some (cB, .object C)) : cA = cB := by
  obtain ⟨-, -, -, -, -, a⟩ := (hK.2 i _ h1).2
  obtain ⟨-, -, -, -, -, b⟩ := (hK.2 j _ h2).2
  exact Option.some.inj (a.symm.trans b)
theorem j_newi (g : gx_G D t E l R cc own nL J) (harr : Cond.arrayClass .int ∈ lw_all) {x : Int32} {N : Nat} (hn : ¬ x < 0) (hN : x.toNatClampNeg = N) (hbytes : N * 4 ≤ 536870912) (hcells : k + 1 ≤ R.cells) (hslots : n + N ≤ R.slots) (hd : decode cc pc = .ok (.newarray .int, 2))
    (kk : ∀ q : Nat, J (k + 1) (n + N) ((q, .inl (t 0, N, .inl (fun _ => 0))) :: w) (pc + 2) L (.ref q :: st)) : J k n w pc L (.int x :: st) := by
  obtain ⟨p, e, s, m, args, below, meth, c, A, Q, rfl, hx, hb, hml, hown, hts, hK, hA, hE⟩ := g
  intro H locs ls hP hD hS hl
  refine va_newa (atype := .int) (ty := .int) (a0 := (N, .inl (fun _ => 0))) hx hb (hts _ harr) rfl hK hP hD hS hA (fun cA => rfl) hn hN hbytes hcells hslots hd (fun q cA H1 hK1 hP1 hD1 hS1 => ?_)
  have he : cA = t 0 := gx_cls0 (i := 6) (j := 0) (ty := .int) (fun C h => by cases h) hK1 rfl rfl
  subst he
  exact kk q H1 locs ls (gx_Pm (List.perm_append_singleton _ _) hP1) (gx_Dm (List.perm_append_singleton _ _) hD1) hS1 hl
theorem j_newz (g : gx_G D t E l R cc own nL J) (harr : Cond.arrayClass .boolean ∈ lw_all) {x : Int32} {N : Nat} (hn : ¬ x < 0) (hN : x.toNatClampNeg = N) (hbytes : N * 1 ≤ 536870912) (hcells : k + 1 ≤ R.cells) (hslots : n + N ≤ R.slots) (hd : decode cc pc = .ok (.newarray .boolean, 2))
    (kk : ∀ q : Nat, J (k + 1) (n + N) ((q, .inl (t 1, N, .inl (fun _ => 0))) :: w) (pc + 2) L (.ref q :: st)) : J k n w pc L (.int x :: st) := by
  obtain ⟨p, e, s, m, args, below, meth, c, A, Q, rfl, hx, hb, hml, hown, hts, hK, hA, hE⟩ := g
  intro H locs ls hP hD hS hl
  refine va_newa (atype := .boolean) (ty := .boolean) (a0 := (N, .inl (fun _ => 0))) hx hb (hts _ harr) rfl hK hP hD hS hA (fun cA => rfl) hn hN hbytes hcells hslots hd (fun q cA H1 hK1 hP1 hD1 hS1 => ?_)
  have he : cA = t 1 := gx_cls0 (i := 6) (j := 1) (ty := .boolean) (fun C h => by cases h) hK1 rfl rfl
  subst he
  exact kk q H1 locs ls (gx_Pm (List.perm_append_singleton _ _) hP1) (gx_Dm (List.perm_append_singleton _ _) hD1) hS1 hl
theorem j_newc (g : gx_G D t E l R cc own nL J) (harr : Cond.arrayClass .char ∈ lw_all) {x : Int32} {N : Nat} (hn : ¬ x < 0) (hN : x.toNatClampNeg = N) (hbytes : N * 2 ≤ 536870912) (hcells : k + 1 ≤ R.cells) (hslots : n + N ≤ R.slots) (hd : decode cc pc = .ok (.newarray .char, 2))
    (kk : ∀ q : Nat, J (k + 1) (n + N) ((q, .inl (t 2, N, .inl (fun _ => 0))) :: w) (pc + 2) L (.ref q :: st)) : J k n w pc L (.int x :: st) := by
  obtain ⟨p, e, s, m, args, below, meth, c, A, Q, rfl, hx, hb, hml, hown, hts, hK, hA, hE⟩ := g
  intro H locs ls hP hD hS hl
  refine va_newa (atype := .char) (ty := .char) (a0 := (N, .inl (fun _ => 0))) hx hb (hts _ harr) rfl hK hP hD hS hA (fun cA => rfl) hn hN hbytes hcells hslots hd (fun q cA H1 hK1 hP1 hD1 hS1 => ?_)
  have he : cA = t 2 := gx_cls0 (i := 6) (j := 2) (ty := .char) (fun C h => by cases h) hK1 rfl rfl
  subst he
  exact kk q H1 locs ls (gx_Pm (List.perm_append_singleton _ _) hP1) (gx_Dm (List.perm_append_singleton _ _) hD1) hS1 hl
theorem j_newq (g : gx_G D t E l R cc own nL J) {index : Nat} (hcl : Cond.classLink own index "CommandChain$Navy" ∈ lw_all) (hAO : ∀ (A : Nat → Prop) (U : State) (H : Heap), E A U H → va_AO "CommandChain$Navy" U) {x : Int32} {N : Nat} (hn : ¬ x < 0) (hN : x.toNatClampNeg = N) (hbytes : N * 4 ≤ 536870912) (hcells : k + 1 ≤ R.cells) (hslots : n + N ≤ R.slots) (hd : decode cc pc = .ok (.anewarray index, 3))
    (kk : ∀ q : Nat, J (k + 1) (n + N) ((q, .inl (t 3, N, .inr (.inr (.inr (.inr (fun _ => none)))))) :: w) (pc + 3) L (.ref q :: st)) : J k n w pc L (.int x :: st) := by
  obtain ⟨p, e, s, m, args, below, meth, c, A, Q, rfl, hx, hb, hml, hown, hts, hK, hA, hE⟩ := g
  intro H locs ls hP hD hS hl
  refine va_newq hx hb hown (hts _ hcl) (hAO _ _ _ hE.2) hK hP hD hS hA hn hN hbytes hcells hslots hd (fun q cA H1 hK1 hP1 hD1 hS1 => ?_)
  have he : cA = t 3 := gx_clsO (i := 6) (j := 3) hK1 rfl rfl
  subst he
  exact kk q H1 locs ls (gx_Pm (List.perm_append_singleton _ _) hP1) (gx_Dm (List.perm_append_singleton _ _) hD1) hS1 hl
theorem j_qast (g : gx_G D t E l R cc own nL J) {a N v : Nat} {vs : List Value} {f : Nat → Option Nat} (q0 qk : Nat) (ha : w[q0]? = some (a, .inl (t 3, N, .inr (.inr (.inr (.inr f)))))) (hv : w[qk]? = some (v, .inr (4, vs))) {i : Int32} (hin : gx_in i N) {w' : va_W} (hw : w.set q0 (a, .inl (t 3, N, .inr (.inr (.inr (.inr (va_up f i.toNatClampNeg (some v))))))) = w') (hd : decode cc pc = .ok (.aastore, 1)) (kk : J k n w' (pc + 1) L st) : J k n w pc L (.ref v :: .int i :: .ref a :: st) := by
  obtain ⟨p, e, s, m, args, below, meth, c, A, Q, rfl, hx, hb, hml, hown, hts, hK, hA, hE⟩ := g
  intro H locs ls hP hD hS hl
  subst hw
  exact va_astq (r := (RX2, TX2, 7)) hx hb hK hP hD hS q0 3 qk 4 ha rfl hv rfl hin hd (fun H1 locs1 hP1 hD1 hS1 => kk H1 locs1 ls hP1 hD1 hS1 hl)
theorem j_putF (g : gx_GI D t E l R cc own nL J) {C ref : String} {T : u_T} {N ci index a : Nat} {fs : List Value} (hin : ∀ w ∈ u_ws C T N, w ∈ lw_all) (q0 : Nat) (he : w[q0]? = some (a, .inr (ci, fs))) (hc : vwCl[ci]? = some (C, T, N)) (f : Nat) (hf : f < N) (hlink : Cond.fieldLink own index ref (T f).2.1 (T f).2.2.1 ∈ lw_all) (hr : (T f).1 = ref) (ty0 : Nat → FieldType) (hty : ∀ k, k < N → parseFieldDescriptor (T k).2.2.1 = some (ty0 k)) (hnm : ∀ a, a < N → ∀ b, b < N → a ≠ b → (T a).2.1 ≠ (T b).2.1) (hfin : (T f).2.2.2 = true) (hdecl : (T f).1 = own) {ty : FieldType} {v : Value} (hdt : parseFieldDescriptor (T f).2.2.1 = some ty) (hn : narrow ty v = v) (hfit : fits ty v = true) (hl5 : f < fs.length) {w' : va_W} (hw : w.set q0 (a, .inr (ci, fs.set f v)) = w') (hd : decode cc pc = .ok (.putfield index, 3)) (kk : J k n w' (pc + 3) L (st)) : J k n w (pc) L (v :: .ref a :: st) := by
  obtain ⟨p, e, s, m, args, below, meth, c, A, Q, rfl, hx, hb, hml, hown, hts, hK, hA, hEk, hE, hmn⟩ := g
  intro H locs ls hP hD hS hl
  subst hw
  exact va_putF hx hb hts hin ty0 hty hnm hown hK hP hD hS q0 he hc f hf (hts _ hlink) (fun _ h9 => by rw [← hr]; exact h9) hfin hmn hdecl hdt hn hfit hl5 hd (fun H1 locs1 hP1 hD1 hS1 => kk H1 locs1 ls hP1 hD1 hS1 hl)
theorem j_callI (g : gx_G D t E l R cc own nL J) {y : MethodName} {bC : ByteArray} {nC fr lo mc ms : Nat} {wc : va_W} {Pw : va_W → Prop} {index : Nat} {rest : List Value} {a : Nat} (hC : gx_CN D t E l y bC nC fr lo mc ms [.ref a] wc Pw) (hi : y.name = "<init>") (hinst : Cond.instanceMethod y ∈ lw_all) (hcode : Cond.code y bC nC none ∈ lw_all) (hlink : Cond.methodLink own index y ∈ lw_all) (hini : Cond.initialized y.cls ∈ lw_all) (hd0 : y.cls ≠ "java/lang/invoke/MethodHandle" ∧ y.cls ≠ "java/lang/invoke/VarHandle" ∧ (parseMethodDescriptor y.desc).map (fun d => d.parameters.length) = some 0) (hR : fr + 1 ≤ R.frames ∧ 8 + (nC + 11) + lo ≤ R.locals) (hkn : k + mc ≤ R.cells ∧ n + ms ≤ R.slots) (hcat : (rest.map fun v => v.category).sum ≤ 8) (hp : w.Perm wc) (hd : decode cc pc = .ok (.invokespecial index, 3)) (kk : ∀ w', Pw w' → J (k + mc) (n + ms) w' (pc + 3) L rest) : J k n w pc L (.ref a :: rest) := by
  obtain ⟨p, e, s, m, args, below, meth, c, A, Q, rfl, hx, hb, hml, hown, hts, hK, hA, hE⟩ := g
  intro H locs ls hP hD hS hl
  exact gx_callN (rest := rest) (va_runI (As := []) (rest := rest) ⟨hx, hb, hml, hown, hts⟩ (hC H.size) ⟨callB_of 0 hts (gx_good hcode) rfl rfl rfl (hts _ hini) (hts _ hlink) hd0 ⟨hR.1, hR.2⟩, hi, hts _ hinst⟩ (gx_pre (av := [.ref a]) (wc := wc) hK hA hE hS hP hD hp) rfl rfl hl.1 rfl (lv_room hcat) hd ⟨hkn.1, hkn.2⟩) hD hS hA hp (fun H1 locs1 w' hw hP1 hD1 hS1 => kk w' hw H1 locs1 ls hP1 hD1 hS1 hl)
theorem j_callIn (g : gx_G D t E l R cc own nL J) {y : MethodName} {bC : ByteArray} {nC fr lo mc ms : Nat} {wc : va_W} {Pw : va_W → Prop} {index : Nat} {rest : List Value} {a : Nat} {host : String} (hC : gx_CN D t E l y bC nC fr lo mc ms [.ref a] wc Pw) (hi : y.name = "<init>") (hinst : Cond.instanceMethod y ∈ lw_all) (hcode : Cond.code y bC nC none ∈ lw_all) (hlink : ∀ (A : Nat → Prop) (U : State) (H : Heap), E A U H → va_Nw (.methodLinkNest own index y host) U) (hini : Cond.initialized y.cls ∈ lw_all) (hd0 : y.cls ≠ "java/lang/invoke/MethodHandle" ∧ y.cls ≠ "java/lang/invoke/VarHandle" ∧ (parseMethodDescriptor y.desc).map (fun d => d.parameters.length) = some 0) (hR : fr + 1 ≤ R.frames ∧ 8 + (nC + 11) + lo ≤ R.locals) (hkn : k + mc ≤ R.cells ∧ n + ms ≤ R.slots) (hcat : (rest.map fun v => v.category).sum ≤ 8) (hp : w.Perm wc) (hd : decode cc pc = .ok (.invokespecial index, 3)) (kk : ∀ w', Pw w' → J (k + mc) (n + ms) w' (pc + 3) L rest) : J k n w pc L (.ref a :: rest) := by
  obtain ⟨p, e, s, m, args, below, meth, c, A, Q, rfl, hx, hb, hml, hown, hts, hK, hA, hE⟩ := g
  intro H locs ls hP hD hS hl
  exact gx_callN (rest := rest) (va_runIN (As := []) (rest := rest) ⟨hx, hb, hml, hown, hts⟩ (hC H.size) ⟨va_cnB 0 hts (gx_good hcode) rfl rfl rfl (hlink _ _ _ hE.2) (hts _ hini) hd0 ⟨hR.1, hR.2⟩, hi, hts _ hinst⟩ (gx_pre (av := [.ref a]) (wc := wc) hK hA hE hS hP hD hp) rfl rfl hl.1 rfl (lv_room hcat) hd ⟨hkn.1, hkn.2⟩) hD hS hA hp (fun H1 locs1 w' hw hP1 hD1 hS1 => kk w' hw H1 locs1 ls hP1 hD1 hS1 hl)
end NRows
