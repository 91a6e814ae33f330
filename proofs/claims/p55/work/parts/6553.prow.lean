/-! methods that make cells, whose answers and worlds are told up to addresses -/
def gx_QP (D : va_G) (w : va_W) (Pw : Option Value → va_W → Prop) (sz : Nat) : Array Value → State → Outcome → State → Prop := fun _ st o u => (∃ r w', o = .returned r ∧ Pw r w' ∧ va_P D vwCl w' u.heap ∧ va_D (va_A w sz) w') ∧ va_F (va_A w sz) st u
def gx_CP (D : va_G) (t : Nat → ClassId) (E : gx_E) (l : Launch) (y : MethodName) (b : ByteArray) (nL : Nat) (ret : Option FieldType) (fr lo mc ms : Nat) (av : List Value) (w : va_W) (Pw : Option Value → va_W → Prop) : Prop :=
  ∀ sz : Nat, Met l y (gx_w y b nL ret) ({ frames := fr, cells := mc, slots := ms, locals := lo }) (va_Pc av (gx_PC D t E w sz)) (gx_QP D w Pw sz) mc ms (va_A w sz)
theorem gx_intro_pi {D : va_G} {t : Nat → ClassId} {E : gx_E} {l : Launch} {y : MethodName} {b : ByteArray} {nL fr lo mc ms : Nat} {av : List Value} {w : va_W} {Pw : Option Value → va_W → Prop} (hy : plainName y.cls = true) (hlen : (lg_sl av).length ≤ nL) {ty : FieldType}
    (body : ∀ J : gx_J, gx_G D t E l ({ frames := fr, cells := mc, slots := ms, locals := lo }) b y.cls nL J → (∀ (pc : Nat) (L : List (Nat × Value)) (w1 w2 : va_W) (v : Int32), decode b pc = .ok (.ireturn, 1) → narrow ty (.int v) = .int v → w1.Perm w2 → Pw (some (.int v)) w2 → J mc ms w1 pc L [.int v]) → J 0 0 w 0 (lv_args 0 av) []) :
    gx_CP D t E l y b nL (some ty) fr lo mc ms av w Pw := by
  intro sz
  refine Met.ofW (cc := b) (maxL := nL) (ret := some ty) hy rfl ?_
  intro p e s m args below meth c s₁ B hml hv
  obtain ⟨rfl, hsz, hP, hK, hD0, hEk, hE0⟩ := hv
  have hts := atoms_spec (ws := gx_w y b nL (some ty)) B.pre
  subst hsz
  have hD := hD0.self (sz := s.heap.size)
  generalize hAe : va_A w s.heap.size = A at hD hE0 ⊢
  have hA : ∀ q : Nat, s.heap.size ≤ q → A q := fun q h => by rw [← hAe]; exact Or.inr h
  have hl := lv_entry av (n := nL) hlen
  rw [lg_entry_eq]
  refine body (gx_M D p l e _ s m av.toArray below meth c A nL (MQ below (gx_QP D w Pw s.heap.size) av.toArray s mc ms A)) ⟨p, e, s, m, _, below, meth, c, A, _, rfl, B.exec, B.bytes, hml, findClass_of_methodNamed B.named, fun w hw => hts w (List.mem_cons_of_mem _ hw), hK, hA, hEk, hE0⟩ (fun pc L w1 w2 v hd hn hpm hpw => ?_) s.heap [] _ hP hD va_S.rf hl
  intro H locs ls hP1 hD1 hS1 hl1
  exact W.zret B.exec B.bytes B.returns hn (fun u hu hW => ⟨⟨_, w2, rfl, hpw, by rw [hu]; exact gx_Pm hpm hP1, by rw [hAe]; exact gx_Dm hpm hD1⟩, by rw [hAe]; exact hS1.F hu⟩) hS1.2.2 hd B.notSynchronized

theorem gx_intro_pa {D : va_G} {t : Nat → ClassId} {E : gx_E} {l : Launch} {y : MethodName} {b : ByteArray} {nL fr lo mc ms : Nat} {av : List Value} {w : va_W} {Pw : Option Value → va_W → Prop} (hy : plainName y.cls = true) (hlen : (lg_sl av).length ≤ nL) {ty : FieldType} (hty : (∃ n, ty = .object n) ∨ ∃ t, ty = .array t)
    (body : ∀ J : gx_J, gx_G D t E l ({ frames := fr, cells := mc, slots := ms, locals := lo }) b y.cls nL J → (∀ (pc : Nat) (L : List (Nat × Value)) (w1 w2 : va_W) (v : Nat), decode b pc = .ok (.areturn, 1) → w1.Perm w2 → Pw (some (.ref v)) w2 → J mc ms w1 pc L [.ref v]) → J 0 0 w 0 (lv_args 0 av) []) :
    gx_CP D t E l y b nL (some ty) fr lo mc ms av w Pw := by
  intro sz
  refine Met.ofW (cc := b) (maxL := nL) (ret := some ty) hy rfl ?_
  intro p e s m args below meth c s₁ B hml hv
  obtain ⟨rfl, hsz, hP, hK, hD0, hEk, hE0⟩ := hv
  have hts := atoms_spec (ws := gx_w y b nL (some ty)) B.pre
  subst hsz
  have hD := hD0.self (sz := s.heap.size)
  generalize hAe : va_A w s.heap.size = A at hD hE0 ⊢
  have hA : ∀ q : Nat, s.heap.size ≤ q → A q := fun q h => by rw [← hAe]; exact Or.inr h
  have hl := lv_entry av (n := nL) hlen
  rw [lg_entry_eq]
  refine body (gx_M D p l e _ s m av.toArray below meth c A nL (MQ below (gx_QP D w Pw s.heap.size) av.toArray s mc ms A)) ⟨p, e, s, m, _, below, meth, c, A, _, rfl, B.exec, B.bytes, hml, findClass_of_methodNamed B.named, fun w hw => hts w (List.mem_cons_of_mem _ hw), hK, hA, hEk, hE0⟩ (fun pc L w1 w2 v hd hpm hpw => ?_) s.heap [] _ hP hD va_S.rf hl
  intro H locs ls hP1 hD1 hS1 hl1
  exact W.aret B.exec B.bytes B.returns hty (Or.inr ⟨v, rfl⟩) (fun u hu hW => ⟨⟨_, w2, rfl, hpw, by rw [hu]; exact gx_Pm hpm hP1, by rw [hAe]; exact gx_Dm hpm hD1⟩, by rw [hAe]; exact hS1.F hu⟩) hS1.2.2 hd B.notSynchronized

theorem gx_intro_pv {D : va_G} {t : Nat → ClassId} {E : gx_E} {l : Launch} {y : MethodName} {b : ByteArray} {nL fr lo mc ms : Nat} {av : List Value} {w : va_W} {Pw : Option Value → va_W → Prop} (hy : plainName y.cls = true) (hlen : (lg_sl av).length ≤ nL)
    (body : ∀ J : gx_J, gx_G D t E l ({ frames := fr, cells := mc, slots := ms, locals := lo }) b y.cls nL J → (∀ (pc : Nat) (L : List (Nat × Value)) (w1 w2 : va_W), decode b pc = .ok (.return_, 1) → w1.Perm w2 → Pw none w2 → J mc ms w1 pc L []) → J 0 0 w 0 (lv_args 0 av) []) :
    gx_CP D t E l y b nL (none) fr lo mc ms av w Pw := by
  intro sz
  refine Met.ofW (cc := b) (maxL := nL) (ret := none) hy rfl ?_
  intro p e s m args below meth c s₁ B hml hv
  obtain ⟨rfl, hsz, hP, hK, hD0, hEk, hE0⟩ := hv
  have hts := atoms_spec (ws := gx_w y b nL (none)) B.pre
  subst hsz
  have hD := hD0.self (sz := s.heap.size)
  generalize hAe : va_A w s.heap.size = A at hD hE0 ⊢
  have hA : ∀ q : Nat, s.heap.size ≤ q → A q := fun q h => by rw [← hAe]; exact Or.inr h
  have hl := lv_entry av (n := nL) hlen
  rw [lg_entry_eq]
  refine body (gx_M D p l e _ s m av.toArray below meth c A nL (MQ below (gx_QP D w Pw s.heap.size) av.toArray s mc ms A)) ⟨p, e, s, m, _, below, meth, c, A, _, rfl, B.exec, B.bytes, hml, findClass_of_methodNamed B.named, fun w hw => hts w (List.mem_cons_of_mem _ hw), hK, hA, hEk, hE0⟩ (fun pc L w1 w2 hd hpm hpw => ?_) s.heap [] _ hP hD va_S.rf hl
  intro H locs ls hP1 hD1 hS1 hl1
  exact W.vret B.exec B.bytes B.returns (fun u hu hW => ⟨⟨_, w2, rfl, hpw, by rw [hu]; exact gx_Pm hpm hP1, by rw [hAe]; exact gx_Dm hpm hD1⟩, by rw [hAe]; exact hS1.F hu⟩) hS1.2.2 hd B.notSynchronized

theorem gx_intro_pn {D : va_G} {t : Nat → ClassId} {E : gx_E} {l : Launch} {y : MethodName} {b : ByteArray} {nL fr lo mc ms : Nat} {av : List Value} {w : va_W} {Pw : Option Value → va_W → Prop} (hy : plainName y.cls = true) (hlen : (lg_sl av).length ≤ nL) (hi : y.name = "<init>")
    (body : ∀ J : gx_J, gx_GI D t E l ({ frames := fr, cells := mc, slots := ms, locals := lo }) b y.cls nL J → (∀ (pc : Nat) (L : List (Nat × Value)) (w1 w2 : va_W), decode b pc = .ok (.return_, 1) → w1.Perm w2 → Pw none w2 → J mc ms w1 pc L []) → J 0 0 w 0 (lv_args 0 av) []) :
    gx_CP D t E l y b nL (none) fr lo mc ms av w Pw := by
  intro sz
  refine Met.ofW (cc := b) (maxL := nL) (ret := none) hy rfl ?_
  intro p e s m args below meth c s₁ B hml hv
  obtain ⟨rfl, hsz, hP, hK, hD0, hEk, hE0⟩ := hv
  have hts := atoms_spec (ws := gx_w y b nL (none)) B.pre
  subst hsz
  have hD := hD0.self (sz := s.heap.size)
  have hnm : meth.name = "<init>" := (name_of_methodNamed B.named B.method).1.trans hi
  generalize hAe : va_A w s.heap.size = A at hD hE0 ⊢
  have hA : ∀ q : Nat, s.heap.size ≤ q → A q := fun q h => by rw [← hAe]; exact Or.inr h
  have hl := lv_entry av (n := nL) hlen
  rw [lg_entry_eq]
  refine body (gx_M D p l e _ s m av.toArray below meth c A nL (MQ below (gx_QP D w Pw s.heap.size) av.toArray s mc ms A)) ⟨p, e, s, m, _, below, meth, c, A, _, rfl, B.exec, B.bytes, hml, findClass_of_methodNamed B.named, fun w hw => hts w (List.mem_cons_of_mem _ hw), hK, hA, hEk, hE0, hnm⟩ (fun pc L w1 w2 hd hpm hpw => ?_) s.heap [] _ hP hD va_S.rf hl
  intro H locs ls hP1 hD1 hS1 hl1
  exact W.vret B.exec B.bytes B.returns (fun u hu hW => ⟨⟨_, w2, rfl, hpw, by rw [hu]; exact gx_Pm hpm hP1, by rw [hAe]; exact gx_Dm hpm hD1⟩, by rw [hAe]; exact hS1.F hu⟩) hS1.2.2 hd B.notSynchronized

theorem gx_callP {p : Program} {l : Launch} {e : Env} {R : Room} {s : State} {m : MethodId} {args : Array Value} {below : List Frame} {meth : Method} {c : Code} {H : Heap} {locs : List Loc} {k n mc ms : Nat} {Q : State → Prop} {D : va_G} {A : Nat → Prop} {w wc : va_W} {Pw : Option Value → va_W → Prop} {av : Array Value} {pc : Nat} {ls : Array Slot} {st0 rest : List Value}
    (hr : va_Run p l e R s m args below meth c H locs k n mc ms (F0 m pc ls st0) rest (gx_QP D wc Pw H.size av) (va_A wc H.size))
    (hD : va_D A w) (hS : va_S A s.heap H locs) (hA : ∀ q, s.heap.size ≤ q → A q) (hsub : ∀ q ∈ wc, q ∈ w)
    (kk : ∀ (H1 : Heap) (locs1 : List Loc) (r : Option Value) (w' : va_W), H.size ≤ H1.size → (∀ q : Nat, q < H.size → ¬ va_A wc H.size q → H1[q]? = H[q]?) → Pw r w' → va_P D vwCl w' H1 → va_D (va_A wc H.size) w' → va_S A s.heap H1 locs1 → W p l e R s m args below meth c H1 locs1 (k + mc) (n + ms) Q (F0 m (pc + 3) ls (r.toList ++ rest))) :
    W p l e R s m args below meth c H locs k n Q (F0 m pc ls st0) := by
  intro T hT X
  obtain ⟨v, st₀, t, T', L, h0, X', hL, e1, e2, ⟨⟨r, w', hv, hpw, hP1, hD1⟩, hz, hk⟩, st⟩ := hr T hT X
  cases hv
  rw [h0] at hz hk
  have hAw : ∀ q, va_A wc H.size q → A q := fun q h => by
    rcases h with ⟨k, e, h⟩ | h
    · exact (gx_Dn.mp hD).2 (q, e) (hsub _ (List.mem_of_getElem? h))
    · exact hA q (Nat.le_trans hS.1 h)
  obtain ⟨t2, a1, b1⟩ := kk T'.heap (locs ++ L) v w' (by rw [e1]; exact hz) (fun q h1 h2 => by rw [e1]; exact hk q h1 h2) hpw (by rw [e1]; exact hP1) hD1
    ⟨Nat.le_trans hS.1 (by rw [e1]; exact hz), fun q h1 h2 => by rw [e1, hk q (Nat.lt_of_lt_of_le h1 hS.1) (fun z => h2 (hAw q z))]; exact hS.2.1 q h1 h2, fun q hq => by
      rcases List.mem_append.mp hq with h | h
      · exact hS.2.2 q h
      · exact hAw _ (hL q h)⟩ T' rfl X'
  exact ⟨t2, st t2 a1, b1⟩
/-- a method that AbstractStringBuilder keeps to itself, on a StringBuilder -/
theorem k3_sel {C : String} {y : MethodName} {s : State} {args : Array Value} {n : Nat} (hy : y.cls ≠ "java/lang/invoke/MethodHandle" ∧ y.cls ≠ "java/lang/invoke/VarHandle") (hins : (Cond.instantiable C n).before args s = true) (hsame : (Cond.sameMethod y.cls y.cls y.name y.desc).before args s = true) (hpriv : (Cond.privateMethod y).before args s = true) (hinst : (Cond.instanceMethod y).before args s = true) :
    (Cond.selects C y y).before args s = true := by
  obtain ⟨c, k, hc, hk, -, -, -, -⟩ := Cond.instantiable_spec hins
  obtain ⟨mk, methM, hnamed, hmethM, -, -⟩ := Cond.instanceMethod_spec hinst
  have hfound : s.methodFound? y.cls y.name y.desc = some mk := State.methodFound?_of_named hnamed hy
  have hcls := findClass_of_methodNamed hnamed
  have hsel : selectMethod {} s.vm c mk = .method mk := selectMethod_private hmethM (Cond.privateMethod_at hpriv mk methM hnamed hmethM)
  have hn2 : s.methodNamed? ⟨y.cls, y.name, y.desc⟩ = some mk := hnamed
  simp only [Cond.before, Cond.holds, Cond.value, hcls, hfound, hn2] at hsame
  simp only [Cond.before, Cond.holds, Cond.value, hc, hfound, hnamed, hsel]
  simpa using hsame
section PRows
variable {D : va_G} {t : Nat → ClassId} {E : gx_E} {l : Launch} {R : Room} {cc : ByteArray} {own : String} {nL : Nat} {J : gx_J} {k n : Nat} {w : va_W} {pc : Nat} {L : List (Nat × Value)} {st : List Value}
theorem j_ishl (g : gx_G D t E l R cc own nL J) {x y : Int32} (hd : decode cc pc = .ok (.ishl, 1)) (kk : J k n w (pc + 1) L (.int (x <<< (y &&& 31)) :: st)) : J k n w pc L (.int y :: .int x :: st) := by
  obtain ⟨p, e, s, m, args, below, meth, c, A, Q, rfl, hx, hb, hml, hown, hts, hK, hA, hE⟩ := g
  intro H locs ls hP hD hS hl
  exact lv_ishl hx hb hd (kk H locs ls hP hD hS hl)
theorem j_ineg (g : gx_G D t E l R cc own nL J) {x : Int32} (hd : decode cc pc = .ok (.ineg, 1)) (kk : J k n w (pc + 1) L (.int (-x) :: st)) : J k n w pc L (.int x :: st) := by
  obtain ⟨p, e, s, m, args, below, meth, c, A, Q, rfl, hx, hb, hml, hown, hts, hK, hA, hE⟩ := g
  intro H locs ls hP hD hS hl
  exact lv_ineg hx hb hd (kk H locs ls hP hD hS hl)
theorem j_i2b (g : gx_G D t E l R cc own nL J) {x v : Int32} (hd : decode cc pc = .ok (.i2b, 1)) (hv : x.toInt8.toInt32 = v) (kk : J k n w (pc + 1) L (.int v :: st)) : J k n w pc L (.int x :: st) := by
  obtain ⟨p, e, s, m, args, below, meth, c, A, Q, rfl, hx, hb, hml, hown, hts, hK, hA, hE⟩ := g
  intro H locs ls hP hD hS hl
  exact lv_i2b hx hb hd hv (kk H locs ls hP hD hS hl)
theorem j_dupx1 (g : gx_G D t E l R cc own nL J) {a b : Value} (hd : decode cc pc = .ok (.dup_x1, 1)) (ha : a.category = 1) (hb1 : b.category = 1) (kk : J k n w (pc + 1) L (a :: b :: a :: st)) : J k n w pc L (a :: b :: st) := by
  obtain ⟨p, e, s, m, args, below, meth, c, A, Q, rfl, hx, hb, hml, hown, hts, hK, hA, hE⟩ := g
  intro H locs ls hP hD hS hl
  exact lv_dup_x1 hx hb hd ha hb1 (kk H locs ls hP hD hS hl)
theorem j_nul (g : gx_G D t E l R cc own nL J) (hd : decode cc pc = .ok (.aconst_null, 1)) (kk : J k n w (pc + 1) L (.null :: st)) : J k n w pc L st := by
  obtain ⟨p, e, s, m, args, below, meth, c, A, Q, rfl, hx, hb, hml, hown, hts, hK, hA, hE⟩ := g
  intro H locs ls hP hD hS hl
  exact lv_null hx hb hd (kk H locs ls hP hD hS hl)
theorem j_alenb (g : gx_G D t E l R cc own nL J) {a N : Nat} {f : Nat → Int32} (q0 : Nat) (ha : w[q0]? = some (a, .inl (t 5, N, .inl f))) (hd : decode cc pc = .ok (.arraylength, 1)) (kk : J k n w (pc + 1) L (.int (Int32.ofNat N) :: st)) : J k n w pc L (.ref a :: st) := by
  obtain ⟨p, e, s, m, args, below, meth, c, A, Q, rfl, hx, hb, hml, hown, hts, hK, hA, hE⟩ := g
  intro H locs ls hP hD hS hl
  exact va_alen hx hb hK hP q0 5 ha rfl rfl hd (kk H locs ls hP hD hS hl)
theorem j_bast (g : gx_G D t E l R cc own nL J) {a N : Nat} {f : Nat → Int32} (q0 : Nat) (ha : w[q0]? = some (a, .inl (t 5, N, .inl f))) {i x : Int32} (hin : vp_in i N) {w' : va_W} (hw : w.set q0 (a, .inl (t 5, N, .inl (upd f i.toNatClampNeg (vp_nar .byte x)))) = w') (hd : decode cc pc = .ok (.bastore, 1)) (kk : J k n w' (pc + 1) L st) : J k n w pc L (.int x :: .int i :: .ref a :: st) := by
  obtain ⟨p, e, s, m, args, below, meth, c, A, Q, rfl, hx, hb, hml, hown, hts, hK, hA, hE⟩ := g
  intro H locs ls hP hD hS hl
  subst hw
  exact va_bast hx hb hK hP hD hS q0 5 ha rfl hin hd (fun H1 locs1 hP1 hD1 hS1 => kk H1 locs1 ls hP1 hD1 hS1 hl)
theorem j_newb (g : gx_G D t E l R cc own nL J) (harr : Cond.arrayClass .byte ∈ lw_all) {x : Int32} {N : Nat} (hn : ¬ x < 0) (hN : x.toNatClampNeg = N) (hbytes : N * 1 ≤ 536870912) (hcells : k + 1 ≤ R.cells) (hslots : n + N ≤ R.slots) (hd : decode cc pc = .ok (.newarray .byte, 2))
    (kk : ∀ q : Nat, J (k + 1) (n + N) ((q, .inl (t 5, N, .inl (fun _ => 0))) :: w) (pc + 2) L (.ref q :: st)) : J k n w pc L (.int x :: st) := by
  obtain ⟨p, e, s, m, args, below, meth, c, A, Q, rfl, hx, hb, hml, hown, hts, hK, hA, hE⟩ := g
  intro H locs ls hP hD hS hl
  refine va_newa (atype := .byte) (ty := .byte) (a0 := (N, .inl (fun _ => 0))) hx hb (hts _ harr) rfl hK hP hD hS hA (fun cA => rfl) hn hN hbytes hcells hslots hd (fun q cA H1 hK1 hP1 hD1 hS1 => ?_)
  have he : cA = t 5 := gx_cls0 (i := 6) (j := 5) (ty := .byte) (fun C h => by cases h) hK1 rfl rfl
  subst he
  exact kk q H1 locs ls (gx_Pm (List.perm_append_singleton _ _) hP1) (gx_Dm (List.perm_append_singleton _ _) hD1) hS1 hl
theorem j_copyb (g : gx_G D t E l R cc own nL J) {index : Nat} (hlink : Cond.methodLink own index arraycopyName ∈ lw_all) (hnat : Cond.native arraycopyName ∈ lw_all) (hst : Cond.static arraycopyName ∈ lw_all) (hini : Cond.initialized "java/lang/System" ∈ lw_all) (q0 q1 : Nat) {a0 a n0 n1 : Nat} {f g1 : Nat → Int32} (ha0 : w[q0]? = some (a0, .inl (t 5, n0, .inl f))) (ha1 : w[q1]? = some (a, .inl (t 5, n1, .inl g1))) {sp dp m1 : Int32} (h1 : ¬ sp < 0) (h2 : ¬ dp < 0) (h3 : ¬ m1 < 0) (h4 : sp.toNatClampNeg + m1.toNatClampNeg ≤ n0) (h5 : dp.toNatClampNeg + m1.toNatClampNeg ≤ n1) (hf : sb_Fit f) (hfr : 1 ≤ R.frames) (hlo : (st.map fun v => v.category).sum + (nativeFrameWords "java/lang/System" "arraycopy" 5 + 11) ≤ R.locals) {w' : va_W} (hw : w.set q1 (a, .inl (t 5, n1, .inl (va_cpy f g1 sp.toNatClampNeg dp.toNatClampNeg m1.toNatClampNeg))) = w') (hd : decode cc pc = .ok (.invokestatic index, 3)) (kk : J k n w' (pc + 3) L (st)) : J k n w (pc) L (.int m1 :: .int dp :: .ref a :: .int sp :: .ref a0 :: st) := by
  obtain ⟨p, e, s, m, args, below, meth, c, A, Q, rfl, hx, hb, hml, hown, hts, hK, hA, hE⟩ := g
  intro H locs ls hP hD hS hl
  subst hw
  exact va_copyi hx hb (hml.trans hl.1.symm) hown (hts _ hlink) (hts _ hnat) (hts _ hst) (hts _ hini) hK hP hD hS q0 q1 5 5 ha0 ha1 rfl rfl rfl h1 h2 h3 h4 h5 (fun i _ => hf _) hfr hlo hd (fun H1 locs1 hP1 hD1 hS1 => kk H1 locs1 ls hP1 hD1 hS1 hl)
theorem j_dropw (g : gx_G D t E l R cc own nL J) {w' : va_W} (hs : w'.Sublist w) (kk : J k n w' pc L st) : J k n w pc L st := by
  obtain ⟨p, e, s, m, args, below, meth, c, A, Q, rfl, hx, hb, hml, hown, hts, hK, hA, hE⟩ := g
  intro H locs ls hP hD hS hl
  refine kk H locs ls (fun i q hq => ?_) (gx_Dn.mpr ⟨(hs.map Prod.fst).nodup (gx_Dn.mp hD).1, fun q hq => (gx_Dn.mp hD).2 q (hs.subset hq)⟩) hS hl
  obtain ⟨j, hj⟩ := List.getElem?_of_mem (hs.subset (List.mem_of_getElem? hq))
  exact hP j q hj
theorem j_callPS (g : gx_G D t E l R cc own nL J) {y : MethodName} {bC : ByteArray} {nC fr lo mc ms : Nat} {ret : Option FieldType} {wc : va_W} {Pw : Option Value → va_W → Prop} {index na : Nat} {As rest : List Value} (hC : gx_CP D t E l y bC nC ret fr lo mc ms As wc Pw) (hst : Cond.static y ∈ lw_all) (hcode : Cond.code y bC nC ret ∈ lw_all) (hlink : Cond.methodLink own index y ∈ lw_all) (hini : Cond.initialized y.cls ∈ lw_all) (hd0 : y.cls ≠ "java/lang/invoke/MethodHandle" ∧ y.cls ≠ "java/lang/invoke/VarHandle" ∧ (parseMethodDescriptor y.desc).map (fun d => d.parameters.length) = some na) (hna : As.length = na) (hR : fr + 1 ≤ R.frames ∧ 8 + (nC + 11) + lo ≤ R.locals) (hkn : k + mc ≤ R.cells ∧ n + ms ≤ R.slots) (hcat : (rest.map fun v => v.category).sum ≤ 8) (hp : w.Perm wc) (hd : decode cc pc = .ok (.invokestatic index, 3)) {st : List Value} (hstk : st = As.reverse ++ rest) (kk : ∀ (r : Option Value) (w' : va_W), Pw r w' → J (k + mc) (n + ms) w' (pc + 3) L (r.toList ++ rest)) : J k n w pc L st := by
  obtain ⟨p, e, s, m, args, below, meth, c, A, Q, rfl, hx, hb, hml, hown, hts, hK, hA, hE⟩ := g
  intro H locs ls hP hD hS hl
  subst hstk
  exact gx_callP (rest := rest) (va_runS (As := As) (rest := rest) ⟨hx, hb, hml, hown, hts⟩ (hC H.size) ⟨callB_of na hts (gx_good hcode) rfl rfl rfl (hts _ hini) (hts _ hlink) hd0 ⟨hR.1, hR.2⟩, hts _ hst⟩ (gx_pre (av := As) (wc := wc) hK hA hE hS hP hD hp) rfl hna hl.1 rfl (lv_room hcat) hd ⟨hkn.1, hkn.2⟩) hD hS hA (fun q hq => hp.symm.subset hq) (fun H1 locs1 r w' _ _ hw hP1 hD1 hS1 => kk r w' hw H1 locs1 ls hP1 (hD1.weaken fun _ q _ h => gx_Aw hp hD (fun q h => hA q (Nat.le_trans hS.1 h)) q.1 h) hS1 hl)
theorem j_callPI (g : gx_G D t E l R cc own nL J) {y : MethodName} {bC : ByteArray} {nC fr lo mc ms : Nat} {wc : va_W} {Pw : Option Value → va_W → Prop} {index na : Nat} {As rest : List Value} {a : Nat} (hC : gx_CP D t E l y bC nC none fr lo mc ms (.ref a :: As) wc Pw) (hi : y.name = "<init>") (hinst : Cond.instanceMethod y ∈ lw_all) (hcode : Cond.code y bC nC none ∈ lw_all) (hlink : Cond.methodLink own index y ∈ lw_all) (hini : Cond.initialized y.cls ∈ lw_all) (hd0 : y.cls ≠ "java/lang/invoke/MethodHandle" ∧ y.cls ≠ "java/lang/invoke/VarHandle" ∧ (parseMethodDescriptor y.desc).map (fun d => d.parameters.length) = some na) (hna : As.length = na) (hR : fr + 1 ≤ R.frames ∧ 8 + (nC + 11) + lo ≤ R.locals) (hkn : k + mc ≤ R.cells ∧ n + ms ≤ R.slots) (hcat : (rest.map fun v => v.category).sum ≤ 8) (hp : w.Perm wc) (hd : decode cc pc = .ok (.invokespecial index, 3)) {st : List Value} (hstk : st = As.reverse ++ .ref a :: rest) (kk : ∀ (r : Option Value) (w' : va_W), Pw r w' → J (k + mc) (n + ms) w' (pc + 3) L (r.toList ++ rest)) : J k n w pc L st := by
  obtain ⟨p, e, s, m, args, below, meth, c, A, Q, rfl, hx, hb, hml, hown, hts, hK, hA, hE⟩ := g
  intro H locs ls hP hD hS hl
  subst hstk
  exact gx_callP (rest := rest) (va_runI (As := As) (rest := rest) ⟨hx, hb, hml, hown, hts⟩ (hC H.size) ⟨callB_of na hts (gx_good hcode) rfl rfl rfl (hts _ hini) (hts _ hlink) hd0 ⟨hR.1, hR.2⟩, hi, hts _ hinst⟩ (gx_pre (av := .ref a :: As) (wc := wc) hK hA hE hS hP hD hp) rfl hna hl.1 rfl (lv_room hcat) hd ⟨hkn.1, hkn.2⟩) hD hS hA (fun q hq => hp.symm.subset hq) (fun H1 locs1 r w' _ _ hw hP1 hD1 hS1 => kk r w' hw H1 locs1 ls hP1 (hD1.weaken fun _ q _ h => gx_Aw hp hD (fun q h => hA q (Nat.le_trans hS.1 h)) q.1 h) hS1 hl)
theorem j_callPV (g : gx_G D t E l R cc own nL J) {y : MethodName} {bC : ByteArray} {nC fr lo mc ms : Nat} {ret : Option FieldType} {wc : va_W} {Pw : Option Value → va_W → Prop} {index na : Nat} {As rest : List Value} {a : Nat} (hC : gx_CP D t E l y bC nC ret fr lo mc ms (.ref a :: As) wc Pw) {ci q0 : Nat} {qc : vw_C} {fs : List Value} (hq : vwCl[ci]? = some qc) (he : w[q0]? = some (a, .inr (ci, fs))) (hqc : qc.1 = y.cls) (hinst : Cond.instanceMethod y ∈ lw_all) (hsel : Cond.selects y.cls y y ∈ lw_all) (hcode : Cond.code y bC nC ret ∈ lw_all) (hlink : Cond.methodLink own index y ∈ lw_all) (hini : Cond.initialized y.cls ∈ lw_all) (hd0 : y.cls ≠ "java/lang/invoke/MethodHandle" ∧ y.cls ≠ "java/lang/invoke/VarHandle" ∧ (parseMethodDescriptor y.desc).map (fun d => d.parameters.length) = some na) (hna : As.length = na) (hR : fr + 1 ≤ R.frames ∧ 8 + (nC + 11) + lo ≤ R.locals) (hkn : k + mc ≤ R.cells ∧ n + ms ≤ R.slots) (hcat : (rest.map fun v => v.category).sum ≤ 8) (hp : w.Perm wc) (hd : decode cc pc = .ok (.invokevirtual index, 3)) {st : List Value} (hstk : st = As.reverse ++ .ref a :: rest) (kk : ∀ (r : Option Value) (w' : va_W), Pw r w' → J (k + mc) (n + ms) w' (pc + 3) L (r.toList ++ rest)) : J k n w pc L st := by
  obtain ⟨p, e, s, m, args, below, meth, c, A, Q, rfl, hx, hb, hml, hown, hts, hK, hA, hE⟩ := g
  intro H locs ls hP hD hS hl
  subst hstk
  have hpr := (gx_pre (av := .ref a :: As) (wc := wc) hK hA hE hS hP hD hp)
  exact gx_callP (rest := rest) (va_runV (As := As) (rest := rest) ⟨hx, hb, hml, hown, hts⟩ (hC H.size) ⟨callB_of na hts (gx_good hcode) rfl rfl rfl (hts _ hini) (hts _ hlink) hd0 ⟨hR.1, hR.2⟩, hts _ hinst, hts _ hsel⟩ ⟨hpr.1, by rw [← hqc]; exact va_recv hK hP hq he, hpr.2⟩ rfl hna hl.1 rfl (lv_room hcat) hd ⟨hkn.1, hkn.2⟩) hD hS hA (fun q hq => hp.symm.subset hq) (fun H1 locs1 r w' _ _ hw hP1 hD1 hS1 => kk r w' hw H1 locs1 ls hP1 (hD1.weaken fun _ q _ h => gx_Aw hp hD (fun q h => hA q (Nat.le_trans hS.1 h)) q.1 h) hS1 hl)
theorem j_callPU (g : gx_G D t E l R cc own nL J) {y : MethodName} {bC : ByteArray} {nC fr lo mc ms : Nat} {ret : Option FieldType} {wc : va_W} {Pw : Option Value → va_W → Prop} {index na : Nat} {As rest : List Value} {a : Nat} (x : MethodName) {b0 : ByteArray} {m0 : Nat} {r0 : Option FieldType} (hC : gx_CP D t E l y bC nC ret fr lo mc ms (.ref a :: As) wc Pw) {ci q0 : Nat} {qc : vw_C} {fs : List Value} (hq : vwCl[ci]? = some qc) (he : w[q0]? = some (a, .inr (ci, fs))) (hinst : Cond.instanceMethod y ∈ lw_all) (hinx : Cond.instanceMethod x ∈ lw_all) (hcdx : Cond.code x b0 m0 r0 ∈ lw_all) (hsame : Cond.sameMethod x.cls x.cls x.name x.desc ∈ lw_all) (hsel : ∀ (s : State) (args : Array Value) (A : Nat → Prop), (∀ w ∈ lw_all, w.before args s = true) → E A s s.heap → (Cond.selects qc.1 x y).before args s = true) (hcode : Cond.code y bC nC ret ∈ lw_all) (hlink : Cond.methodLink own index x ∈ lw_all) (hini : Cond.initialized y.cls ∈ lw_all) (hd0 : x.cls ≠ "java/lang/invoke/MethodHandle" ∧ x.cls ≠ "java/lang/invoke/VarHandle" ∧ (parseMethodDescriptor x.desc).map (fun d => d.parameters.length) = some na) (hna : As.length = na) (hR : fr + 1 ≤ R.frames ∧ 8 + (nC + 11) + lo ≤ R.locals) (hkn : k + mc ≤ R.cells ∧ n + ms ≤ R.slots) (hcat : (rest.map fun v => v.category).sum ≤ 8) (hp : w.Perm wc) (hd : decode cc pc = .ok (.invokevirtual index, 3)) {st : List Value} (hstk : st = As.reverse ++ .ref a :: rest) (kk : ∀ (r : Option Value) (w' : va_W), Pw r w' → J (k + mc) (n + ms) w' (pc + 3) L (r.toList ++ rest)) : J k n w pc L st := by
  obtain ⟨p, e, s, m, args, below, meth, c, A, Q, rfl, hx, hb, hml, hown, hts, hK, hA, hE⟩ := g
  intro H locs ls hP hD hS hl
  subst hstk
  have hpr := (gx_pre (av := .ref a :: As) (wc := wc) hK hA hE hS hP hD hp)
  have cw : va_CU R s args own qc.1 x.cls index x y bC nC ret (gx_w y bC nC ret) ({ frames := fr, cells := mc, slots := ms, locals := lo }) mc ms na :=
    ⟨⟨rfl, rfl, hR.1, hR.2, pay_in hts (gx_good hcode), List.mem_cons_self⟩, hts _ hcode, hts _ hini, ⟨hd0.1, hd0.2.1⟩, fun sig h => by
      have h2 := hd0.2.2
      rw [h] at h2
      exact (Option.some.inj h2).symm, hts _ hlink, hts _ hsame, va_Decl.of (hts _ hinx) (hts _ hcdx), hsel s args A hts hE.2, hts _ hinst⟩
  exact gx_callP (rest := rest) (va_runU (As := As) (rest := rest) ⟨hx, hb, hml, hown, hts⟩ (hC H.size) cw ⟨hpr.1, va_recv hK hP hq he, hpr.2⟩ rfl hna hl.1 rfl (lv_room hcat) hd ⟨hkn.1, hkn.2⟩) hD hS hA (fun q hq => hp.symm.subset hq) (fun H1 locs1 r w' _ _ hw hP1 hD1 hS1 => kk r w' hw H1 locs1 ls hP1 (hD1.weaken fun _ q _ h => gx_Aw hp hD (fun q h => hA q (Nat.le_trans hS.1 h)) q.1 h) hS1 hl)
theorem j_callPR (g : gx_G D t E l R cc own nL J) {y : MethodName} {bC : ByteArray} {nC fr lo mc ms : Nat} {ret : Option FieldType} {wc : va_W} {Pw : Option Value → va_W → Prop} {index na : Nat} {As rest : List Value} {a : Nat} (hC : gx_CP D t E l y bC nC ret fr lo mc ms (.ref a :: As) wc Pw) {ci q0 : Nat} {qc : vw_C} {fs : List Value} (hq : vwCl[ci]? = some qc) (he : w[q0]? = some (a, .inr (ci, fs))) {nS : Nat} (hinC : Cond.instantiable qc.1 nS ∈ lw_all) (hinst : Cond.instanceMethod y ∈ lw_all) (hsame : Cond.sameMethod y.cls y.cls y.name y.desc ∈ lw_all) (hsup : Cond.superclass own y.cls ∈ lw_all) (hno : y.name ≠ "<init>") (hcode : Cond.code y bC nC ret ∈ lw_all) (hlink : Cond.methodLink own index y ∈ lw_all) (hini : Cond.initialized y.cls ∈ lw_all) (hd0 : y.cls ≠ "java/lang/invoke/MethodHandle" ∧ y.cls ≠ "java/lang/invoke/VarHandle" ∧ (parseMethodDescriptor y.desc).map (fun d => d.parameters.length) = some na) (hna : As.length = na) (hR : fr + 1 ≤ R.frames ∧ 8 + (nC + 11) + lo ≤ R.locals) (hkn : k + mc ≤ R.cells ∧ n + ms ≤ R.slots) (hcat : (rest.map fun v => v.category).sum ≤ 8) (hp : w.Perm wc) (hd : decode cc pc = .ok (.invokespecial index, 3)) {st : List Value} (hstk : st = As.reverse ++ .ref a :: rest) (kk : ∀ (r : Option Value) (w' : va_W), Pw r w' → J (k + mc) (n + ms) w' (pc + 3) L (r.toList ++ rest)) : J k n w pc L st := by
  obtain ⟨p, e, s, m, args, below, meth, c, A, Q, rfl, hx, hb, hml, hown, hts, hK, hA, hE⟩ := g
  intro H locs ls hP hD hS hl
  subst hstk
  have hpr := (gx_pre (av := .ref a :: As) (wc := wc) hK hA hE hS hP hD hp)
  have cw : va_CS R s args own index y bC nC ret (gx_w y bC nC ret) ({ frames := fr, cells := mc, slots := ms, locals := lo }) mc ms na :=
    ⟨⟨rfl, rfl, hR.1, hR.2, pay_in hts (gx_good hcode), List.mem_cons_self⟩, hts _ hlink, hts _ hsame, hts _ hsup, hts _ hinst, hts _ hini, hts _ hcode, hno, fun sig h => by
      have h2 := hd0.2.2
      rw [h] at h2
      exact (Option.some.inj h2).symm⟩
  have hat : ClassAt s qc.1 (D.1 ci) := by
    obtain ⟨c9, k9, h1, h2, h3, -⟩ := Cond.instantiable_spec (hts _ hinC)
    have h4 := (hK.1 ci qc hq).2.1
    cases h1.symm.trans h4
    exact ⟨h1, k9, h2, h3⟩
  exact gx_callP (rest := rest) (va_runSU (As := As) (rest := rest) hat ⟨hx, hb, hml, hown, hts⟩ (hC H.size) cw ⟨hpr.1, va_recv hK hP hq he, hpr.2⟩ rfl hna hl.1 rfl (lv_room hcat) hd ⟨hkn.1, hkn.2⟩) hD hS hA (fun q hq => hp.symm.subset hq) (fun H1 locs1 r w' _ _ hw hP1 hD1 hS1 => kk r w' hw H1 locs1 ls hP1 (hD1.weaken fun _ q _ h => gx_Aw hp hD (fun q h => hA q (Nat.le_trans hS.1 h)) q.1 h) hS1 hl)
end PRows
