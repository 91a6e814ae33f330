/-! THE CORE: every method runs over one judgement J (a predicate over room used, world, pc, locals, stack); a row an instruction. -/
def lw_all : List Cond := lw_tbl.filter goodWord
theorem lw_in {w : Cond} (i : Nat) (h : lw_tbl[i]? = some w) (g : goodWord w = true) : w ∈ lw_all := List.mem_filter.mpr ⟨List.mem_of_getElem? h, g⟩
theorem lw_good (w : Cond) (hw : w ∈ lw_all) : goodWord w = true := (List.mem_filter.mp hw).2
theorem lw_all_tbl {w : Cond} (hw : w ∈ lw_all) : w ∈ lw_tbl := (List.mem_filter.mp hw).1
abbrev gx_t (t : Nat → ClassId) : List (ClassId × FieldType) := [(t 0, .int), (t 1, .boolean), (t 2, .char), (t 3, .object "CommandChain$Navy"), (t 4, .long), (t 5, .byte)]
abbrev gx_w (y : MethodName) (b : ByteArray) (nL : Nat) (ret : Option FieldType) : List Cond := .code y b nL ret :: lw_all
theorem gx_good {y : MethodName} {b : ByteArray} {nL : Nat} {ret : Option FieldType} (h : Cond.code y b nL ret ∈ lw_all) : GoodIn lw_all (gx_w y b nL ret) := fun w hw =>
  (List.mem_cons.mp hw).elim (fun e => by rw [e]; exact ⟨h, good_of_word (lw_good _ h)⟩) (fun h1 => ⟨h1, good_of_word (lw_good _ h1)⟩)
/-- worlds may be permuted -/
theorem gx_Pm {D : va_G} {cl : List vw_C} {w w' : va_W} {H : Heap} (hp : w.Perm w') (h : va_P D cl w H) : va_P D cl w' H := by
  intro k q hk
  obtain ⟨i, hi⟩ := List.getElem?_of_mem (hp.symm.subset (List.mem_of_getElem? hk))
  exact h i q hi
theorem gx_Dn {A : Nat → Prop} {w : va_W} : va_D A w ↔ (w.map Prod.fst).Nodup ∧ ∀ q ∈ w, A q.1 := by
  constructor
  · intro h
    refine ⟨List.pairwise_iff_getElem.mpr ?_, fun q hq => ?_⟩
    · intro i j hi hj hij he
      rw [List.length_map] at hi hj
      rw [List.getElem_map, List.getElem_map] at he
      have h1 := h.1 i j _ _ (List.getElem?_eq_getElem hi) (List.getElem?_eq_getElem hj) he
      omega
    · obtain ⟨i, hi⟩ := List.getElem?_of_mem hq
      exact h.2 i q hi
  · intro h
    refine ⟨fun i j p q hi hj hpq => ?_, fun k q hk => h.2 q (List.mem_of_getElem? hk)⟩
    have hn := List.pairwise_iff_getElem.mp h.1
    obtain ⟨hil, hi⟩ := List.getElem?_eq_some_iff.mp hi
    obtain ⟨hjl, hj⟩ := List.getElem?_eq_some_iff.mp hj
    rcases Nat.lt_trichotomy i j with q1 | q1 | q1
    · exact absurd (by rw [List.getElem_map, List.getElem_map, hi, hj]; exact hpq) (hn i j (by rw [List.length_map]; exact hil) (by rw [List.length_map]; exact hjl) q1)
    · exact q1
    · exact absurd (by rw [List.getElem_map, List.getElem_map, hi, hj]; exact hpq.symm) (hn j i (by rw [List.length_map]; exact hjl) (by rw [List.length_map]; exact hil) q1)
theorem gx_Dm {A : Nat → Prop} {w w' : va_W} (hp : w.Perm w') (h : va_D A w) : va_D A w' := by
  rw [gx_Dn] at h ⊢
  exact ⟨(hp.map Prod.fst).nodup_iff.mp h.1, fun q hq => h.2 q (hp.symm.subset hq)⟩
theorem gx_Aw {A : Nat → Prop} {w wc : va_W} {sz : Nat} (hp : w.Perm wc) (hD : va_D A w) (hA : ∀ q : Nat, sz ≤ q → A q) : ∀ q, va_A wc sz q → A q := by
  intro q h
  rcases h with ⟨k, e, h⟩ | h
  · exact (gx_Dn.mp hD).2 (q, e) (hp.symm.subset (List.mem_of_getElem? h))
  · exact hA q h
/-- what is only read: a predicate of the cells that may change, a state and its heap -/
abbrev gx_E : Type := (Nat → Prop) → State → Heap → Prop
def gx_Ek (E : gx_E) : Prop := (∀ (A : Nat → Prop) (u U : State) (H : Heap), U.vm = u.vm ∨ u.WarmedH U.vm → E A u H → E A U H) ∧ (∀ (A : Nat → Prop) (U : State) (H H1 : Heap), E A U H → (∀ a : Nat, a < H.size → ¬ A a → H1[a]? = H[a]?) → E A U H1) ∧ (∀ (A B : Nat → Prop) (U : State) (H : Heap), (∀ q, B q → A q) → E A U H → E B U H)
abbrev gx_J : Type := Nat → Nat → va_W → Nat → List (Nat × Value) → List Value → Prop
def gx_M (D : va_G) (p : Program) (l : Launch) (e : Env) (R : Room) (s : State) (m : MethodId) (args : Array Value) (below : List Frame) (meth : Method) (c : Code) (A : Nat → Prop) (nL : Nat) (Q : State → Prop) : gx_J := fun k n w pc L st =>
  ∀ (H : Heap) (locs : List Loc) (ls : Array Slot), va_P D vwCl w H → va_D A w → va_S A s.heap H locs → lv_has ls nL L → W p l e R s m args below meth c H locs k n Q (F0 m pc ls st)
def gx_G (D : va_G) (t : Nat → ClassId) (E : gx_E) (l : Launch) (R : Room) (cc : ByteArray) (own : String) (nL : Nat) (J : gx_J) : Prop :=
  ∃ (p : Program) (e : Env) (s : State) (m : MethodId) (args : Array Value) (below : List Frame) (meth : Method) (c : Code) (A : Nat → Prop) (Q : State → Prop), J = gx_M D p l e R s m args below meth c A nL Q ∧ p.tables.exec = Jvm.exec ∧ c.code = cc ∧ c.maxLocals = nL ∧ s.vm.findClass own = some m.cls ∧ (∀ w ∈ lw_all, w.before args s = true) ∧ va_K D vwCl (gx_t t) s ∧ (∀ q, s.heap.size ≤ q → A q) ∧ gx_Ek E ∧ E A s s.heap
def gx_QC (D : va_G) (w w' : va_W) (r : Option Value) (sz : Nat) : Array Value → State → Outcome → State → Prop := fun _ st o u => (o = .returned r ∧ va_P D vwCl w' u.heap ∧ va_D (va_A w sz) w') ∧ va_F (va_A w sz) st u
def gx_PC (D : va_G) (t : Nat → ClassId) (E : gx_E) (w : va_W) (sz : Nat) : State → Prop := fun U => U.heap.size = sz ∧ va_P D vwCl w U.heap ∧ va_K D vwCl (gx_t t) U ∧ va_D (fun _ => True) w ∧ gx_Ek E ∧ E (va_A w sz) U U.heap
/-- a method's contract: over the world w it answers r and leaves the world w' -/
def gx_C (D : va_G) (t : Nat → ClassId) (E : gx_E) (l : Launch) (y : MethodName) (b : ByteArray) (nL : Nat) (ret : Option FieldType) (fr lo : Nat) (av : List Value) (w w' : va_W) (r : Option Value) : Prop :=
  ∀ sz : Nat, Met l y (gx_w y b nL ret) ({ frames := fr, cells := 0, slots := 0, locals := lo }) (va_Pc av (gx_PC D t E w sz)) (gx_QC D w w' r sz) 0 0 (va_A w sz)
section Call
variable {p : Program} {l : Launch} {e : Env} {R : Room} {s : State} {m : MethodId} {args : Array Value} {below : List Frame} {meth : Method} {c : Code} {H : Heap} {locs : List Loc} {k n : Nat} {Q : State → Prop}
theorem gx_call {D : va_G} {A : Nat → Prop} {w wc wc' w' : va_W} {r : Option Value} {av : Array Value} {pc : Nat} {ls : Array Slot} {st0 rest : List Value}
    (hr : va_Run p l e R s m args below meth c H locs k n 0 0 (F0 m pc ls st0) rest (gx_QC D wc wc' r H.size av) (va_A wc H.size))
    (hD : va_D A w) (hS : va_S A s.heap H locs) (hA : ∀ q, s.heap.size ≤ q → A q) (hp : w.Perm wc) (hp' : wc'.Perm w')
    (kk : ∀ (H1 : Heap) (locs1 : List Loc), va_P D vwCl w' H1 → va_D A w' → va_S A s.heap H1 locs1 → W p l e R s m args below meth c H1 locs1 k n Q (F0 m (pc + 3) ls (r.toList ++ rest))) :
    W p l e R s m args below meth c H locs k n Q (F0 m pc ls st0) := by
  intro T hT X
  obtain ⟨v, st₀, t, T', L, h0, X', hL, e1, e2, ⟨⟨hv, hP1, hD1⟩, hz, hk⟩, st⟩ := hr T hT X
  cases hv
  rw [h0] at hz hk
  have hAw : ∀ q, va_A wc H.size q → A q := gx_Aw hp hD (fun q h => hA q (Nat.le_trans hS.1 h))
  obtain ⟨t2, a1, b1⟩ := kk T'.heap (locs ++ L) (by rw [e1]; exact gx_Pm hp' hP1) (gx_Dm hp' (hD1.weaken fun _ q _ h => hAw q.1 h))
    ⟨Nat.le_trans hS.1 (by rw [e1]; exact hz), fun q h1 h2 => by rw [e1, hk q (Nat.lt_of_lt_of_le h1 hS.1) (fun z => h2 (hAw q z))]; exact hS.2.1 q h1 h2, fun q hq => by
      rcases List.mem_append.mp hq with h | h
      · exact hS.2.2 q h
      · exact hAw _ (hL q h)⟩ T' rfl X'
  exact ⟨t2, st t2 a1, b1⟩
theorem gx_pre {D : va_G} {t : Nat → ClassId} {E : gx_E} {A : Nat → Prop} {w wc : va_W} {av : List Value} (hK : va_K D vwCl (gx_t t) s) (hA : ∀ q, s.heap.size ≤ q → A q) (hE : gx_Ek E ∧ E A s s.heap) (hS : va_S A s.heap H locs) (hP : va_P D vwCl w H) (hD : va_D A w) (hp : w.Perm wc) : PreS s H (va_Pc av (gx_PC D t E wc H.size)) av :=
  ⟨fun a U g mk q => by obtain ⟨q0, q1, qP, qK, qD, qe, qE⟩ := q; exact ⟨q0, q1, qP, va_K.moved (u := U) (U := U.calling g mk a) (Vm.Alike.refl U.vm) qK, qD, qe, qe.1 _ U (U.calling g mk a) _ (Or.inl rfl) qE⟩,
   fun U hU hW => ⟨rfl, by rw [hU], by rw [hU]; exact gx_Pm hp hP, va_K.moved hW.alike hK, (gx_Dm hp hD).weaken (fun _ _ _ _ => trivial), hE.1, by rw [hU]; exact hE.1.1 _ s U _ (Or.inr hW) (hE.1.2.2 A _ _ _ (gx_Aw hp hD (fun q h => hA q (Nat.le_trans hS.1 h))) (hE.1.2.1 A s s.heap H hE.2 hS.2.1))⟩⟩
end Call
/-- introduction: answers of int kinds -/
theorem gx_intro_i {D : va_G} {t : Nat → ClassId} {E : gx_E} {l : Launch} {y : MethodName} {b : ByteArray} {nL fr lo : Nat} {ty : FieldType} {av : List Value} {w w' : va_W} {v : Int32} (hy : plainName y.cls = true) (hlen : (lg_sl av).length ≤ nL)
    (body : ∀ J : gx_J, gx_G D t E l ({ frames := fr, cells := 0, slots := 0, locals := lo }) b y.cls nL J → (∀ (pc : Nat) (L : List (Nat × Value)), decode b pc = .ok (.ireturn, 1) → narrow ty (.int v) = .int v → J 0 0 w' pc L [.int v]) → J 0 0 w 0 (lv_args 0 av) []) :
    gx_C D t E l y b nL (some ty) fr lo av w w' (some (.int v)) := by
  intro sz
  refine Met.ofW (cc := b) (maxL := nL) (ret := some ty) hy rfl ?_
  intro p e s m args below meth c s₁ B hml hv
  obtain ⟨rfl, hsz, hP, hK, hD0, hEk, hE0⟩ := hv
  have hts := atoms_spec (ws := gx_w y b nL (some ty)) B.pre
  subst hsz
  have hD := hD0.self (sz := s.heap.size)
  generalize hAe : va_A w s.heap.size = A at hD hE0 ⊢
  have hA : ∀ q : Nat, s.heap.size ≤ q → A q := fun q h => by rw [← hAe]; exact Or.inr h
  have hl := lv_entry av (n := nL) hlen
  rw [lg_entry_eq]
  refine body (gx_M D p l e _ s m av.toArray below meth c A nL (MQ below (gx_QC D w w' (some (.int v)) s.heap.size) av.toArray s 0 0 A)) ⟨p, e, s, m, _, below, meth, c, A, _, rfl, B.exec, B.bytes, hml, findClass_of_methodNamed B.named, fun w hw => hts w (List.mem_cons_of_mem _ hw), hK, hA, hEk, hE0⟩ (fun pc L hd hn => ?_) s.heap [] _ hP hD va_S.rf hl
  intro H locs ls hP1 hD1 hS1 hl1
  exact W.zret B.exec B.bytes B.returns hn (fun u hu hW => ⟨⟨rfl, by rw [hu]; exact hP1, by rw [hAe]; exact hD1⟩, by rw [hAe]; exact hS1.F hu⟩) hS1.2.2 hd B.notSynchronized
theorem gx_intro_v {D : va_G} {t : Nat → ClassId} {E : gx_E} {l : Launch} {y : MethodName} {b : ByteArray} {nL fr lo : Nat} {av : List Value} {w w' : va_W} (hy : plainName y.cls = true) (hlen : (lg_sl av).length ≤ nL)
    (body : ∀ J : gx_J, gx_G D t E l ({ frames := fr, cells := 0, slots := 0, locals := lo }) b y.cls nL J → (∀ (pc : Nat) (L : List (Nat × Value)), decode b pc = .ok (.return_, 1) → J 0 0 w' pc L []) → J 0 0 w 0 (lv_args 0 av) []) :
    gx_C D t E l y b nL none fr lo av w w' none := by
  intro sz
  refine Met.ofW (cc := b) (maxL := nL) (ret := none) hy rfl ?_
  intro p e s m args below meth c s₁ B hml hv
  obtain ⟨rfl, hsz, hP, hK, hD0, hEk, hE0⟩ := hv
  have hts := atoms_spec (ws := gx_w y b nL none) B.pre
  subst hsz
  have hD := hD0.self (sz := s.heap.size)
  generalize hAe : va_A w s.heap.size = A at hD hE0 ⊢
  have hA : ∀ q : Nat, s.heap.size ≤ q → A q := fun q h => by rw [← hAe]; exact Or.inr h
  have hl := lv_entry av (n := nL) hlen
  rw [lg_entry_eq]
  refine body (gx_M D p l e _ s m av.toArray below meth c A nL (MQ below (gx_QC D w w' none s.heap.size) av.toArray s 0 0 A)) ⟨p, e, s, m, _, below, meth, c, A, _, rfl, B.exec, B.bytes, hml, findClass_of_methodNamed B.named, fun w hw => hts w (List.mem_cons_of_mem _ hw), hK, hA, hEk, hE0⟩ (fun pc L hd => ?_) s.heap [] _ hP hD va_S.rf hl
  intro H locs ls hP1 hD1 hS1 hl1
  exact W.vret B.exec B.bytes B.returns (fun u hu hW => ⟨⟨rfl, by rw [hu]; exact hP1, by rw [hAe]; exact hD1⟩, by rw [hAe]; exact hS1.F hu⟩) hS1.2.2 hd B.notSynchronized
