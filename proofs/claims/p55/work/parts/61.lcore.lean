/-! THE LAW'S METHODS: contracts with room; rows with room counted in one number (a cell and six slots) -/
def gx_CM (D : va_G) (t : Nat → ClassId) (E : gx_E) (l : Launch) (y : MethodName) (b : ByteArray) (nL : Nat) (ret : Option FieldType) (fr lo mc ms : Nat) (av : List Value) (w w' : va_W) (r : Option Value) : Prop :=
  ∀ sz : Nat, Met l y (gx_w y b nL ret) ({ frames := fr, cells := mc, slots := ms, locals := lo }) (va_Pc av (gx_PC D t E w sz)) (gx_QC D w w' r sz) mc ms (va_A w sz)
theorem gx_intro_mi {D : va_G} {t : Nat → ClassId} {E : gx_E} {l : Launch} {y : MethodName} {b : ByteArray} {nL fr lo mc ms : Nat} {ty : FieldType} {av : List Value} {w w' : va_W} {v : Int32} (hy : plainName y.cls = true) (hlen : (lg_sl av).length ≤ nL)
    (body : ∀ J : gx_J, gx_G D t E l ({ frames := fr, cells := mc, slots := ms, locals := lo }) b y.cls nL J → (∀ (pc : Nat) (L : List (Nat × Value)), decode b pc = .ok (.ireturn, 1) → narrow ty (.int v) = .int v → J mc ms w' pc L [.int v]) → J 0 0 w 0 (lv_args 0 av) []) :
    gx_CM D t E l y b nL (some ty) fr lo mc ms av w w' (some (.int v)) := by
  intro sz
  refine Met.ofW (cc := b) (maxL := nL) (ret := some ty) hy rfl ?_
  intro p e s m args below meth c s₁ B hml hv
  obtain ⟨rfl, hsz, hP, hK, hD0, hEk, hE0⟩ := hv
  have hts := atoms_spec (ws := gx_w y b nL (some ty)) B.pre
  subst hsz
  have hD := hD0.self (sz := s.heap.size)
  generalize hAe : va_A w s.heap.size = A at hD hE0 ⊢
  have hA : ∀ q : Nat, s.heap.size ≤ q → A q := fun q h => by rw [← hAe]; exact Or.inr h
  have hl := lv_entry av (n := nL) hlen
  rw [lg_entry_eq]
  refine body (gx_M D p l e _ s m av.toArray below meth c A nL (MQ below (gx_QC D w w' (some (.int v)) s.heap.size) av.toArray s mc ms A)) ⟨p, e, s, m, _, below, meth, c, A, _, rfl, B.exec, B.bytes, hml, findClass_of_methodNamed B.named, fun w hw => hts w (List.mem_cons_of_mem _ hw), hK, hA, hEk, hE0⟩ (fun pc L hd hn => ?_) s.heap [] _ hP hD va_S.rf hl
  intro H locs ls hP1 hD1 hS1 hl1
  exact W.zret B.exec B.bytes B.returns hn (fun u hu hW => ⟨⟨rfl, by rw [hu]; exact hP1, by rw [hAe]; exact hD1⟩, by rw [hAe]; exact hS1.F hu⟩) hS1.2.2 hd B.notSynchronized
theorem gx_intro_ml {D : va_G} {t : Nat → ClassId} {E : gx_E} {l : Launch} {y : MethodName} {b : ByteArray} {nL fr lo mc ms : Nat} {av : List Value} {w w' : va_W} {v : Int64} (hy : plainName y.cls = true) (hlen : (lg_sl av).length ≤ nL)
    (body : ∀ J : gx_J, gx_G D t E l ({ frames := fr, cells := mc, slots := ms, locals := lo }) b y.cls nL J → (∀ (pc : Nat) (L : List (Nat × Value)), decode b pc = .ok (.lreturn, 1) → J mc ms w' pc L [.long v]) → J 0 0 w 0 (lv_args 0 av) []) :
    gx_CM D t E l y b nL (some .long) fr lo mc ms av w w' (some (.long v)) := by
  intro sz
  refine Met.ofW (cc := b) (maxL := nL) (ret := some .long) hy rfl ?_
  intro p e s m args below meth c s₁ B hml hv
  obtain ⟨rfl, hsz, hP, hK, hD0, hEk, hE0⟩ := hv
  have hts := atoms_spec (ws := gx_w y b nL (some .long)) B.pre
  subst hsz
  have hD := hD0.self (sz := s.heap.size)
  generalize hAe : va_A w s.heap.size = A at hD hE0 ⊢
  have hA : ∀ q : Nat, s.heap.size ≤ q → A q := fun q h => by rw [← hAe]; exact Or.inr h
  have hl := lv_entry av (n := nL) hlen
  rw [lg_entry_eq]
  refine body (gx_M D p l e _ s m av.toArray below meth c A nL (MQ below (gx_QC D w w' (some (.long v)) s.heap.size) av.toArray s mc ms A)) ⟨p, e, s, m, _, below, meth, c, A, _, rfl, B.exec, B.bytes, hml, findClass_of_methodNamed B.named, fun w hw => hts w (List.mem_cons_of_mem _ hw), hK, hA, hEk, hE0⟩ (fun pc L hd => ?_) s.heap [] _ hP hD va_S.rf hl
  intro H locs ls hP1 hD1 hS1 hl1
  exact W.lret B.exec B.bytes B.returns (fun u hu hW => ⟨⟨rfl, by rw [hu]; exact hP1, by rw [hAe]; exact hD1⟩, by rw [hAe]; exact hS1.F hu⟩) hS1.2.2 hd B.notSynchronized
theorem gx_intro_hf {D : va_G} {t : Nat → ClassId} {E : gx_E} {l : Launch} {y : MethodName} {b : ByteArray} {nL fr lo mc ms : Nat} {hh : List (Nat × Nat × Nat × Nat)} {av : List Value} {w w' : va_W} {v : UInt32} (hst : l.stackTraces = false) (hy : plainName y.cls = true) (hlen : (lg_sl av).length ≤ nL)
    (body : ∀ J : gx_J, gx_GH D t E l ({ frames := fr, cells := mc, slots := ms, locals := lo }) b y.cls nL J hh → (∀ (pc : Nat) (L : List (Nat × Value)), decode b pc = .ok (.freturn, 1) → J mc ms w' pc L [.float v]) → J 0 0 w 0 (lv_args 0 av) []) :
    gx_CH D t E l y b nL (some .float) hh fr lo mc ms av w w' (some (.float v)) := by
  intro sz
  refine gx_met (vx_ofWH (cc := b) (maxL := nL) (ret := some .float) (hh := hh) hy rfl ?_)
  intro p e s m args below meth c s₁ B hml hv
  obtain ⟨rfl, hsz, hP, hK, hD0, hEk, hE0⟩ := hv
  have hts := atoms_spec (ws := gx_wh y b nL (some .float) hh) B.pre
  have htab := vx_table (x := y) B (hts _ List.mem_cons_self)
  subst hsz
  have hD := hD0.self (sz := s.heap.size)
  generalize hAe : va_A w s.heap.size = A at hD hE0 ⊢
  have hA : ∀ q : Nat, s.heap.size ≤ q → A q := fun q h => by rw [← hAe]; exact Or.inr h
  have hl := lv_entry av (n := nL) hlen
  rw [lg_entry_eq]
  refine body (gx_M D p l e _ s m av.toArray below meth c A nL (vx_MQ below (gx_QC D w w' (some (.float v)) s.heap.size) (fun _ _ _ => False) av.toArray s mc ms A)) ⟨p, e, s, m, _, below, meth, c, A, _, rfl, B.exec, B.bytes, hml, findClass_of_methodNamed B.named, fun w hw => hts w (List.mem_cons_of_mem _ hw), hK, hA, hEk, hE0, htab, hst⟩ (fun pc L hd => ?_) s.heap [] _ hP hD va_S.rf hl
  intro H locs ls hP1 hD1 hS1 hl1
  exact vx_ret (W.fret B.exec B.bytes B.returns (fun u hu hW => ⟨⟨rfl, by rw [hu]; exact hP1, by rw [hAe]; exact hD1⟩, by rw [hAe]; exact hS1.F hu⟩) hS1.2.2 hd B.notSynchronized)
section L9
variable {D : va_G} {t : Nat → ClassId} {E : gx_E} {l : Launch} {R : Room} {cc : ByteArray} {own : String} {nL : Nat} {J : gx_J} {k n : Nat} {w : va_W} {pc : Nat} {L : List (Nat × Value)} {st : List Value}
theorem j_lmul (g : gx_G D t E l R cc own nL J) {x y : Int64} (hd : decode cc pc = .ok (.lmul, 1)) (kk : J k n w (pc + 1) L (.long (x * y) :: st)) : J k n w pc L (.long y :: .long x :: st) := by
  obtain ⟨p, e, s, m, args, below, meth, c, A, Q, rfl, hx, hb, hml, hown, hts, hK, hA, hE⟩ := g
  intro H locs ls hP hD hS hl
  exact lv_lmul hx hb hd (kk H locs ls hP hD hS hl)
theorem j_ladd (g : gx_G D t E l R cc own nL J) {x y : Int64} (hd : decode cc pc = .ok (.ladd, 1)) (kk : J k n w (pc + 1) L (.long (x + y) :: st)) : J k n w pc L (.long y :: .long x :: st) := by
  obtain ⟨p, e, s, m, args, below, meth, c, A, Q, rfl, hx, hb, hml, hown, hts, hK, hA, hE⟩ := g
  intro H locs ls hP hD hS hl
  exact lv_ladd hx hb hd (kk H locs ls hP hD hS hl)
theorem j_ldc2 (g : gx_G D t E l R cc own nL J) {index : Nat} {v : Int64} (hc : Cond.constantLong own index v ∈ lw_all) (hd : decode cc pc = .ok (.ldc2_w index, 3)) (kk : J k n w (pc + 3) L (.long v :: st)) : J k n w pc L st := by
  obtain ⟨p, e, s, m, args, below, meth, c, A, Q, rfl, hx, hb, hml, hown, hts, hK, hA, hE⟩ := g
  intro H locs ls hP hD hS hl
  exact lv_ldc2 hx hb hown (hts _ hc) hd (kk H locs ls hP hD hS hl)
theorem j_ldci (g : gx_G D t E l R cc own nL J) {index : Nat} {v : Int32} (hc : Cond.constant own index v ∈ lw_all) (hd : decode cc pc = .ok (.ldc index, 2)) (kk : J k n w (pc + 2) L (.int v :: st)) : J k n w pc L st := by
  obtain ⟨p, e, s, m, args, below, meth, c, A, Q, rfl, hx, hb, hml, hown, hts, hK, hA, hE⟩ := g
  intro H locs ls hP hD hS hl
  exact lv_ldc hx hb hown (hts _ hc) hd (kk H locs ls hP hD hS hl)
theorem j_ldcf (g : gx_G D t E l R cc own nL J) {index : Nat} {v : UInt32} (hc : Cond.constantFloat own index v ∈ lw_all) (hd : decode cc pc = .ok (.ldc index, 2)) (kk : J k n w (pc + 2) L (.float v :: st)) : J k n w pc L st := by
  obtain ⟨p, e, s, m, args, below, meth, c, A, Q, rfl, hx, hb, hml, hown, hts, hK, hA, hE⟩ := g
  intro H locs ls hP hD hS hl
  exact lv_ldcf hx hb hown (hts _ hc) hd (kk H locs ls hP hD hS hl)
theorem j_iushr (g : gx_G D t E l R cc own nL J) {x y : Int32} (hd : decode cc pc = .ok (.iushr, 1)) (kk : J k n w (pc + 1) L (.int (x.toUInt32 >>> (y.toUInt32 &&& Int32.toUInt32 31)).toInt32 :: st)) : J k n w pc L (.int y :: .int x :: st) := by
  obtain ⟨p, e, s, m, args, below, meth, c, A, Q, rfl, hx, hb, hml, hown, hts, hK, hA, hE⟩ := g
  intro H locs ls hP hD hS hl
  exact lv_iushr hx hb hd rfl (kk H locs ls hP hD hS hl)
theorem j_wid (g : gx_G D t E l R cc own nL J) {k' n' : Nat} (h1 : k ≤ k') (h2 : n ≤ n') (kk : J k' n' w pc L st) : J k n w pc L st := j_widen g h1 h2 kk
theorem j_callMi (g : gx_G D t E l R cc own nL J) {y : MethodName} {bC : ByteArray} {nC fr lo mc ms : Nat} {w' wc wc' : va_W} {index na : Nat} {As rest : List Value} {ty : FieldType} {r : Int32} (hC : gx_CM D t E l y bC nC (some ty) fr lo mc ms As wc wc' (some (.int r))) (hst : Cond.static y ∈ lw_all) (hcode : Cond.code y bC nC (some ty) ∈ lw_all) (hlink : Cond.methodLink own index y ∈ lw_all) (hini : Cond.initialized y.cls ∈ lw_all) (hd0 : y.cls ≠ "java/lang/invoke/MethodHandle" ∧ y.cls ≠ "java/lang/invoke/VarHandle" ∧ (parseMethodDescriptor y.desc).map (fun d => d.parameters.length) = some na) (hna : As.length = na) (hR : fr + 1 ≤ R.frames ∧ 8 + (nC + 11) + lo ≤ R.locals) (hkn : k + mc ≤ R.cells ∧ n + ms ≤ R.slots) (hcat : (rest.map fun v => v.category).sum ≤ 8) (hp : w.Perm wc) (hp' : wc'.Perm w') (hd : decode cc pc = .ok (.invokestatic index, 3)) (kk : J (k + mc) (n + ms) w' (pc + 3) L (.int r :: rest)) (hstk : st = As.reverse ++ rest) : J k n w pc L st := by
  obtain ⟨p, e, s, m, args, below, meth, c, A, Q, rfl, hx, hb, hml, hown, hts, hK, hA, hE⟩ := g
  intro H locs ls hP hD hS hl
  subst hstk
  exact gx_callm (r := (some (.int r))) (rest := rest) (va_runS (As := As) (rest := rest) ⟨hx, hb, hml, hown, hts⟩ (hC H.size) ⟨callB_of na hts (gx_good hcode) rfl rfl rfl (hts _ hini) (hts _ hlink) hd0 ⟨hR.1, hR.2⟩, hts _ hst⟩ (gx_pre (av := As) (wc := wc) hK hA hE hS hP hD hp) rfl hna hl.1 rfl (lv_room hcat) hd ⟨hkn.1, hkn.2⟩) hD hS hA hp hp' (fun H1 locs1 hP1 hD1 hS1 => kk H1 locs1 ls hP1 hD1 hS1 hl)
theorem j_callMl (g : gx_G D t E l R cc own nL J) {y : MethodName} {bC : ByteArray} {nC fr lo mc ms : Nat} {w' wc wc' : va_W} {index na : Nat} {As rest : List Value} {r : Int64} (hC : gx_CM D t E l y bC nC (some .long) fr lo mc ms As wc wc' (some (.long r))) (hst : Cond.static y ∈ lw_all) (hcode : Cond.code y bC nC (some .long) ∈ lw_all) (hlink : Cond.methodLink own index y ∈ lw_all) (hini : Cond.initialized y.cls ∈ lw_all) (hd0 : y.cls ≠ "java/lang/invoke/MethodHandle" ∧ y.cls ≠ "java/lang/invoke/VarHandle" ∧ (parseMethodDescriptor y.desc).map (fun d => d.parameters.length) = some na) (hna : As.length = na) (hR : fr + 1 ≤ R.frames ∧ 8 + (nC + 11) + lo ≤ R.locals) (hkn : k + mc ≤ R.cells ∧ n + ms ≤ R.slots) (hcat : (rest.map fun v => v.category).sum ≤ 8) (hp : w.Perm wc) (hp' : wc'.Perm w') (hd : decode cc pc = .ok (.invokestatic index, 3)) (kk : J (k + mc) (n + ms) w' (pc + 3) L (.long r :: rest)) (hstk : st = As.reverse ++ rest) : J k n w pc L st := by
  obtain ⟨p, e, s, m, args, below, meth, c, A, Q, rfl, hx, hb, hml, hown, hts, hK, hA, hE⟩ := g
  intro H locs ls hP hD hS hl
  subst hstk
  exact gx_callm (r := (some (.long r))) (rest := rest) (va_runS (As := As) (rest := rest) ⟨hx, hb, hml, hown, hts⟩ (hC H.size) ⟨callB_of na hts (gx_good hcode) rfl rfl rfl (hts _ hini) (hts _ hlink) hd0 ⟨hR.1, hR.2⟩, hts _ hst⟩ (gx_pre (av := As) (wc := wc) hK hA hE hS hP hD hp) rfl hna hl.1 rfl (lv_room hcat) hd ⟨hkn.1, hkn.2⟩) hD hS hA hp hp' (fun H1 locs1 hP1 hD1 hS1 => kk H1 locs1 ls hP1 hD1 hS1 hl)
theorem j_callHf (g : gx_G D t E l R cc own nL J) {y : MethodName} {bC : ByteArray} {nC fr lo mc ms : Nat} {hh : List (Nat × Nat × Nat × Nat)} {w' wc wc' : va_W} {index na : Nat} {As rest : List Value} {r : UInt32} (hC : gx_CH D t E l y bC nC (some .float) hh fr lo mc ms As wc wc' (some (.float r))) (hst : Cond.static y ∈ lw_all) (hcode : Cond.codeWith y bC nC (some .float) hh ∈ lw_all) (hlink : Cond.methodLink own index y ∈ lw_all) (hini : Cond.initialized y.cls ∈ lw_all) (hd0 : y.cls ≠ "java/lang/invoke/MethodHandle" ∧ y.cls ≠ "java/lang/invoke/VarHandle") (hdp : (parseMethodDescriptor y.desc).map (fun d => d.parameters.length) = some na) (hna : As.length = na) (hR : fr + 1 ≤ R.frames ∧ 8 + (nC + 11) + lo ≤ R.locals) (hkn : k + mc ≤ R.cells ∧ n + ms ≤ R.slots) (hcat : (rest.map fun v => v.category).sum ≤ 8) (hp : w.Perm wc) (hp' : wc'.Perm w') (hd : decode cc pc = .ok (.invokestatic index, 3)) (kk : J (k + mc) (n + ms) w' (pc + 3) L (.float r :: rest)) (hstk : st = As.reverse ++ rest) : J k n w pc L st := by
  obtain ⟨p, e, s, m, args, below, meth, c, A, Q, rfl, hx, hb, hml, hown, hts, hK, hA, hE⟩ := g
  intro H locs ls hP hD hS hl
  subst hstk
  have cw : vx_CSW R s args own index y bC nC (some .float) hh (gx_wh y bC nC (some .float) hh) ({ frames := fr, cells := mc, slots := ms, locals := lo }) mc ms na :=
    ⟨⟨rfl, rfl, hR.1, hR.2, pay_in hts (gx_goodh hcode), List.mem_cons_self⟩, hts _ hcode, hts _ hini, hd0, fun sig h => by
      rw [h] at hdp
      exact (Option.some.inj hdp).symm, hts _ hlink, hts _ hst⟩
  exact gx_callm (r := (some (.float r))) (rest := rest) (vx_runSW (As := As) (rest := rest) ⟨hx, hb, hml, hown, hts⟩ (hC H.size) cw (gx_pre (av := As) (wc := wc) hK hA hE hS hP hD hp) rfl hna hl.1 rfl (lv_room hcat) hd ⟨hkn.1, hkn.2⟩) hD hS hA hp hp' (fun H1 locs1 hP1 hD1 hS1 => kk H1 locs1 ls hP1 hD1 hS1 hl)
end L9
section Scr
variable {D : va_G} {t : Nat → ClassId} {aa : gx_AA} {l : Launch} {R : Room} {cc : ByteArray} {own : String} {nL : Nat} {J : gx_J} {k n : Nat} {w : va_W} {pc : Nat} {L : List (Nat × Value)} {st : List Value}
theorem j_sldE (g : gx_G D t (gx_E0 aa) l R cc own nL J) {i : Int32} (hin : vp_in i (xL aa)) (hd : decode cc pc = .ok (.iaload, 1)) (kk : J k n w (pc + 1) L (.int (xS aa i.toNatClampNeg) :: st)) : J k n w pc L (.int i :: .ref (xB aa) :: st) := by
  obtain ⟨p, e, s, m, args, below, meth, c, A, Q, rfl, hx, hb, hml, hown, hts, hK, hA, hEk, hE⟩ := g
  obtain ⟨-, -, -, -, -, -, -, -, -, -, -, -, -, -, -, -, -, -, -, h20, h21, h22, -⟩ := hE
  intro H locs ls hP hD hS hl
  exact va_sld hx hb h20 h21 h22 hS hin hd (kk H locs ls hP hD hS hl)
theorem j_slenE (g : gx_G D t (gx_E0 aa) l R cc own nL J) (hd : decode cc pc = .ok (.arraylength, 1)) (kk : J k n w (pc + 1) L (.int (Int32.ofNat (xL aa)) :: st)) : J k n w pc L (.ref (xB aa) :: st) := by
  obtain ⟨p, e, s, m, args, below, meth, c, A, Q, rfl, hx, hb, hml, hown, hts, hK, hA, hEk, hE⟩ := g
  obtain ⟨-, -, -, -, -, -, -, -, -, -, -, -, -, -, -, -, -, -, -, h20, h21, h22, -⟩ := hE
  intro H locs ls hP hD hS hl
  exact va_slen hx hb h20 h21 h22 hS hd (kk H locs ls hP hD hS hl)
end Scr
def xcell (aa : gx_AA) (k : Int32) : Int32 := if k < nI (xL aa) then xS aa k.toNatClampNeg else 40503 * k
def xush (x : Int32) : Int32 := (x.toUInt32 >>> ((1 : Int32).toUInt32 &&& Int32.toUInt32 31)).toInt32
def xpick (aa : gx_AA) (k m : Int32) : Int32 := xush (xcell aa k) - xush (xcell aa k) / m * m
theorem xcell_in {aa : gx_AA} {k : Int32} (h0 : ¬ k < 0) (hL : xL aa < 2 ^ 31) (h : k < nI (xL aa)) : vp_in k (xL aa) := by
  obtain ⟨j, hj, rfl⟩ := nI_of h0
  exact nI_in ((nI_ltI hj hL).mp h) hL
theorem q_n_L : Cond.initialized RL ∈ lw_all := lw_in 23 (by decide +kernel) (by decide +kernel)
theorem q_k7_L : Cond.constant RL 7 40503 ∈ lw_all := lw_in 329 (by decide +kernel) (by decide +kernel)
theorem q_t_L_cell : Cond.static yL_cell ∈ lw_all := lw_in 327 (by decide +kernel) (by decide +kernel)
theorem q_c_L_cell : Cond.code yL_cell cL_cell 2 (some .int) ∈ lw_all := lw_in 328 (by decide +kernel) (by decide +kernel)
theorem q_l_L_8 : Cond.methodLink RL 8 yL_cell ∈ lw_all := lw_in 326 (by decide +kernel) (by decide +kernel)
set_option maxRecDepth 100000 in
theorem cL_cell_ {D : va_G} {t : Nat → ClassId} {aa : gx_AA} {l : Launch} {w : va_W} (hL : xL aa < 2 ^ 31) {k : Int32} (h0 : ¬ k < 0) : gx_C D t (gx_E0 aa) l yL_cell cL_cell 2 (some .int) 0 0 [.ref (xB aa), .int k] w w (some (.int (xcell aa k))) := by
  refine gx_intro_i (by decide) (Nat.le_of_ble_eq_true rfl) (fun J g hE => ?_)
  show J 0 0 w 0 [(0, .ref (xB aa)), (1, .int k)] []
  refine j_iload_n (pc := 0) g 1 dL_cell_0 rfl ?_
  refine j_aload_n (pc := 1) g 0 dL_cell_1 rfl ?_
  refine j_slenE (pc := 2) g dL_cell_2 ?_
  refine j_icmp_ge (tgt := 12) (pc := 3) g dL_cell_3 (by decide) (fun c => ?_) (fun c => ?_)
  · refine j_ldci (pc := 12) g q_k7_L dL_cell_12 ?_
    refine j_iload_n (pc := 14) g 1 dL_cell_14 rfl ?_
    refine j_imul (pc := 15) g dL_cell_15 ?_
    have e : xcell aa k = 40503 * k := if_neg (fun h => by
      rw [Int32.le_iff_toInt_le] at c
      rw [Int32.lt_iff_toInt_lt] at h
      exact absurd h (by show ¬ k.toInt < (Int32.ofNat (xL aa)).toInt; omega))
    rw [e] at hE
    exact hE _ _ dL_cell_16 rfl
  · have hlt : k < nI (xL aa) := by
      rw [Int32.lt_iff_toInt_lt]
      rw [Int32.le_iff_toInt_le] at c
      show k.toInt < (Int32.ofNat (xL aa)).toInt
      omega
    refine j_aload_n (pc := 6) g 0 dL_cell_6 rfl ?_
    refine j_iload_n (pc := 7) g 1 dL_cell_7 rfl ?_
    refine j_sldE (pc := 8) g (xcell_in h0 hL hlt) dL_cell_8 ?_
    refine j_goto (tgt := 16) (pc := 9) g dL_cell_9 (by decide) ?_
    have e : xcell aa k = xS aa k.toNatClampNeg := if_pos hlt
    rw [e] at hE
    exact hE _ _ dL_cell_16 rfl
set_option maxRecDepth 100000 in
theorem cL_pick_ {D : va_G} {t : Nat → ClassId} {aa : gx_AA} {l : Launch} {w : va_W} (hL : xL aa < 2 ^ 31) {k m : Int32} (h0 : ¬ k < 0) (hm : ¬ m = 0) : gx_C D t (gx_E0 aa) l yL_pick cL_pick 3 (some .int) 1 21 [.ref (xB aa), .int k, .int m] w w (some (.int (xpick aa k m))) := by
  refine gx_intro_i (by decide) (Nat.le_of_ble_eq_true rfl) (fun J g hE => ?_)
  show J 0 0 w 0 [(0, .ref (xB aa)), (1, .int k), (2, .int m)] []
  refine j_aload_n (pc := 0) g 0 dL_pick_0 rfl ?_
  refine j_iload_n (pc := 1) g 1 dL_pick_1 rfl ?_
  refine j_callSi (pc := 2) (na := 2) (As := [.ref (xB aa), .int k]) (rest := []) g (cL_cell_ hL h0) q_t_L_cell q_c_L_cell q_l_L_8 q_n_L (by decide +kernel) rfl ⟨(Nat.le_of_ble_eq_true rfl), (Nat.le_of_ble_eq_true rfl)⟩ ⟨Nat.zero_le _, Nat.zero_le _⟩ (Nat.le_of_ble_eq_true rfl) (.refl _) (.refl _) dL_pick_2 ?_ rfl
  refine j_iconst (v := 1) (pc := 5) g dL_pick_5 (by decide) ?_
  refine j_iushr (pc := 6) g dL_pick_6 ?_
  refine j_iload_n (pc := 7) g 2 dL_pick_7 rfl ?_
  refine j_irem (pc := 8) g dL_pick_8 hm ?_
  exact hE _ _ dL_pick_9 rfl
