/-! THE CLAIM OUT OF ONE WALK OF THE LAW'S BODY. Your part is whole_start (and what it stands on); all else here is the same for every law, but numbers. -/
def R_law : String := "CommandChainLaw"
def lw_P (b : Addr) (xs : List Int32) (args : Array Value) (s : State) : Prop := args = #[.ref b] ∧ s.IntsAt b xs ∧ xs.length ≤ 2048 ∧ (Jvm.Cond.and given_1 narrow_1).before args s = true
/-- what a walk over the start with the record d0 says of its end, said of the start itself -/
theorem lw_closed {s t : State} {o : Outcome} {d0 : Drawn} {L : List Loc} {k n : Nat} (hd0 : s.drawn.sameBut d0 lw_cs) (hv : ∃ v, o = .returned v) (hW : (s.setDrawn d0).WarmedH t.vm) (hs : (s.setDrawn d0).sameButNew ({ t with vm := s.vm } : State) L k n) : State.butDraws s t lw_cs (fun t1 => Framed s o t1 L k n) := by
  have h2 : t.drawn = d0 := congrArg State.drawn hs.1
  refine ⟨⟨hv, hW, State.sameButNew.setDrawn hs s.drawn⟩, ?_, by decide⟩
  rw [h2]
  exact hd0
def lw_Q (_ : Array Value) (s : State) (o : Outcome) (t : State) : Prop := o = .returned (some (.int 1)) ∧ State.butDraws s t lw_cs (fun t1 => Framed s o t1 [] 603072 7202922)
def lw_Z (below : List Frame) (a : Array Value) (s : State) : State → Prop := fun t => ∃ o, t.status = .running ∧ Ended t below o ∧ lw_Q a s o t
/-- the law's own end, with 1 on the stack, nothing written that was there before, its room as the claim has it; d0: the record of draws at this point (at the entry s.drawn: begin with 'refine W.base ?_' and 'have hd0 := Drawn.sameBut.refl s.drawn lw_cs') -/
theorem lw_ret {p : Program} {l : Launch} {e : Env} {s : State} {m : MethodId} {below : List Frame} {meth : Method} {c : Code} {b : Nat} {d0 : Drawn} (hd0 : s.drawn.sameBut d0 lw_cs) (hx : p.tables.exec = Jvm.exec) (hb : c.code = code) (hr : meth.sig.returnType = ret) (hlocks : meth.locks = false) {pc : Nat} {H : Heap} {ls : Array Slot} (hdg : decode code pc = .ok (.ireturn, 1)) : W p l e room_1 (s.setDrawn d0) m #[Value.ref b] below meth c H [] 603072 7202922 (lw_Z below #[Value.ref b] s) (F0 m pc ls [.int 1]) := by
  intro T hT X
  obtain ⟨fs, hret, hrun, hended, hW, hframe⟩ := X.leave (v := some (.int 1)) (hlocks := hlocks) (fun h => by rw [hr] at h; cases h)
  have hmeth' : T.vm.method? m = some meth := X.method'
  refine ⟨T.setFrames fs, ?_, .returned (some (.int 1)), hrun, hended, rfl, lw_closed hd0 ⟨_, rfl⟩ hW hframe⟩
  jvm_step X.here [X.here.top, hx, hb, hdg, hmeth', hr, ret, narrow_b1]
  (try refine ⟨rfl, ?_⟩); (try refine ⟨rfl, ?_⟩)
  first | (intro acts; rw [hret _ acts rfl rfl rfl]) | rw [hret _ _ rfl rfl rfl]
  exact Steps.refl _
/-- what holds at the law's entry: the machine, the code, the tables' words (any of lw_tbl by 'hts w (by decide +kernel)'), the script of L ints xs at the cell b, what the Statement gives of the start (any of its parts by flat_of_before) -/
def lw_At (p : Program) (s : State) (m : MethodId) (meth : Method) (c : Code) (b L : Nat) (xs : Nat → Int32) : Prop :=
  p.tables.exec = Jvm.exec ∧ c.code = code ∧ meth.sig.returnType = ret ∧ c.maxLocals = 10 ∧ s.vm.findClass R_law = some m.cls ∧ (∀ w ∈ lw_tbl, w.before #[Value.ref b] s = true) ∧ va_X b L xs s s.heap ∧ b < s.heap.size ∧ meth.locks = false ∧ (Jvm.Cond.and given_1 narrow_1).before #[Value.ref b] s = true
theorem lw_words : Cond.classLink RL 8 RX8 ∈ lw_all ∧ Cond.methodLink RL 145 yX8_init ∈ lw_all ∧ Cond.instanceMethod yX8_init ∈ lw_all ∧ Cond.code yX8_init cX8_init 1 none ∈ lw_all ∧ Cond.instantiable RX8 9 ∈ lw_all := ⟨lw_in 94 (by decide +kernel) (by decide +kernel), lw_in 96 (by decide +kernel) (by decide +kernel), lw_in 97 (by decide +kernel) (by decide +kernel), lw_in 98 (by decide +kernel) (by decide +kernel), lw_in 95 (by decide +kernel) (by decide +kernel)⟩
theorem lw_words2 : Cond.classLink RL 146 RX9 ∈ lw_all ∧ Cond.methodLink RL 148 yX9_init ∈ lw_all ∧ Cond.instanceMethod yX9_init ∈ lw_all ∧ Cond.code yX9_init cX9_init 1 none ∈ lw_all ∧ Cond.instantiable RX9 19 ∈ lw_all := ⟨lw_in 1204 (by decide +kernel) (by decide +kernel), lw_in 1206 (by decide +kernel) (by decide +kernel), lw_in 1207 (by decide +kernel) (by decide +kernel), lw_in 1208 (by decide +kernel) (by decide +kernel), lw_in 1205 (by decide +kernel) (by decide +kernel)⟩
theorem q_a_long : Cond.arrayClass .long ∈ lw_all := lw_in 1670 (by decide +kernel) (by decide +kernel)
theorem q_a_double : Cond.arrayClass .double ∈ lw_all := lw_in 1671 (by decide +kernel) (by decide +kernel)
set_option maxRecDepth 100000 in
set_option maxHeartbeats 4000000 in
theorem lw_open {D : va_G} {t : Nat → ClassId} {aa : gx_AA} {l : Launch} {J : gx_J} {b Ln : Nat} {xs : Nat → Int32} (gl : gx_GL D t (gx_E0 aa) l room_1 cL_law RL 10 J b Ln xs) (hst : l.stackTraces = false) (hLn : Ln ≤ 2048) (hend : ∀ (k n : Nat) (w : va_W) (L : List (Nat × Value)), k ≤ 603072 → n ≤ 7202922 → J k n w 2787 L []) : J 0 0 [] 0 [(0, .ref b)] [] := by
  have g := gl.g
  refine j_new (pc := 0) g in_X8 tyX8 tyX8_ok lw_words.1 lw_words.2.2.2.2 q_n_X8 (ci := 9) rfl (fs := [.null, .null, .null, .null, .null, .null, .int 0, .int 0, .int 0]) (by decide) (Nat.le_of_ble_eq_true rfl) (Nat.le_of_ble_eq_true rfl) dL_law_0 (fun q1 => ?_)
  refine j_dup (pc := 3) g dL_law_3 rfl ?_
  refine j_callI (pc := 4) g (cX8_init_ (rs := []) (a := q1) i_X3) rfl lw_words.2.2.1 lw_words.2.2.2.1 lw_words.2.1 q_n_X8 (by decide +kernel) ⟨Nat.le_of_ble_eq_true rfl, Nat.le_of_ble_eq_true rfl⟩ ⟨Nat.le_of_ble_eq_true rfl, Nat.le_of_ble_eq_true rfl⟩ (Nat.le_of_ble_eq_true rfl) (.refl _) dL_law_4 (fun w8 hw8 => ?_)
  obtain ⟨ad, rfl, rfl⟩ := hw8
  refine j_astore_n (i := 1) (L' := [(1, .ref (ad 0)), (0, .ref b)]) (pc := 7) g dL_law_7 rfl (Nat.le_of_ble_eq_true rfl) rfl ?_
  refine j_new (pc := 8) g in_X9 tyX9 tyX9_ok lw_words2.1 lw_words2.2.2.2.2 q_n_X9 (ci := 10) rfl (fs := [.int 0, .null, .null, .null, .null, .int 0, .int 0, .null, .null, .null, .int 0, .int 0, .int 0, .int 0, .int 0, .int 0, .int 0, .int 0, .int 0]) (by decide) (Nat.le_of_ble_eq_true rfl) (Nat.le_of_ble_eq_true rfl) dL_law_8 (fun q2 => ?_)
  refine j_dup (pc := 11) g dL_law_11 rfl ?_
  refine j_callI (pc := 12) g (cX9_init_ (rs := kW aa ad t k_0 []) (a := q2) i_X9) rfl lw_words2.2.2.1 lw_words2.2.2.2.1 lw_words2.2.1 q_n_X9 (by decide +kernel) ⟨Nat.le_of_ble_eq_true rfl, Nat.le_of_ble_eq_true rfl⟩ ⟨Nat.le_of_ble_eq_true rfl, Nat.le_of_ble_eq_true rfl⟩ (Nat.le_of_ble_eq_true rfl) (.refl _) dL_law_12 (fun w9 hw9 => ?_)
  obtain ⟨am, rfl, rfl⟩ := hw9
  refine j_astore_n (i := 2) (L' := [(2, .ref (am 0)), (1, .ref (ad 0)), (0, .ref b)]) (pc := 15) g dL_law_15 rfl (Nat.le_of_ble_eq_true rfl) rfl ?_
  refine j_iconst (v := 1) (pc := 16) g dL_law_16 (by decide) ?_
  refine j_newl (pc := 17) (N := 1) g q_a_long (by decide) (by decide) (by decide) (Nat.le_of_ble_eq_true rfl) (Nat.le_of_ble_eq_true rfl) dL_law_17 (fun o => ?_)
  refine j_astore_n (i := 3) (L' := [(3, .ref o), (2, .ref (am 0)), (1, .ref (ad 0)), (0, .ref b)]) (pc := 19) g dL_law_19 rfl (Nat.le_of_ble_eq_true rfl) rfl ?_
  refine j_iconst (v := 1) (pc := 20) g dL_law_20 (by decide) ?_
  refine j_newd (pc := 21) (N := 1) g q_a_double (by decide) (by decide) (by decide) (Nat.le_of_ble_eq_true rfl) (Nat.le_of_ble_eq_true rfl) dL_law_21 (fun od => ?_)
  refine j_perm g (List.Perm.swap _ _ _) ?_
  refine j_astore (i := 4) (L' := [(4, .ref od), (3, .ref o), (2, .ref (am 0)), (1, .ref (ad 0)), (0, .ref b)]) (pc := 23) g dL_law_23 (Nat.le_of_ble_eq_true rfl) rfl ?_
  refine j_iconst (v := 0) (pc := 25) g dL_law_25 (by decide) ?_
  refine j_istore (i := 5) (L' := [(5, .int (nI (4 * 0))), (4, .ref od), (3, .ref o), (2, .ref (am 0)), (1, .ref (ad 0)), (0, .ref b)]) (pc := 26) g dL_law_26 (Nat.le_of_ble_eq_true rfl) rfl ?_
  refine j_widen g (k' := 200) (n' := 4000) (Nat.le_of_ble_eq_true rfl) (Nat.le_of_ble_eq_true rfl) ?_
  exact lw_loop gl hst hLn hend 520 0 200 4000 k_0 q9_0 _ _ (by omega) (by omega) (by omega) (by omega) z_start
theorem whole_start {p : Program} {e : Env} {s : State} {m : MethodId} {below : List Frame} {meth : Method} {c : Code} (l : Launch) (hflags : l.flags = flags0) {b L : Nat} {xs : Nat → Int32} (hL : L ≤ 2048) (C0 : lw_At p s m meth c b L xs) : W p l e room_1 s m #[Value.ref b] below meth c s.heap [] 0 0 (lw_Z below #[Value.ref b] s) (entryFrame m ([Value.ref b] : List Value).toArray 10) := by
  obtain ⟨hx, hb, hr, hml, hown, hts, hX, hbl, hlocks, hgv⟩ := id C0
  have hst : l.stackTraces = false := by
    unfold Launch.stackTraces
    rw [hflags]
    decide
  have hA : ∀ q : Nat, s.heap.size ≤ q → (fun q : Nat => s.heap.size ≤ q) q := fun _ h => h
  have hA2 : ∀ q : Nat, q < s.heap.size → ¬ (fun q : Nat => s.heap.size ≤ q) q := fun q h => Nat.not_le.mpr h
  have hts2 : ∀ w ∈ lw_all, w.before #[Value.ref b] s = true := fun w hw => hts w (lw_all_tbl hw)
  obtain ⟨D, t, hK⟩ := st_K hts
  obtain ⟨aa, hE⟩ := st_E0 hts (flat_of_before _ hgv) hA2
  have hP : va_P D vwCl [] s.heap := fun k q h => by simp at h
  have hD : va_D (fun q : Nat => s.heap.size ≤ q) [] := ⟨fun i j p q h => by simp at h, fun k q h => by simp at h⟩
  have hl := lv_entry ([.ref b]) (n := 10) (Nat.le_of_ble_eq_true rfl)
  rw [lg_entry_eq]
  have gl : gx_GL D t (gx_E0 aa) l room_1 cL_law RL 10 (gx_M D p l e room_1 s m #[Value.ref b] below meth c (fun q : Nat => s.heap.size ≤ q) 10 (lw_Z below #[Value.ref b] s)) b L xs := ⟨p, e, s, m, #[Value.ref b], below, meth, c, _, _, rfl, hx, hb, hml, hown, hts2, hK, hA, gx_E0_ok aa, hE, hX, hbl, hA2 b hbl⟩
  refine lw_open gl hst hL (fun k n w L9 hk hn => ?_) s.heap [] _ hP hD va_S.rf hl
  refine j_iconst (v := 1) (pc := 2787) gl.g dL_law_2787 (by decide) ?_
  intro H locs ls hP1 hD1 hS1 hl1
  refine va_forget (fun q hq => hS1.2.2 q hq) ?_
  refine W.widen hk hn ?_
  exact W.base (lw_ret (Drawn.sameBut.refl s.drawn lw_cs) hx hb hr hlocks dL_law_2788)
