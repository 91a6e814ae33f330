/-! THE CLAIM OUT OF ONE WALK OF THE LAW'S BODY. Your part is whole_start (and what it stands on); all else here is the same for every law, but numbers. -/
def R_law : String := "CommandChainLaw"
def lw_P (b : Addr) (xs : List Int32) (args : Array Value) (s : State) : Prop := args = #[.ref b] ∧ s.IntsAt b xs ∧ xs.length ≤ 260 ∧ (Jvm.Cond.and given_1 narrow_1).before args s = true
/-- what a walk over the start with the record d0 says of its end, said of the start itself -/
theorem lw_closed {s t : State} {o : Outcome} {d0 : Drawn} {L : List Loc} {k n : Nat} (hd0 : s.drawn.sameBut d0 lw_cs) (hv : ∃ v, o = .returned v) (hW : (s.setDrawn d0).WarmedH t.vm) (hs : (s.setDrawn d0).sameButNew ({ t with vm := s.vm } : State) L k n) : State.butDraws s t lw_cs (fun t1 => Framed s o t1 L k n) := by
  have h2 : t.drawn = d0 := congrArg State.drawn hs.1
  refine ⟨⟨hv, hW, State.sameButNew.setDrawn hs s.drawn⟩, ?_, by decide⟩
  rw [h2]
  exact hd0
def lw_Q (_ : Array Value) (s : State) (o : Outcome) (t : State) : Prop := o = .returned (some (.int 1)) ∧ State.butDraws s t lw_cs (fun t1 => Framed s o t1 [] 706058 6972633)
def lw_Z (below : List Frame) (a : Array Value) (s : State) : State → Prop := fun t => ∃ o, t.status = .running ∧ Ended t below o ∧ lw_Q a s o t
/-- the law's own end, with 1 on the stack, nothing written that was there before, its room as the claim has it; d0: the record of draws at this point (at the entry s.drawn: begin with 'refine W.base ?_' and 'have hd0 := Drawn.sameBut.refl s.drawn lw_cs') -/
theorem lw_ret {p : Program} {l : Launch} {e : Env} {s : State} {m : MethodId} {below : List Frame} {meth : Method} {c : Code} {b : Nat} {d0 : Drawn} (hd0 : s.drawn.sameBut d0 lw_cs) (hx : p.tables.exec = Jvm.exec) (hb : c.code = code) (hr : meth.sig.returnType = ret) (hlocks : meth.locks = false) {pc : Nat} {H : Heap} {ls : Array Slot} (hdg : decode code pc = .ok (.ireturn, 1)) : W p l e room_1 (s.setDrawn d0) m #[Value.ref b] below meth c H [] 706058 6972633 (lw_Z below #[Value.ref b] s) (F0 m pc ls [.int 1]) := by
  intro T hT X
  obtain ⟨fs, hret, hrun, hended, hW, hframe⟩ := X.leave (v := some (.int 1)) (hlocks := hlocks) (fun h => by rw [hr] at h; cases h)
  have hmeth' : T.vm.method? m = some meth := X.method'
  refine ⟨T.setFrames fs, ?_, .returned (some (.int 1)), hrun, hended, rfl, lw_closed hd0 ⟨_, rfl⟩ hW hframe⟩
  jvm_step X.here [X.here.top, hx, hb, hdg, hmeth', hr, ret, narrow_b1]
  (try refine ⟨rfl, ?_⟩); (try refine ⟨rfl, ?_⟩)
  first | (intro acts; rw [hret _ acts rfl rfl rfl]) | rw [hret _ _ rfl rfl rfl]
  exact Steps.refl _
/-- what holds at the law's entry: the machine, the code, the tables' words (any of lw_tbl by 'hts w (by decide +kernel)'), the script of L ints xs at the cell b, what the Statement gives of the start (any of its parts by flat_of_before) -/
def lw_At (p : Program) (s : State) (m : MethodId) (meth : Method) (c : Code) (b L : Nat) (xs : Nat → Int32) : Prop :=
  p.tables.exec = Jvm.exec ∧ c.code = code ∧ meth.sig.returnType = ret ∧ c.maxLocals = 28 ∧ s.vm.findClass R_law = some m.cls ∧ (∀ w ∈ lw_tbl, w.before #[Value.ref b] s = true) ∧ va_X b L xs s s.heap ∧ b < s.heap.size ∧ meth.locks = false ∧ (Jvm.Cond.and given_1 narrow_1).before #[Value.ref b] s = true
theorem lw_words : Cond.classLink RL 15 RX8 ∈ lw_all ∧ Cond.methodLink RL 170 yX8_init ∈ lw_all ∧ Cond.instanceMethod yX8_init ∈ lw_all ∧ Cond.code yX8_init cX8_init 1 none ∈ lw_all ∧ Cond.instantiable RX8 9 ∈ lw_all := ⟨lw_in 56 (by decide +kernel) (by decide +kernel), lw_in 58 (by decide +kernel) (by decide +kernel), lw_in 59 (by decide +kernel) (by decide +kernel), lw_in 60 (by decide +kernel) (by decide +kernel), lw_in 57 (by decide +kernel) (by decide +kernel)⟩
theorem q_a_long : Cond.arrayClass .long ∈ lw_all := lw_in 1416 (by decide +kernel) (by decide +kernel)
theorem kb_start : KB V_0 [] [] k_0 := ⟨⟨0, Nat.le_refl _, z_zN⟩, ⟨z_wO, (fun e h => by cases h), rfl⟩, ⟨rfl, 0, by omega, rfl, (fun i U h => by cases h)⟩, ⟨Nat.zero_le _, (fun U h => by cases h)⟩, ⟨rfl, (fun i x h => by cases h)⟩⟩
set_option maxRecDepth 100000 in
set_option maxHeartbeats 4000000 in
theorem lw_open {D : va_G} {t : Nat → ClassId} {aa : gx_AA} {l : Launch} {J : gx_J} (g : gx_G D t (gx_E0 aa) l room_1 cL_law RL 28 J) (hst : l.stackTraces = false) (hxl : xL aa < 2 ^ 31) (hend : ∀ (k n : Nat) (w : va_W) (L : List (Nat × Value)) (pc : Nat), k ≤ 706058 → n ≤ 6972633 → decode cL_law pc = .ok (.ireturn, 1) → J k n w pc L [.int 1]) : J 0 0 [] 0 [(0, .ref (xB aa))] [] := by
  obtain ⟨v, hs⟩ := sv_ex aa z_wO
  have hs0 := hs
  obtain ⟨κ2, hsum⟩ := hs
  obtain ⟨k', κ', S', hlaw⟩ := p_law (aa := aa) 56 0 2000 1200 0 V_0 [] (vp_updL (fun _ => 0) 0 v) k_0 rfl (by omega) ⟨kb_start, Nat.le_refl _, Nat.le_refl _, rfl, (fun i U h => by cases h), by rw [pk_uLs]; exact hs0⟩ (by omega)
  refine j_new (pc := 0) g in_X8 tyX8 tyX8_ok lw_words.1 lw_words.2.2.2.2 q_n_X8 (ci := 9) rfl (fs := [.null, .null, .null, .null, .null, .null, .int 0, .int 0, .int 0]) (by decide) (Nat.le_of_ble_eq_true rfl) (Nat.le_of_ble_eq_true rfl) dL_law_0 (fun q1 => ?_)
  refine j_dup (pc := 3) g dL_law_3 rfl ?_
  refine j_callI (pc := 4) g (cX8_init_ (rs := []) (a := q1) i_X3) rfl lw_words.2.2.1 lw_words.2.2.2.1 lw_words.2.1 q_n_X8 (by decide +kernel) ⟨Nat.le_of_ble_eq_true rfl, Nat.le_of_ble_eq_true rfl⟩ ⟨Nat.le_of_ble_eq_true rfl, Nat.le_of_ble_eq_true rfl⟩ (Nat.le_of_ble_eq_true rfl) (.refl _) dL_law_4 (fun w8 hw8 => ?_)
  obtain ⟨ad, rfl, rfl⟩ := hw8
  refine j_astore_n (i := 1) (L' := [(1, .ref (ad 0)), (0, .ref (xB aa))]) (pc := 7) g dL_law_7 rfl (Nat.le_of_ble_eq_true rfl) rfl ?_
  refine j_bipush (v := 70) (pc := 8) g dL_law_8 (by decide) ?_
  refine j_newl (pc := 10) (N := 70) g q_a_long (by decide) (by decide) (by decide) (Nat.le_of_ble_eq_true rfl) (Nat.le_of_ble_eq_true rfl) dL_law_10 (fun o => ?_)
  refine j_astore_n (i := 2) (L' := [(2, .ref o), (1, .ref (ad 0)), (0, .ref (xB aa))]) (pc := 12) g dL_law_12 rfl (Nat.le_of_ble_eq_true rfl) rfl ?_
  refine j_iconst (v := 0) (pc := 13) g dL_law_13 (by decide) ?_
  refine j_istore_n (i := 3) (L' := [(3, .int 0), (2, .ref o), (1, .ref (ad 0)), (0, .ref (xB aa))]) (pc := 14) g dL_law_14 rfl (Nat.le_of_ble_eq_true rfl) rfl ?_
  refine j_aload_n (pc := 15) g 1 dL_law_15 rfl ?_
  refine j_iload_n (pc := 16) g 0 dL_law_16 rfl ?_
  refine j_aload_n (pc := 17) g 2 dL_law_17 rfl ?_
  refine j_widen g (k' := 1000) (n' := 6 * 1000) (Nat.le_of_ble_eq_true rfl) (Nat.le_of_ble_eq_true rfl) ?_
  refine lc_sum (pc := 18) (κ := 1000) (σ := k_0) (rs := [(o, .inl (t 4, 70, .inr (.inl (fun _ => 0))))]) g (M := 500000) ⟨(Nat.le_of_ble_eq_true rfl), (Nat.le_of_ble_eq_true rfl)⟩ hst hxl (Nat.le_of_ble_eq_true rfl) (hsum k_0 (KB_kq kb_start)) (kW_pm aa ad t _ _ _) (kW_pm aa ad t _ _ _).symm ⟨(Nat.le_of_ble_eq_true rfl), (Nat.le_of_ble_eq_true rfl)⟩ (Nat.le_of_ble_eq_true rfl) dL_law_18 ?_
  refine j_last (w' := ((o, .inl (t 4, 70, .inr (.inl (vp_updL (fun _ => 0) (0 : Int32).toNatClampNeg v)))) :: kW aa ad t k_0 [])) (pc := 21) g 0 rfl (by unfold vp_in; decide) rfl dL_law_21 ?_
  refine j_iconst (v := 0) (pc := 22) g dL_law_22 (by decide) ?_
  refine j_istore (i := 4) (L' := [(4, .int 0), (3, .int 0), (2, .ref o), (1, .ref (ad 0)), (0, .ref (xB aa))]) (pc := 23) g dL_law_23 (Nat.le_of_ble_eq_true rfl) rfl ?_
  refine j_iconst (v := 0) (pc := 25) g dL_law_25 (by decide) ?_
  refine j_istore (i := 5) (L' := [(5, .int 0), (4, .int 0), (3, .int 0), (2, .ref o), (1, .ref (ad 0)), (0, .ref (xB aa))]) (pc := 26) g dL_law_26 (Nat.le_of_ble_eq_true rfl) rfl ?_
  refine j_iconst (v := 0) (pc := 28) g dL_law_28 (by decide) ?_
  refine j_istore (i := 6) (L' := [(6, .int 0), (5, .int 0), (4, .int 0), (3, .int 0), (2, .ref o), (1, .ref (ad 0)), (0, .ref (xB aa))]) (pc := 29) g dL_law_29 (Nat.le_of_ble_eq_true rfl) rfl ?_
  refine j_sub (pc := 31) g [6, 5, 4, 3, 2, 1, 0] rfl ?_
  exact tL_law_31 (q := (1, (k', κ', S'))) hst hxl g (fun v σ pc L hq h5 hd hn => by
    have e := Option.some.inj hq
    have e1 : v = 1 := congrArg Prod.fst e
    rw [e1]
    exact hend _ _ _ _ _ (by omega) (by omega) hd) 2000 (k_0, 1200, vp_updL (fun _ => 0) 0 v) 0 0 0 0 hlaw
theorem whole_start {p : Program} {e : Env} {s : State} {m : MethodId} {below : List Frame} {meth : Method} {c : Code} (l : Launch) (hflags : l.flags = flags0) {b L : Nat} {xs : Nat → Int32} (hL : L ≤ 260) (C0 : lw_At p s m meth c b L xs) : W p l e room_1 s m #[Value.ref b] below meth c s.heap [] 0 0 (lw_Z below #[Value.ref b] s) (entryFrame m ([Value.ref b] : List Value).toArray 28) := by
  obtain ⟨hx, hb, hr, hml, hown, hts, hX, hbl, hlocks, hgv⟩ := id C0
  have hst : l.stackTraces = false := by
    unfold Launch.stackTraces
    rw [hflags]
    decide
  have hA : ∀ q : Nat, s.heap.size ≤ q → (fun q : Nat => s.heap.size ≤ q) q := fun _ h => h
  have hA2 : ∀ q : Nat, q < s.heap.size → ¬ (fun q : Nat => s.heap.size ≤ q) q := fun q h => Nat.not_le.mpr h
  have hts2 : ∀ w ∈ lw_all, w.before #[Value.ref b] s = true := fun w hw => hts w (lw_all_tbl hw)
  obtain ⟨D, t, hK⟩ := st_K hts
  obtain ⟨aa, ⟨rfl, rfl⟩, hE⟩ := st_E0 hts (flat_of_before _ hgv) hA2 hX hbl
  have hP : va_P D vwCl [] s.heap := fun k q h => by simp at h
  have hD : va_D (fun q : Nat => s.heap.size ≤ q) [] := ⟨fun i j p q h => by simp at h, fun k q h => by simp at h⟩
  have hl := lv_entry ([.ref (xB aa)]) (n := 28) (Nat.le_of_ble_eq_true rfl)
  rw [lg_entry_eq]
  have g : gx_G D t (gx_E0 aa) l room_1 cL_law RL 28 (gx_M D p l e room_1 s m #[Value.ref (xB aa)] below meth c (fun q : Nat => s.heap.size ≤ q) 28 (lw_Z below #[Value.ref (xB aa)] s)) := ⟨p, e, s, m, #[Value.ref (xB aa)], below, meth, c, _, _, rfl, hx, hb, hml, hown, hts2, hK, hA, gx_E0_ok aa, hE⟩
  refine lw_open g hst (by omega) (fun k n w L9 pc hk hn hd => ?_) s.heap [] _ hP hD va_S.rf hl
  intro H locs ls hP1 hD1 hS1 hl1
  refine va_forget (fun q hq => hS1.2.2 q hq) ?_
  refine W.widen hk hn ?_
  exact W.base (lw_ret (Drawn.sameBut.refl s.drawn lw_cs) hx hb hr hlocks hd)
