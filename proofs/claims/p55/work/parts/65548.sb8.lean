/-! a string of the world is read as a text: calls whose contract reads it -/
theorem gx_CP_of {D : va_G} {t : Nat → ClassId} {E E' : gx_E} {l : Launch} {y : MethodName} {b : ByteArray} {nL : Nat} {ret : Option FieldType} {fr lo mc ms : Nat} {av : List Value} {w : va_W} {Pw : Option Value → va_W → Prop} (hk : gx_Ek E') (hE : ∀ (A : Nat → Prop) (U : State) (H : Heap), E A U H → E' A U H) (h : gx_CP D t E' l y b nL ret fr lo mc ms av w Pw) : gx_CP D t E l y b nL ret fr lo mc ms av w Pw := by
  intro sz p e ha hc hk2 s m args below hf happ hP ht
  obtain ⟨rfl, h1, h2, h3, h4, -, h6⟩ := hP
  exact h sz p e ha hc hk2 s m _ below hf happ ⟨rfl, h1, h2, h3, h4, hk, hE _ _ _ h6⟩ ht
theorem gx_CP_of_CM {D : va_G} {t : Nat → ClassId} {E : gx_E} {l : Launch} {y : MethodName} {b : ByteArray} {nL : Nat} {ret : Option FieldType} {fr lo mc ms : Nat} {av : List Value} {w w1 : va_W} {r1 : Option Value} (h : gx_CM D t E l y b nL ret fr lo mc ms av w w1 r1) : gx_CP D t E l y b nL ret fr lo mc ms av w (fun r w' => r = r1 ∧ w' = w1) := by
  intro sz p e ha hc hk s m args below hf happ hP ht
  obtain ⟨k, o, h1, h2, h3, ⟨⟨h4, h5, h6⟩, h7⟩, h8⟩ := h sz p e ha hc hk s m args below hf happ hP ht
  exact ⟨k, o, h1, h2, h3, ⟨⟨r1, w1, h4, ⟨rfl, rfl⟩, h5, h6⟩, h7⟩, h8⟩
theorem gx_preE {D : va_G} {t : Nat → ClassId} {E' : gx_E} {wc : va_W} {av : List Value} {s : State} {H : Heap} (hK : va_K D vwCl (gx_t t) s) (hk : gx_Ek E') (hE : ∀ U : State, s.WarmedH U.vm → E' (va_A wc H.size) U H) (hP : va_P D vwCl wc H) (hD : va_D (fun _ => True) wc) : PreS s H (va_Pc av (gx_PC D t E' wc H.size)) av :=
  ⟨fun a U g mk q => by obtain ⟨q0, q1, qP, qK, qD, qe, qE⟩ := q; exact ⟨q0, q1, qP, va_K.moved (u := U) (U := U.calling g mk a) (Vm.Alike.refl U.vm) qK, qD, qe, qe.1 _ U (U.calling g mk a) _ (Or.inl rfl) qE⟩,
   fun U hU hW => ⟨rfl, by rw [hU], by rw [hU]; exact hP, va_K.moved hW.alike hK, hD, hk, by rw [hU]; exact hE U hW⟩⟩
theorem zes_of {D : va_G} {t : Nat → ClassId} {s : State} {args : Array Value} {H : Heap} {a q : Nat} {f : Nat → Int32} {cs : List Nat} {B : Nat → Prop} (hts : ∀ w ∈ lw_all, w.before args s = true) (hK : va_K D vwCl (gx_t t) s) (h1 : va_at D vwCl (a, .inr (0, [.ref q, .int 0, .int 0, .int 0])) H) (h2 : va_at D vwCl (q, .inl (t 5, cs.length, .inl f)) H) (hf : ∀ j, j < cs.length → f j = nI (cs.getD j 0)) (ha : ¬ B a) (hq : ¬ B q) :
    va_O "java/lang/String" a B s H ∧ va_OF "java/lang/String" "coder" "B" (.int 0) a B s H ∧ va_OF "java/lang/String" "value" "[B" (.ref q) a B s H ∧ va_T .byte q cs.length (fun j => .int (nI (cs.getD j 0))) B s H := by
  obtain ⟨r, e, cell, c1, c2, c3, c4⟩ := h1
  have hr : (RJ0, TJ0, 4) = r := Option.some.inj e
  subst hr
  obtain ⟨hS, hfc, kC, hkC, hkind⟩ := hK.1 0 _ rfl
  have fld : ∀ k, (hk : k < 4) → va_OF (TJ0 k).1 (TJ0 k).2.1 (TJ0 k).2.2.1 (vp_V [.ref q, .int 0, .int 0, .int 0] k) a B s H := fun k hk => by
    obtain ⟨cf, kf, fi, fd, hi, hsl⟩ := hS k hk
    exact ⟨cf, kf, fi, fd, cell, hi, (u_facts hfc hkC (u_lays hts in_J0 hk) hi).1, c1, (by rw [c3]; exact fun h => by cases h), (by rw [hsl]; exact c4 k hk), ha⟩
  refine ⟨⟨cell, c1, by rw [c3]; rfl, by rw [c2]; exact hfc, ha⟩, fld 1 (by decide), fld 0 (by decide), ⟨vp_cell (t 5) (cs.length, .inl f), h2, (hK.2 5 _ rfl).1 cs.length (fun j => .int (f j)), (fun h => by cases h), ?_, ?_, fun j hj => ?_, hq⟩⟩
  · show _ ≤ (arrV _ cs.length _).slots.size
    rw [arrV_size]; exact Nat.le_refl _
  · show (arrV _ cs.length _).slots.size.toInt32 = _
    rw [arrV_size]
  · show (arrV _ _ _).slots[j]? = _
    rw [arrV_read _ _ hj, hf j hj]
theorem zes_pre {D : va_G} {t : Nat → ClassId} {aa : gx_AA} {s : State} {args : Array Value} {A : Nat → Prop} {H : Heap} {locs : List Loc} {w wc : va_W} {av : List Value} {a q : Nat} {f : Nat → Int32} {cs : List Nat} (hts : ∀ w ∈ lw_all, w.before args s = true) (hK : va_K D vwCl (gx_t t) s) (hA : ∀ q, s.heap.size ≤ q → A q) (hE : gx_Ek (gx_E0 aa) ∧ gx_E0 aa A s s.heap) (hS : va_S A s.heap H locs) (hP : va_P D vwCl w H) (hD : va_D A w) (hp : w.Perm (sbS t a q cs.length f wc)) (hf : ∀ j, j < cs.length → f j = nI (cs.getD j 0)) :
    PreS s H (va_Pc av (gx_PC D t (gx_ES aa a q cs) wc H.size)) av ∧ va_P D vwCl wc H ∧ (∀ x ∈ wc, x ∈ w) ∧ ∀ x, va_A wc H.size x → A x := by
  have hP2 := gx_Pm hp hP
  have hD2 := gx_Dn.mp (gx_Dm hp hD)
  have hPc : va_P D vwCl wc H := fun k x hx => hP2 (k + 2) x hx
  have hn := hD2.1
  simp only [sbS, List.map_cons, List.nodup_cons, List.mem_cons, not_or] at hn
  have h1 := hP2 0 _ rfl
  have h2 := hP2 1 _ rfl
  have la : a < H.size := h1.lt
  have lq : q < H.size := h2.lt
  have na : ¬ va_A wc H.size a := by
    rintro (⟨k, e, h⟩ | h)
    · exact hn.1.2 (List.mem_map.mpr ⟨(a, e), List.mem_of_getElem? h, rfl⟩)
    · omega
  have nq : ¬ va_A wc H.size q := by
    rintro (⟨k, e, h⟩ | h)
    · exact hn.2.1 (List.mem_map.mpr ⟨(q, e), List.mem_of_getElem? h, rfl⟩)
    · omega
  have hsub : ∀ x ∈ wc, x ∈ w := fun x hx => hp.symm.subset (List.mem_cons_of_mem _ (List.mem_cons_of_mem _ hx))
  have hAw : ∀ x, va_A wc H.size x → A x := by
    rintro x (⟨k, e, h⟩ | h)
    · exact (gx_Dn.mp hD).2 (x, e) (hsub _ (List.mem_of_getElem? h))
    · exact hA x (Nat.le_trans hS.1 h)
  have hz := zes_of hts hK h1 h2 hf na nq
  have h0 := hE.1.2.2 A _ _ _ hAw (hE.1.2.1 A s s.heap H hE.2 hS.2.1)
  have hes : gx_ES aa a q cs (va_A wc H.size) s H := ⟨h0, hz⟩
  refine ⟨gx_preE hK (gx_ES_ok aa a q cs) (fun U hW => (gx_ES_ok aa a q cs).1 _ s U _ (Or.inr hW) hes) hPc ?_, hPc, hsub, hAw⟩
  exact gx_Dn.mpr ⟨hn.2.2, fun _ _ => trivial⟩
section ESRows
variable {D : va_G} {t : Nat → ClassId} {aa : gx_AA} {l : Launch} {R : Room} {cc : ByteArray} {own : String} {nL : Nat} {J : gx_J} {k n : Nat} {w : va_W} {pc : Nat} {L : List (Nat × Value)} {st : List Value}
theorem j_ldcwS {E : gx_E} (g : gx_G D t E l R cc own nL J) {tx : String} {index q : Nat} (hR : ∀ (A : Nat → Prop) (U : State) (H : Heap), E A U H → vk_R own index tx q U) (hd : decode cc pc = .ok (.ldc_w index, 3)) (kk : J k n w (pc + 3) L (.ref q :: st)) : J k n w pc L st := by
  obtain ⟨p, e, s, m, args, below, meth, c, A, Q, rfl, hx, hb, hml, hown, hts, hK, hA, hE⟩ := g
  intro H locs ls hP hD hS hl
  have hZ := hR _ _ _ hE.2
  intro T hT X
  obtain ⟨t9, a1, b1⟩ := kk H locs ls hP hD hS hl T hT X
  refine ⟨t9, ?_, b1⟩
  obtain ⟨k9, cf, i, a', hk, hcf, hcp, -, hr, hev'⟩ := Cond.stringRef_spec hown hZ.1
  cases hZ.2.symm.trans hev'
  obtain ⟨k', hk', he⟩ := X.warmed.alike.2.2 _ _ hk
  have hr' : k'.resolved[index]? = some (some (.string q)) := by
    rcases X.warmed.entry hk hk' index with h | ⟨h, -⟩
    · rw [h]; exact hr
    · rw [hr] at h; cases h
  subst hb
  jvm_step X.here [X.here.top, hx, hd, ldc_w.wp_string (e := e) (s := T) (f := F0 m pc ls st) X.here.top hk' (by rw [he]; exact hcf) hcp hr']
  exact a1
theorem j_callPESv (g : gx_G D t (gx_E0 aa) l R cc own nL J) {y : MethodName} {bC : ByteArray} {nC fr lo mc ms : Nat} {ret : Option FieldType} {wc : va_W} {Pw : Option Value → va_W → Prop} {index na : Nat} {As rest : List Value} {b a q : Nat} {f : Nat → Int32} {cs : List Nat} (hC : gx_CP D t (gx_ES aa a q cs) l y bC nC ret fr lo mc ms (.ref b :: As) wc Pw) (hf : ∀ j, j < cs.length → f j = nI (cs.getD j 0)) {ci q0 : Nat} {qc : vw_C} {fs : List Value} (hq : vwCl[ci]? = some qc) (he : wc[q0]? = some (b, .inr (ci, fs))) (hqc : qc.1 = y.cls) (hinst : Cond.instanceMethod y ∈ lw_all) (hsel : Cond.selects y.cls y y ∈ lw_all) (hcode : Cond.code y bC nC ret ∈ lw_all) (hlink : Cond.methodLink own index y ∈ lw_all) (hini : Cond.initialized y.cls ∈ lw_all) (hd0 : y.cls ≠ "java/lang/invoke/MethodHandle" ∧ y.cls ≠ "java/lang/invoke/VarHandle" ∧ (parseMethodDescriptor y.desc).map (fun d => d.parameters.length) = some na) (hna : As.length = na) (hR : fr + 1 ≤ R.frames ∧ 8 + (nC + 11) + lo ≤ R.locals) (hkn : k + mc ≤ R.cells ∧ n + ms ≤ R.slots) (hcat : (rest.map fun v => v.category).sum ≤ 8) (hp : w.Perm (sbS t a q cs.length f wc)) (hd : decode cc pc = .ok (.invokevirtual index, 3)) {st : List Value} (hstk : st = As.reverse ++ .ref b :: rest) (kk : ∀ (r : Option Value) (w' : va_W), Pw r w' → J (k + mc) (n + ms) w' (pc + 3) L (r.toList ++ rest)) : J k n w pc L st := by
  obtain ⟨p, e, s, m, args, below, meth, c, A, Q, rfl, hx, hb, hml, hown, hts, hK, hA, hE⟩ := g
  intro H locs ls hP hD hS hl
  subst hstk
  obtain ⟨hpr, hPc, hsub, hAw⟩ := zes_pre (av := .ref b :: As) hts hK hA hE hS hP hD hp hf
  exact gx_callP (rest := rest) (va_runV (As := As) (rest := rest) ⟨hx, hb, hml, hown, hts⟩ (hC H.size) ⟨callB_of na hts (gx_good hcode) rfl rfl rfl (hts _ hini) (hts _ hlink) hd0 ⟨hR.1, hR.2⟩, hts _ hinst, hts _ hsel⟩ ⟨hpr.1, by rw [← hqc]; exact va_recv hK hPc hq he, hpr.2⟩ rfl hna hl.1 rfl (lv_room hcat) hd ⟨hkn.1, hkn.2⟩) hD hS hA hsub (fun H1 locs1 r w' _ _ hw hP1 hD1 hS1 => kk r w' hw H1 locs1 ls hP1 (hD1.weaken fun _ q _ h => hAw q.1 h) hS1 hl)
theorem j_callPESs (g : gx_G D t (gx_E0 aa) l R cc own nL J) {y : MethodName} {bC : ByteArray} {nC fr lo mc ms : Nat} {ret : Option FieldType} {wc : va_W} {Pw : Option Value → va_W → Prop} {index na : Nat} {As rest : List Value} {a q : Nat} {f : Nat → Int32} {cs : List Nat} (hC : gx_CP D t (gx_ES aa a q cs) l y bC nC ret fr lo mc ms As wc Pw) (hf : ∀ j, j < cs.length → f j = nI (cs.getD j 0)) (hst : Cond.static y ∈ lw_all) (hcode : Cond.code y bC nC ret ∈ lw_all) (hlink : Cond.methodLink own index y ∈ lw_all) (hini : Cond.initialized y.cls ∈ lw_all) (hd0 : y.cls ≠ "java/lang/invoke/MethodHandle" ∧ y.cls ≠ "java/lang/invoke/VarHandle" ∧ (parseMethodDescriptor y.desc).map (fun d => d.parameters.length) = some na) (hna : As.length = na) (hR : fr + 1 ≤ R.frames ∧ 8 + (nC + 11) + lo ≤ R.locals) (hkn : k + mc ≤ R.cells ∧ n + ms ≤ R.slots) (hcat : (rest.map fun v => v.category).sum ≤ 8) (hp : w.Perm (sbS t a q cs.length f wc)) (hd : decode cc pc = .ok (.invokestatic index, 3)) {st : List Value} (hstk : st = As.reverse ++ rest) (kk : ∀ (r : Option Value) (w' : va_W), Pw r w' → J (k + mc) (n + ms) w' (pc + 3) L (r.toList ++ rest)) : J k n w pc L st := by
  obtain ⟨p, e, s, m, args, below, meth, c, A, Q, rfl, hx, hb, hml, hown, hts, hK, hA, hE⟩ := g
  intro H locs ls hP hD hS hl
  subst hstk
  obtain ⟨hpr, hPc, hsub, hAw⟩ := zes_pre (av := As) hts hK hA hE hS hP hD hp hf
  exact gx_callP (rest := rest) (va_runS (As := As) (rest := rest) ⟨hx, hb, hml, hown, hts⟩ (hC H.size) ⟨callB_of na hts (gx_good hcode) rfl rfl rfl (hts _ hini) (hts _ hlink) hd0 ⟨hR.1, hR.2⟩, hts _ hst⟩ hpr rfl hna hl.1 rfl (lv_room hcat) hd ⟨hkn.1, hkn.2⟩) hD hS hA hsub (fun H1 locs1 r w' _ _ hw hP1 hD1 hS1 => kk r w' hw H1 locs1 ls hP1 (hD1.weaken fun _ q _ h => hAw q.1 h) hS1 hl)
end ESRows
/-- the texts of the environment, as numbers -/
def zxs : List (List Nat) := [[32], [102, 108, 97, 103, 32], [97, 100, 100], [109, 111, 118, 101], [102, 105, 114, 101], [111, 114, 100, 101, 114], [119, 97, 105, 116], [102, 108, 97, 103], [59, 102, 105, 114, 101, 32, 48], [59, 97, 100, 100, 32, 48, 32, 49, 32], [59, 109, 111, 118, 101, 32], [32, 48], [59]]
theorem zxs_eq : ∀ i, i < 13 → gx_tx.getD i [] = (zxs.getD i []).map nI := by decide
theorem zxs_es {aa : gx_AA} {i : Nat} (hi : i < 13) {cs : List Nat} (hcs : zxs.getD i [] = cs) : ∀ (A : Nat → Prop) (U : State) (H : Heap), gx_E0 aa A U H → gx_ES aa (aa.1 i) (aa.2.1 i) cs A U H := by
  intro A U H h
  obtain ⟨h1, h2, h3, h4⟩ := h.2.1 i hi
  subst hcs
  refine ⟨h, h1, h2, h3, ?_⟩
  have e1 : gx_len i = (zxs.getD i []).length := by unfold gx_len; rw [zxs_eq i hi, List.length_map]
  have e2 : (fun j => Value.int (gx_chr i j)) = fun j => .int (nI ((zxs.getD i []).getD j 0)) := by
    funext j
    unfold gx_chr
    rw [zxs_eq i hi]
    generalize zxs.getD i [] = lz
    rw [List.getD_eq_getElem?_getD, List.getD_eq_getElem?_getD, List.getElem?_map]
    cases lz[j]? <;> rfl
  rw [← e1, ← e2]
  exact h4
