theorem q_i_X3_sumLoyalty : Cond.instanceMethod yX3_sumLoyalty ∈ lw_all := lw_in 1333 (by decide +kernel) (by decide +kernel)
theorem q_s_X3_sumLoyalty : Cond.selects yX3_sumLoyalty.cls yX3_sumLoyalty yX3_sumLoyalty ∈ lw_all := lw_in 1334 (by decide +kernel) (by decide +kernel)
theorem q_c_X3_sumLoyalty : Cond.code yX3_sumLoyalty cX3_sumLoyalty 3 (some .int) ∈ lw_all := lw_in 1335 (by decide +kernel) (by decide +kernel)
theorem q_l_X8_229 : Cond.methodLink RX8 229 yX3_sumLoyalty ∈ lw_all := lw_in 1332 (by decide +kernel) (by decide +kernel)
theorem q_k_X8_232 : Cond.classLink RX8 232 "java/lang/ArithmeticException" ∈ lw_all := lw_in 1357 (by decide +kernel) (by decide +kernel)
theorem q_n_ex6 : Cond.initialized "java/lang/ArithmeticException" ∈ lw_all := lw_in 55 (by decide +kernel) (by decide +kernel)
/-! doubles and floats that are numbers -/
theorem gx_intro_d {D : va_G} {t : Nat → ClassId} {E : gx_E} {l : Launch} {y : MethodName} {b : ByteArray} {nL fr lo : Nat} {av : List Value} {w w' : va_W} {v : UInt64} (hy : plainName y.cls = true) (hlen : (lg_sl av).length ≤ nL)
    (body : ∀ J : gx_J, gx_G D t E l ({ frames := fr, cells := 0, slots := 0, locals := lo }) b y.cls nL J → (∀ (pc : Nat) (L : List (Nat × Value)), decode b pc = .ok (.dreturn, 1) → J 0 0 w' pc L [.double v]) → J 0 0 w 0 (lv_args 0 av) []) :
    gx_C D t E l y b nL (some .double) fr lo av w w' (some (.double v)) := by
  intro sz
  refine Met.ofW (cc := b) (maxL := nL) (ret := some .double) hy rfl ?_
  intro p e s m args below meth c s₁ B hml hv
  obtain ⟨rfl, hsz, hP, hK, hD0, hEk, hE0⟩ := hv
  have hts := atoms_spec (ws := gx_w y b nL (some .double)) B.pre
  subst hsz
  have hD := hD0.self (sz := s.heap.size)
  generalize hAe : va_A w s.heap.size = A at hD hE0 ⊢
  have hA : ∀ q : Nat, s.heap.size ≤ q → A q := fun q h => by rw [← hAe]; exact Or.inr h
  have hl := lv_entry av (n := nL) hlen
  rw [lg_entry_eq]
  refine body (gx_M D p l e _ s m av.toArray below meth c A nL (MQ below (gx_QC D w w' (some (.double v)) s.heap.size) av.toArray s 0 0 A)) ⟨p, e, s, m, _, below, meth, c, A, _, rfl, B.exec, B.bytes, hml, findClass_of_methodNamed B.named, fun w hw => hts w (List.mem_cons_of_mem _ hw), hK, hA, hEk, hE0⟩ (fun pc L hd => ?_) s.heap [] _ hP hD va_S.rf hl
  intro H locs ls hP1 hD1 hS1 hl1
  exact W.dret B.exec B.bytes B.returns (fun u hu hW => ⟨⟨rfl, by rw [hu]; exact hP1, by rw [hAe]; exact hD1⟩, by rw [hAe]; exact hS1.F hu⟩) hS1.2.2 hd B.notSynchronized
theorem gx_intro_f {D : va_G} {t : Nat → ClassId} {E : gx_E} {l : Launch} {y : MethodName} {b : ByteArray} {nL fr lo : Nat} {av : List Value} {w w' : va_W} {v : UInt32} (hy : plainName y.cls = true) (hlen : (lg_sl av).length ≤ nL)
    (body : ∀ J : gx_J, gx_G D t E l ({ frames := fr, cells := 0, slots := 0, locals := lo }) b y.cls nL J → (∀ (pc : Nat) (L : List (Nat × Value)), decode b pc = .ok (.freturn, 1) → J 0 0 w' pc L [.float v]) → J 0 0 w 0 (lv_args 0 av) []) :
    gx_C D t E l y b nL (some .float) fr lo av w w' (some (.float v)) := by
  intro sz
  refine Met.ofW (cc := b) (maxL := nL) (ret := some .float) hy rfl ?_
  intro p e s m args below meth c s₁ B hml hv
  obtain ⟨rfl, hsz, hP, hK, hD0, hEk, hE0⟩ := hv
  have hts := atoms_spec (ws := gx_w y b nL (some .float)) B.pre
  subst hsz
  have hD := hD0.self (sz := s.heap.size)
  generalize hAe : va_A w s.heap.size = A at hD hE0 ⊢
  have hA : ∀ q : Nat, s.heap.size ≤ q → A q := fun q h => by rw [← hAe]; exact Or.inr h
  have hl := lv_entry av (n := nL) hlen
  rw [lg_entry_eq]
  refine body (gx_M D p l e _ s m av.toArray below meth c A nL (MQ below (gx_QC D w w' (some (.float v)) s.heap.size) av.toArray s 0 0 A)) ⟨p, e, s, m, _, below, meth, c, A, _, rfl, B.exec, B.bytes, hml, findClass_of_methodNamed B.named, fun w hw => hts w (List.mem_cons_of_mem _ hw), hK, hA, hEk, hE0⟩ (fun pc L hd => ?_) s.heap [] _ hP hD va_S.rf hl
  intro H locs ls hP1 hD1 hS1 hl1
  exact W.fret B.exec B.bytes B.returns (fun u hu hW => ⟨⟨rfl, by rw [hu]; exact hP1, by rw [hAe]; exact hD1⟩, by rw [hAe]; exact hS1.F hu⟩) hS1.2.2 hd B.notSynchronized
section DRows
variable {D : va_G} {t : Nat → ClassId} {E : gx_E} {l : Launch} {R : Room} {cc : ByteArray} {own : String} {nL : Nat} {J : gx_J} {k n : Nat} {w : va_W} {pc : Nat} {L : List (Nat × Value)} {st : List Value}
theorem j_dconst0 (g : gx_G D t E l R cc own nL J) (hd : decode cc pc = .ok (.dconst 0, 1)) (kk : J k n w (pc + 1) L (.double FP.dconst0 :: st)) : J k n w pc L (st) := by
  obtain ⟨p, e, s, m, args, below, meth, c, A, Q, rfl, hx, hb, hml, hown, hts, hK, hA, hE⟩ := g
  intro H locs ls hP hD hS hl
  exact lv_dconst0 hx hb hd (kk H locs ls hP hD hS hl)
theorem j_fconst0 (g : gx_G D t E l R cc own nL J) (hd : decode cc pc = .ok (.fconst 0, 1)) (kk : J k n w (pc + 1) L (.float FP.fconst0 :: st)) : J k n w pc L (st) := by
  obtain ⟨p, e, s, m, args, below, meth, c, A, Q, rfl, hx, hb, hml, hown, hts, hK, hA, hE⟩ := g
  intro H locs ls hP hD hS hl
  exact lv_fconst0 hx hb hd (kk H locs ls hP hD hS hl)
theorem j_i2d (g : gx_G D t E l R cc own nL J) {x : Int32} (hd : decode cc pc = .ok (.i2d, 1)) (kk : J k n w (pc + 1) L (.double (FP.i2d x) :: st)) : J k n w pc L (.int x :: st) := by
  obtain ⟨p, e, s, m, args, below, meth, c, A, Q, rfl, hx, hb, hml, hown, hts, hK, hA, hE⟩ := g
  intro H locs ls hP hD hS hl
  exact lv_i2d hx hb hd (kk H locs ls hP hD hS hl)
theorem j_i2f (g : gx_G D t E l R cc own nL J) {x : Int32} (hd : decode cc pc = .ok (.i2f, 1)) (kk : J k n w (pc + 1) L (.float (FP.i2f x) :: st)) : J k n w pc L (.int x :: st) := by
  obtain ⟨p, e, s, m, args, below, meth, c, A, Q, rfl, hx, hb, hml, hown, hts, hK, hA, hE⟩ := g
  intro H locs ls hP hD hS hl
  exact lv_i2f hx hb hd (kk H locs ls hP hD hS hl)
theorem j_ddiv (g : gx_G D t E l R cc own nL J) {x y : UInt64} (hne : FP.ddiv x y &&& 0x7fffffffffffffff ≤ 0x7ff0000000000000) (hd : decode cc pc = .ok (.ddiv, 1)) (kk : J k n w (pc + 1) L (.double (FP.ddiv x y) :: st)) : J k n w pc L (.double y :: .double x :: st) := by
  obtain ⟨p, e, s, m, args, below, meth, c, A, Q, rfl, hx, hb, hml, hown, hts, hK, hA, hE⟩ := g
  intro H locs ls hP hD hS hl
  exact lv_ddiv hx hb hd hne (kk H locs ls hP hD hS hl)
theorem j_fdiv (g : gx_G D t E l R cc own nL J) {x y : UInt32} (hne : FP.fdiv x y &&& 0x7fffffff ≤ 0x7f800000) (hd : decode cc pc = .ok (.fdiv, 1)) (kk : J k n w (pc + 1) L (.float (FP.fdiv x y) :: st)) : J k n w pc L (.float y :: .float x :: st) := by
  obtain ⟨p, e, s, m, args, below, meth, c, A, Q, rfl, hx, hb, hml, hown, hts, hK, hA, hE⟩ := g
  intro H locs ls hP hD hS hl
  exact lv_fdiv hx hb hd hne (kk H locs ls hP hD hS hl)
theorem j_f2d (g : gx_G D t E l R cc own nL J) {x : UInt32} (hne : FP.f2d x &&& 0x7fffffffffffffff ≤ 0x7ff0000000000000) (hd : decode cc pc = .ok (.f2d, 1)) (kk : J k n w (pc + 1) L (.double (FP.f2d x) :: st)) : J k n w pc L (.float x :: st) := by
  obtain ⟨p, e, s, m, args, below, meth, c, A, Q, rfl, hx, hb, hml, hown, hts, hK, hA, hE⟩ := g
  intro H locs ls hP hD hS hl
  exact lv_f2d hx hb hd hne (kk H locs ls hP hD hS hl)
end DRows
def fX8_meanLoyalty (σ : CS) : Option UInt64 := (gx_b (fX3_countServing σ.1.2.1) (fun r7 => (if r7 ≤ 0 then (some FP.dconst0) else (gx_b (fX3_sumLoyalty σ.1.2.1) (fun r22 => (gx_chk (FP.ddiv (FP.i2d r22) (FP.i2d r7) &&& 0x7fffffffffffffff ≤ 0x7ff0000000000000) (some (FP.ddiv (FP.i2d r22) (FP.i2d r7)))))))))
def fX8_executedShare (σ : CS) : Option UInt32 := (if 0 < (((os_f σ.1.1 4) + (os_f σ.1.1 5)) + (os_f σ.1.1 6)) then (gx_chk (FP.fdiv (FP.i2f (os_f σ.1.1 4)) (FP.i2f (((os_f σ.1.1 4) + (os_f σ.1.1 5)) + (os_f σ.1.1 6))) &&& 0x7fffffff ≤ 0x7f800000) (some (FP.fdiv (FP.i2f (os_f σ.1.1 4)) (FP.i2f (((os_f σ.1.1 4) + (os_f σ.1.1 5)) + (os_f σ.1.1 6)))))) else none)
def fX9_meanLoyalty_9 : Nat → OS → Int32 → Int32 → Option (UInt64 × OS)
  | 0, _, _, _ => none
  | n + 1, σ, v1, v2 => (gx_chk (gx_in (0 : Int32) 131) (if (os_a σ 1 (0 : Int32).toNatClampNeg) ≤ v2 then (gx_b (fX9_many σ) (fun r51 => (gx_chk (FP.ddiv (FP.i2d v1) (FP.i2d r51) &&& 0x7fffffffffffffff ≤ 0x7ff0000000000000) (some (FP.ddiv (FP.i2d v1) (FP.i2d r51), σ))))) else (gx_b (fX9_of σ v2 (0 : Int32)) (fun r23 => (if r23 = (1 : Int32) then (gx_b (fX9_of σ v2 (2 : Int32)) (fun r33 => (fX9_meanLoyalty_9 n σ (v1 + r33) (v2 + 1)))) else (fX9_meanLoyalty_9 n σ (v1 + (0 : Int32)) (v2 + 1)))))))
theorem fX9_meanLoyalty_9_s (n : Nat) (σ : OS) (v1 : Int32) (v2 : Int32) : fX9_meanLoyalty_9 (n + 1) σ v1 v2 = (gx_chk (gx_in (0 : Int32) 131) (if (os_a σ 1 (0 : Int32).toNatClampNeg) ≤ v2 then (gx_b (fX9_many σ) (fun r51 => (gx_chk (FP.ddiv (FP.i2d v1) (FP.i2d r51) &&& 0x7fffffffffffffff ≤ 0x7ff0000000000000) (some (FP.ddiv (FP.i2d v1) (FP.i2d r51), σ))))) else (gx_b (fX9_of σ v2 (0 : Int32)) (fun r23 => (if r23 = (1 : Int32) then (gx_b (fX9_of σ v2 (2 : Int32)) (fun r33 => (fX9_meanLoyalty_9 n σ (v1 + r33) (v2 + 1)))) else (fX9_meanLoyalty_9 n σ (v1 + (0 : Int32)) (v2 + 1))))))) := rfl
def fX9_meanLoyalty (σ : OS) : Option (UInt64 × OS) := (fX9_meanLoyalty_9 2000 (os_sf σ 0 (0 : Int32)) (0 : Int32) (0 : Int32))
def fX9_executedShare (σ : OS) : Option (UInt32 × OS) := (gx_chk (gx_in (2 : Int32) 131) (gx_chk (gx_in (3 : Int32) 131) (gx_chk (gx_in (4 : Int32) 131) (if (((os_a σ 1 (2 : Int32).toNatClampNeg) + (os_a σ 1 (3 : Int32).toNatClampNeg)) + (os_a σ 1 (4 : Int32).toNatClampNeg)) = 0 then (if (os_f (os_sf σ 0 (1 : Int32)) 0) ≤ 0 then (gx_chk (gx_in (2 : Int32) 131) (gx_chk (FP.fdiv (FP.i2f (os_a (os_sf σ 0 (1 : Int32)) 1 (2 : Int32).toNatClampNeg)) (FP.i2f (((os_a σ 1 (2 : Int32).toNatClampNeg) + (os_a σ 1 (3 : Int32).toNatClampNeg)) + (os_a σ 1 (4 : Int32).toNatClampNeg))) &&& 0x7fffffff ≤ 0x7f800000) (some (FP.fdiv (FP.i2f (os_a (os_sf σ 0 (1 : Int32)) 1 (2 : Int32).toNatClampNeg)) (FP.i2f (((os_a σ 1 (2 : Int32).toNatClampNeg) + (os_a σ 1 (3 : Int32).toNatClampNeg)) + (os_a σ 1 (4 : Int32).toNatClampNeg))), os_sf σ 0 (1 : Int32))))) else (some (FP.fconst0, os_sf σ 0 (1 : Int32)))) else (if (os_f (os_sf σ 0 (0 : Int32)) 0) ≤ 0 then (gx_chk (gx_in (2 : Int32) 131) (gx_chk (FP.fdiv (FP.i2f (os_a (os_sf σ 0 (0 : Int32)) 1 (2 : Int32).toNatClampNeg)) (FP.i2f (((os_a σ 1 (2 : Int32).toNatClampNeg) + (os_a σ 1 (3 : Int32).toNatClampNeg)) + (os_a σ 1 (4 : Int32).toNatClampNeg))) &&& 0x7fffffff ≤ 0x7f800000) (some (FP.fdiv (FP.i2f (os_a (os_sf σ 0 (0 : Int32)) 1 (2 : Int32).toNatClampNeg)) (FP.i2f (((os_a σ 1 (2 : Int32).toNatClampNeg) + (os_a σ 1 (3 : Int32).toNatClampNeg)) + (os_a σ 1 (4 : Int32).toNatClampNeg))), os_sf σ 0 (0 : Int32))))) else (some (FP.fconst0, os_sf σ 0 (0 : Int32))))))))
def xX8_executedShare (σ : CS) : Option (Nat × CS) := (if 0 < (((os_f σ.1.1 4) + (os_f σ.1.1 5)) + (os_f σ.1.1 6)) then (gx_chk (FP.fdiv (FP.i2f (os_f σ.1.1 4)) (FP.i2f (((os_f σ.1.1 4) + (os_f σ.1.1 5)) + (os_f σ.1.1 6))) &&& 0x7fffffff ≤ 0x7f800000) none) else (some (6, σ)))
theorem at_236 : ∀ w ∈ vx_atS "CommandChain" 236 "java/lang/ArithmeticException" gx_up, w ∈ lw_tbl ∧ (goodWord w || gx_isFace w) = true := by decide +kernel
theorem ag_236 : ∀ w ∈ Cond.classLink "CommandChain" 232 "java/lang/ArithmeticException" :: Cond.initialized "java/lang/ArithmeticException" :: vx_atS "CommandChain" 236 "java/lang/ArithmeticException" gx_up, vx_ot w = true := by decide +kernel
